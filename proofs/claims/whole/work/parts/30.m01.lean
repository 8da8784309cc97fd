theorem hd_X7_after : yX7_after.cls = RX7 ∧ yX7_after.cls ≠ "java/lang/invoke/MethodHandle" ∧ yX7_after.cls ≠ "java/lang/invoke/VarHandle" ∧ (parseMethodDescriptor yX7_after.desc).map (fun d => d.parameters.length) = some 1 := by decide +kernel
set_option maxHeartbeats 4000000 in
set_option maxRecDepth 100000 in
theorem c_X7_after (l : Launch) (g : Gm) (a0 : Nat → Nat) (U0 : TS) (V0 : TS) (M0 : LTS) (R0 : LTS) (kv : Value) (t0 : Tr) (tp0 : Option (Nat → Int32)) (h0 : tpOf t0 = tp0) (p1 : Int32) {q : TS} (hM : f_X7_after U0 V0 M0 R0 tp0 p1 = some q) : MF l yX7_after wsX7_after 5 140 g [.ref (a0 0), .int p1] (fun t => (wXM g a0 U0 V0 M0 R0 kv (tvOf t)) ++ wOT g t) t0 (fun t => (wXM g a0 U0 V0 M0 R0 kv (tvOf t)) ++ wOT g t) q := by
  intro sz
  refine Met.ofW (cc := cX7_after) (maxL := 4) (ret := (some (.object "OnlyUnseenModel"))) (by decide) rfl ?_
  intro p e s m args below meth c s₁ B hml hv
  obtain ⟨rfl, hsz, hP, hK, hD0⟩ := hv
  have hx := B.exec; have hb := B.bytes; have hr := B.returns
  have hts := atoms_spec (ws := wsX7_after) B.pre
  have hown : s.vm.findClass RX7 = some m.cls := findClass_of_methodNamed B.named
  have hlocks := B.notSynchronized
  have hS : CallFix p m c cX7_after 4 s _ wsX7_after RX7 := ⟨hx, hb, hml, hown, hts⟩
  subst hsz
  have hw := wk_start hP hD0
  have hA : ∀ q : Nat, s.heap.size ≤ q → va_A ((wXM g a0 U0 V0 M0 R0 kv (tvOf t0)) ++ (wOT g t0)) s.heap.size q := fun q h => Or.inr h
  generalize va_A ((wXM g a0 U0 V0 M0 R0 kv (tvOf t0)) ++ (wOT g t0)) s.heap.size = A at hw hA ⊢
  clear hP hD0
  have hl := lv_entry ([.ref (a0 0), .int p1]) (n := 4) (Nat.le_of_ble_eq_true rfl)
  rw [lg_entry_eq]
  generalize (lg_sl ([.ref (a0 0), .int p1]) ++ List.replicate (4 - (lg_sl ([.ref (a0 0), .int p1])).length) Slot.unset).toArray = ls at hl ⊢
  have hl : lv_has ls 4 [(0, .ref (a0 0)), (1, .int p1)] := hl
  refine W_nl t0 ?_
  rw [f_X7_after] at hM
  refine lv_aload_n hx hb dX7_after_0 rfl (lv_at hl 0 rfl) ?_
  refine rVF (t0 := t0) (As := []) (rest := []) (hn := (Nat.le_refl _)) hS (c_X7_fresh l g a0 U0 V0 M0 R0 kv t0 tp0 h0) gX7_after_X7_fresh rfl hd_X7_fresh ⟨Nat.le_of_ble_eq_true rfl, Nat.le_of_ble_eq_true rfl⟩ hK hw hA rfl rfl rfl rfl hl.1 rfl (Nat.le_of_ble_eq_true rfl) dX7_after_1 (fun b2 G3 H locs hw => ?_)
  have hw : Wk g A s.heap H locs ((wXM g a0 U0 V0 M0 R0 kv (.ref (b2 0))) ++ (wXT g b2 G3 (fr0 U0 tp0))) := hw
  refine lv_astore_n (lv' := [(2, .ref (b2 0)), (0, .ref (a0 0)), (1, .int p1)]) hx hb dX7_after_4 rfl hl (by decide) rfl (fun ls hl => ?_)
  refine lv_iconst (v := (0 : Int32)) hx hb dX7_after_5 (by decide) ?_
  refine lv_istore_n (lv' := [(3, .int (0 : Int32)), (2, .ref (b2 0)), (0, .ref (a0 0)), (1, .int p1)]) hx hb dX7_after_6 rfl hl (by decide) rfl (fun ls hl => ?_)
  obtain ⟨q6, hL7, hM⟩ := bd hM
  have hJ7 : ∀ (H : Heap) (locs : List Loc), Wk g A s.heap H locs ((wXM g a0 U0 V0 M0 R0 kv (.ref (b2 0))) ++ (wXT g b2 G3 q6)) → ∀ (ls : Array Slot), lv_has ls 4 [(2, .ref (b2 0))] → W p l e (headSpec wsX7_after ({ frames := 5, cells := 28 * nlOf t0, slots := 759 * nlOf t0, locals := 140 } : Room)).room s m ([.ref (a0 0), .int p1] : List Value).toArray below meth c H locs (28 * nlOf t0) (759 * nlOf t0) (MQ below (QcF g (fun t => (wXM g a0 U0 V0 M0 R0 kv (tvOf t)) ++ wOT g t) q A) ([.ref (a0 0), .int p1] : List Value).toArray s (28 * nlOf t0) (759 * nlOf t0) A) (F0 m 23 ls []) := by
    intro H locs hw ls hl
    refine lv_aload_n hx hb dX7_after_23 rfl (lv_at hl 0 rfl) ?_
    obtain rfl := Option.some.inj hM
    exact W.aret hx hb hr (Or.inl ⟨_, rfl⟩) (Or.inr ⟨_, rfl⟩) (fun t ht _ => ⟨⟨b2, G3, rfl, by rw [ht]; exact hw.1, hw.2.1⟩, hw.2.2.F ht⟩) hw.2.2.2.2 dX7_after_24
  have hW7 : ∀ (n : Nat) (v3_4 : Int32) (UL5 : TS), L_X7_after_7 p1 n v3_4 UL5 = some q6 → ∀ (H : Heap) (locs : List Loc), Wk g A s.heap H locs ((wXM g a0 U0 V0 M0 R0 kv (.ref (b2 0))) ++ (wXT g b2 G3 UL5)) → ∀ (ls : Array Slot), lv_has ls 4 [(3, .int v3_4), (2, .ref (b2 0)), (1, .int p1)] → W p l e (headSpec wsX7_after ({ frames := 5, cells := 28 * nlOf t0, slots := 759 * nlOf t0, locals := 140 } : Room)).room s m ([.ref (a0 0), .int p1] : List Value).toArray below meth c H locs (28 * nlOf t0) (759 * nlOf t0) (MQ below (QcF g (fun t => (wXM g a0 U0 V0 M0 R0 kv (tvOf t)) ++ wOT g t) q A) ([.ref (a0 0), .int p1] : List Value).toArray s (28 * nlOf t0) (759 * nlOf t0) A) (F0 m 7 ls []) := by
    intro n
    induction n with
    | zero => intro v3_4 UL5 hM; rw [L_X7_after_7] at hM; exact nn hM
    | succ n ih7 =>
      intro v3_4 UL5 hM H locs hw ls hl
      rw [L_X7_after_7] at hM
      refine lv_iload_n hx hb dX7_after_7 rfl (lv_at hl 0 rfl) ?_
      refine lv_iload_n hx hb dX7_after_8 rfl (lv_at hl 2 rfl) ?_
      refine lv_icmp_ge (tgt := 23) hx hb dX7_after_9 (by decide) (fun c7 => ?_) (fun c7 => ?_)
      · replace hM := itp c7 hM
        obtain rfl := Option.some.inj hM
        exact hJ7 _ _ hw _ (lv_sub hl [1] rfl)
      · replace hM := itn c7 hM
        refine lv_aload_n hx hb dX7_after_12 rfl (lv_at hl 1 rfl) ?_
        obtain ⟨q9, h8, hM⟩ := bd hM
        refine rVWp (wc := (wXT g b2 G3 UL5)) (wq := ((wXM g a0 U0 V0 M0 R0 kv (.ref (b2 0))) ++ (wXT g b2 G3 q9.2))) (As := []) (rest := []) (q0 := 0) hS (c_X7_goesRound l g b2 G3 UL5 h8) gX7_after_X7_goesRound rfl hd_X7_goesRound ⟨Nat.le_of_ble_eq_true rfl, Nat.le_of_ble_eq_true rfl⟩ hK hw hA (pm_2_1 _ _) rfl (pm_2_1 _ _) rfl rfl rfl rfl hl.1 rfl (Nat.le_of_ble_eq_true rfl) dX7_after_13 ⟨Nat.le_refl _, Nat.le_refl _⟩ (fun H locs hw => ?_)
        refine lv_pop hx hb dX7_after_16 rfl ?_
        refine lv_iinc (v := (v3_4 + (1 : Int32))) (lv' := [(3, .int (v3_4 + (1 : Int32))), (2, .ref (b2 0)), (1, .int p1)]) hx hb dX7_after_17 hl (k := 0) rfl rfl (by decide) rfl (fun ls hl => ?_)
        refine lv_goto (tgt := 7) hx hb dX7_after_20 (by decide) ?_
        exact ih7 (v3_4 + (1 : Int32)) q9.2 hM _ _ hw _ (lv_sub hl [0, 1, 2] rfl)
  exact hW7 300 (0 : Int32) (fr0 U0 tp0) hL7 _ _ hw _ (lv_sub hl [0, 1, 3] rfl)
theorem hd_X7_alone : yX7_alone.cls = RX7 ∧ yX7_alone.cls ≠ "java/lang/invoke/MethodHandle" ∧ yX7_alone.cls ≠ "java/lang/invoke/VarHandle" ∧ (parseMethodDescriptor yX7_alone.desc).map (fun d => d.parameters.length) = some 0 := by decide +kernel
set_option maxHeartbeats 4000000 in
set_option maxRecDepth 100000 in
theorem c_X7_alone (l : Launch) (g : Gm) (a0 : Nat → Nat) (kv : Value) (tv : Value) (U0 : TS) (V0 : TS) (M0 : LTS) (R0 : LTS) {q : Int32} (hM : f_X7_alone U0 V0 M0 R0 = some q) : MR l yX7_alone wsX7_alone 0 0 g [.ref (a0 0)] (wXM g a0 U0 V0 M0 R0 kv tv) (some (.int q)) := by
  refine Met.ofW (cc := cX7_alone) (maxL := 3) (ret := (some .int)) (by decide) rfl ?_
  intro p e s m args below meth c s₁ B hml hv
  obtain ⟨rfl, hP, hK⟩ := hv
  have hx := B.exec; have hb := B.bytes; have hr := B.returns
  have hts := atoms_spec (ws := wsX7_alone) B.pre
  have hown : s.vm.findClass RX7 = some m.cls := findClass_of_methodNamed B.named
  have hlocks := B.notSynchronized
  have hS : CallFix p m c cX7_alone 3 s _ wsX7_alone RX7 := ⟨hx, hb, hml, hown, hts⟩
  have hin_X7 : ∀ w ∈ wsX70, w ∈ wsX7_alone := fun w h => (List.mem_cons_of_mem _ (List.mem_append_right _ h))
  have hl := lv_entry ([.ref (a0 0)]) (n := 3) (Nat.le_of_ble_eq_true rfl)
  rw [lg_entry_eq]
  generalize (lg_sl ([.ref (a0 0)]) ++ List.replicate (3 - (lg_sl ([.ref (a0 0)])).length) Slot.unset).toArray = ls at hl ⊢
  have hl : lv_has ls 3 [(0, .ref (a0 0))] := hl
  rw [f_X7_alone] at hM
  refine lv_iconst (v := (0 : Int32)) hx hb dX7_alone_0 (by decide) ?_
  refine lv_istore_n (lv' := [(1, .int (0 : Int32)), (0, .ref (a0 0))]) hx hb dX7_alone_1 rfl hl (by decide) rfl (fun ls hl => ?_)
  refine lv_iconst (v := (0 : Int32)) hx hb dX7_alone_2 (by decide) ?_
  refine lv_istore_n (lv' := [(2, .int (0 : Int32)), (1, .int (0 : Int32)), (0, .ref (a0 0))]) hx hb dX7_alone_3 rfl hl (by decide) rfl (fun ls hl => ?_)
  obtain ⟨q3, hL4, hM⟩ := bd hM
  have hJ4 : ∀ (ls : Array Slot), lv_has ls 3 [(1, .int q3), (0, .ref (a0 0))] → W p l e (headSpec wsX7_alone ({ frames := 0, cells := 0, slots := 0, locals := 0 } : Room)).room s m ([.ref (a0 0)] : List Value).toArray below meth c s.heap [] 0 0 (MQ below (QcR (some (.int q))) ([.ref (a0 0)] : List Value).toArray s 0 0 (fun _ => False)) (F0 m 27 ls []) := by
    intro ls hl
    refine lv_iconst (v := (1 : Int32)) hx hb dX7_alone_27 (by decide) ?_
    refine lv_aload_n hx hb dX7_alone_28 rfl (lv_at hl 1 rfl) ?_
    refine wk_get hx hb hts hin_X7 hown hK hP 7 0 10 (.int (U0 10 0)) rfl rfl (by decide) (mi 1 rfl) rfl rfl dX7_alone_29 ?_
    refine lv_ishl hx hb dX7_alone_32 ?_
    refine lv_iconst (v := (1 : Int32)) hx hb dX7_alone_33 (by decide) ?_
    refine lv_isub hx hb dX7_alone_34 ?_
    refine lv_iload_n hx hb dX7_alone_35 rfl (lv_at hl 0 rfl) ?_
    refine lv_iconst (v := (-1 : Int32)) hx hb dX7_alone_36 (by decide) ?_
    refine lv_ixor hx hb dX7_alone_37 ?_
    refine lv_iand hx hb dX7_alone_38 ?_
    obtain rfl := Option.some.inj hM
    exact W.iret hx hb hr (fun t ht _ => ⟨rfl, ht⟩) (fun q hq => by cases hq) dX7_alone_39
  have hW4 : ∀ (n : Nat) (v2_1 : Int32) (v1_2 : Int32), L_X7_alone_4 U0 n v2_1 v1_2 = some q3 → ∀ (ls : Array Slot), lv_has ls 3 [(2, .int v2_1), (1, .int v1_2), (0, .ref (a0 0))] → W p l e (headSpec wsX7_alone ({ frames := 0, cells := 0, slots := 0, locals := 0 } : Room)).room s m ([.ref (a0 0)] : List Value).toArray below meth c s.heap [] 0 0 (MQ below (QcR (some (.int q))) ([.ref (a0 0)] : List Value).toArray s 0 0 (fun _ => False)) (F0 m 4 ls []) := by
    intro n
    induction n with
    | zero => intro v2_1 v1_2 hM; rw [L_X7_alone_4] at hM; exact nn hM
    | succ n ih4 =>
      intro v2_1 v1_2 hM ls hl
      rw [L_X7_alone_4] at hM
      refine lv_iload_n hx hb dX7_alone_4 rfl (lv_at hl 0 rfl) ?_
      refine lv_aload_n hx hb dX7_alone_5 rfl (lv_at hl 2 rfl) ?_
      refine wk_get hx hb hts hin_X7 hown hK hP 7 0 10 (.int (U0 10 0)) rfl rfl (by decide) (mi 1 rfl) rfl rfl dX7_alone_6 ?_
      refine lv_icmp_ge (tgt := 27) hx hb dX7_alone_9 (by decide) (fun c4 => ?_) (fun c4 => ?_)
      · replace hM := itp c4 hM
        obtain rfl := Option.some.inj hM
        exact hJ4 _ (lv_sub hl [1, 2] rfl)
      · replace hM := itn c4 hM
        refine lv_iload_n hx hb dX7_alone_12 rfl (lv_at hl 1 rfl) ?_
        refine lv_aload_n hx hb dX7_alone_13 rfl (lv_at hl 2 rfl) ?_
        refine wk_get hx hb hts hin_X7 hown hK hP 7 0 16 (.ref (a0 6)) rfl rfl (by decide) (mi 2 rfl) rfl rfl dX7_alone_14 ?_
        refine lv_iload_n hx hb dX7_alone_17 rfl (lv_at hl 0 rfl) ?_
        obtain ⟨k5, hM⟩ := ck hM
        refine wk_iald hx hb hK hP 6 7 (U0 16) rfl k5 dX7_alone_18 ?_
        refine lv_ior hx hb dX7_alone_19 ?_
        refine lv_istore_n (lv' := [(1, .int (v1_2 ||| ((U0 16) (v2_1).toNatClampNeg))), (2, .int v2_1), (0, .ref (a0 0))]) hx hb dX7_alone_20 rfl hl (by decide) rfl (fun ls hl => ?_)
        refine lv_iinc (v := (v2_1 + (1 : Int32))) (lv' := [(2, .int (v2_1 + (1 : Int32))), (1, .int (v1_2 ||| ((U0 16) (v2_1).toNatClampNeg))), (0, .ref (a0 0))]) hx hb dX7_alone_21 hl (k := 1) rfl rfl (by decide) rfl (fun ls hl => ?_)
        refine lv_goto (tgt := 4) hx hb dX7_alone_24 (by decide) ?_
        exact ih4 (v2_1 + (1 : Int32)) (v1_2 ||| ((U0 16) (v2_1).toNatClampNeg)) hM _ (lv_sub hl [0, 1, 2] rfl)
  exact hW4 300 (0 : Int32) (0 : Int32) hL4 _ (lv_sub hl [0, 1, 2] rfl)
theorem hd_X7_in : yX7_in.cls ≠ "java/lang/invoke/MethodHandle" ∧ yX7_in.cls ≠ "java/lang/invoke/VarHandle" ∧ (parseMethodDescriptor yX7_in.desc).map (fun d => d.parameters.length) = some 3 := by decide +kernel
set_option maxHeartbeats 4000000 in
set_option maxRecDepth 100000 in
theorem c_X7_in (l : Launch) (g : Gm) (p0 : Int64) (p1 : Int64) (p2 : Int64) : MR l yX7_in wsX7_in 0 0 g [.long p0, .long p1, .long p2] ([] : va_W) (some (.int (f_X7_in p0 p1 p2))) := by
  refine Met.ofW (cc := cX7_in) (maxL := 6) (ret := (some .boolean)) (by decide) rfl ?_
  intro p e s m args below meth c s₁ B hml hv
  obtain ⟨rfl, hP, hK⟩ := hv
  have hx := B.exec; have hb := B.bytes; have hr := B.returns
  have hts := atoms_spec (ws := wsX7_in) B.pre
  have hown : s.vm.findClass RX7 = some m.cls := findClass_of_methodNamed B.named
  have hlocks := B.notSynchronized
  have hS : CallFix p m c cX7_in 6 s _ wsX7_in RX7 := ⟨hx, hb, hml, hown, hts⟩
  have hl := lv_entry ([.long p0, .long p1, .long p2]) (n := 6) (Nat.le_of_ble_eq_true rfl)
  rw [lg_entry_eq]
  generalize (lg_sl ([.long p0, .long p1, .long p2]) ++ List.replicate (6 - (lg_sl ([.long p0, .long p1, .long p2])).length) Slot.unset).toArray = ls at hl ⊢
  have hl : lv_has ls 6 [(0, .long p0), (2, .long p1), (4, .long p2)] := hl
  obtain ⟨rr, hM⟩ : ∃ rr, f_X7_in p0 p1 p2 = rr := ⟨_, rfl⟩
  rw [hM]
  rw [f_X7_in] at hM
  refine lv_lload_n hx hb dX7_in_0 rfl (lv_at hl 0 rfl) ?_
  refine lv_lload_n hx hb dX7_in_1 rfl (lv_at hl 1 rfl) ?_
  refine W.lcmp hx hb dX7_in_2 ?_
  have hJ8 : ∀ (x7 : Int32) (ls : Array Slot), x7 = (if (lg_cmp p0 p1) < 0 then (0 : Int32) else (if 0 < (lg_cmp p0 p2) then (0 : Int32) else (1 : Int32))) → lv_has ls 6 [] → W p l e (headSpec wsX7_in ({ frames := 0, cells := 0, slots := 0, locals := 0 } : Room)).room s m ([.long p0, .long p1, .long p2] : List Value).toArray below meth c s.heap [] 0 0 (MQ below (QcR (some (.int rr))) ([.long p0, .long p1, .long p2] : List Value).toArray s 0 0 (fun _ => False)) (F0 m 18 ls [.int x7]) := by
    intro x7 ls hxx7 hl
    subst hxx7
    subst hM
    exact W.zret hx hb hr (nz (by repeat (first | exact Or.inl rfl | exact Or.inr rfl | split))) (fun t ht _ => ⟨rfl, ht⟩) (fun q hq => by cases hq) dX7_in_18
  refine lv_if_lt (tgt := 17) hx hb dX7_in_3 (by decide) (fun c1 => ?_) (fun c1 => ?_)
  · refine lv_iconst (v := (0 : Int32)) hx hb dX7_in_17 (by decide) ?_
    exact hJ8 _ _ (by first | with_reducible rfl | (simp only [if_pos c1]) | rfl) (lv_sub hl [] rfl)
  · refine lv_lload_n hx hb dX7_in_6 rfl (lv_at hl 0 rfl) ?_
    refine lv_lload hx hb dX7_in_7 (lv_at hl 2 rfl) ?_
    refine W.lcmp hx hb dX7_in_9 ?_
    refine lv_if_gt (tgt := 17) hx hb dX7_in_10 (by decide) (fun c2 => ?_) (fun c2 => ?_)
    · refine lv_iconst (v := (0 : Int32)) hx hb dX7_in_17 (by decide) ?_
      exact hJ8 _ _ (by first | with_reducible rfl | (simp only [if_neg c1, if_pos c2]) | rfl) (lv_sub hl [] rfl)
    · refine lv_iconst (v := (1 : Int32)) hx hb dX7_in_13 (by decide) ?_
      refine lv_goto (tgt := 18) hx hb dX7_in_14 (by decide) ?_
      exact hJ8 _ _ (by first | with_reducible rfl | (simp only [if_neg c1, if_neg c2]) | rfl) (lv_sub hl [] rfl)
theorem hd_X7_refuse : yX7_refuse.cls = RX7 ∧ yX7_refuse.cls ≠ "java/lang/invoke/MethodHandle" ∧ yX7_refuse.cls ≠ "java/lang/invoke/VarHandle" ∧ (parseMethodDescriptor yX7_refuse.desc).map (fun d => d.parameters.length) = some 1 := by decide +kernel
set_option maxHeartbeats 4000000 in
set_option maxRecDepth 100000 in
theorem c_X7_refuse (l : Launch) (g : Gm) (a0 : Nat → Nat) (kv : Value) (tv : Value) (U0 : TS) (V0 : TS) (M0 : LTS) (R0 : LTS) (p1 : Int32) {q : (Int32 × TS)} (hM : f_X7_refuse U0 V0 M0 R0 p1 = some q) : MW l yX7_refuse wsX7_refuse 0 0 g [.ref (a0 0), .int p1] (wXM g a0 U0 V0 M0 R0 kv tv) (some (.int q.1)) (wXM g a0 U0 q.2 M0 R0 kv tv) := by
  intro sz
  refine Met.ofW (cc := cX7_refuse) (maxL := 2) (ret := (some .int)) (by decide) rfl ?_
  intro p e s m args below meth c s₁ B hml hv
  obtain ⟨rfl, hsz, hP, hK, hD0⟩ := hv
  have hx := B.exec; have hb := B.bytes; have hr := B.returns
  have hts := atoms_spec (ws := wsX7_refuse) B.pre
  have hown : s.vm.findClass RX7 = some m.cls := findClass_of_methodNamed B.named
  have hlocks := B.notSynchronized
  have hS : CallFix p m c cX7_refuse 2 s _ wsX7_refuse RX7 := ⟨hx, hb, hml, hown, hts⟩
  have hin_X7 : ∀ w ∈ wsX70, w ∈ wsX7_refuse := fun w h => (List.mem_cons_of_mem _ (List.mem_append_right _ h))
  subst hsz
  have hw := wk_start hP hD0
  have hA : ∀ q : Nat, s.heap.size ≤ q → va_A (wXM g a0 U0 V0 M0 R0 kv tv) s.heap.size q := fun q h => Or.inr h
  generalize va_A (wXM g a0 U0 V0 M0 R0 kv tv) s.heap.size = A at hw hA ⊢
  clear hP hD0
  have hl := lv_entry ([.ref (a0 0), .int p1]) (n := 2) (Nat.le_of_ble_eq_true rfl)
  rw [lg_entry_eq]
  generalize (lg_sl ([.ref (a0 0), .int p1]) ++ List.replicate (2 - (lg_sl ([.ref (a0 0), .int p1])).length) Slot.unset).toArray = ls at hl ⊢
  have hl : lv_has ls 2 [(0, .ref (a0 0)), (1, .int p1)] := hl
  rw [f_X7_refuse] at hM
  refine lv_aload_n hx hb dX7_refuse_0 rfl (lv_at hl 0 rfl) ?_
  refine wk_get hx hb hts hin_X7 hown hK hw.1 7 0 8 (.ref (a0 16)) rfl rfl (by decide) (mi 1 rfl) rfl rfl dX7_refuse_1 ?_
  refine lv_iload_n hx hb dX7_refuse_4 rfl (lv_at hl 1 rfl) ?_
  refine lv_ineg hx hb dX7_refuse_5 ?_
  refine lv_dup2_11 hx hb dX7_refuse_6 rfl rfl ?_
  obtain ⟨k1, hM⟩ := ck hM
  refine wk_iald hx hb hK hw.1 16 8 (V0 8) rfl k1 dX7_refuse_7 ?_
  refine lv_iconst (v := (1 : Int32)) hx hb dX7_refuse_8 (by decide) ?_
  refine lv_iadd hx hb dX7_refuse_9 ?_
  refine wk_iast (wq := (wXM g a0 U0 (up V0 8 (upd (V0 8) ((-p1)).toNatClampNeg (((V0 8) ((-p1)).toNatClampNeg) + (1 : Int32)))) M0 R0 kv tv)) hx hb hK hw 16 8 (V0 8) rfl k1 dX7_refuse_10 rfl (fun H locs hw => ?_)
  refine lv_iload_n hx hb dX7_refuse_11 rfl (lv_at hl 1 rfl) ?_
  obtain rfl := Option.some.inj hM
  exact W.iret hx hb hr (fun t ht _ => ⟨rfl, by rw [ht]; exact hw.1, hw.2.2.F ht⟩) hw.2.2.2.2 dX7_refuse_12
theorem hd_X7_mostOf : yX7_mostOf.cls ≠ "java/lang/invoke/MethodHandle" ∧ yX7_mostOf.cls ≠ "java/lang/invoke/VarHandle" ∧ (parseMethodDescriptor yX7_mostOf.desc).map (fun d => d.parameters.length) = some 1 := by decide +kernel
set_option maxHeartbeats 4000000 in
set_option maxRecDepth 100000 in
theorem c_X7_mostOf (l : Launch) (g : Gm) (p0 : Int32) : MR l yX7_mostOf wsX7_mostOf 0 0 g [.int p0] ([] : va_W) (some (.int (f_X7_mostOf p0))) := by
  refine Met.ofW (cc := cX7_mostOf) (maxL := 1) (ret := (some .int)) (by decide) rfl ?_
  intro p e s m args below meth c s₁ B hml hv
  obtain ⟨rfl, hP, hK⟩ := hv
  have hx := B.exec; have hb := B.bytes; have hr := B.returns
  have hts := atoms_spec (ws := wsX7_mostOf) B.pre
  have hown : s.vm.findClass RX7 = some m.cls := findClass_of_methodNamed B.named
  have hlocks := B.notSynchronized
  have hS : CallFix p m c cX7_mostOf 1 s _ wsX7_mostOf RX7 := ⟨hx, hb, hml, hown, hts⟩
  have hl := lv_entry ([.int p0]) (n := 1) (Nat.le_of_ble_eq_true rfl)
  rw [lg_entry_eq]
  generalize (lg_sl ([.int p0]) ++ List.replicate (1 - (lg_sl ([.int p0])).length) Slot.unset).toArray = ls at hl ⊢
  have hl : lv_has ls 1 [(0, .int p0)] := hl
  obtain ⟨rr, hM⟩ : ∃ rr, f_X7_mostOf p0 = rr := ⟨_, rfl⟩
  rw [hM]
  rw [f_X7_mostOf] at hM
  refine lv_iload_n hx hb dX7_mostOf_0 rfl (lv_at hl 0 rfl) ?_
  have hJ7 : ∀ (x6 : Int32) (ls : Array Slot), x6 = (if p0 = 0 then (1 : Int32) else (9 : Int32)) → lv_has ls 1 [] → W p l e (headSpec wsX7_mostOf ({ frames := 0, cells := 0, slots := 0, locals := 0 } : Room)).room s m ([.int p0] : List Value).toArray below meth c s.heap [] 0 0 (MQ below (QcR (some (.int rr))) ([.int p0] : List Value).toArray s 0 0 (fun _ => False)) (F0 m 10 ls [.int x6]) := by
    intro x6 ls hxx6 hl
    subst hxx6
    subst hM
    exact W.iret hx hb hr (fun t ht _ => ⟨rfl, ht⟩) (fun q hq => by cases hq) dX7_mostOf_10
  refine lv_if_ne (tgt := 8) hx hb dX7_mostOf_1 (by decide) (fun c1 => ?_) (fun c1 => ?_)
  · refine lv_bipush (v := (9 : Int32)) hx hb dX7_mostOf_8 (by decide) ?_
    exact hJ7 _ _ (by first | with_reducible rfl | (simp only [if_neg c1]) | rfl) (lv_sub hl [] rfl)
  · refine lv_iconst (v := (1 : Int32)) hx hb dX7_mostOf_4 (by decide) ?_
    refine lv_goto (tgt := 10) hx hb dX7_mostOf_5 (by decide) ?_
    exact hJ7 _ _ (by first | with_reducible rfl | (simp only [if_pos c1]) | rfl) (lv_sub hl [] rfl)
theorem hd_X7_ask : yX7_ask.cls = RX7 ∧ yX7_ask.cls ≠ "java/lang/invoke/MethodHandle" ∧ yX7_ask.cls ≠ "java/lang/invoke/VarHandle" ∧ (parseMethodDescriptor yX7_ask.desc).map (fun d => d.parameters.length) = some 2 := by decide +kernel
set_option maxHeartbeats 4000000 in
set_option maxRecDepth 100000 in
theorem c_X7_ask (l : Launch) (g : Gm) (a0 : Nat → Nat) (kv : Value) (tv : Value) (U0 : TS) (V0 : TS) (M0 : LTS) (R0 : LTS) (p1 : Int32) (p2 : Int32) {q : (Int32 × TS × TS)} (hM : f_X7_ask U0 V0 M0 R0 p1 p2 = some q) : MW l yX7_ask wsX7_ask 1 25 g [.ref (a0 0), .int p1, .int p2] (wXM g a0 U0 V0 M0 R0 kv tv) (some (.int q.1)) (wXM g a0 q.2.1 q.2.2 M0 R0 kv tv) := by
  intro sz
  refine Met.ofW (cc := cX7_ask) (maxL := 4) (ret := (some .int)) (by decide) rfl ?_
  intro p e s m args below meth c s₁ B hml hv
  obtain ⟨rfl, hsz, hP, hK, hD0⟩ := hv
  have hx := B.exec; have hb := B.bytes; have hr := B.returns
  have hts := atoms_spec (ws := wsX7_ask) B.pre
  have hown : s.vm.findClass RX7 = some m.cls := findClass_of_methodNamed B.named
  have hlocks := B.notSynchronized
  have hS : CallFix p m c cX7_ask 4 s _ wsX7_ask RX7 := ⟨hx, hb, hml, hown, hts⟩
  have hin_X7 : ∀ w ∈ wsX70, w ∈ wsX7_ask := fun w h => (List.mem_cons_of_mem _ (List.mem_append_right _ h))
  subst hsz
  have hw := wk_start hP hD0
  have hA : ∀ q : Nat, s.heap.size ≤ q → va_A (wXM g a0 U0 V0 M0 R0 kv tv) s.heap.size q := fun q h => Or.inr h
  generalize va_A (wXM g a0 U0 V0 M0 R0 kv tv) s.heap.size = A at hw hA ⊢
  clear hP hD0
  have hl := lv_entry ([.ref (a0 0), .int p1, .int p2]) (n := 4) (Nat.le_of_ble_eq_true rfl)
  rw [lg_entry_eq]
  generalize (lg_sl ([.ref (a0 0), .int p1, .int p2]) ++ List.replicate (4 - (lg_sl ([.ref (a0 0), .int p1, .int p2])).length) Slot.unset).toArray = ls at hl ⊢
  have hl : lv_has ls 4 [(0, .ref (a0 0)), (1, .int p1), (2, .int p2)] := hl
  rw [f_X7_ask] at hM
  refine lv_iload_n hx hb dX7_ask_0 rfl (lv_at hl 1 rfl) ?_
  refine lv_i2l (v := ((p1).toInt64)) hx hb dX7_ask_1 rfl ?_
  refine lv_lconst (v := (0 : Int64)) hx hb dX7_ask_2 (by decide) ?_
  refine lv_ldc2 (v := (2 : Int64)) hx hb hown (hts _ (mi 1 rfl)) dX7_ask_3 ?_
  refine rSR (wc := ([] : va_W)) (As := [.long ((p1).toInt64), .long (0 : Int64), .long (2 : Int64)]) (rest := []) hS (c_X7_in l g ((p1).toInt64) (0 : Int64) (2 : Int64)) gX7_ask_X7_in rfl hd_X7_in ⟨Nat.le_of_ble_eq_true rfl, Nat.le_of_ble_eq_true rfl⟩ hK (hP_nil) rfl hl.1 rfl (Nat.le_of_ble_eq_true rfl) dX7_ask_6 ⟨Nat.zero_le _, Nat.zero_le _⟩ ?_
  refine lv_if_eq (tgt := 26) hx hb dX7_ask_9 (by decide) (fun c2 => ?_) (fun c2 => ?_)
  · replace hM := itp c2 hM
    refine lv_aload_n hx hb dX7_ask_26 rfl (lv_at hl 0 rfl) ?_
    refine lv_bipush (v := (-2 : Int32)) hx hb dX7_ask_27 (by decide) ?_
    obtain ⟨q4, h3, hM⟩ := bd hM
    refine rVWp (wc := (wXM g a0 U0 V0 M0 R0 kv tv)) (wq := (wXM g a0 U0 q4.2 M0 R0 kv tv)) (As := [.int (-2 : Int32)]) (rest := []) (q0 := 0) hS (c_X7_refuse l g a0 kv tv U0 V0 M0 R0 (-2 : Int32) h3) gX7_ask_X7_refuse rfl hd_X7_refuse ⟨Nat.le_of_ble_eq_true rfl, Nat.le_of_ble_eq_true rfl⟩ hK hw hA (pm_1_0 _) rfl (pm_1_0 _) rfl rfl rfl rfl hl.1 rfl (Nat.le_of_ble_eq_true rfl) dX7_ask_29 ⟨Nat.zero_le _, Nat.zero_le _⟩ (fun H locs hw => ?_)
    obtain rfl := Option.some.inj hM
    exact W.iret hx hb hr (fun t ht _ => ⟨rfl, by rw [ht]; exact hw.1, hw.2.2.F ht⟩) hw.2.2.2.2 dX7_ask_32
  · replace hM := itn c2 hM
    refine lv_iload_n hx hb dX7_ask_12 rfl (lv_at hl 2 rfl) ?_
    refine lv_i2l (v := ((p2).toInt64)) hx hb dX7_ask_13 rfl ?_
    refine lv_lconst (v := (0 : Int64)) hx hb dX7_ask_14 (by decide) ?_
    refine lv_iload_n hx hb dX7_ask_15 rfl (lv_at hl 1 rfl) ?_
    refine rSR (wc := ([] : va_W)) (As := [.int p1]) (rest := [.long (0 : Int64), .long ((p2).toInt64)]) hS (c_X7_mostOf l g p1) gX7_ask_X7_mostOf rfl hd_X7_mostOf ⟨Nat.le_of_ble_eq_true rfl, Nat.le_of_ble_eq_true rfl⟩ hK (hP_nil) rfl hl.1 rfl (Nat.le_of_ble_eq_true rfl) dX7_ask_16 ⟨Nat.zero_le _, Nat.zero_le _⟩ ?_
    refine lv_i2l (v := (((f_X7_mostOf p1)).toInt64)) hx hb dX7_ask_19 rfl ?_
    refine rSR (wc := ([] : va_W)) (As := [.long ((p2).toInt64), .long (0 : Int64), .long (((f_X7_mostOf p1)).toInt64)]) (rest := []) hS (c_X7_in l g ((p2).toInt64) (0 : Int64) (((f_X7_mostOf p1)).toInt64)) gX7_ask_X7_in rfl hd_X7_in ⟨Nat.le_of_ble_eq_true rfl, Nat.le_of_ble_eq_true rfl⟩ hK (hP_nil) rfl hl.1 rfl (Nat.le_of_ble_eq_true rfl) dX7_ask_20 ⟨Nat.zero_le _, Nat.zero_le _⟩ ?_
    refine lv_if_ne (tgt := 33) hx hb dX7_ask_23 (by decide) (fun c7 => ?_) (fun c7 => ?_)
    · replace hM := itn c7 hM
      refine lv_aload_n hx hb dX7_ask_33 rfl (lv_at hl 0 rfl) ?_
      refine wk_get hx hb hts hin_X7 hown hK hw.1 7 0 17 (.ref (a0 7)) rfl rfl (by decide) (mi 2 rfl) rfl rfl dX7_ask_34 ?_
      refine lv_iload_n hx hb dX7_ask_37 rfl (lv_at hl 1 rfl) ?_
      obtain ⟨k10, hM⟩ := ck hM
      refine wk_iald hx hb hK hw.1 7 3 (U0 17) rfl k10 dX7_ask_38 ?_
      refine lv_istore_n (lv' := [(3, .int ((U0 17) (p1).toNatClampNeg)), (0, .ref (a0 0)), (1, .int p1), (2, .int p2)]) hx hb dX7_ask_39 rfl hl (by decide) rfl (fun ls hl => ?_)
      refine lv_aload_n hx hb dX7_ask_40 rfl (lv_at hl 1 rfl) ?_
      refine wk_get hx hb hts hin_X7 hown hK hw.1 7 0 17 (.ref (a0 7)) rfl rfl (by decide) (mi 2 rfl) rfl rfl dX7_ask_41 ?_
      refine lv_iload_n hx hb dX7_ask_44 rfl (lv_at hl 2 rfl) ?_
      refine lv_iload_n hx hb dX7_ask_45 rfl (lv_at hl 3 rfl) ?_
      refine wk_iast (wq := (wXM g a0 (up U0 17 (upd (U0 17) (p1).toNatClampNeg p2)) V0 M0 R0 kv tv)) hx hb hK hw 7 3 (U0 17) rfl k10 dX7_ask_46 rfl (fun H locs hw => ?_)
      refine lv_iload_n hx hb dX7_ask_47 rfl (lv_at hl 0 rfl) ?_
      obtain rfl := Option.some.inj hM
      exact W.iret hx hb hr (fun t ht _ => ⟨rfl, by rw [ht]; exact hw.1, hw.2.2.F ht⟩) hw.2.2.2.2 dX7_ask_48
    · replace hM := itp c7 hM
      refine lv_aload_n hx hb dX7_ask_26 rfl (lv_at hl 0 rfl) ?_
      refine lv_bipush (v := (-2 : Int32)) hx hb dX7_ask_27 (by decide) ?_
      obtain ⟨q9, h8, hM⟩ := bd hM
      refine rVWp (wc := (wXM g a0 U0 V0 M0 R0 kv tv)) (wq := (wXM g a0 U0 q9.2 M0 R0 kv tv)) (As := [.int (-2 : Int32)]) (rest := []) (q0 := 0) hS (c_X7_refuse l g a0 kv tv U0 V0 M0 R0 (-2 : Int32) h8) gX7_ask_X7_refuse rfl hd_X7_refuse ⟨Nat.le_of_ble_eq_true rfl, Nat.le_of_ble_eq_true rfl⟩ hK hw hA (pm_1_0 _) rfl (pm_1_0 _) rfl rfl rfl rfl hl.1 rfl (Nat.le_of_ble_eq_true rfl) dX7_ask_29 ⟨Nat.zero_le _, Nat.zero_le _⟩ (fun H locs hw => ?_)
      obtain rfl := Option.some.inj hM
      exact W.iret hx hb hr (fun t ht _ => ⟨rfl, by rw [ht]; exact hw.1, hw.2.2.F ht⟩) hw.2.2.2.2 dX7_ask_32
theorem hd_X7_isLetter : yX7_isLetter.cls ≠ "java/lang/invoke/MethodHandle" ∧ yX7_isLetter.cls ≠ "java/lang/invoke/VarHandle" ∧ (parseMethodDescriptor yX7_isLetter.desc).map (fun d => d.parameters.length) = some 1 := by decide +kernel
set_option maxHeartbeats 4000000 in
set_option maxRecDepth 100000 in
theorem c_X7_isLetter (l : Launch) (g : Gm) (p0 : Int32) : MR l yX7_isLetter wsX7_isLetter 0 0 g [.int p0] ([] : va_W) (some (.int (f_X7_isLetter p0))) := by
  refine Met.ofW (cc := cX7_isLetter) (maxL := 1) (ret := (some .boolean)) (by decide) rfl ?_
  intro p e s m args below meth c s₁ B hml hv
  obtain ⟨rfl, hP, hK⟩ := hv
  have hx := B.exec; have hb := B.bytes; have hr := B.returns
  have hts := atoms_spec (ws := wsX7_isLetter) B.pre
  have hown : s.vm.findClass RX7 = some m.cls := findClass_of_methodNamed B.named
  have hlocks := B.notSynchronized
  have hS : CallFix p m c cX7_isLetter 1 s _ wsX7_isLetter RX7 := ⟨hx, hb, hml, hown, hts⟩
  have hl := lv_entry ([.int p0]) (n := 1) (Nat.le_of_ble_eq_true rfl)
  rw [lg_entry_eq]
  generalize (lg_sl ([.int p0]) ++ List.replicate (1 - (lg_sl ([.int p0])).length) Slot.unset).toArray = ls at hl ⊢
  have hl : lv_has ls 1 [(0, .int p0)] := hl
  obtain ⟨rr, hM⟩ : ∃ rr, f_X7_isLetter p0 = rr := ⟨_, rfl⟩
  rw [hM]
  rw [f_X7_isLetter] at hM
  refine lv_iload_n hx hb dX7_isLetter_0 rfl (lv_at hl 0 rfl) ?_
  refine lv_bipush (v := (97 : Int32)) hx hb dX7_isLetter_1 (by decide) ?_
  have hJ8 : ∀ (x7 : Int32) (ls : Array Slot), x7 = (if p0 < (97 : Int32) then (0 : Int32) else (if (122 : Int32) < p0 then (0 : Int32) else (1 : Int32))) → lv_has ls 1 [] → W p l e (headSpec wsX7_isLetter ({ frames := 0, cells := 0, slots := 0, locals := 0 } : Room)).room s m ([.int p0] : List Value).toArray below meth c s.heap [] 0 0 (MQ below (QcR (some (.int rr))) ([.int p0] : List Value).toArray s 0 0 (fun _ => False)) (F0 m 17 ls [.int x7]) := by
    intro x7 ls hxx7 hl
    subst hxx7
    subst hM
    exact W.zret hx hb hr (nz (by repeat (first | exact Or.inl rfl | exact Or.inr rfl | split))) (fun t ht _ => ⟨rfl, ht⟩) (fun q hq => by cases hq) dX7_isLetter_17
  refine lv_icmp_lt (tgt := 16) hx hb dX7_isLetter_3 (by decide) (fun c1 => ?_) (fun c1 => ?_)
  · refine lv_iconst (v := (0 : Int32)) hx hb dX7_isLetter_16 (by decide) ?_
    exact hJ8 _ _ (by first | with_reducible rfl | (simp only [if_pos c1]) | rfl) (lv_sub hl [] rfl)
  · refine lv_iload_n hx hb dX7_isLetter_6 rfl (lv_at hl 0 rfl) ?_
    refine lv_bipush (v := (122 : Int32)) hx hb dX7_isLetter_7 (by decide) ?_
    refine lv_icmp_gt (tgt := 16) hx hb dX7_isLetter_9 (by decide) (fun c2 => ?_) (fun c2 => ?_)
    · refine lv_iconst (v := (0 : Int32)) hx hb dX7_isLetter_16 (by decide) ?_
      exact hJ8 _ _ (by first | with_reducible rfl | (simp only [if_neg c1, if_pos c2]) | rfl) (lv_sub hl [] rfl)
    · refine lv_iconst (v := (1 : Int32)) hx hb dX7_isLetter_12 (by decide) ?_
      refine lv_goto (tgt := 17) hx hb dX7_isLetter_13 (by decide) ?_
      exact hJ8 _ _ (by first | with_reducible rfl | (simp only [if_neg c1, if_neg c2]) | rfl) (lv_sub hl [] rfl)
theorem hd_X7_isDigit : yX7_isDigit.cls ≠ "java/lang/invoke/MethodHandle" ∧ yX7_isDigit.cls ≠ "java/lang/invoke/VarHandle" ∧ (parseMethodDescriptor yX7_isDigit.desc).map (fun d => d.parameters.length) = some 1 := by decide +kernel
set_option maxHeartbeats 4000000 in
set_option maxRecDepth 100000 in
theorem c_X7_isDigit (l : Launch) (g : Gm) (p0 : Int32) : MR l yX7_isDigit wsX7_isDigit 0 0 g [.int p0] ([] : va_W) (some (.int (f_X7_isDigit p0))) := by
  refine Met.ofW (cc := cX7_isDigit) (maxL := 1) (ret := (some .boolean)) (by decide) rfl ?_
  intro p e s m args below meth c s₁ B hml hv
  obtain ⟨rfl, hP, hK⟩ := hv
  have hx := B.exec; have hb := B.bytes; have hr := B.returns
  have hts := atoms_spec (ws := wsX7_isDigit) B.pre
  have hown : s.vm.findClass RX7 = some m.cls := findClass_of_methodNamed B.named
  have hlocks := B.notSynchronized
  have hS : CallFix p m c cX7_isDigit 1 s _ wsX7_isDigit RX7 := ⟨hx, hb, hml, hown, hts⟩
  have hl := lv_entry ([.int p0]) (n := 1) (Nat.le_of_ble_eq_true rfl)
  rw [lg_entry_eq]
  generalize (lg_sl ([.int p0]) ++ List.replicate (1 - (lg_sl ([.int p0])).length) Slot.unset).toArray = ls at hl ⊢
  have hl : lv_has ls 1 [(0, .int p0)] := hl
  obtain ⟨rr, hM⟩ : ∃ rr, f_X7_isDigit p0 = rr := ⟨_, rfl⟩
  rw [hM]
  rw [f_X7_isDigit] at hM
  refine lv_iload_n hx hb dX7_isDigit_0 rfl (lv_at hl 0 rfl) ?_
  refine lv_bipush (v := (48 : Int32)) hx hb dX7_isDigit_1 (by decide) ?_
  have hJ8 : ∀ (x7 : Int32) (ls : Array Slot), x7 = (if p0 < (48 : Int32) then (0 : Int32) else (if (57 : Int32) < p0 then (0 : Int32) else (1 : Int32))) → lv_has ls 1 [] → W p l e (headSpec wsX7_isDigit ({ frames := 0, cells := 0, slots := 0, locals := 0 } : Room)).room s m ([.int p0] : List Value).toArray below meth c s.heap [] 0 0 (MQ below (QcR (some (.int rr))) ([.int p0] : List Value).toArray s 0 0 (fun _ => False)) (F0 m 17 ls [.int x7]) := by
    intro x7 ls hxx7 hl
    subst hxx7
    subst hM
    exact W.zret hx hb hr (nz (by repeat (first | exact Or.inl rfl | exact Or.inr rfl | split))) (fun t ht _ => ⟨rfl, ht⟩) (fun q hq => by cases hq) dX7_isDigit_17
  refine lv_icmp_lt (tgt := 16) hx hb dX7_isDigit_3 (by decide) (fun c1 => ?_) (fun c1 => ?_)
  · refine lv_iconst (v := (0 : Int32)) hx hb dX7_isDigit_16 (by decide) ?_
    exact hJ8 _ _ (by first | with_reducible rfl | (simp only [if_pos c1]) | rfl) (lv_sub hl [] rfl)
  · refine lv_iload_n hx hb dX7_isDigit_6 rfl (lv_at hl 0 rfl) ?_
    refine lv_bipush (v := (57 : Int32)) hx hb dX7_isDigit_7 (by decide) ?_
    refine lv_icmp_gt (tgt := 16) hx hb dX7_isDigit_9 (by decide) (fun c2 => ?_) (fun c2 => ?_)
    · refine lv_iconst (v := (0 : Int32)) hx hb dX7_isDigit_16 (by decide) ?_
      exact hJ8 _ _ (by first | with_reducible rfl | (simp only [if_neg c1, if_pos c2]) | rfl) (lv_sub hl [] rfl)
    · refine lv_iconst (v := (1 : Int32)) hx hb dX7_isDigit_12 (by decide) ?_
      refine lv_goto (tgt := 17) hx hb dX7_isDigit_13 (by decide) ?_
      exact hJ8 _ _ (by first | with_reducible rfl | (simp only [if_neg c1, if_neg c2]) | rfl) (lv_sub hl [] rfl)
theorem hd_X7_look : yX7_look.cls = RX7 ∧ yX7_look.cls ≠ "java/lang/invoke/MethodHandle" ∧ yX7_look.cls ≠ "java/lang/invoke/VarHandle" ∧ (parseMethodDescriptor yX7_look.desc).map (fun d => d.parameters.length) = some 0 := by decide +kernel
set_option maxHeartbeats 4000000 in
set_option maxRecDepth 100000 in
theorem c_X7_look (l : Launch) (g : Gm) (a0 : Nat → Nat) (kv : Value) (tv : Value) (U0 : TS) (V0 : TS) (M0 : LTS) (R0 : LTS) {q : TS} (hM : f_X7_look U0 V0 M0 R0 = some q) : MW l yX7_look wsX7_look 1 20 g [.ref (a0 0)] (wXM g a0 U0 V0 M0 R0 kv tv) none (wXM g a0 U0 q M0 R0 kv tv) := by
  intro sz
  refine Met.ofW (cc := cX7_look) (maxL := 1) (ret := none) (by decide) rfl ?_
  intro p e s m args below meth c s₁ B hml hv
  obtain ⟨rfl, hsz, hP, hK, hD0⟩ := hv
  have hx := B.exec; have hb := B.bytes; have hr := B.returns
  have hts := atoms_spec (ws := wsX7_look) B.pre
  have hown : s.vm.findClass RX7 = some m.cls := findClass_of_methodNamed B.named
  have hlocks := B.notSynchronized
  have hS : CallFix p m c cX7_look 1 s _ wsX7_look RX7 := ⟨hx, hb, hml, hown, hts⟩
  have hin_X7 : ∀ w ∈ wsX70, w ∈ wsX7_look := fun w h => (List.mem_cons_of_mem _ (List.mem_append_right _ h))
  subst hsz
  have hw := wk_start hP hD0
  have hA : ∀ q : Nat, s.heap.size ≤ q → va_A (wXM g a0 U0 V0 M0 R0 kv tv) s.heap.size q := fun q h => Or.inr h
  generalize va_A (wXM g a0 U0 V0 M0 R0 kv tv) s.heap.size = A at hw hA ⊢
  clear hP hD0
  have hl := lv_entry ([.ref (a0 0)]) (n := 1) (Nat.le_of_ble_eq_true rfl)
  rw [lg_entry_eq]
  generalize (lg_sl ([.ref (a0 0)]) ++ List.replicate (1 - (lg_sl ([.ref (a0 0)])).length) Slot.unset).toArray = ls at hl ⊢
  have hl : lv_has ls 1 [(0, .ref (a0 0))] := hl
  rw [f_X7_look] at hM
  obtain ⟨q2, hL0, hM⟩ := bd hM
  have hJ0 : ∀ (H : Heap) (locs : List Loc), Wk g A s.heap H locs (wXM g a0 U0 q2 M0 R0 kv tv) → ∀ (ls : Array Slot), lv_has ls 1 [(0, .ref (a0 0))] → W p l e (headSpec wsX7_look ({ frames := 1, cells := 0, slots := 0, locals := 20 } : Room)).room s m ([.ref (a0 0)] : List Value).toArray below meth c H locs 0 0 (MQ below (QcW g none (wXM g a0 U0 q M0 R0 kv tv) A) ([.ref (a0 0)] : List Value).toArray s 0 0 A) (F0 m 38 ls []) := by
    intro H locs hw ls hl
    refine lv_aload_n hx hb dX7_look_38 rfl (lv_at hl 0 rfl) ?_
    refine lv_aload_n hx hb dX7_look_39 rfl (lv_at hl 0 rfl) ?_
    refine wk_get hx hb hts hin_X7 hown hK hw.1 7 0 22 (.int (q2 22 0)) rfl rfl (by decide) (mi 1 rfl) rfl rfl dX7_look_40 ?_
    refine wk_put (wq := (wXM g a0 U0 (up q2 24 (fun _ => (q2 22 0))) M0 R0 kv tv)) hx hb hts hin_X7 tyX7 tyX7_ok nmX7 hown hK hw 7 0 24 rfl rfl (by decide) (mi 4 rfl) rfl rfl rfl rfl (Nat.le_of_ble_eq_true rfl) dX7_look_43 rfl (fun H locs hw => ?_)
    refine lv_aload_n hx hb dX7_look_46 rfl (lv_at hl 0 rfl) ?_
    refine lv_iconst (v := (0 : Int32)) hx hb dX7_look_47 (by decide) ?_
    refine wk_put (wq := (wXM g a0 U0 (up (up q2 24 (fun _ => (q2 22 0))) 25 (fun _ => (0 : Int32))) M0 R0 kv tv)) hx hb hts hin_X7 tyX7 tyX7_ok nmX7 hown hK hw 7 0 25 rfl rfl (by decide) (mi 5 rfl) rfl rfl rfl rfl (Nat.le_of_ble_eq_true rfl) dX7_look_48 rfl (fun H locs hw => ?_)
    refine lv_aload_n hx hb dX7_look_51 rfl (lv_at hl 0 rfl) ?_
    refine wk_get hx hb hts hin_X7 hown hK hw.1 7 0 22 (.int (q2 22 0)) rfl rfl (by decide) (mi 1 rfl) rfl rfl dX7_look_52 ?_
    refine lv_aload_n hx hb dX7_look_55 rfl (lv_at hl 0 rfl) ?_
    refine wk_get hx hb hts hin_X7 hown hK hw.1 7 0 7 (.int (q2 7 0)) rfl rfl (by decide) (mi 2 rfl) rfl rfl dX7_look_56 ?_
    refine lv_icmp_ne (tgt := 70) hx hb dX7_look_59 (by decide) (fun c6 => ?_) (fun c6 => ?_)
    · replace hM := itn c6 hM
      refine lv_aload_n hx hb dX7_look_70 rfl (lv_at hl 0 rfl) ?_
      refine wk_get hx hb hts hin_X7 hown hK hw.1 7 0 6 (.ref (a0 15)) rfl rfl (by decide) (mi 3 rfl) rfl rfl dX7_look_71 ?_
      refine lv_aload_n hx hb dX7_look_74 rfl (lv_at hl 0 rfl) ?_
      refine wk_get hx hb hts hin_X7 hown hK hw.1 7 0 22 (.int (q2 22 0)) rfl rfl (by decide) (mi 1 rfl) rfl rfl dX7_look_75 ?_
      obtain ⟨k7, hM⟩ := ck hM
      refine wk_iald hx hb hK hw.1 15 250 (q2 6) rfl k7 dX7_look_78 ?_
      refine rSR (wc := ([] : va_W)) (As := [.int ((q2 6) ((q2 22 0)).toNatClampNeg)]) (rest := []) hS (c_X7_isLetter l g ((q2 6) ((q2 22 0)).toNatClampNeg)) gX7_look_X7_isLetter rfl hd_X7_isLetter ⟨Nat.le_of_ble_eq_true rfl, Nat.le_of_ble_eq_true rfl⟩ hK (hP_nil) rfl hl.1 rfl (Nat.le_of_ble_eq_true rfl) dX7_look_79 ⟨Nat.zero_le _, Nat.zero_le _⟩ ?_
      refine lv_if_eq (tgt := 129) hx hb dX7_look_82 (by decide) (fun c9 => ?_) (fun c9 => ?_)
      · replace hM := itp c9 hM
        refine lv_aload_n hx hb dX7_look_129 rfl (lv_at hl 0 rfl) ?_
        refine wk_get hx hb hts hin_X7 hown hK hw.1 7 0 6 (.ref (a0 15)) rfl rfl (by decide) (mi 3 rfl) rfl rfl dX7_look_130 ?_
        refine lv_aload_n hx hb dX7_look_133 rfl (lv_at hl 0 rfl) ?_
        refine wk_get hx hb hts hin_X7 hown hK hw.1 7 0 22 (.int (q2 22 0)) rfl rfl (by decide) (mi 1 rfl) rfl rfl dX7_look_134 ?_
        refine wk_iald hx hb hK hw.1 15 250 (q2 6) rfl k7 dX7_look_137 ?_
        refine rSR (wc := ([] : va_W)) (As := [.int ((q2 6) ((q2 22 0)).toNatClampNeg)]) (rest := []) hS (c_X7_isDigit l g ((q2 6) ((q2 22 0)).toNatClampNeg)) gX7_look_X7_isDigit rfl hd_X7_isDigit ⟨Nat.le_of_ble_eq_true rfl, Nat.le_of_ble_eq_true rfl⟩ hK (hP_nil) rfl hl.1 rfl (Nat.le_of_ble_eq_true rfl) dX7_look_138 ⟨Nat.zero_le _, Nat.zero_le _⟩ ?_
        refine lv_if_eq (tgt := 230) hx hb dX7_look_141 (by decide) (fun c11 => ?_) (fun c11 => ?_)
        · replace hM := itp c11 hM
          refine lv_aload_n hx hb dX7_look_230 rfl (lv_at hl 0 rfl) ?_
          refine lv_aload_n hx hb dX7_look_231 rfl (lv_at hl 0 rfl) ?_
          refine wk_get hx hb hts hin_X7 hown hK hw.1 7 0 6 (.ref (a0 15)) rfl rfl (by decide) (mi 3 rfl) rfl rfl dX7_look_232 ?_
          refine lv_aload_n hx hb dX7_look_235 rfl (lv_at hl 0 rfl) ?_
          refine wk_get hx hb hts hin_X7 hown hK hw.1 7 0 22 (.int (q2 22 0)) rfl rfl (by decide) (mi 1 rfl) rfl rfl dX7_look_236 ?_
          refine wk_iald hx hb hK hw.1 15 250 (q2 6) rfl k7 dX7_look_239 ?_
          refine lv_bipush (v := (59 : Int32)) hx hb dX7_look_240 (by decide) ?_
          have hJ35 : ∀ (H : Heap) (locs : List Loc) (x34 : Int32) (ls : Array Slot), Wk g A s.heap H locs (wXM g a0 U0 (up (up q2 24 (fun _ => (q2 22 0))) 25 (fun _ => (0 : Int32))) M0 R0 kv tv) → x34 = (if ((q2 6) ((q2 22 0)).toNatClampNeg) = (59 : Int32) then (3 : Int32) else (4 : Int32)) → lv_has ls 1 [(0, .ref (a0 0))] → W p l e (headSpec wsX7_look ({ frames := 1, cells := 0, slots := 0, locals := 20 } : Room)).room s m ([.ref (a0 0)] : List Value).toArray below meth c H locs 0 0 (MQ below (QcW g none (wXM g a0 U0 q M0 R0 kv tv) A) ([.ref (a0 0)] : List Value).toArray s 0 0 A) (F0 m 250 ls [.int x34, .ref (a0 0)]) := by
            intro H locs x34 ls hw hxx34 hl
            subst hxx34
            refine wk_put (wq := (wXM g a0 U0 (up (up (up q2 24 (fun _ => (q2 22 0))) 25 (fun _ => (0 : Int32))) 23 (fun _ => (if ((q2 6) ((q2 22 0)).toNatClampNeg) = (59 : Int32) then (3 : Int32) else (4 : Int32)))) M0 R0 kv tv)) hx hb hts hin_X7 tyX7 tyX7_ok nmX7 hown hK hw 7 0 23 rfl rfl (by decide) (mi 6 rfl) rfl rfl rfl rfl (Nat.le_of_ble_eq_true rfl) dX7_look_250 rfl (fun H locs hw => ?_)
            refine lv_aload_n hx hb dX7_look_253 rfl (lv_at hl 0 rfl) ?_
            refine lv_dup hx hb dX7_look_254 rfl ?_
            refine wk_get hx hb hts hin_X7 hown hK hw.1 7 0 22 (.int (q2 22 0)) rfl rfl (by decide) (mi 1 rfl) rfl rfl dX7_look_255 ?_
            refine lv_iconst (v := (1 : Int32)) hx hb dX7_look_258 (by decide) ?_
            refine lv_iadd hx hb dX7_look_259 ?_
            refine wk_put (wq := (wXM g a0 U0 (up (up (up (up q2 24 (fun _ => (q2 22 0))) 25 (fun _ => (0 : Int32))) 23 (fun _ => (if ((q2 6) ((q2 22 0)).toNatClampNeg) = (59 : Int32) then (3 : Int32) else (4 : Int32)))) 22 (fun _ => ((q2 22 0) + (1 : Int32)))) M0 R0 kv tv)) hx hb hts hin_X7 tyX7 tyX7_ok nmX7 hown hK hw 7 0 22 rfl rfl (by decide) (mi 1 rfl) rfl rfl rfl rfl (Nat.le_of_ble_eq_true rfl) dX7_look_260 rfl (fun H locs hw => ?_)
            obtain rfl := Option.some.inj hM
            exact W.vret hx hb hr (fun t ht _ => ⟨rfl, by rw [ht]; exact hw.1, hw.2.2.F ht⟩) hw.2.2.2.2 dX7_look_263
          refine lv_icmp_ne (tgt := 249) hx hb dX7_look_242 (by decide) (fun c12 => ?_) (fun c12 => ?_)
          · refine lv_iconst (v := (4 : Int32)) hx hb dX7_look_249 (by decide) ?_
            exact hJ35 _ _ _ _ hw (by first | with_reducible rfl | (simp only [if_neg c12]) | rfl) (lv_sub hl [0] rfl)
          · refine lv_iconst (v := (3 : Int32)) hx hb dX7_look_245 (by decide) ?_
            refine lv_goto (tgt := 250) hx hb dX7_look_246 (by decide) ?_
            exact hJ35 _ _ _ _ hw (by first | with_reducible rfl | (simp only [if_pos c12]) | rfl) (lv_sub hl [0] rfl)
        · replace hM := itn c11 hM
          refine lv_aload_n hx hb dX7_look_144 rfl (lv_at hl 0 rfl) ?_
          refine lv_iconst (v := (2 : Int32)) hx hb dX7_look_145 (by decide) ?_
          refine wk_put (wq := (wXM g a0 U0 (up (up (up q2 24 (fun _ => (q2 22 0))) 25 (fun _ => (0 : Int32))) 23 (fun _ => (2 : Int32))) M0 R0 kv tv)) hx hb hts hin_X7 tyX7 tyX7_ok nmX7 hown hK hw 7 0 23 rfl rfl (by decide) (mi 6 rfl) rfl rfl rfl rfl (Nat.le_of_ble_eq_true rfl) dX7_look_146 rfl (fun H locs hw => ?_)
          obtain ⟨q14, hL149, hM⟩ := bd hM
          have hJ149 : ∀ (H : Heap) (locs : List Loc), Wk g A s.heap H locs (wXM g a0 U0 q14 M0 R0 kv tv) → ∀ (ls : Array Slot), lv_has ls 1 [] → W p l e (headSpec wsX7_look ({ frames := 1, cells := 0, slots := 0, locals := 20 } : Room)).room s m ([.ref (a0 0)] : List Value).toArray below meth c H locs 0 0 (MQ below (QcW g none (wXM g a0 U0 q M0 R0 kv tv) A) ([.ref (a0 0)] : List Value).toArray s 0 0 A) (F0 m 263 ls []) := by
            intro H locs hw ls hl
            obtain rfl := Option.some.inj hM
            exact W.vret hx hb hr (fun t ht _ => ⟨rfl, by rw [ht]; exact hw.1, hw.2.2.F ht⟩) hw.2.2.2.2 dX7_look_263
          have hW149 : ∀ (n : Nat) (VL13 : TS), L_X7_look_149 n VL13 = some q14 → ∀ (H : Heap) (locs : List Loc), Wk g A s.heap H locs (wXM g a0 U0 VL13 M0 R0 kv tv) → ∀ (ls : Array Slot), lv_has ls 1 [(0, .ref (a0 0))] → W p l e (headSpec wsX7_look ({ frames := 1, cells := 0, slots := 0, locals := 20 } : Room)).room s m ([.ref (a0 0)] : List Value).toArray below meth c H locs 0 0 (MQ below (QcW g none (wXM g a0 U0 q M0 R0 kv tv) A) ([.ref (a0 0)] : List Value).toArray s 0 0 A) (F0 m 149 ls []) := by
            intro n
            induction n with
            | zero => intro VL13 hM; rw [L_X7_look_149] at hM; exact nn hM
            | succ n ih149 =>
              intro VL13 hM H locs hw ls hl
              rw [L_X7_look_149] at hM
              refine lv_aload_n hx hb dX7_look_149 rfl (lv_at hl 0 rfl) ?_
              refine wk_get hx hb hts hin_X7 hown hK hw.1 7 0 22 (.int (VL13 22 0)) rfl rfl (by decide) (mi 1 rfl) rfl rfl dX7_look_150 ?_
              refine lv_aload_n hx hb dX7_look_153 rfl (lv_at hl 0 rfl) ?_
              refine wk_get hx hb hts hin_X7 hown hK hw.1 7 0 7 (.int (VL13 7 0)) rfl rfl (by decide) (mi 2 rfl) rfl rfl dX7_look_154 ?_
              refine lv_icmp_ge (tgt := 263) hx hb dX7_look_157 (by decide) (fun c15 => ?_) (fun c15 => ?_)
              · replace hM := itp c15 hM
                obtain rfl := Option.some.inj hM
                exact hJ149 _ _ hw _ (lv_sub hl [] rfl)
              · replace hM := itn c15 hM
                refine lv_aload_n hx hb dX7_look_160 rfl (lv_at hl 0 rfl) ?_
                refine wk_get hx hb hts hin_X7 hown hK hw.1 7 0 6 (.ref (a0 15)) rfl rfl (by decide) (mi 3 rfl) rfl rfl dX7_look_161 ?_
                refine lv_aload_n hx hb dX7_look_164 rfl (lv_at hl 0 rfl) ?_
                refine wk_get hx hb hts hin_X7 hown hK hw.1 7 0 22 (.int (VL13 22 0)) rfl rfl (by decide) (mi 1 rfl) rfl rfl dX7_look_165 ?_
                obtain ⟨k16, hM⟩ := ck hM
                refine wk_iald hx hb hK hw.1 15 250 (VL13 6) rfl k16 dX7_look_168 ?_
                refine rSR (wc := ([] : va_W)) (As := [.int ((VL13 6) ((VL13 22 0)).toNatClampNeg)]) (rest := []) hS (c_X7_isDigit l g ((VL13 6) ((VL13 22 0)).toNatClampNeg)) gX7_look_X7_isDigit rfl hd_X7_isDigit ⟨Nat.le_of_ble_eq_true rfl, Nat.le_of_ble_eq_true rfl⟩ hK (hP_nil) rfl hl.1 rfl (Nat.le_of_ble_eq_true rfl) dX7_look_169 ⟨Nat.zero_le _, Nat.zero_le _⟩ ?_
                refine lv_if_eq (tgt := 263) hx hb dX7_look_172 (by decide) (fun c18 => ?_) (fun c18 => ?_)
                · replace hM := itp c18 hM
                  obtain rfl := Option.some.inj hM
                  exact hJ149 _ _ hw _ (lv_sub hl [] rfl)
                · replace hM := itn c18 hM
                  refine lv_aload_n hx hb dX7_look_175 rfl (lv_at hl 0 rfl) ?_
                  refine lv_aload_n hx hb dX7_look_176 rfl (lv_at hl 0 rfl) ?_
                  refine wk_get hx hb hts hin_X7 hown hK hw.1 7 0 22 (.int (VL13 22 0)) rfl rfl (by decide) (mi 1 rfl) rfl rfl dX7_look_177 ?_
                  refine lv_aload_n hx hb dX7_look_180 rfl (lv_at hl 0 rfl) ?_
                  refine wk_get hx hb hts hin_X7 hown hK hw.1 7 0 24 (.int (VL13 24 0)) rfl rfl (by decide) (mi 4 rfl) rfl rfl dX7_look_181 ?_
                  refine lv_isub hx hb dX7_look_184 ?_
                  refine lv_iconst (v := (2 : Int32)) hx hb dX7_look_185 (by decide) ?_
                  have hJ37 : ∀ (H : Heap) (locs : List Loc) (x36 : Int32) (ls : Array Slot), Wk g A s.heap H locs (wXM g a0 U0 VL13 M0 R0 kv tv) → x36 = (if (2 : Int32) ≤ ((VL13 22 0) - (VL13 24 0)) then (100000 : Int32) else ((((VL13 25 0) * (10 : Int32)) + ((VL13 6) ((VL13 22 0)).toNatClampNeg)) - (48 : Int32))) → lv_has ls 1 [(0, .ref (a0 0))] → W p l e (headSpec wsX7_look ({ frames := 1, cells := 0, slots := 0, locals := 20 } : Room)).room s m ([.ref (a0 0)] : List Value).toArray below meth c H locs 0 0 (MQ below (QcW g none (wXM g a0 U0 q M0 R0 kv tv) A) ([.ref (a0 0)] : List Value).toArray s 0 0 A) (F0 m 214 ls [.int x36, .ref (a0 0)]) := by
                    intro H locs x36 ls hw hxx36 hl
                    subst hxx36
                    refine wk_put (wq := (wXM g a0 U0 (up VL13 25 (fun _ => (if (2 : Int32) ≤ ((VL13 22 0) - (VL13 24 0)) then (100000 : Int32) else ((((VL13 25 0) * (10 : Int32)) + ((VL13 6) ((VL13 22 0)).toNatClampNeg)) - (48 : Int32))))) M0 R0 kv tv)) hx hb hts hin_X7 tyX7 tyX7_ok nmX7 hown hK hw 7 0 25 rfl rfl (by decide) (mi 5 rfl) rfl rfl rfl rfl (Nat.le_of_ble_eq_true rfl) dX7_look_214 rfl (fun H locs hw => ?_)
                    refine lv_aload_n hx hb dX7_look_217 rfl (lv_at hl 0 rfl) ?_
                    refine lv_dup hx hb dX7_look_218 rfl ?_
                    refine wk_get hx hb hts hin_X7 hown hK hw.1 7 0 22 (.int (VL13 22 0)) rfl rfl (by decide) (mi 1 rfl) rfl rfl dX7_look_219 ?_
                    refine lv_iconst (v := (1 : Int32)) hx hb dX7_look_222 (by decide) ?_
                    refine lv_iadd hx hb dX7_look_223 ?_
                    refine wk_put (wq := (wXM g a0 U0 (up (up VL13 25 (fun _ => (if (2 : Int32) ≤ ((VL13 22 0) - (VL13 24 0)) then (100000 : Int32) else ((((VL13 25 0) * (10 : Int32)) + ((VL13 6) ((VL13 22 0)).toNatClampNeg)) - (48 : Int32))))) 22 (fun _ => ((VL13 22 0) + (1 : Int32)))) M0 R0 kv tv)) hx hb hts hin_X7 tyX7 tyX7_ok nmX7 hown hK hw 7 0 22 rfl rfl (by decide) (mi 1 rfl) rfl rfl rfl rfl (Nat.le_of_ble_eq_true rfl) dX7_look_224 rfl (fun H locs hw => ?_)
                    refine lv_goto (tgt := 149) hx hb dX7_look_227 (by decide) ?_
                    exact ih149 (up (up VL13 25 (fun _ => (if (2 : Int32) ≤ ((VL13 22 0) - (VL13 24 0)) then (100000 : Int32) else ((((VL13 25 0) * (10 : Int32)) + ((VL13 6) ((VL13 22 0)).toNatClampNeg)) - (48 : Int32))))) 22 (fun _ => ((VL13 22 0) + (1 : Int32)))) hM _ _ hw _ (lv_sub hl [0] rfl)
                  refine lv_icmp_ge (tgt := 212) hx hb dX7_look_186 (by decide) (fun c19 => ?_) (fun c19 => ?_)
                  · refine lv_ldc (v := (100000 : Int32)) hx hb hown (hts _ (mi 7 rfl)) dX7_look_212 ?_
                    exact hJ37 _ _ _ _ hw (by first | with_reducible rfl | (simp only [if_pos c19]) | rfl) (lv_sub hl [0] rfl)
                  · refine lv_aload_n hx hb dX7_look_189 rfl (lv_at hl 0 rfl) ?_
                    refine wk_get hx hb hts hin_X7 hown hK hw.1 7 0 25 (.int (VL13 25 0)) rfl rfl (by decide) (mi 5 rfl) rfl rfl dX7_look_190 ?_
                    refine lv_bipush (v := (10 : Int32)) hx hb dX7_look_193 (by decide) ?_
                    refine lv_imul hx hb dX7_look_195 ?_
                    refine lv_aload_n hx hb dX7_look_196 rfl (lv_at hl 0 rfl) ?_
                    refine wk_get hx hb hts hin_X7 hown hK hw.1 7 0 6 (.ref (a0 15)) rfl rfl (by decide) (mi 3 rfl) rfl rfl dX7_look_197 ?_
                    refine lv_aload_n hx hb dX7_look_200 rfl (lv_at hl 0 rfl) ?_
                    refine wk_get hx hb hts hin_X7 hown hK hw.1 7 0 22 (.int (VL13 22 0)) rfl rfl (by decide) (mi 1 rfl) rfl rfl dX7_look_201 ?_
                    refine wk_iald hx hb hK hw.1 15 250 (VL13 6) rfl k16 dX7_look_204 ?_
                    refine lv_iadd hx hb dX7_look_205 ?_
                    refine lv_bipush (v := (48 : Int32)) hx hb dX7_look_206 (by decide) ?_
                    refine lv_isub hx hb dX7_look_208 ?_
                    refine lv_goto (tgt := 214) hx hb dX7_look_209 (by decide) ?_
                    exact hJ37 _ _ _ _ hw (by first | with_reducible rfl | (simp only [if_neg c19]) | rfl) (lv_sub hl [0] rfl)
          exact hW149 300 (up (up (up q2 24 (fun _ => (q2 22 0))) 25 (fun _ => (0 : Int32))) 23 (fun _ => (2 : Int32))) hL149 _ _ hw _ (lv_sub hl [0] rfl)
      · replace hM := itn c9 hM
        refine lv_aload_n hx hb dX7_look_85 rfl (lv_at hl 0 rfl) ?_
        refine lv_iconst (v := (1 : Int32)) hx hb dX7_look_86 (by decide) ?_
        refine wk_put (wq := (wXM g a0 U0 (up (up (up q2 24 (fun _ => (q2 22 0))) 25 (fun _ => (0 : Int32))) 23 (fun _ => (1 : Int32))) M0 R0 kv tv)) hx hb hts hin_X7 tyX7 tyX7_ok nmX7 hown hK hw 7 0 23 rfl rfl (by decide) (mi 6 rfl) rfl rfl rfl rfl (Nat.le_of_ble_eq_true rfl) dX7_look_87 rfl (fun H locs hw => ?_)
        obtain ⟨q21, hL90, hM⟩ := bd hM
        have hJ90 : ∀ (H : Heap) (locs : List Loc), Wk g A s.heap H locs (wXM g a0 U0 q21 M0 R0 kv tv) → ∀ (ls : Array Slot), lv_has ls 1 [] → W p l e (headSpec wsX7_look ({ frames := 1, cells := 0, slots := 0, locals := 20 } : Room)).room s m ([.ref (a0 0)] : List Value).toArray below meth c H locs 0 0 (MQ below (QcW g none (wXM g a0 U0 q M0 R0 kv tv) A) ([.ref (a0 0)] : List Value).toArray s 0 0 A) (F0 m 263 ls []) := by
          intro H locs hw ls hl
          obtain rfl := Option.some.inj hM
          exact W.vret hx hb hr (fun t ht _ => ⟨rfl, by rw [ht]; exact hw.1, hw.2.2.F ht⟩) hw.2.2.2.2 dX7_look_263
        have hW90 : ∀ (n : Nat) (VL20 : TS), L_X7_look_90 n VL20 = some q21 → ∀ (H : Heap) (locs : List Loc), Wk g A s.heap H locs (wXM g a0 U0 VL20 M0 R0 kv tv) → ∀ (ls : Array Slot), lv_has ls 1 [(0, .ref (a0 0))] → W p l e (headSpec wsX7_look ({ frames := 1, cells := 0, slots := 0, locals := 20 } : Room)).room s m ([.ref (a0 0)] : List Value).toArray below meth c H locs 0 0 (MQ below (QcW g none (wXM g a0 U0 q M0 R0 kv tv) A) ([.ref (a0 0)] : List Value).toArray s 0 0 A) (F0 m 90 ls []) := by
          intro n
          induction n with
          | zero => intro VL20 hM; rw [L_X7_look_90] at hM; exact nn hM
          | succ n ih90 =>
            intro VL20 hM H locs hw ls hl
            rw [L_X7_look_90] at hM
            refine lv_aload_n hx hb dX7_look_90 rfl (lv_at hl 0 rfl) ?_
            refine wk_get hx hb hts hin_X7 hown hK hw.1 7 0 22 (.int (VL20 22 0)) rfl rfl (by decide) (mi 1 rfl) rfl rfl dX7_look_91 ?_
            refine lv_aload_n hx hb dX7_look_94 rfl (lv_at hl 0 rfl) ?_
            refine wk_get hx hb hts hin_X7 hown hK hw.1 7 0 7 (.int (VL20 7 0)) rfl rfl (by decide) (mi 2 rfl) rfl rfl dX7_look_95 ?_
            refine lv_icmp_ge (tgt := 263) hx hb dX7_look_98 (by decide) (fun c22 => ?_) (fun c22 => ?_)
            · replace hM := itp c22 hM
              obtain rfl := Option.some.inj hM
              exact hJ90 _ _ hw _ (lv_sub hl [] rfl)
            · replace hM := itn c22 hM
              refine lv_aload_n hx hb dX7_look_101 rfl (lv_at hl 0 rfl) ?_
              refine wk_get hx hb hts hin_X7 hown hK hw.1 7 0 6 (.ref (a0 15)) rfl rfl (by decide) (mi 3 rfl) rfl rfl dX7_look_102 ?_
              refine lv_aload_n hx hb dX7_look_105 rfl (lv_at hl 0 rfl) ?_
              refine wk_get hx hb hts hin_X7 hown hK hw.1 7 0 22 (.int (VL20 22 0)) rfl rfl (by decide) (mi 1 rfl) rfl rfl dX7_look_106 ?_
              obtain ⟨k23, hM⟩ := ck hM
              refine wk_iald hx hb hK hw.1 15 250 (VL20 6) rfl k23 dX7_look_109 ?_
              refine rSR (wc := ([] : va_W)) (As := [.int ((VL20 6) ((VL20 22 0)).toNatClampNeg)]) (rest := []) hS (c_X7_isLetter l g ((VL20 6) ((VL20 22 0)).toNatClampNeg)) gX7_look_X7_isLetter rfl hd_X7_isLetter ⟨Nat.le_of_ble_eq_true rfl, Nat.le_of_ble_eq_true rfl⟩ hK (hP_nil) rfl hl.1 rfl (Nat.le_of_ble_eq_true rfl) dX7_look_110 ⟨Nat.zero_le _, Nat.zero_le _⟩ ?_
              refine lv_if_eq (tgt := 263) hx hb dX7_look_113 (by decide) (fun c25 => ?_) (fun c25 => ?_)
              · replace hM := itp c25 hM
                obtain rfl := Option.some.inj hM
                exact hJ90 _ _ hw _ (lv_sub hl [] rfl)
              · replace hM := itn c25 hM
                refine lv_aload_n hx hb dX7_look_116 rfl (lv_at hl 0 rfl) ?_
                refine lv_dup hx hb dX7_look_117 rfl ?_
                refine wk_get hx hb hts hin_X7 hown hK hw.1 7 0 22 (.int (VL20 22 0)) rfl rfl (by decide) (mi 1 rfl) rfl rfl dX7_look_118 ?_
                refine lv_iconst (v := (1 : Int32)) hx hb dX7_look_121 (by decide) ?_
                refine lv_iadd hx hb dX7_look_122 ?_
                refine wk_put (wq := (wXM g a0 U0 (up VL20 22 (fun _ => ((VL20 22 0) + (1 : Int32)))) M0 R0 kv tv)) hx hb hts hin_X7 tyX7 tyX7_ok nmX7 hown hK hw 7 0 22 rfl rfl (by decide) (mi 1 rfl) rfl rfl rfl rfl (Nat.le_of_ble_eq_true rfl) dX7_look_123 rfl (fun H locs hw => ?_)
                refine lv_goto (tgt := 90) hx hb dX7_look_126 (by decide) ?_
                exact ih90 (up VL20 22 (fun _ => ((VL20 22 0) + (1 : Int32)))) hM _ _ hw _ (lv_sub hl [0] rfl)
        exact hW90 300 (up (up (up q2 24 (fun _ => (q2 22 0))) 25 (fun _ => (0 : Int32))) 23 (fun _ => (1 : Int32))) hL90 _ _ hw _ (lv_sub hl [0] rfl)
    · replace hM := itp c6 hM
      refine lv_aload_n hx hb dX7_look_62 rfl (lv_at hl 0 rfl) ?_
      refine lv_iconst (v := (0 : Int32)) hx hb dX7_look_63 (by decide) ?_
      refine wk_put (wq := (wXM g a0 U0 (up (up (up q2 24 (fun _ => (q2 22 0))) 25 (fun _ => (0 : Int32))) 23 (fun _ => (0 : Int32))) M0 R0 kv tv)) hx hb hts hin_X7 tyX7 tyX7_ok nmX7 hown hK hw 7 0 23 rfl rfl (by decide) (mi 6 rfl) rfl rfl rfl rfl (Nat.le_of_ble_eq_true rfl) dX7_look_64 rfl (fun H locs hw => ?_)
      refine lv_goto (tgt := 263) hx hb dX7_look_67 (by decide) ?_
      obtain rfl := Option.some.inj hM
      exact W.vret hx hb hr (fun t ht _ => ⟨rfl, by rw [ht]; exact hw.1, hw.2.2.F ht⟩) hw.2.2.2.2 dX7_look_263
  have hW0 : ∀ (n : Nat) (VL1 : TS), L_X7_look_0 n VL1 = some q2 → ∀ (H : Heap) (locs : List Loc), Wk g A s.heap H locs (wXM g a0 U0 VL1 M0 R0 kv tv) → ∀ (ls : Array Slot), lv_has ls 1 [(0, .ref (a0 0))] → W p l e (headSpec wsX7_look ({ frames := 1, cells := 0, slots := 0, locals := 20 } : Room)).room s m ([.ref (a0 0)] : List Value).toArray below meth c H locs 0 0 (MQ below (QcW g none (wXM g a0 U0 q M0 R0 kv tv) A) ([.ref (a0 0)] : List Value).toArray s 0 0 A) (F0 m 0 ls []) := by
    intro n
    induction n with
    | zero => intro VL1 hM; rw [L_X7_look_0] at hM; exact nn hM
    | succ n ih0 =>
      intro VL1 hM H locs hw ls hl
      rw [L_X7_look_0] at hM
      refine lv_aload_n hx hb dX7_look_0 rfl (lv_at hl 0 rfl) ?_
      refine wk_get hx hb hts hin_X7 hown hK hw.1 7 0 22 (.int (VL1 22 0)) rfl rfl (by decide) (mi 1 rfl) rfl rfl dX7_look_1 ?_
      refine lv_aload_n hx hb dX7_look_4 rfl (lv_at hl 0 rfl) ?_
      refine wk_get hx hb hts hin_X7 hown hK hw.1 7 0 7 (.int (VL1 7 0)) rfl rfl (by decide) (mi 2 rfl) rfl rfl dX7_look_5 ?_
      refine lv_icmp_ge (tgt := 38) hx hb dX7_look_8 (by decide) (fun c3 => ?_) (fun c3 => ?_)
      · replace hM := itp c3 hM
        obtain rfl := Option.some.inj hM
        exact hJ0 _ _ hw _ (lv_sub hl [0] rfl)
      · replace hM := itn c3 hM
        refine lv_aload_n hx hb dX7_look_11 rfl (lv_at hl 0 rfl) ?_
        refine wk_get hx hb hts hin_X7 hown hK hw.1 7 0 6 (.ref (a0 15)) rfl rfl (by decide) (mi 3 rfl) rfl rfl dX7_look_12 ?_
        refine lv_aload_n hx hb dX7_look_15 rfl (lv_at hl 0 rfl) ?_
        refine wk_get hx hb hts hin_X7 hown hK hw.1 7 0 22 (.int (VL1 22 0)) rfl rfl (by decide) (mi 1 rfl) rfl rfl dX7_look_16 ?_
        obtain ⟨k4, hM⟩ := ck hM
        refine wk_iald hx hb hK hw.1 15 250 (VL1 6) rfl k4 dX7_look_19 ?_
        refine lv_bipush (v := (32 : Int32)) hx hb dX7_look_20 (by decide) ?_
        refine lv_icmp_ne (tgt := 38) hx hb dX7_look_22 (by decide) (fun c5 => ?_) (fun c5 => ?_)
        · replace hM := itn c5 hM
          obtain rfl := Option.some.inj hM
          exact hJ0 _ _ hw _ (lv_sub hl [0] rfl)
        · replace hM := itp c5 hM
          refine lv_aload_n hx hb dX7_look_25 rfl (lv_at hl 0 rfl) ?_
          refine lv_dup hx hb dX7_look_26 rfl ?_
          refine wk_get hx hb hts hin_X7 hown hK hw.1 7 0 22 (.int (VL1 22 0)) rfl rfl (by decide) (mi 1 rfl) rfl rfl dX7_look_27 ?_
          refine lv_iconst (v := (1 : Int32)) hx hb dX7_look_30 (by decide) ?_
          refine lv_iadd hx hb dX7_look_31 ?_
          refine wk_put (wq := (wXM g a0 U0 (up VL1 22 (fun _ => ((VL1 22 0) + (1 : Int32)))) M0 R0 kv tv)) hx hb hts hin_X7 tyX7 tyX7_ok nmX7 hown hK hw 7 0 22 rfl rfl (by decide) (mi 1 rfl) rfl rfl rfl rfl (Nat.le_of_ble_eq_true rfl) dX7_look_32 rfl (fun H locs hw => ?_)
          refine lv_goto (tgt := 0) hx hb dX7_look_35 (by decide) ?_
          exact ih0 (up VL1 22 (fun _ => ((VL1 22 0) + (1 : Int32)))) hM _ _ hw _ (lv_sub hl [0] rfl)
  exact hW0 300 V0 hL0 _ _ hw _ (lv_sub hl [0] rfl)
theorem hd_X7_wrong : yX7_wrong.cls = RX7 ∧ yX7_wrong.cls ≠ "java/lang/invoke/MethodHandle" ∧ yX7_wrong.cls ≠ "java/lang/invoke/VarHandle" ∧ (parseMethodDescriptor yX7_wrong.desc).map (fun d => d.parameters.length) = some 0 := by decide +kernel
set_option maxHeartbeats 4000000 in
set_option maxRecDepth 100000 in
theorem c_X7_wrong (l : Launch) (g : Gm) (a0 : Nat → Nat) (kv : Value) (tv : Value) (U0 : TS) (V0 : TS) (M0 : LTS) (R0 : LTS) {q : (Int32 × TS)} (hM : f_X7_wrong U0 V0 M0 R0 = some q) : MW l yX7_wrong wsX7_wrong 0 0 g [.ref (a0 0)] (wXM g a0 U0 V0 M0 R0 kv tv) (some (.int q.1)) (wXM g a0 U0 q.2 M0 R0 kv tv) := by
  intro sz
  refine Met.ofW (cc := cX7_wrong) (maxL := 1) (ret := (some .boolean)) (by decide) rfl ?_
  intro p e s m args below meth c s₁ B hml hv
  obtain ⟨rfl, hsz, hP, hK, hD0⟩ := hv
  have hx := B.exec; have hb := B.bytes; have hr := B.returns
  have hts := atoms_spec (ws := wsX7_wrong) B.pre
  have hown : s.vm.findClass RX7 = some m.cls := findClass_of_methodNamed B.named
  have hlocks := B.notSynchronized
  have hS : CallFix p m c cX7_wrong 1 s _ wsX7_wrong RX7 := ⟨hx, hb, hml, hown, hts⟩
  have hin_X7 : ∀ w ∈ wsX70, w ∈ wsX7_wrong := fun w h => (List.mem_cons_of_mem _ (List.mem_append_right _ h))
  subst hsz
  have hw := wk_start hP hD0
  have hA : ∀ q : Nat, s.heap.size ≤ q → va_A (wXM g a0 U0 V0 M0 R0 kv tv) s.heap.size q := fun q h => Or.inr h
  generalize va_A (wXM g a0 U0 V0 M0 R0 kv tv) s.heap.size = A at hw hA ⊢
  clear hP hD0
  have hl := lv_entry ([.ref (a0 0)]) (n := 1) (Nat.le_of_ble_eq_true rfl)
  rw [lg_entry_eq]
  generalize (lg_sl ([.ref (a0 0)]) ++ List.replicate (1 - (lg_sl ([.ref (a0 0)])).length) Slot.unset).toArray = ls at hl ⊢
  have hl : lv_has ls 1 [(0, .ref (a0 0))] := hl
  rw [f_X7_wrong] at hM
  refine lv_aload_n hx hb dX7_wrong_0 rfl (lv_at hl 0 rfl) ?_
  refine lv_aload_n hx hb dX7_wrong_1 rfl (lv_at hl 0 rfl) ?_
  refine wk_get hx hb hts hin_X7 hown hK hw.1 7 0 24 (.int (V0 24 0)) rfl rfl (by decide) (mi 1 rfl) rfl rfl dX7_wrong_2 ?_
  refine wk_put (wq := (wXM g a0 U0 (up V0 26 (fun _ => (V0 24 0))) M0 R0 kv tv)) hx hb hts hin_X7 tyX7 tyX7_ok nmX7 hown hK hw 7 0 26 rfl rfl (by decide) (mi 2 rfl) rfl rfl rfl rfl (Nat.le_of_ble_eq_true rfl) dX7_wrong_5 rfl (fun H locs hw => ?_)
  refine lv_iconst (v := (0 : Int32)) hx hb dX7_wrong_8 (by decide) ?_
  obtain rfl := Option.some.inj hM
  exact W.zret hx hb hr (nz (Or.inl rfl)) (fun t ht _ => ⟨rfl, by rw [ht]; exact hw.1, hw.2.2.F ht⟩) hw.2.2.2.2 dX7_wrong_9
theorem hd_X7_number : yX7_number.cls = RX7 ∧ yX7_number.cls ≠ "java/lang/invoke/MethodHandle" ∧ yX7_number.cls ≠ "java/lang/invoke/VarHandle" ∧ (parseMethodDescriptor yX7_number.desc).map (fun d => d.parameters.length) = some 3 := by decide +kernel
set_option maxHeartbeats 4000000 in
set_option maxRecDepth 100000 in
theorem c_X7_number (l : Launch) (g : Gm) (a0 : Nat → Nat) (kv : Value) (tv : Value) (U0 : TS) (V0 : TS) (M0 : LTS) (R0 : LTS) (p1 : Int32) (p2 : Int32) (p3 : Int32) {q : (Int32 × TS)} (hM : f_X7_number U0 V0 M0 R0 p1 p2 p3 = some q) : MW l yX7_number wsX7_number 2 40 g [.ref (a0 0), .int p1, .int p2, .int p3] (wXM g a0 U0 V0 M0 R0 kv tv) (some (.int q.1)) (wXM g a0 U0 q.2 M0 R0 kv tv) := by
  intro sz
  refine Met.ofW (cc := cX7_number) (maxL := 4) (ret := (some .boolean)) (by decide) rfl ?_
  intro p e s m args below meth c s₁ B hml hv
  obtain ⟨rfl, hsz, hP, hK, hD0⟩ := hv
  have hx := B.exec; have hb := B.bytes; have hr := B.returns
  have hts := atoms_spec (ws := wsX7_number) B.pre
  have hown : s.vm.findClass RX7 = some m.cls := findClass_of_methodNamed B.named
  have hlocks := B.notSynchronized
  have hS : CallFix p m c cX7_number 4 s _ wsX7_number RX7 := ⟨hx, hb, hml, hown, hts⟩
  have hin_X7 : ∀ w ∈ wsX70, w ∈ wsX7_number := fun w h => (List.mem_cons_of_mem _ (List.mem_append_right _ h))
  subst hsz
  have hw := wk_start hP hD0
  have hA : ∀ q : Nat, s.heap.size ≤ q → va_A (wXM g a0 U0 V0 M0 R0 kv tv) s.heap.size q := fun q h => Or.inr h
  generalize va_A (wXM g a0 U0 V0 M0 R0 kv tv) s.heap.size = A at hw hA ⊢
  clear hP hD0
  have hl := lv_entry ([.ref (a0 0), .int p1, .int p2, .int p3]) (n := 4) (Nat.le_of_ble_eq_true rfl)
  rw [lg_entry_eq]
  generalize (lg_sl ([.ref (a0 0), .int p1, .int p2, .int p3]) ++ List.replicate (4 - (lg_sl ([.ref (a0 0), .int p1, .int p2, .int p3])).length) Slot.unset).toArray = ls at hl ⊢
  have hl : lv_has ls 4 [(0, .ref (a0 0)), (1, .int p1), (2, .int p2), (3, .int p3)] := hl
  rw [f_X7_number] at hM
  refine lv_aload_n hx hb dX7_number_0 rfl (lv_at hl 0 rfl) ?_
  refine wk_get hx hb hts hin_X7 hown hK hw.1 7 0 23 (.int (V0 23 0)) rfl rfl (by decide) (mi 1 rfl) rfl rfl dX7_number_1 ?_
  refine lv_iconst (v := (2 : Int32)) hx hb dX7_number_4 (by decide) ?_
  refine lv_icmp_ne (tgt := 23) hx hb dX7_number_5 (by decide) (fun c1 => ?_) (fun c1 => ?_)
  · replace hM := itn c1 hM
    refine lv_aload_n hx hb dX7_number_23 rfl (lv_at hl 0 rfl) ?_
    obtain ⟨q10, h9, hM⟩ := bd hM
    refine rVWp (wc := (wXM g a0 U0 V0 M0 R0 kv tv)) (wq := (wXM g a0 U0 q10.2 M0 R0 kv tv)) (As := []) (rest := []) (q0 := 0) hS (c_X7_wrong l g a0 kv tv U0 V0 M0 R0 h9) gX7_number_X7_wrong rfl hd_X7_wrong ⟨Nat.le_of_ble_eq_true rfl, Nat.le_of_ble_eq_true rfl⟩ hK hw hA (pm_1_0 _) rfl (pm_1_0 _) rfl rfl rfl rfl hl.1 rfl (Nat.le_of_ble_eq_true rfl) dX7_number_24 ⟨Nat.zero_le _, Nat.zero_le _⟩ (fun H locs hw => ?_)
    obtain rfl := Option.some.inj hM
    exact W.zret hx hb hr (nz (bz_X7_wrong h9)) (fun t ht _ => ⟨rfl, by rw [ht]; exact hw.1, hw.2.2.F ht⟩) hw.2.2.2.2 dX7_number_27
  · replace hM := itp c1 hM
    refine lv_aload_n hx hb dX7_number_8 rfl (lv_at hl 0 rfl) ?_
    refine wk_get hx hb hts hin_X7 hown hK hw.1 7 0 25 (.int (V0 25 0)) rfl rfl (by decide) (mi 2 rfl) rfl rfl dX7_number_9 ?_
    refine lv_i2l (v := (((V0 25 0)).toInt64)) hx hb dX7_number_12 rfl ?_
    refine lv_iload_n hx hb dX7_number_13 rfl (lv_at hl 2 rfl) ?_
    refine lv_i2l (v := ((p2).toInt64)) hx hb dX7_number_14 rfl ?_
    refine lv_iload_n hx hb dX7_number_15 rfl (lv_at hl 3 rfl) ?_
    refine lv_i2l (v := ((p3).toInt64)) hx hb dX7_number_16 rfl ?_
    refine rSR (wc := ([] : va_W)) (As := [.long (((V0 25 0)).toInt64), .long ((p2).toInt64), .long ((p3).toInt64)]) (rest := []) hS (c_X7_in l g (((V0 25 0)).toInt64) ((p2).toInt64) ((p3).toInt64)) gX7_number_X7_in rfl hd_X7_in ⟨Nat.le_of_ble_eq_true rfl, Nat.le_of_ble_eq_true rfl⟩ hK (hP_nil) rfl hl.1 rfl (Nat.le_of_ble_eq_true rfl) dX7_number_17 ⟨Nat.zero_le _, Nat.zero_le _⟩ ?_
    refine lv_if_ne (tgt := 28) hx hb dX7_number_20 (by decide) (fun c3 => ?_) (fun c3 => ?_)
    · replace hM := itn c3 hM
      refine lv_aload_n hx hb dX7_number_28 rfl (lv_at hl 0 rfl) ?_
      refine wk_get hx hb hts hin_X7 hown hK hw.1 7 0 27 (.ref (a0 17)) rfl rfl (by decide) (mi 3 rfl) rfl rfl dX7_number_29 ?_
      refine lv_iload_n hx hb dX7_number_32 rfl (lv_at hl 1 rfl) ?_
      refine lv_aload_n hx hb dX7_number_33 rfl (lv_at hl 0 rfl) ?_
      refine wk_get hx hb hts hin_X7 hown hK hw.1 7 0 25 (.int (V0 25 0)) rfl rfl (by decide) (mi 2 rfl) rfl rfl dX7_number_34 ?_
      obtain ⟨k6, hM⟩ := ck hM
      refine wk_iast (wq := (wXM g a0 U0 (up V0 27 (upd (V0 27) (p1).toNatClampNeg (V0 25 0))) M0 R0 kv tv)) hx hb hK hw 17 2 (V0 27) rfl k6 dX7_number_37 rfl (fun H locs hw => ?_)
      refine lv_aload_n hx hb dX7_number_38 rfl (lv_at hl 0 rfl) ?_
      obtain ⟨q8, h7, hM⟩ := bd hM
      refine rVWp (wc := (wXM g a0 U0 (up V0 27 (upd (V0 27) (p1).toNatClampNeg (V0 25 0))) M0 R0 kv tv)) (wq := (wXM g a0 U0 q8 M0 R0 kv tv)) (As := []) (rest := []) (q0 := 0) hS (c_X7_look l g a0 kv tv U0 (up V0 27 (upd (V0 27) (p1).toNatClampNeg (V0 25 0))) M0 R0 h7) gX7_number_X7_look rfl hd_X7_look ⟨Nat.le_of_ble_eq_true rfl, Nat.le_of_ble_eq_true rfl⟩ hK hw hA (pm_1_0 _) rfl (pm_1_0 _) rfl rfl rfl rfl hl.1 rfl (Nat.le_of_ble_eq_true rfl) dX7_number_39 ⟨Nat.zero_le _, Nat.zero_le _⟩ (fun H locs hw => ?_)
      refine lv_iconst (v := (1 : Int32)) hx hb dX7_number_42 (by decide) ?_
      obtain rfl := Option.some.inj hM
      exact W.zret hx hb hr (nz (Or.inr rfl)) (fun t ht _ => ⟨rfl, by rw [ht]; exact hw.1, hw.2.2.F ht⟩) hw.2.2.2.2 dX7_number_43
    · replace hM := itp c3 hM
      refine lv_aload_n hx hb dX7_number_23 rfl (lv_at hl 0 rfl) ?_
      obtain ⟨q5, h4, hM⟩ := bd hM
      refine rVWp (wc := (wXM g a0 U0 V0 M0 R0 kv tv)) (wq := (wXM g a0 U0 q5.2 M0 R0 kv tv)) (As := []) (rest := []) (q0 := 0) hS (c_X7_wrong l g a0 kv tv U0 V0 M0 R0 h4) gX7_number_X7_wrong rfl hd_X7_wrong ⟨Nat.le_of_ble_eq_true rfl, Nat.le_of_ble_eq_true rfl⟩ hK hw hA (pm_1_0 _) rfl (pm_1_0 _) rfl rfl rfl rfl hl.1 rfl (Nat.le_of_ble_eq_true rfl) dX7_number_24 ⟨Nat.zero_le _, Nat.zero_le _⟩ (fun H locs hw => ?_)
      obtain rfl := Option.some.inj hM
      exact W.zret hx hb hr (nz (bz_X7_wrong h4)) (fun t ht _ => ⟨rfl, by rw [ht]; exact hw.1, hw.2.2.F ht⟩) hw.2.2.2.2 dX7_number_27
theorem hd_X7_tells : yX7_tells.cls = RX7 ∧ yX7_tells.cls ≠ "java/lang/invoke/MethodHandle" ∧ yX7_tells.cls ≠ "java/lang/invoke/VarHandle" ∧ (parseMethodDescriptor yX7_tells.desc).map (fun d => d.parameters.length) = some 2 := by decide +kernel
set_option maxHeartbeats 4000000 in
set_option maxRecDepth 100000 in
theorem c_X7_tells (l : Launch) (g : Gm) (a0 : Nat → Nat) (kv : Value) (tv : Value) (U0 : TS) (V0 : TS) (M0 : LTS) (R0 : LTS) (p1 : Int32) (p2 : Int32) {q : (Int32 × TS)} (hM : f_X7_tells U0 V0 M0 R0 p1 p2 = some q) : MW l yX7_tells wsX7_tells 3 63 g [.ref (a0 0), .int p1, .int p2] (wXM g a0 U0 V0 M0 R0 kv tv) (some (.int q.1)) (wXM g a0 U0 q.2 M0 R0 kv tv) := by
  intro sz
  refine Met.ofW (cc := cX7_tells) (maxL := 3) (ret := (some .boolean)) (by decide) rfl ?_
  intro p e s m args below meth c s₁ B hml hv
  obtain ⟨rfl, hsz, hP, hK, hD0⟩ := hv
  have hx := B.exec; have hb := B.bytes; have hr := B.returns
  have hts := atoms_spec (ws := wsX7_tells) B.pre
  have hown : s.vm.findClass RX7 = some m.cls := findClass_of_methodNamed B.named
  have hlocks := B.notSynchronized
  have hS : CallFix p m c cX7_tells 3 s _ wsX7_tells RX7 := ⟨hx, hb, hml, hown, hts⟩
  subst hsz
  have hw := wk_start hP hD0
  have hA : ∀ q : Nat, s.heap.size ≤ q → va_A (wXM g a0 U0 V0 M0 R0 kv tv) s.heap.size q := fun q h => Or.inr h
  generalize va_A (wXM g a0 U0 V0 M0 R0 kv tv) s.heap.size = A at hw hA ⊢
  clear hP hD0
  have hl := lv_entry ([.ref (a0 0), .int p1, .int p2]) (n := 3) (Nat.le_of_ble_eq_true rfl)
  rw [lg_entry_eq]
  generalize (lg_sl ([.ref (a0 0), .int p1, .int p2]) ++ List.replicate (3 - (lg_sl ([.ref (a0 0), .int p1, .int p2])).length) Slot.unset).toArray = ls at hl ⊢
  have hl : lv_has ls 3 [(0, .ref (a0 0)), (1, .int p1), (2, .int p2)] := hl
  rw [f_X7_tells] at hM
  refine lv_aload_n hx hb dX7_tells_0 rfl (lv_at hl 0 rfl) ?_
  obtain ⟨q2, h1, hM⟩ := bd hM
  refine rVWp (wc := (wXM g a0 U0 V0 M0 R0 kv tv)) (wq := (wXM g a0 U0 q2 M0 R0 kv tv)) (As := []) (rest := []) (q0 := 0) hS (c_X7_look l g a0 kv tv U0 V0 M0 R0 h1) gX7_tells_X7_look rfl hd_X7_look ⟨Nat.le_of_ble_eq_true rfl, Nat.le_of_ble_eq_true rfl⟩ hK hw hA (pm_1_0 _) rfl (pm_1_0 _) rfl rfl rfl rfl hl.1 rfl (Nat.le_of_ble_eq_true rfl) dX7_tells_1 ⟨Nat.zero_le _, Nat.zero_le _⟩ (fun H locs hw => ?_)
  refine lv_aload_n hx hb dX7_tells_4 rfl (lv_at hl 0 rfl) ?_
  refine lv_iconst (v := (0 : Int32)) hx hb dX7_tells_5 (by decide) ?_
  refine lv_iload_n hx hb dX7_tells_6 rfl (lv_at hl 1 rfl) ?_
  refine lv_iload_n hx hb dX7_tells_7 rfl (lv_at hl 2 rfl) ?_
  obtain ⟨q4, h3, hM⟩ := bd hM
  refine rVWp (wc := (wXM g a0 U0 q2 M0 R0 kv tv)) (wq := (wXM g a0 U0 q4.2 M0 R0 kv tv)) (As := [.int (0 : Int32), .int p1, .int p2]) (rest := []) (q0 := 0) hS (c_X7_number l g a0 kv tv U0 q2 M0 R0 (0 : Int32) p1 p2 h3) gX7_tells_X7_number rfl hd_X7_number ⟨Nat.le_of_ble_eq_true rfl, Nat.le_of_ble_eq_true rfl⟩ hK hw hA (pm_1_0 _) rfl (pm_1_0 _) rfl rfl rfl rfl hl.1 rfl (Nat.le_of_ble_eq_true rfl) dX7_tells_8 ⟨Nat.zero_le _, Nat.zero_le _⟩ (fun H locs hw => ?_)
  obtain rfl := Option.some.inj hM
  exact W.zret hx hb hr (nz (bz_X7_number h3)) (fun t ht _ => ⟨rfl, by rw [ht]; exact hw.1, hw.2.2.F ht⟩) hw.2.2.2.2 dX7_tells_11
theorem hd_X7_askedTold : yX7_askedTold.cls = RX7 ∧ yX7_askedTold.cls ≠ "java/lang/invoke/MethodHandle" ∧ yX7_askedTold.cls ≠ "java/lang/invoke/VarHandle" ∧ (parseMethodDescriptor yX7_askedTold.desc).map (fun d => d.parameters.length) = some 1 := by decide +kernel
set_option maxHeartbeats 4000000 in
set_option maxRecDepth 100000 in
theorem c_X7_askedTold (l : Launch) (g : Gm) (a0 : Nat → Nat) (kv : Value) (tv : Value) (U0 : TS) (V0 : TS) (M0 : LTS) (R0 : LTS) (p1 : Int32) {q : (Int32 × TS × TS)} (hM : f_X7_askedTold U0 V0 M0 R0 p1 = some q) : MW l yX7_askedTold wsX7_askedTold 4 85 g [.ref (a0 0), .int p1] (wXM g a0 U0 V0 M0 R0 kv tv) (some (.int q.1)) (wXM g a0 q.2.1 q.2.2 M0 R0 kv tv) := by
  intro sz
  refine Met.ofW (cc := cX7_askedTold) (maxL := 3) (ret := (some .boolean)) (by decide) rfl ?_
  intro p e s m args below meth c s₁ B hml hv
  obtain ⟨rfl, hsz, hP, hK, hD0⟩ := hv
  have hx := B.exec; have hb := B.bytes; have hr := B.returns
  have hts := atoms_spec (ws := wsX7_askedTold) B.pre
  have hown : s.vm.findClass RX7 = some m.cls := findClass_of_methodNamed B.named
  have hlocks := B.notSynchronized
  have hS : CallFix p m c cX7_askedTold 3 s _ wsX7_askedTold RX7 := ⟨hx, hb, hml, hown, hts⟩
  have hin_X7 : ∀ w ∈ wsX70, w ∈ wsX7_askedTold := fun w h => (List.mem_cons_of_mem _ (List.mem_append_right _ h))
  subst hsz
  have hw := wk_start hP hD0
  have hA : ∀ q : Nat, s.heap.size ≤ q → va_A (wXM g a0 U0 V0 M0 R0 kv tv) s.heap.size q := fun q h => Or.inr h
  generalize va_A (wXM g a0 U0 V0 M0 R0 kv tv) s.heap.size = A at hw hA ⊢
  clear hP hD0
  have hl := lv_entry ([.ref (a0 0), .int p1]) (n := 3) (Nat.le_of_ble_eq_true rfl)
  rw [lg_entry_eq]
  generalize (lg_sl ([.ref (a0 0), .int p1]) ++ List.replicate (3 - (lg_sl ([.ref (a0 0), .int p1])).length) Slot.unset).toArray = ls at hl ⊢
  have hl : lv_has ls 3 [(0, .ref (a0 0)), (1, .int p1)] := hl
  rw [f_X7_askedTold] at hM
  refine lv_aload_n hx hb dX7_askedTold_0 rfl (lv_at hl 0 rfl) ?_
  refine lv_iconst (v := (0 : Int32)) hx hb dX7_askedTold_1 (by decide) ?_
  refine lv_iload_n hx hb dX7_askedTold_2 rfl (lv_at hl 1 rfl) ?_
  refine rSR (wc := ([] : va_W)) (As := [.int p1]) (rest := [.int (0 : Int32), .ref (a0 0)]) hS (c_X7_mostOf l g p1) gX7_askedTold_X7_mostOf rfl hd_X7_mostOf ⟨Nat.le_of_ble_eq_true rfl, Nat.le_of_ble_eq_true rfl⟩ hK (hP_nil) rfl hl.1 rfl (Nat.le_of_ble_eq_true rfl) dX7_askedTold_3 ⟨Nat.zero_le _, Nat.zero_le _⟩ ?_
  obtain ⟨q3, h2, hM⟩ := bd hM
  refine rVWp (wc := (wXM g a0 U0 V0 M0 R0 kv tv)) (wq := (wXM g a0 U0 q3.2 M0 R0 kv tv)) (As := [.int (0 : Int32), .int (f_X7_mostOf p1)]) (rest := []) (q0 := 0) hS (c_X7_tells l g a0 kv tv U0 V0 M0 R0 (0 : Int32) (f_X7_mostOf p1) h2) gX7_askedTold_X7_tells rfl hd_X7_tells ⟨Nat.le_of_ble_eq_true rfl, Nat.le_of_ble_eq_true rfl⟩ hK hw hA (pm_1_0 _) rfl (pm_1_0 _) rfl rfl rfl rfl hl.1 rfl (Nat.le_of_ble_eq_true rfl) dX7_askedTold_6 ⟨Nat.zero_le _, Nat.zero_le _⟩ (fun H locs hw => ?_)
  refine lv_istore_n (lv' := [(2, .int q3.1), (0, .ref (a0 0)), (1, .int p1)]) hx hb dX7_askedTold_9 rfl hl (by decide) rfl (fun ls hl => ?_)
  refine lv_aload_n hx hb dX7_askedTold_10 rfl (lv_at hl 1 rfl) ?_
  refine wk_get hx hb hts hin_X7 hown hK hw.1 7 0 17 (.ref (a0 7)) rfl rfl (by decide) (mi 1 rfl) rfl rfl dX7_askedTold_11 ?_
  refine lv_iload_n hx hb dX7_askedTold_14 rfl (lv_at hl 2 rfl) ?_
  refine lv_iload_n hx hb dX7_askedTold_15 rfl (lv_at hl 0 rfl) ?_
  refine lv_if_eq (tgt := 28) hx hb dX7_askedTold_16 (by decide) (fun c4 => ?_) (fun c4 => ?_)
  · replace hM := itp c4 hM
    refine lv_aload_n hx hb dX7_askedTold_28 rfl (lv_at hl 1 rfl) ?_
    refine wk_get hx hb hts hin_X7 hown hK hw.1 7 0 17 (.ref (a0 7)) rfl rfl (by decide) (mi 1 rfl) rfl rfl dX7_askedTold_29 ?_
    refine lv_iload_n hx hb dX7_askedTold_32 rfl (lv_at hl 2 rfl) ?_
    obtain ⟨k5, hM⟩ := ck hM
    refine wk_iald hx hb hK hw.1 7 3 (U0 17) rfl k5 dX7_askedTold_33 ?_
    refine wk_iast (wq := (wXM g a0 (up U0 17 (upd (U0 17) (p1).toNatClampNeg ((U0 17) (p1).toNatClampNeg))) q3.2 M0 R0 kv tv)) hx hb hK hw 7 3 (U0 17) rfl k5 dX7_askedTold_34 rfl (fun H locs hw => ?_)
    refine lv_iload_n hx hb dX7_askedTold_35 rfl (lv_at hl 0 rfl) ?_
    obtain rfl := Option.some.inj hM
    exact W.zret hx hb hr (nz (bz_X7_tells h2)) (fun t ht _ => ⟨rfl, by rw [ht]; exact hw.1, hw.2.2.F ht⟩) hw.2.2.2.2 dX7_askedTold_36
  · replace hM := itn c4 hM
    refine lv_aload_n hx hb dX7_askedTold_19 rfl (lv_at hl 1 rfl) ?_
    refine wk_get hx hb hts hin_X7 hown hK hw.1 7 0 27 (.ref (a0 17)) rfl rfl (by decide) (mi 2 rfl) rfl rfl dX7_askedTold_20 ?_
    refine lv_iconst (v := (0 : Int32)) hx hb dX7_askedTold_23 (by decide) ?_
    refine wk_iald hx hb hK hw.1 17 2 (q3.2 27) rfl (by decide) dX7_askedTold_24 ?_
    refine lv_goto (tgt := 34) hx hb dX7_askedTold_25 (by decide) ?_
    obtain ⟨k6, hM⟩ := ck hM
    refine wk_iast (wq := (wXM g a0 (up U0 17 (upd (U0 17) (p1).toNatClampNeg ((q3.2 27) ((0 : Int32)).toNatClampNeg))) q3.2 M0 R0 kv tv)) hx hb hK hw 7 3 (U0 17) rfl k6 dX7_askedTold_34 rfl (fun H locs hw => ?_)
    refine lv_iload_n hx hb dX7_askedTold_35 rfl (lv_at hl 0 rfl) ?_
    obtain rfl := Option.some.inj hM
    exact W.zret hx hb hr (nz (bz_X7_tells h2)) (fun t ht _ => ⟨rfl, by rw [ht]; exact hw.1, hw.2.2.F ht⟩) hw.2.2.2.2 dX7_askedTold_36
theorem hd_X7_isSight : yX7_isSight.cls = RX7 ∧ yX7_isSight.cls ≠ "java/lang/invoke/MethodHandle" ∧ yX7_isSight.cls ≠ "java/lang/invoke/VarHandle" ∧ (parseMethodDescriptor yX7_isSight.desc).map (fun d => d.parameters.length) = some 1 := by decide +kernel
set_option maxHeartbeats 4000000 in
set_option maxRecDepth 100000 in
theorem c_X7_isSight (l : Launch) (g : Gm) (a0 : Nat → Nat) (Fw0 : Nat → Value) (U0 : TS) (p1 : Int32) : MR l yX7_isSight wsX7_isSight 1 25 g [.ref (a0 0), .int p1] (wXT g a0 Fw0 U0) (some (.int (f_X7_isSight U0 p1))) := by
  refine Met.ofW (cc := cX7_isSight) (maxL := 2) (ret := (some .boolean)) (by decide) rfl ?_
  intro p e s m args below meth c s₁ B hml hv
  obtain ⟨rfl, hP, hK⟩ := hv
  have hx := B.exec; have hb := B.bytes; have hr := B.returns
  have hts := atoms_spec (ws := wsX7_isSight) B.pre
  have hown : s.vm.findClass RX7 = some m.cls := findClass_of_methodNamed B.named
  have hlocks := B.notSynchronized
  have hS : CallFix p m c cX7_isSight 2 s _ wsX7_isSight RX7 := ⟨hx, hb, hml, hown, hts⟩
  have hin_X7 : ∀ w ∈ wsX70, w ∈ wsX7_isSight := fun w h => (List.mem_cons_of_mem _ (List.mem_append_right _ h))
  have hl := lv_entry ([.ref (a0 0), .int p1]) (n := 2) (Nat.le_of_ble_eq_true rfl)
  rw [lg_entry_eq]
  generalize (lg_sl ([.ref (a0 0), .int p1]) ++ List.replicate (2 - (lg_sl ([.ref (a0 0), .int p1])).length) Slot.unset).toArray = ls at hl ⊢
  have hl : lv_has ls 2 [(0, .ref (a0 0)), (1, .int p1)] := hl
  obtain ⟨rr, hM⟩ : ∃ rr, f_X7_isSight U0 p1 = rr := ⟨_, rfl⟩
  rw [hM]
  rw [f_X7_isSight] at hM
  refine lv_iload_n hx hb dX7_isSight_0 rfl (lv_at hl 1 rfl) ?_
  refine lv_i2l (v := ((p1).toInt64)) hx hb dX7_isSight_1 rfl ?_
  refine lv_lconst (v := (0 : Int64)) hx hb dX7_isSight_2 (by decide) ?_
  refine lv_aload_n hx hb dX7_isSight_3 rfl (lv_at hl 0 rfl) ?_
  refine wk_get hx hb hts hin_X7 hown hK hP 7 0 9 (.int (U0 9 0)) rfl rfl (by decide) (mi 1 rfl) rfl rfl dX7_isSight_4 ?_
  refine lv_iconst (v := (1 : Int32)) hx hb dX7_isSight_7 (by decide) ?_
  refine lv_isub hx hb dX7_isSight_8 ?_
  refine lv_i2l (v := ((((U0 9 0) - (1 : Int32))).toInt64)) hx hb dX7_isSight_9 rfl ?_
  refine rSR (wc := ([] : va_W)) (As := [.long ((p1).toInt64), .long (0 : Int64), .long ((((U0 9 0) - (1 : Int32))).toInt64)]) (rest := []) hS (c_X7_in l g ((p1).toInt64) (0 : Int64) ((((U0 9 0) - (1 : Int32))).toInt64)) gX7_isSight_X7_in rfl hd_X7_in ⟨Nat.le_of_ble_eq_true rfl, Nat.le_of_ble_eq_true rfl⟩ hK (hP_nil) rfl hl.1 rfl (Nat.le_of_ble_eq_true rfl) dX7_isSight_10 ⟨Nat.zero_le _, Nat.zero_le _⟩ ?_
  subst hM
  exact W.zret hx hb hr (nz (bz_X7_in ((p1).toInt64) (0 : Int64) ((((U0 9 0) - (1 : Int32))).toInt64))) (fun t ht _ => ⟨rfl, ht⟩) (fun q hq => by cases hq) dX7_isSight_13
theorem hd_X7_barredOf : yX7_barredOf.cls = RX7 ∧ yX7_barredOf.cls ≠ "java/lang/invoke/MethodHandle" ∧ yX7_barredOf.cls ≠ "java/lang/invoke/VarHandle" ∧ (parseMethodDescriptor yX7_barredOf.desc).map (fun d => d.parameters.length) = some 1 := by decide +kernel
set_option maxHeartbeats 4000000 in
set_option maxRecDepth 100000 in
theorem c_X7_barredOf (l : Launch) (g : Gm) (a0 : Nat → Nat) (Fw0 : Nat → Value) (U0 : TS) (p1 : Int32) {q : Int32} (hM : f_X7_barredOf U0 p1 = some q) : MR l yX7_barredOf wsX7_barredOf 1 21 g [.ref (a0 0), .int p1] (wXT g a0 Fw0 U0) (some (.int q)) := by
  refine Met.ofW (cc := cX7_barredOf) (maxL := 4) (ret := (some .int)) (by decide) rfl ?_
  intro p e s m args below meth c s₁ B hml hv
  obtain ⟨rfl, hP, hK⟩ := hv
  have hx := B.exec; have hb := B.bytes; have hr := B.returns
  have hts := atoms_spec (ws := wsX7_barredOf) B.pre
  have hown : s.vm.findClass RX7 = some m.cls := findClass_of_methodNamed B.named
  have hlocks := B.notSynchronized
  have hS : CallFix p m c cX7_barredOf 4 s _ wsX7_barredOf RX7 := ⟨hx, hb, hml, hown, hts⟩
  have hin_X7 : ∀ w ∈ wsX70, w ∈ wsX7_barredOf := fun w h => (List.mem_cons_of_mem _ (List.mem_append_right _ h))
  have hl := lv_entry ([.ref (a0 0), .int p1]) (n := 4) (Nat.le_of_ble_eq_true rfl)
  rw [lg_entry_eq]
  generalize (lg_sl ([.ref (a0 0), .int p1]) ++ List.replicate (4 - (lg_sl ([.ref (a0 0), .int p1])).length) Slot.unset).toArray = ls at hl ⊢
  have hl : lv_has ls 4 [(0, .ref (a0 0)), (1, .int p1)] := hl
  rw [f_X7_barredOf] at hM
  refine lv_iconst (v := (0 : Int32)) hx hb dX7_barredOf_0 (by decide) ?_
  refine lv_istore_n (lv' := [(2, .int (0 : Int32)), (0, .ref (a0 0)), (1, .int p1)]) hx hb dX7_barredOf_1 rfl hl (by decide) rfl (fun ls hl => ?_)
  refine lv_iconst (v := (0 : Int32)) hx hb dX7_barredOf_2 (by decide) ?_
  refine lv_istore_n (lv' := [(3, .int (0 : Int32)), (2, .int (0 : Int32)), (0, .ref (a0 0)), (1, .int p1)]) hx hb dX7_barredOf_3 rfl hl (by decide) rfl (fun ls hl => ?_)
  obtain ⟨q3, hL4, hM⟩ := bd hM
  have hJ4 : ∀ (ls : Array Slot), lv_has ls 4 [(2, .int q3)] → W p l e (headSpec wsX7_barredOf ({ frames := 1, cells := 0, slots := 0, locals := 21 } : Room)).room s m ([.ref (a0 0), .int p1] : List Value).toArray below meth c s.heap [] 0 0 (MQ below (QcR (some (.int q))) ([.ref (a0 0), .int p1] : List Value).toArray s 0 0 (fun _ => False)) (F0 m 40 ls []) := by
    intro ls hl
    refine lv_iload_n hx hb dX7_barredOf_40 rfl (lv_at hl 0 rfl) ?_
    obtain rfl := Option.some.inj hM
    exact W.iret hx hb hr (fun t ht _ => ⟨rfl, ht⟩) (fun q hq => by cases hq) dX7_barredOf_41
  have hW4 : ∀ (n : Nat) (v3_1 : Int32) (v2_2 : Int32), L_X7_barredOf_4 U0 p1 n v3_1 v2_2 = some q3 → ∀ (ls : Array Slot), lv_has ls 4 [(3, .int v3_1), (2, .int v2_2), (0, .ref (a0 0)), (1, .int p1)] → W p l e (headSpec wsX7_barredOf ({ frames := 1, cells := 0, slots := 0, locals := 21 } : Room)).room s m ([.ref (a0 0), .int p1] : List Value).toArray below meth c s.heap [] 0 0 (MQ below (QcR (some (.int q))) ([.ref (a0 0), .int p1] : List Value).toArray s 0 0 (fun _ => False)) (F0 m 4 ls []) := by
    intro n
    induction n with
    | zero => intro v3_1 v2_2 hM; rw [L_X7_barredOf_4] at hM; exact nn hM
    | succ n ih4 =>
      intro v3_1 v2_2 hM ls hl
      rw [L_X7_barredOf_4] at hM
      refine lv_iload_n hx hb dX7_barredOf_4 rfl (lv_at hl 0 rfl) ?_
      refine lv_aload_n hx hb dX7_barredOf_5 rfl (lv_at hl 2 rfl) ?_
      refine wk_get hx hb hts hin_X7 hown hK hP 7 0 10 (.int (U0 10 0)) rfl rfl (by decide) (mi 1 rfl) rfl rfl dX7_barredOf_6 ?_
      refine lv_icmp_ge (tgt := 40) hx hb dX7_barredOf_9 (by decide) (fun c4 => ?_) (fun c4 => ?_)
      · replace hM := itp c4 hM
        obtain rfl := Option.some.inj hM
        exact hJ4 _ (lv_sub hl [1] rfl)
      · replace hM := itn c4 hM
        refine lv_iload_n hx hb dX7_barredOf_12 rfl (lv_at hl 1 rfl) ?_
        refine lv_aload_n hx hb dX7_barredOf_13 rfl (lv_at hl 2 rfl) ?_
        refine lv_iload_n hx hb dX7_barredOf_14 rfl (lv_at hl 0 rfl) ?_
        obtain ⟨q6, h5, hM⟩ := bd hM
        refine rVR (wc := (wXT g a0 Fw0 U0)) (As := [.int v3_1]) (rest := [.int v2_2]) (q0 := 0) hS (c_X7_barredBy l g a0 Fw0 U0 v3_1 h5) gX7_barredOf_X7_barredBy rfl hd_X7_barredBy ⟨Nat.le_of_ble_eq_true rfl, Nat.le_of_ble_eq_true rfl⟩ hK (va_P.pm hP (pm_1_0 _)) rfl rfl rfl rfl hl.1 rfl (Nat.le_of_ble_eq_true rfl) dX7_barredOf_15 ⟨Nat.zero_le _, Nat.zero_le _⟩ ?_
        refine lv_iload_n hx hb dX7_barredOf_18 rfl (lv_at hl 3 rfl) ?_
        refine rSR (wc := ([] : va_W)) (As := [.int q6, .int p1]) (rest := [.int v2_2]) hS (c_X7_has l g q6 p1) gX7_barredOf_X7_has rfl hd_X7_has ⟨Nat.le_of_ble_eq_true rfl, Nat.le_of_ble_eq_true rfl⟩ hK (hP_nil) rfl hl.1 rfl (Nat.le_of_ble_eq_true rfl) dX7_barredOf_19 ⟨Nat.zero_le _, Nat.zero_le _⟩ ?_
        have hJ14 : ∀ (x13 : Int32) (ls : Array Slot), x13 = (if (f_X7_has q6 p1) = 0 then (0 : Int32) else ((1 : Int32) <<< (v3_1 &&& 31))) → lv_has ls 4 [(3, .int v3_1), (0, .ref (a0 0)), (1, .int p1)] → W p l e (headSpec wsX7_barredOf ({ frames := 1, cells := 0, slots := 0, locals := 21 } : Room)).room s m ([.ref (a0 0), .int p1] : List Value).toArray below meth c s.heap [] 0 0 (MQ below (QcR (some (.int q))) ([.ref (a0 0), .int p1] : List Value).toArray s 0 0 (fun _ => False)) (F0 m 32 ls [.int x13, .int v2_2]) := by
          intro x13 ls hxx13 hl
          subst hxx13
          refine lv_ior hx hb dX7_barredOf_32 ?_
          refine lv_istore_n (lv' := [(2, .int (v2_2 ||| (if (f_X7_has q6 p1) = 0 then (0 : Int32) else ((1 : Int32) <<< (v3_1 &&& 31))))), (3, .int v3_1), (0, .ref (a0 0)), (1, .int p1)]) hx hb dX7_barredOf_33 rfl hl (by decide) rfl (fun ls hl => ?_)
          refine lv_iinc (v := (v3_1 + (1 : Int32))) (lv' := [(3, .int (v3_1 + (1 : Int32))), (2, .int (v2_2 ||| (if (f_X7_has q6 p1) = 0 then (0 : Int32) else ((1 : Int32) <<< (v3_1 &&& 31))))), (0, .ref (a0 0)), (1, .int p1)]) hx hb dX7_barredOf_34 hl (k := 1) rfl rfl (by decide) rfl (fun ls hl => ?_)
          refine lv_goto (tgt := 4) hx hb dX7_barredOf_37 (by decide) ?_
          exact ih4 (v3_1 + (1 : Int32)) (v2_2 ||| (if (f_X7_has q6 p1) = 0 then (0 : Int32) else ((1 : Int32) <<< (v3_1 &&& 31)))) hM _ (lv_sub hl [0, 1, 2, 3] rfl)
        refine lv_if_eq (tgt := 31) hx hb dX7_barredOf_22 (by decide) (fun c8 => ?_) (fun c8 => ?_)
        · refine lv_iconst (v := (0 : Int32)) hx hb dX7_barredOf_31 (by decide) ?_
          exact hJ14 _ _ (by first | with_reducible rfl | (simp only [if_pos c8]) | rfl) (lv_sub hl [0, 2, 3] rfl)
        · refine lv_iconst (v := (1 : Int32)) hx hb dX7_barredOf_25 (by decide) ?_
          refine lv_iload_n hx hb dX7_barredOf_26 rfl (lv_at hl 0 rfl) ?_
          refine lv_ishl hx hb dX7_barredOf_27 ?_
          refine lv_goto (tgt := 32) hx hb dX7_barredOf_28 (by decide) ?_
          exact hJ14 _ _ (by first | with_reducible rfl | (simp only [if_neg c8]) | rfl) (lv_sub hl [0, 2, 3] rfl)
  exact hW4 300 (0 : Int32) (0 : Int32) hL4 _ (lv_sub hl [0, 1, 2, 3] rfl)
theorem hd_X7_barred : yX7_barred.cls = RX7 ∧ yX7_barred.cls ≠ "java/lang/invoke/MethodHandle" ∧ yX7_barred.cls ≠ "java/lang/invoke/VarHandle" ∧ (parseMethodDescriptor yX7_barred.desc).map (fun d => d.parameters.length) = some 1 := by decide +kernel
set_option maxHeartbeats 4000000 in
set_option maxRecDepth 100000 in
theorem c_X7_barred (l : Launch) (g : Gm) (a0 : Nat → Nat) (kv : Value) (tv : Value) (U0 : TS) (V0 : TS) (M0 : LTS) (R0 : LTS) (p1 : Int32) {q : (Int32 × TS)} (hM : f_X7_barred U0 V0 M0 R0 p1 = some q) : MW l yX7_barred wsX7_barred 2 46 g [.ref (a0 0), .int p1] (wXM g a0 U0 V0 M0 R0 kv tv) (some (.int q.1)) (wXM g a0 U0 q.2 M0 R0 kv tv) := by
  intro sz
  refine Met.ofW (cc := cX7_barred) (maxL := 2) (ret := (some .int)) (by decide) rfl ?_
  intro p e s m args below meth c s₁ B hml hv
  obtain ⟨rfl, hsz, hP, hK, hD0⟩ := hv
  have hx := B.exec; have hb := B.bytes; have hr := B.returns
  have hts := atoms_spec (ws := wsX7_barred) B.pre
  have hown : s.vm.findClass RX7 = some m.cls := findClass_of_methodNamed B.named
  have hlocks := B.notSynchronized
  have hS : CallFix p m c cX7_barred 2 s _ wsX7_barred RX7 := ⟨hx, hb, hml, hown, hts⟩
  subst hsz
  have hw := wk_start hP hD0
  have hA : ∀ q : Nat, s.heap.size ≤ q → va_A (wXM g a0 U0 V0 M0 R0 kv tv) s.heap.size q := fun q h => Or.inr h
  generalize va_A (wXM g a0 U0 V0 M0 R0 kv tv) s.heap.size = A at hw hA ⊢
  clear hP hD0
  have hl := lv_entry ([.ref (a0 0), .int p1]) (n := 2) (Nat.le_of_ble_eq_true rfl)
  rw [lg_entry_eq]
  generalize (lg_sl ([.ref (a0 0), .int p1]) ++ List.replicate (2 - (lg_sl ([.ref (a0 0), .int p1])).length) Slot.unset).toArray = ls at hl ⊢
  have hl : lv_has ls 2 [(0, .ref (a0 0)), (1, .int p1)] := hl
  rw [f_X7_barred] at hM
  refine lv_aload_n hx hb dX7_barred_0 rfl (lv_at hl 0 rfl) ?_
  refine lv_iload_n hx hb dX7_barred_1 rfl (lv_at hl 1 rfl) ?_
  refine rVR (wc := (wXT g a0 (fm a0 V0 kv tv) U0)) (As := [.int p1]) (rest := []) (q0 := 0) hS (c_X7_isSight l g a0 (fm a0 V0 kv tv) U0 p1) gX7_barred_X7_isSight rfl hd_X7_isSight ⟨Nat.le_of_ble_eq_true rfl, Nat.le_of_ble_eq_true rfl⟩ hK (va_P.pm hw.1 (pmX1 _ _ _ _ _ _ _ _)) rfl rfl rfl rfl hl.1 rfl (Nat.le_of_ble_eq_true rfl) dX7_barred_2 ⟨Nat.zero_le _, Nat.zero_le _⟩ ?_
  refine lv_if_eq (tgt := 16) hx hb dX7_barred_5 (by decide) (fun c2 => ?_) (fun c2 => ?_)
  · replace hM := itp c2 hM
    refine lv_aload_n hx hb dX7_barred_16 rfl (lv_at hl 0 rfl) ?_
    refine lv_bipush (v := (-2 : Int32)) hx hb dX7_barred_17 (by decide) ?_
    obtain ⟨q4, h3, hM⟩ := bd hM
    refine rVWp (wc := (wXM g a0 U0 V0 M0 R0 kv tv)) (wq := (wXM g a0 U0 q4.2 M0 R0 kv tv)) (As := [.int (-2 : Int32)]) (rest := []) (q0 := 0) hS (c_X7_refuse l g a0 kv tv U0 V0 M0 R0 (-2 : Int32) h3) gX7_barred_X7_refuse rfl hd_X7_refuse ⟨Nat.le_of_ble_eq_true rfl, Nat.le_of_ble_eq_true rfl⟩ hK hw hA (pm_1_0 _) rfl (pm_1_0 _) rfl rfl rfl rfl hl.1 rfl (Nat.le_of_ble_eq_true rfl) dX7_barred_19 ⟨Nat.zero_le _, Nat.zero_le _⟩ (fun H locs hw => ?_)
    obtain rfl := Option.some.inj hM
    exact W.iret hx hb hr (fun t ht _ => ⟨rfl, by rw [ht]; exact hw.1, hw.2.2.F ht⟩) hw.2.2.2.2 dX7_barred_22
  · replace hM := itn c2 hM
    refine lv_aload_n hx hb dX7_barred_8 rfl (lv_at hl 0 rfl) ?_
    refine lv_iload_n hx hb dX7_barred_9 rfl (lv_at hl 1 rfl) ?_
    obtain ⟨q6, h5, hM⟩ := bd hM
    refine rVR (wc := (wXT g a0 (fm a0 V0 kv tv) U0)) (As := [.int p1]) (rest := []) (q0 := 0) hS (c_X7_barredOf l g a0 (fm a0 V0 kv tv) U0 p1 h5) gX7_barred_X7_barredOf rfl hd_X7_barredOf ⟨Nat.le_of_ble_eq_true rfl, Nat.le_of_ble_eq_true rfl⟩ hK (va_P.pm hw.1 (pmX1 _ _ _ _ _ _ _ _)) rfl rfl rfl rfl hl.1 rfl (Nat.le_of_ble_eq_true rfl) dX7_barred_10 ⟨Nat.zero_le _, Nat.zero_le _⟩ ?_
    refine lv_goto (tgt := 22) hx hb dX7_barred_13 (by decide) ?_
    obtain rfl := Option.some.inj hM
    exact W.iret hx hb hr (fun t ht _ => ⟨rfl, by rw [ht]; exact hw.1, hw.2.2.F ht⟩) hw.2.2.2.2 dX7_barred_22
theorem hd_X7_below : yX7_below.cls = RX7 ∧ yX7_below.cls ≠ "java/lang/invoke/MethodHandle" ∧ yX7_below.cls ≠ "java/lang/invoke/VarHandle" ∧ (parseMethodDescriptor yX7_below.desc).map (fun d => d.parameters.length) = some 1 := by decide +kernel
set_option maxHeartbeats 4000000 in
set_option maxRecDepth 100000 in
theorem c_X7_below (l : Launch) (g : Gm) (a0 : Nat → Nat) (Fw0 : Nat → Value) (U0 : TS) (p1 : Int32) {q : (Int32 × TS)} (hM : f_X7_below U0 p1 = some q) : MW l yX7_below wsX7_below 0 0 g [.ref (a0 0), .int p1] (wXT g a0 Fw0 U0) (some (.int q.1)) (wXT g a0 Fw0 q.2) := by
  intro sz
  refine Met.ofW (cc := cX7_below) (maxL := 2) (ret := (some .int)) (by decide) rfl ?_
  intro p e s m args below meth c s₁ B hml hv
  obtain ⟨rfl, hsz, hP, hK, hD0⟩ := hv
  have hx := B.exec; have hb := B.bytes; have hr := B.returns
  have hts := atoms_spec (ws := wsX7_below) B.pre
  have hown : s.vm.findClass RX7 = some m.cls := findClass_of_methodNamed B.named
  have hlocks := B.notSynchronized
  have hS : CallFix p m c cX7_below 2 s _ wsX7_below RX7 := ⟨hx, hb, hml, hown, hts⟩
  have hin_X7 : ∀ w ∈ wsX70, w ∈ wsX7_below := fun w h => (List.mem_cons_of_mem _ (List.mem_append_right _ h))
  subst hsz
  have hw := wk_start hP hD0
  have hA : ∀ q : Nat, s.heap.size ≤ q → va_A (wXT g a0 Fw0 U0) s.heap.size q := fun q h => Or.inr h
  generalize va_A (wXT g a0 Fw0 U0) s.heap.size = A at hw hA ⊢
  clear hP hD0
  have hl := lv_entry ([.ref (a0 0), .int p1]) (n := 2) (Nat.le_of_ble_eq_true rfl)
  rw [lg_entry_eq]
  generalize (lg_sl ([.ref (a0 0), .int p1]) ++ List.replicate (2 - (lg_sl ([.ref (a0 0), .int p1])).length) Slot.unset).toArray = ls at hl ⊢
  have hl : lv_has ls 2 [(0, .ref (a0 0)), (1, .int p1)] := hl
  rw [f_X7_below] at hM
  refine lv_aload_n hx hb dX7_below_0 rfl (lv_at hl 0 rfl) ?_
  refine lv_aload_n hx hb dX7_below_1 rfl (lv_at hl 0 rfl) ?_
  refine wk_get hx hb hts hin_X7 hown hK hw.1 7 0 19 (.int (U0 19 0)) rfl rfl (by decide) (mi 1 rfl) rfl rfl dX7_below_2 ?_
  refine lv_ldcw (v := (1103515245 : Int32)) hx hb hown (hts _ (mi 2 rfl)) dX7_below_5 ?_
  refine lv_imul hx hb dX7_below_8 ?_
  refine lv_sipush (v := (12345 : Int32)) hx hb dX7_below_9 (by decide) ?_
  refine lv_iadd hx hb dX7_below_12 ?_
  refine wk_put (wq := (wXT g a0 Fw0 (up U0 19 (fun _ => (((U0 19 0) * (1103515245 : Int32)) + (12345 : Int32)))))) hx hb hts hin_X7 tyX7 tyX7_ok nmX7 hown hK hw 7 0 19 rfl rfl (by decide) (mi 1 rfl) rfl rfl rfl rfl (Nat.le_of_ble_eq_true rfl) dX7_below_13 rfl (fun H locs hw => ?_)
  refine lv_aload_n hx hb dX7_below_16 rfl (lv_at hl 0 rfl) ?_
  refine wk_get hx hb hts hin_X7 hown hK hw.1 7 0 19 (.int (((U0 19 0) * (1103515245 : Int32)) + (12345 : Int32))) rfl rfl (by decide) (mi 1 rfl) rfl rfl dX7_below_17 ?_
  refine lv_bipush (v := (16 : Int32)) hx hb dX7_below_20 (by decide) ?_
  refine lv_iushr (v := (((((U0 19 0) * (1103515245 : Int32)) + (12345 : Int32))).toUInt32 >>> (((16 : Int32)).toUInt32 &&& Int32.toUInt32 31)).toInt32) hx hb dX7_below_22 rfl ?_
  refine lv_iload_n hx hb dX7_below_23 rfl (lv_at hl 1 rfl) ?_
  obtain ⟨k1, hM⟩ := ck hM
  refine lv_irem hx hb dX7_below_24 k1 ?_
  obtain rfl := Option.some.inj hM
  exact W.iret hx hb hr (fun t ht _ => ⟨rfl, by rw [ht]; exact hw.1, hw.2.2.F ht⟩) hw.2.2.2.2 dX7_below_25
