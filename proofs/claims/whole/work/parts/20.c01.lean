theorem hd_X5_knownInAll : yX5_knownInAll.cls = RX5 ∧ yX5_knownInAll.cls ≠ "java/lang/invoke/MethodHandle" ∧ yX5_knownInAll.cls ≠ "java/lang/invoke/VarHandle" ∧ (parseMethodDescriptor yX5_knownInAll.desc).map (fun d => d.parameters.length) = some 0 := by decide +kernel
set_option maxHeartbeats 4000000 in
set_option maxRecDepth 100000 in
theorem c_X5_knownInAll (l : Launch) (g : Gm) (a0 : Nat → Nat) (T0 : TS) {q : Int32} (hM : f_X5_knownInAll T0 = some q) : MR l yX5_knownInAll wsX5_knownInAll 1 21 g [.ref (a0 0)] (wX5 g a0 T0) (some (.int q)) := by
  refine Met.ofW (cc := cX5_knownInAll) (maxL := 3) (ret := (some .int)) (by decide) rfl ?_
  intro p e s m args below meth c s₁ B hml hv
  obtain ⟨rfl, hP, hK⟩ := hv
  have hx := B.exec; have hb := B.bytes; have hr := B.returns
  have hts := atoms_spec (ws := wsX5_knownInAll) B.pre
  have hown : s.vm.findClass RX5 = some m.cls := findClass_of_methodNamed B.named
  have hlocks := B.notSynchronized
  have hS : CallFix p m c cX5_knownInAll 3 s _ wsX5_knownInAll RX5 := ⟨hx, hb, hml, hown, hts⟩
  have hin_X5 : ∀ w ∈ wsX50, w ∈ wsX5_knownInAll := fun w h => (List.mem_cons_of_mem _ (List.mem_append_right _ h))
  have hl := lv_entry ([.ref (a0 0)]) (n := 3) (Nat.le_of_ble_eq_true rfl)
  rw [lg_entry_eq]
  generalize (lg_sl ([.ref (a0 0)]) ++ List.replicate (3 - (lg_sl ([.ref (a0 0)])).length) Slot.unset).toArray = ls at hl ⊢
  have hl : lv_has ls 3 [(0, .ref (a0 0))] := hl
  rw [f_X5_knownInAll] at hM
  refine lv_iconst (v := (0 : Int32)) hx hb dX5_knownInAll_0 (by decide) ?_
  refine lv_istore_n (lv' := [(1, .int (0 : Int32)), (0, .ref (a0 0))]) hx hb dX5_knownInAll_1 rfl hl (by decide) rfl (fun ls hl => ?_)
  refine lv_iconst (v := (0 : Int32)) hx hb dX5_knownInAll_2 (by decide) ?_
  refine lv_istore_n (lv' := [(2, .int (0 : Int32)), (1, .int (0 : Int32)), (0, .ref (a0 0))]) hx hb dX5_knownInAll_3 rfl hl (by decide) rfl (fun ls hl => ?_)
  obtain ⟨q3, hL4, hM⟩ := bd hM
  have hJ4 : ∀ (ls : Array Slot), lv_has ls 3 [(1, .int q3)] → W p l e (headSpec wsX5_knownInAll ({ frames := 1, cells := 0, slots := 0, locals := 21 } : Room)).room s m ([.ref (a0 0)] : List Value).toArray below meth c s.heap [] 0 0 (MQ below (QcR (some (.int q))) ([.ref (a0 0)] : List Value).toArray s 0 0 (fun _ => False)) (F0 m 29 ls []) := by
    intro ls hl
    refine lv_iload_n hx hb dX5_knownInAll_29 rfl (lv_at hl 0 rfl) ?_
    obtain rfl := Option.some.inj hM
    exact W.iret hx hb hr (fun t ht _ => ⟨rfl, ht⟩) (fun q hq => by cases hq) dX5_knownInAll_30
  have hW4 : ∀ (n : Nat) (v2_1 : Int32) (v1_2 : Int32), L_X5_knownInAll_4 T0 n v2_1 v1_2 = some q3 → ∀ (ls : Array Slot), lv_has ls 3 [(2, .int v2_1), (1, .int v1_2), (0, .ref (a0 0))] → W p l e (headSpec wsX5_knownInAll ({ frames := 1, cells := 0, slots := 0, locals := 21 } : Room)).room s m ([.ref (a0 0)] : List Value).toArray below meth c s.heap [] 0 0 (MQ below (QcR (some (.int q))) ([.ref (a0 0)] : List Value).toArray s 0 0 (fun _ => False)) (F0 m 4 ls []) := by
    intro n
    induction n with
    | zero => intro v2_1 v1_2 hM; rw [L_X5_knownInAll_4] at hM; exact nn hM
    | succ n ih4 =>
      intro v2_1 v1_2 hM ls hl
      rw [L_X5_knownInAll_4] at hM
      refine lv_iload_n hx hb dX5_knownInAll_4 rfl (lv_at hl 0 rfl) ?_
      refine lv_aload_n hx hb dX5_knownInAll_5 rfl (lv_at hl 2 rfl) ?_
      refine wk_get hx hb hts hin_X5 hown hK hP 5 0 1 (.int (T0 1 0)) rfl rfl (by decide) (mi 1 rfl) rfl rfl dX5_knownInAll_6 ?_
      refine lv_icmp_ge (tgt := 29) hx hb dX5_knownInAll_9 (by decide) (fun c4 => ?_) (fun c4 => ?_)
      · replace hM := itp c4 hM
        obtain rfl := Option.some.inj hM
        exact hJ4 _ (lv_sub hl [1] rfl)
      · replace hM := itn c4 hM
        refine lv_iload_n hx hb dX5_knownInAll_12 rfl (lv_at hl 1 rfl) ?_
        refine lv_aload_n hx hb dX5_knownInAll_13 rfl (lv_at hl 2 rfl) ?_
        refine lv_iload_n hx hb dX5_knownInAll_14 rfl (lv_at hl 0 rfl) ?_
        obtain ⟨q6, h5, hM⟩ := bd hM
        refine rVR (wc := (wX5 g a0 T0)) (As := [.int v2_1]) (rest := [.int v1_2]) (q0 := 0) hS (c_X5_knownTo l g a0 T0 v2_1 h5) gX5_knownInAll_X5_knownTo rfl hd_X5_knownTo ⟨Nat.le_of_ble_eq_true rfl, Nat.le_of_ble_eq_true rfl⟩ hK (va_P.pm hP (pm_1_0 _)) rfl rfl rfl rfl hl.1 rfl (Nat.le_of_ble_eq_true rfl) dX5_knownInAll_15 ⟨Nat.zero_le _, Nat.zero_le _⟩ ?_
        refine rSR (wc := ([] : va_W)) (As := [.int q6]) (rest := [.int v1_2]) hS (c_J6_bitCount_0f7a4 l g q6) gX5_knownInAll_J6_bitCount_0f7a4 rfl hd_J6_bitCount_0f7a4 ⟨Nat.le_of_ble_eq_true rfl, Nat.le_of_ble_eq_true rfl⟩ hK (hP_nil) rfl hl.1 rfl (Nat.le_of_ble_eq_true rfl) dX5_knownInAll_18 ⟨Nat.zero_le _, Nat.zero_le _⟩ ?_
        refine lv_iadd hx hb dX5_knownInAll_21 ?_
        refine lv_istore_n (lv' := [(1, .int (v1_2 + (f_J6_bitCount_0f7a4 q6))), (2, .int v2_1), (0, .ref (a0 0))]) hx hb dX5_knownInAll_22 rfl hl (by decide) rfl (fun ls hl => ?_)
        refine lv_iinc (v := (v2_1 + (1 : Int32))) (lv' := [(2, .int (v2_1 + (1 : Int32))), (1, .int (v1_2 + (f_J6_bitCount_0f7a4 q6))), (0, .ref (a0 0))]) hx hb dX5_knownInAll_23 hl (k := 1) rfl rfl (by decide) rfl (fun ls hl => ?_)
        refine lv_goto (tgt := 4) hx hb dX5_knownInAll_26 (by decide) ?_
        exact ih4 (v2_1 + (1 : Int32)) (v1_2 + (f_J6_bitCount_0f7a4 q6)) hM _ (lv_sub hl [0, 1, 2] rfl)
  exact hW4 300 (0 : Int32) (0 : Int32) hL4 _ (lv_sub hl [0, 1, 2] rfl)
theorem hd_X5_makeBlind : yX5_makeBlind.cls = RX5 ∧ yX5_makeBlind.cls ≠ "java/lang/invoke/MethodHandle" ∧ yX5_makeBlind.cls ≠ "java/lang/invoke/VarHandle" ∧ (parseMethodDescriptor yX5_makeBlind.desc).map (fun d => d.parameters.length) = some 1 := by decide +kernel
set_option maxHeartbeats 4000000 in
set_option maxRecDepth 100000 in
theorem c_X5_makeBlind (l : Launch) (g : Gm) (a0 : Nat → Nat) (T0 : TS) (p1 : Int32) {q : TS} (hM : f_X5_makeBlind T0 p1 = some q) : MW l yX5_makeBlind wsX5_makeBlind 0 0 g [.ref (a0 0), .int p1] (wX5 g a0 T0) none (wX5 g a0 q) := by
  intro sz
  refine Met.ofW (cc := cX5_makeBlind) (maxL := 2) (ret := none) (by decide) rfl ?_
  intro p e s m args below meth c s₁ B hml hv
  obtain ⟨rfl, hsz, hP, hK, hD0⟩ := hv
  have hx := B.exec; have hb := B.bytes; have hr := B.returns
  have hts := atoms_spec (ws := wsX5_makeBlind) B.pre
  have hown : s.vm.findClass RX5 = some m.cls := findClass_of_methodNamed B.named
  have hlocks := B.notSynchronized
  have hS : CallFix p m c cX5_makeBlind 2 s _ wsX5_makeBlind RX5 := ⟨hx, hb, hml, hown, hts⟩
  have hin_X5 : ∀ w ∈ wsX50, w ∈ wsX5_makeBlind := fun w h => (List.mem_cons_of_mem _ (List.mem_append_right _ h))
  subst hsz
  have hw := wk_start hP hD0
  have hA : ∀ q : Nat, s.heap.size ≤ q → va_A (wX5 g a0 T0) s.heap.size q := fun q h => Or.inr h
  generalize va_A (wX5 g a0 T0) s.heap.size = A at hw hA ⊢
  clear hP hD0
  have hl := lv_entry ([.ref (a0 0), .int p1]) (n := 2) (Nat.le_of_ble_eq_true rfl)
  rw [lg_entry_eq]
  generalize (lg_sl ([.ref (a0 0), .int p1]) ++ List.replicate (2 - (lg_sl ([.ref (a0 0), .int p1])).length) Slot.unset).toArray = ls at hl ⊢
  have hl : lv_has ls 2 [(0, .ref (a0 0)), (1, .int p1)] := hl
  rw [f_X5_makeBlind] at hM
  refine lv_aload_n hx hb dX5_makeBlind_0 rfl (lv_at hl 0 rfl) ?_
  refine wk_get hx hb hts hin_X5 hown hK hw.1 5 0 9 (.ref (a0 3)) rfl rfl (by decide) (mi 1 rfl) rfl rfl dX5_makeBlind_1 ?_
  refine lv_iload_n hx hb dX5_makeBlind_4 rfl (lv_at hl 1 rfl) ?_
  refine lv_dup2_11 hx hb dX5_makeBlind_5 rfl rfl ?_
  obtain ⟨k1, hM⟩ := ck hM
  refine wk_iald hx hb hK hw.1 3 7 (T0 9) rfl k1 dX5_makeBlind_6 ?_
  refine lv_aload_n hx hb dX5_makeBlind_7 rfl (lv_at hl 0 rfl) ?_
  refine wk_get hx hb hts hin_X5 hown hK hw.1 5 0 7 (.ref (a0 1)) rfl rfl (by decide) (mi 2 rfl) rfl rfl dX5_makeBlind_8 ?_
  refine lv_iload_n hx hb dX5_makeBlind_11 rfl (lv_at hl 1 rfl) ?_
  refine wk_iald hx hb hK hw.1 1 7 (T0 7) rfl k1 dX5_makeBlind_12 ?_
  refine lv_aload_n hx hb dX5_makeBlind_13 rfl (lv_at hl 0 rfl) ?_
  refine wk_get hx hb hts hin_X5 hown hK hw.1 5 0 8 (.ref (a0 2)) rfl rfl (by decide) (mi 3 rfl) rfl rfl dX5_makeBlind_14 ?_
  refine lv_iload_n hx hb dX5_makeBlind_17 rfl (lv_at hl 1 rfl) ?_
  refine wk_iald hx hb hK hw.1 2 7 (T0 8) rfl k1 dX5_makeBlind_18 ?_
  refine lv_ior hx hb dX5_makeBlind_19 ?_
  refine lv_ior hx hb dX5_makeBlind_20 ?_
  refine wk_iast (wq := (wX5 g a0 (up T0 9 (upd (T0 9) (p1).toNatClampNeg (((T0 9) (p1).toNatClampNeg) ||| (((T0 7) (p1).toNatClampNeg) ||| ((T0 8) (p1).toNatClampNeg))))))) hx hb hK hw 3 7 (T0 9) rfl k1 dX5_makeBlind_21 rfl (fun H locs hw => ?_)
  refine lv_aload_n hx hb dX5_makeBlind_22 rfl (lv_at hl 0 rfl) ?_
  refine wk_get hx hb hts hin_X5 hown hK hw.1 5 0 7 (.ref (a0 1)) rfl rfl (by decide) (mi 2 rfl) rfl rfl dX5_makeBlind_23 ?_
  refine lv_iload_n hx hb dX5_makeBlind_26 rfl (lv_at hl 1 rfl) ?_
  refine lv_iconst (v := (0 : Int32)) hx hb dX5_makeBlind_27 (by decide) ?_
  refine wk_iast (wq := (wX5 g a0 (up (up T0 9 (upd (T0 9) (p1).toNatClampNeg (((T0 9) (p1).toNatClampNeg) ||| (((T0 7) (p1).toNatClampNeg) ||| ((T0 8) (p1).toNatClampNeg))))) 7 (upd (T0 7) (p1).toNatClampNeg (0 : Int32))))) hx hb hK hw 1 7 (T0 7) rfl k1 dX5_makeBlind_28 rfl (fun H locs hw => ?_)
  refine lv_aload_n hx hb dX5_makeBlind_29 rfl (lv_at hl 0 rfl) ?_
  refine wk_get hx hb hts hin_X5 hown hK hw.1 5 0 8 (.ref (a0 2)) rfl rfl (by decide) (mi 3 rfl) rfl rfl dX5_makeBlind_30 ?_
  refine lv_iload_n hx hb dX5_makeBlind_33 rfl (lv_at hl 1 rfl) ?_
  refine lv_iconst (v := (0 : Int32)) hx hb dX5_makeBlind_34 (by decide) ?_
  refine wk_iast (wq := (wX5 g a0 (up (up (up T0 9 (upd (T0 9) (p1).toNatClampNeg (((T0 9) (p1).toNatClampNeg) ||| (((T0 7) (p1).toNatClampNeg) ||| ((T0 8) (p1).toNatClampNeg))))) 7 (upd (T0 7) (p1).toNatClampNeg (0 : Int32))) 8 (upd (T0 8) (p1).toNatClampNeg (0 : Int32))))) hx hb hK hw 2 7 (T0 8) rfl k1 dX5_makeBlind_35 rfl (fun H locs hw => ?_)
  refine lv_aload_n hx hb dX5_makeBlind_36 rfl (lv_at hl 0 rfl) ?_
  refine wk_get hx hb hts hin_X5 hown hK hw.1 5 0 11 (.ref (a0 5)) rfl rfl (by decide) (mi 4 rfl) rfl rfl dX5_makeBlind_37 ?_
  refine lv_iload_n hx hb dX5_makeBlind_40 rfl (lv_at hl 1 rfl) ?_
  refine lv_iconst (v := (4 : Int32)) hx hb dX5_makeBlind_41 (by decide) ?_
  refine wk_iast (wq := (wX5 g a0 (up (up (up (up T0 9 (upd (T0 9) (p1).toNatClampNeg (((T0 9) (p1).toNatClampNeg) ||| (((T0 7) (p1).toNatClampNeg) ||| ((T0 8) (p1).toNatClampNeg))))) 7 (upd (T0 7) (p1).toNatClampNeg (0 : Int32))) 8 (upd (T0 8) (p1).toNatClampNeg (0 : Int32))) 11 (upd (T0 11) (p1).toNatClampNeg (4 : Int32))))) hx hb hK hw 5 7 (T0 11) rfl k1 dX5_makeBlind_42 rfl (fun H locs hw => ?_)
  obtain rfl := Option.some.inj hM
  exact W.vret hx hb hr (fun t ht _ => ⟨rfl, by rw [ht]; exact hw.1, hw.2.2.F ht⟩) hw.2.2.2.2 dX5_makeBlind_43
theorem hd_X5_mostOf : yX5_mostOf.cls ≠ "java/lang/invoke/MethodHandle" ∧ yX5_mostOf.cls ≠ "java/lang/invoke/VarHandle" ∧ (parseMethodDescriptor yX5_mostOf.desc).map (fun d => d.parameters.length) = some 1 := by decide +kernel
set_option maxHeartbeats 4000000 in
set_option maxRecDepth 100000 in
theorem c_X5_mostOf (l : Launch) (g : Gm) (p0 : Int32) : MR l yX5_mostOf wsX5_mostOf 0 0 g [.int p0] ([] : va_W) (some (.int (f_X5_mostOf p0))) := by
  refine Met.ofW (cc := cX5_mostOf) (maxL := 1) (ret := (some .int)) (by decide) rfl ?_
  intro p e s m args below meth c s₁ B hml hv
  obtain ⟨rfl, hP, hK⟩ := hv
  have hx := B.exec; have hb := B.bytes; have hr := B.returns
  have hts := atoms_spec (ws := wsX5_mostOf) B.pre
  have hown : s.vm.findClass RX5 = some m.cls := findClass_of_methodNamed B.named
  have hlocks := B.notSynchronized
  have hS : CallFix p m c cX5_mostOf 1 s _ wsX5_mostOf RX5 := ⟨hx, hb, hml, hown, hts⟩
  have hl := lv_entry ([.int p0]) (n := 1) (Nat.le_of_ble_eq_true rfl)
  rw [lg_entry_eq]
  generalize (lg_sl ([.int p0]) ++ List.replicate (1 - (lg_sl ([.int p0])).length) Slot.unset).toArray = ls at hl ⊢
  have hl : lv_has ls 1 [(0, .int p0)] := hl
  obtain ⟨rr, hM⟩ : ∃ rr, f_X5_mostOf p0 = rr := ⟨_, rfl⟩
  rw [hM]
  rw [f_X5_mostOf] at hM
  refine lv_iload_n hx hb dX5_mostOf_0 rfl (lv_at hl 0 rfl) ?_
  have hJ7 : ∀ (x6 : Int32) (ls : Array Slot), x6 = (if p0 = 0 then (1 : Int32) else (9 : Int32)) → lv_has ls 1 [] → W p l e (headSpec wsX5_mostOf ({ frames := 0, cells := 0, slots := 0, locals := 0 } : Room)).room s m ([.int p0] : List Value).toArray below meth c s.heap [] 0 0 (MQ below (QcR (some (.int rr))) ([.int p0] : List Value).toArray s 0 0 (fun _ => False)) (F0 m 10 ls [.int x6]) := by
    intro x6 ls hxx6 hl
    subst hxx6
    subst hM
    exact W.iret hx hb hr (fun t ht _ => ⟨rfl, ht⟩) (fun q hq => by cases hq) dX5_mostOf_10
  refine lv_if_ne (tgt := 8) hx hb dX5_mostOf_1 (by decide) (fun c1 => ?_) (fun c1 => ?_)
  · refine lv_bipush (v := (9 : Int32)) hx hb dX5_mostOf_8 (by decide) ?_
    exact hJ7 _ _ (by first | rfl | (simp only [if_neg c1])) (lv_sub hl [] rfl)
  · refine lv_iconst (v := (1 : Int32)) hx hb dX5_mostOf_4 (by decide) ?_
    refine lv_goto (tgt := 10) hx hb dX5_mostOf_5 (by decide) ?_
    exact hJ7 _ _ (by first | rfl | (simp only [if_pos c1])) (lv_sub hl [] rfl)
theorem hd_X5_pairsHearing : yX5_pairsHearing.cls = RX5 ∧ yX5_pairsHearing.cls ≠ "java/lang/invoke/MethodHandle" ∧ yX5_pairsHearing.cls ≠ "java/lang/invoke/VarHandle" ∧ (parseMethodDescriptor yX5_pairsHearing.desc).map (fun d => d.parameters.length) = some 0 := by decide +kernel
set_option maxHeartbeats 4000000 in
set_option maxRecDepth 100000 in
theorem c_X5_pairsHearing (l : Launch) (g : Gm) (a0 : Nat → Nat) (T0 : TS) {q : Int32} (hM : f_X5_pairsHearing T0 = some q) : MR l yX5_pairsHearing wsX5_pairsHearing 1 21 g [.ref (a0 0)] (wX5 g a0 T0) (some (.int q)) := by
  refine Met.ofW (cc := cX5_pairsHearing) (maxL := 4) (ret := (some .int)) (by decide) rfl ?_
  intro p e s m args below meth c s₁ B hml hv
  obtain ⟨rfl, hP, hK⟩ := hv
  have hx := B.exec; have hb := B.bytes; have hr := B.returns
  have hts := atoms_spec (ws := wsX5_pairsHearing) B.pre
  have hown : s.vm.findClass RX5 = some m.cls := findClass_of_methodNamed B.named
  have hlocks := B.notSynchronized
  have hS : CallFix p m c cX5_pairsHearing 4 s _ wsX5_pairsHearing RX5 := ⟨hx, hb, hml, hown, hts⟩
  have hin_X5 : ∀ w ∈ wsX50, w ∈ wsX5_pairsHearing := fun w h => (List.mem_cons_of_mem _ (List.mem_append_right _ h))
  have hl := lv_entry ([.ref (a0 0)]) (n := 4) (Nat.le_of_ble_eq_true rfl)
  rw [lg_entry_eq]
  generalize (lg_sl ([.ref (a0 0)]) ++ List.replicate (4 - (lg_sl ([.ref (a0 0)])).length) Slot.unset).toArray = ls at hl ⊢
  have hl : lv_has ls 4 [(0, .ref (a0 0))] := hl
  rw [f_X5_pairsHearing] at hM
  refine lv_iconst (v := (0 : Int32)) hx hb dX5_pairsHearing_0 (by decide) ?_
  refine lv_istore_n (lv' := [(1, .int (0 : Int32)), (0, .ref (a0 0))]) hx hb dX5_pairsHearing_1 rfl hl (by decide) rfl (fun ls hl => ?_)
  refine lv_iconst (v := (0 : Int32)) hx hb dX5_pairsHearing_2 (by decide) ?_
  refine lv_istore_n (lv' := [(2, .int (0 : Int32)), (1, .int (0 : Int32)), (0, .ref (a0 0))]) hx hb dX5_pairsHearing_3 rfl hl (by decide) rfl (fun ls hl => ?_)
  obtain ⟨q3, hL4, hM⟩ := bd hM
  have hJ4 : ∀ (ls : Array Slot), lv_has ls 4 [(1, .int q3)] → W p l e (headSpec wsX5_pairsHearing ({ frames := 1, cells := 0, slots := 0, locals := 21 } : Room)).room s m ([.ref (a0 0)] : List Value).toArray below meth c s.heap [] 0 0 (MQ below (QcR (some (.int q))) ([.ref (a0 0)] : List Value).toArray s 0 0 (fun _ => False)) (F0 m 60 ls []) := by
    intro ls hl
    refine lv_iload_n hx hb dX5_pairsHearing_60 rfl (lv_at hl 0 rfl) ?_
    obtain rfl := Option.some.inj hM
    exact W.iret hx hb hr (fun t ht _ => ⟨rfl, ht⟩) (fun q hq => by cases hq) dX5_pairsHearing_61
  have hW4 : ∀ (n : Nat) (v2_1 : Int32) (v1_2 : Int32), L_X5_pairsHearing_4 T0 n v2_1 v1_2 = some q3 → ∀ (ls : Array Slot), lv_has ls 4 [(2, .int v2_1), (1, .int v1_2), (0, .ref (a0 0))] → W p l e (headSpec wsX5_pairsHearing ({ frames := 1, cells := 0, slots := 0, locals := 21 } : Room)).room s m ([.ref (a0 0)] : List Value).toArray below meth c s.heap [] 0 0 (MQ below (QcR (some (.int q))) ([.ref (a0 0)] : List Value).toArray s 0 0 (fun _ => False)) (F0 m 4 ls []) := by
    intro n
    induction n with
    | zero => intro v2_1 v1_2 hM; rw [L_X5_pairsHearing_4] at hM; exact nn hM
    | succ n ih4 =>
      intro v2_1 v1_2 hM ls hl
      rw [L_X5_pairsHearing_4] at hM
      refine lv_iload_n hx hb dX5_pairsHearing_4 rfl (lv_at hl 0 rfl) ?_
      refine lv_aload_n hx hb dX5_pairsHearing_5 rfl (lv_at hl 2 rfl) ?_
      refine wk_get hx hb hts hin_X5 hown hK hP 5 0 1 (.int (T0 1 0)) rfl rfl (by decide) (mi 1 rfl) rfl rfl dX5_pairsHearing_6 ?_
      refine lv_icmp_ge (tgt := 60) hx hb dX5_pairsHearing_9 (by decide) (fun c4 => ?_) (fun c4 => ?_)
      · replace hM := itp c4 hM
        obtain rfl := Option.some.inj hM
        exact hJ4 _ (lv_sub hl [1] rfl)
      · replace hM := itn c4 hM
        refine lv_iconst (v := (0 : Int32)) hx hb dX5_pairsHearing_12 (by decide) ?_
        refine lv_istore_n (lv' := [(3, .int (0 : Int32)), (2, .int v2_1), (1, .int v1_2), (0, .ref (a0 0))]) hx hb dX5_pairsHearing_13 rfl hl (by decide) rfl (fun ls hl => ?_)
        obtain ⟨q7, hL14, hM⟩ := bd hM
        have hJ14 : ∀ (ls : Array Slot), lv_has ls 4 [(2, .int v2_1), (1, .int q7), (0, .ref (a0 0))] → W p l e (headSpec wsX5_pairsHearing ({ frames := 1, cells := 0, slots := 0, locals := 21 } : Room)).room s m ([.ref (a0 0)] : List Value).toArray below meth c s.heap [] 0 0 (MQ below (QcR (some (.int q))) ([.ref (a0 0)] : List Value).toArray s 0 0 (fun _ => False)) (F0 m 54 ls []) := by
          intro ls hl
          refine lv_iinc (v := (v2_1 + (1 : Int32))) (lv' := [(2, .int (v2_1 + (1 : Int32))), (1, .int q7), (0, .ref (a0 0))]) hx hb dX5_pairsHearing_54 hl (k := 0) rfl rfl (by decide) rfl (fun ls hl => ?_)
          refine lv_goto (tgt := 4) hx hb dX5_pairsHearing_57 (by decide) ?_
          exact ih4 (v2_1 + (1 : Int32)) q7 hM _ (lv_sub hl [0, 1, 2] rfl)
        have hW14 : ∀ (n : Nat) (v3_5 : Int32) (v1_6 : Int32), L_X5_pairsHearing_14 T0 v2_1 n v3_5 v1_6 = some q7 → ∀ (ls : Array Slot), lv_has ls 4 [(3, .int v3_5), (2, .int v2_1), (1, .int v1_6), (0, .ref (a0 0))] → W p l e (headSpec wsX5_pairsHearing ({ frames := 1, cells := 0, slots := 0, locals := 21 } : Room)).room s m ([.ref (a0 0)] : List Value).toArray below meth c s.heap [] 0 0 (MQ below (QcR (some (.int q))) ([.ref (a0 0)] : List Value).toArray s 0 0 (fun _ => False)) (F0 m 14 ls []) := by
          intro n
          induction n with
          | zero => intro v3_5 v1_6 hM; rw [L_X5_pairsHearing_14] at hM; exact nn hM
          | succ n ih14 =>
            intro v3_5 v1_6 hM ls hl
            rw [L_X5_pairsHearing_14] at hM
            refine lv_iload_n hx hb dX5_pairsHearing_14 rfl (lv_at hl 0 rfl) ?_
            refine lv_iload_n hx hb dX5_pairsHearing_15 rfl (lv_at hl 1 rfl) ?_
            refine lv_icmp_ge (tgt := 54) hx hb dX5_pairsHearing_16 (by decide) (fun c8 => ?_) (fun c8 => ?_)
            · replace hM := itp c8 hM
              obtain rfl := Option.some.inj hM
              exact hJ14 _ (lv_sub hl [1, 2, 3] rfl)
            · replace hM := itn c8 hM
              refine lv_aload_n hx hb dX5_pairsHearing_19 rfl (lv_at hl 3 rfl) ?_
              refine wk_get hx hb hts hin_X5 hown hK hP 5 0 10 (.ref (a0 4)) rfl rfl (by decide) (mi 2 rfl) rfl rfl dX5_pairsHearing_20 ?_
              refine lv_iload_n hx hb dX5_pairsHearing_23 rfl (lv_at hl 1 rfl) ?_
              obtain ⟨k9, hM⟩ := ck hM
              refine wk_iald hx hb hK hP 4 7 (T0 10) rfl k9 dX5_pairsHearing_24 ?_
              refine lv_iload_n hx hb dX5_pairsHearing_25 rfl (lv_at hl 0 rfl) ?_
              refine rNR (wc := ([] : va_W)) (As := [.int ((T0 10) (v2_1).toNatClampNeg), .int v3_5]) (rest := []) hS (c_X6_has l g ((T0 10) (v2_1).toNatClampNeg) v3_5) gX5_pairsHearing_X6_has_n65 rfl (mi 3 rfl) (mi 4 rfl) 6 rfl hd_X6_has ⟨Nat.le_of_ble_eq_true rfl, Nat.le_of_ble_eq_true rfl⟩ hK (hP_nil) rfl hl.1 rfl (Nat.le_of_ble_eq_true rfl) dX5_pairsHearing_26 ⟨Nat.zero_le _, Nat.zero_le _⟩ ?_
              refine lv_if_eq (tgt := 48) hx hb dX5_pairsHearing_29 (by decide) (fun c11 => ?_) (fun c11 => ?_)
              · replace hM := itp c11 hM
                refine lv_iinc (v := (v3_5 + (1 : Int32))) (lv' := [(3, .int (v3_5 + (1 : Int32))), (2, .int v2_1), (1, .int v1_6), (0, .ref (a0 0))]) hx hb dX5_pairsHearing_48 hl (k := 0) rfl rfl (by decide) rfl (fun ls hl => ?_)
                refine lv_goto (tgt := 14) hx hb dX5_pairsHearing_51 (by decide) ?_
                exact ih14 (v3_5 + (1 : Int32)) v1_6 hM _ (lv_sub hl [0, 1, 2, 3] rfl)
              · replace hM := itn c11 hM
                refine lv_aload_n hx hb dX5_pairsHearing_32 rfl (lv_at hl 3 rfl) ?_
                refine wk_get hx hb hts hin_X5 hown hK hP 5 0 10 (.ref (a0 4)) rfl rfl (by decide) (mi 2 rfl) rfl rfl dX5_pairsHearing_33 ?_
                refine lv_iload_n hx hb dX5_pairsHearing_36 rfl (lv_at hl 0 rfl) ?_
                obtain ⟨k12, hM⟩ := ck hM
                refine wk_iald hx hb hK hP 4 7 (T0 10) rfl k12 dX5_pairsHearing_37 ?_
                refine lv_iload_n hx hb dX5_pairsHearing_38 rfl (lv_at hl 1 rfl) ?_
                refine rNR (wc := ([] : va_W)) (As := [.int ((T0 10) (v3_5).toNatClampNeg), .int v2_1]) (rest := []) hS (c_X6_has l g ((T0 10) (v3_5).toNatClampNeg) v2_1) gX5_pairsHearing_X6_has_n65 rfl (mi 3 rfl) (mi 4 rfl) 6 rfl hd_X6_has ⟨Nat.le_of_ble_eq_true rfl, Nat.le_of_ble_eq_true rfl⟩ hK (hP_nil) rfl hl.1 rfl (Nat.le_of_ble_eq_true rfl) dX5_pairsHearing_39 ⟨Nat.zero_le _, Nat.zero_le _⟩ ?_
                have hJ20 : ∀ (x19 : Int32) (ls : Array Slot), x19 = (if (f_X6_has ((T0 10) (v3_5).toNatClampNeg) v2_1) = 0 then v1_6 else (v1_6 + (1 : Int32))) → lv_has ls 4 [(3, .int v3_5), (2, .int v2_1), (1, .int x19), (0, .ref (a0 0))] → W p l e (headSpec wsX5_pairsHearing ({ frames := 1, cells := 0, slots := 0, locals := 21 } : Room)).room s m ([.ref (a0 0)] : List Value).toArray below meth c s.heap [] 0 0 (MQ below (QcR (some (.int q))) ([.ref (a0 0)] : List Value).toArray s 0 0 (fun _ => False)) (F0 m 48 ls []) := by
                  intro x19 ls hxx19 hl
                  subst hxx19
                  refine lv_iinc (v := (v3_5 + (1 : Int32))) (lv' := [(3, .int (v3_5 + (1 : Int32))), (2, .int v2_1), (1, .int (if (f_X6_has ((T0 10) (v3_5).toNatClampNeg) v2_1) = 0 then v1_6 else (v1_6 + (1 : Int32)))), (0, .ref (a0 0))]) hx hb dX5_pairsHearing_48 hl (k := 0) rfl rfl (by decide) rfl (fun ls hl => ?_)
                  refine lv_goto (tgt := 14) hx hb dX5_pairsHearing_51 (by decide) ?_
                  exact ih14 (v3_5 + (1 : Int32)) (if (f_X6_has ((T0 10) (v3_5).toNatClampNeg) v2_1) = 0 then v1_6 else (v1_6 + (1 : Int32))) hM _ (lv_sub hl [0, 1, 2, 3] rfl)
                refine lv_if_eq (tgt := 48) hx hb dX5_pairsHearing_42 (by decide) (fun c14 => ?_) (fun c14 => ?_)
                · exact hJ20 _ _ (by first | rfl | (simp only [if_pos c14])) (lv_sub hl [0, 1, 2, 3] rfl)
                · refine lv_iinc (v := (v1_6 + (1 : Int32))) (lv' := [(1, .int (v1_6 + (1 : Int32))), (3, .int v3_5), (2, .int v2_1), (0, .ref (a0 0))]) hx hb dX5_pairsHearing_45 hl (k := 2) rfl rfl (by decide) rfl (fun ls hl => ?_)
                  exact hJ20 _ _ (by first | rfl | (simp only [if_neg c14])) (lv_sub hl [1, 2, 0, 3] rfl)
        exact hW14 300 (0 : Int32) v1_2 hL14 _ (lv_sub hl [0, 1, 2, 3] rfl)
  exact hW4 300 (0 : Int32) (0 : Int32) hL4 _ (lv_sub hl [0, 1, 2] rfl)
theorem hd_X6_firstBits : yX6_firstBits.cls ≠ "java/lang/invoke/MethodHandle" ∧ yX6_firstBits.cls ≠ "java/lang/invoke/VarHandle" ∧ (parseMethodDescriptor yX6_firstBits.desc).map (fun d => d.parameters.length) = some 2 := by decide +kernel
set_option maxHeartbeats 4000000 in
set_option maxRecDepth 100000 in
theorem c_X6_firstBits (l : Launch) (g : Gm) (p0 : Int32) (p1 : Int32) {q : Int32} (hM : f_X6_firstBits p0 p1 = some q) : MR l yX6_firstBits wsX6_firstBits 0 0 g [.int p0, .int p1] ([] : va_W) (some (.int q)) := by
  refine Met.ofW (cc := cX6_firstBits) (maxL := 6) (ret := (some .int)) (by decide) rfl ?_
  intro p e s m args below meth c s₁ B hml hv
  obtain ⟨rfl, hP, hK⟩ := hv
  have hx := B.exec; have hb := B.bytes; have hr := B.returns
  have hts := atoms_spec (ws := wsX6_firstBits) B.pre
  have hown : s.vm.findClass RX6 = some m.cls := findClass_of_methodNamed B.named
  have hlocks := B.notSynchronized
  have hS : CallFix p m c cX6_firstBits 6 s _ wsX6_firstBits RX6 := ⟨hx, hb, hml, hown, hts⟩
  have hl := lv_entry ([.int p0, .int p1]) (n := 6) (Nat.le_of_ble_eq_true rfl)
  rw [lg_entry_eq]
  generalize (lg_sl ([.int p0, .int p1]) ++ List.replicate (6 - (lg_sl ([.int p0, .int p1])).length) Slot.unset).toArray = ls at hl ⊢
  have hl : lv_has ls 6 [(0, .int p0), (1, .int p1)] := hl
  rw [f_X6_firstBits] at hM
  refine lv_iload_n hx hb dX6_firstBits_0 rfl (lv_at hl 0 rfl) ?_
  refine lv_istore_n (lv' := [(2, .int p0), (0, .int p0), (1, .int p1)]) hx hb dX6_firstBits_1 rfl hl (by decide) rfl (fun ls hl => ?_)
  refine lv_iconst (v := (0 : Int32)) hx hb dX6_firstBits_2 (by decide) ?_
  refine lv_istore_n (lv' := [(3, .int (0 : Int32)), (2, .int p0), (0, .int p0), (1, .int p1)]) hx hb dX6_firstBits_3 rfl hl (by decide) rfl (fun ls hl => ?_)
  refine lv_iconst (v := (0 : Int32)) hx hb dX6_firstBits_4 (by decide) ?_
  refine lv_istore (lv' := [(4, .int (0 : Int32)), (3, .int (0 : Int32)), (2, .int p0), (0, .int p0), (1, .int p1)]) hx hb dX6_firstBits_5 hl (by decide) rfl (fun ls hl => ?_)
  obtain ⟨q4, hL7, hM⟩ := bd hM
  have hJ7 : ∀ (ls : Array Slot), lv_has ls 6 [(3, .int q4)] → W p l e (headSpec wsX6_firstBits ({ frames := 0, cells := 0, slots := 0, locals := 0 } : Room)).room s m ([.int p0, .int p1] : List Value).toArray below meth c s.heap [] 0 0 (MQ below (QcR (some (.int q))) ([.int p0, .int p1] : List Value).toArray s 0 0 (fun _ => False)) (F0 m 41 ls []) := by
    intro ls hl
    refine lv_iload_n hx hb dX6_firstBits_41 rfl (lv_at hl 0 rfl) ?_
    obtain rfl := Option.some.inj hM
    exact W.iret hx hb hr (fun t ht _ => ⟨rfl, ht⟩) (fun q hq => by cases hq) dX6_firstBits_42
  have hW7 : ∀ (n : Nat) (v4_1 : Int32) (v3_2 : Int32) (v2_3 : Int32), L_X6_firstBits_7 p1 n v4_1 v3_2 v2_3 = some q4 → ∀ (ls : Array Slot), lv_has ls 6 [(4, .int v4_1), (3, .int v3_2), (2, .int v2_3), (1, .int p1)] → W p l e (headSpec wsX6_firstBits ({ frames := 0, cells := 0, slots := 0, locals := 0 } : Room)).room s m ([.int p0, .int p1] : List Value).toArray below meth c s.heap [] 0 0 (MQ below (QcR (some (.int q))) ([.int p0, .int p1] : List Value).toArray s 0 0 (fun _ => False)) (F0 m 7 ls []) := by
    intro n
    induction n with
    | zero => intro v4_1 v3_2 v2_3 hM; rw [L_X6_firstBits_7] at hM; exact nn hM
    | succ n ih7 =>
      intro v4_1 v3_2 v2_3 hM ls hl
      rw [L_X6_firstBits_7] at hM
      refine lv_iload hx hb dX6_firstBits_7 (lv_at hl 0 rfl) ?_
      refine lv_iload_n hx hb dX6_firstBits_9 rfl (lv_at hl 3 rfl) ?_
      refine lv_icmp_ge (tgt := 41) hx hb dX6_firstBits_10 (by decide) (fun c5 => ?_) (fun c5 => ?_)
      · replace hM := itp c5 hM
        obtain rfl := Option.some.inj hM
        exact hJ7 _ (lv_sub hl [1] rfl)
      · replace hM := itn c5 hM
        refine lv_iload_n hx hb dX6_firstBits_13 rfl (lv_at hl 2 rfl) ?_
        refine lv_if_eq (tgt := 41) hx hb dX6_firstBits_14 (by decide) (fun c6 => ?_) (fun c6 => ?_)
        · replace hM := itp c6 hM
          obtain rfl := Option.some.inj hM
          exact hJ7 _ (lv_sub hl [1] rfl)
        · replace hM := itn c6 hM
          refine lv_iload_n hx hb dX6_firstBits_17 rfl (lv_at hl 2 rfl) ?_
          refine lv_iload_n hx hb dX6_firstBits_18 rfl (lv_at hl 2 rfl) ?_
          refine lv_ineg hx hb dX6_firstBits_19 ?_
          refine lv_iand hx hb dX6_firstBits_20 ?_
          refine lv_istore (lv' := [(5, .int (v2_3 &&& (-v2_3))), (4, .int v4_1), (3, .int v3_2), (2, .int v2_3), (1, .int p1)]) hx hb dX6_firstBits_21 hl (by decide) rfl (fun ls hl => ?_)
          refine lv_iload_n hx hb dX6_firstBits_23 rfl (lv_at hl 2 rfl) ?_
          refine lv_iload hx hb dX6_firstBits_24 (lv_at hl 0 rfl) ?_
          refine lv_ior hx hb dX6_firstBits_26 ?_
          refine lv_istore_n (lv' := [(3, .int (v3_2 ||| (v2_3 &&& (-v2_3)))), (5, .int (v2_3 &&& (-v2_3))), (4, .int v4_1), (2, .int v2_3), (1, .int p1)]) hx hb dX6_firstBits_27 rfl hl (by decide) rfl (fun ls hl => ?_)
          refine lv_iload_n hx hb dX6_firstBits_28 rfl (lv_at hl 3 rfl) ?_
          refine lv_iload hx hb dX6_firstBits_29 (lv_at hl 1 rfl) ?_
          refine lv_iconst (v := (-1 : Int32)) hx hb dX6_firstBits_31 (by decide) ?_
          refine lv_ixor hx hb dX6_firstBits_32 ?_
          refine lv_iand hx hb dX6_firstBits_33 ?_
          refine lv_istore_n (lv' := [(2, .int (v2_3 &&& ((v2_3 &&& (-v2_3)) ^^^ (-1 : Int32)))), (3, .int (v3_2 ||| (v2_3 &&& (-v2_3)))), (5, .int (v2_3 &&& (-v2_3))), (4, .int v4_1), (1, .int p1)]) hx hb dX6_firstBits_34 rfl hl (by decide) rfl (fun ls hl => ?_)
          refine lv_iinc (v := (v4_1 + (1 : Int32))) (lv' := [(4, .int (v4_1 + (1 : Int32))), (2, .int (v2_3 &&& ((v2_3 &&& (-v2_3)) ^^^ (-1 : Int32)))), (3, .int (v3_2 ||| (v2_3 &&& (-v2_3)))), (5, .int (v2_3 &&& (-v2_3))), (1, .int p1)]) hx hb dX6_firstBits_35 hl (k := 3) rfl rfl (by decide) rfl (fun ls hl => ?_)
          refine lv_goto (tgt := 7) hx hb dX6_firstBits_38 (by decide) ?_
          exact ih7 (v4_1 + (1 : Int32)) (v3_2 ||| (v2_3 &&& (-v2_3))) (v2_3 &&& ((v2_3 &&& (-v2_3)) ^^^ (-1 : Int32))) hM _ (lv_sub hl [0, 2, 1, 4] rfl)
  exact hW7 300 (0 : Int32) (0 : Int32) p0 hL7 _ (lv_sub hl [0, 1, 2, 4] rfl)
theorem hd_X5_passNight : yX5_passNight.cls = RX5 ∧ yX5_passNight.cls ≠ "java/lang/invoke/MethodHandle" ∧ yX5_passNight.cls ≠ "java/lang/invoke/VarHandle" ∧ (parseMethodDescriptor yX5_passNight.desc).map (fun d => d.parameters.length) = some 0 := by decide +kernel
set_option maxHeartbeats 4000000 in
set_option maxRecDepth 100000 in
theorem c_X5_passNight (l : Launch) (g : Gm) (a0 : Nat → Nat) (T0 : TS) {q : TS} (hM : f_X5_passNight T0 = some q) : MW l yX5_passNight wsX5_passNight 1 25 g [.ref (a0 0)] (wX5 g a0 T0) none (wX5 g a0 q) := by
  intro sz
  refine Met.ofW (cc := cX5_passNight) (maxL := 3) (ret := none) (by decide) rfl ?_
  intro p e s m args below meth c s₁ B hml hv
  obtain ⟨rfl, hsz, hP, hK, hD0⟩ := hv
  have hx := B.exec; have hb := B.bytes; have hr := B.returns
  have hts := atoms_spec (ws := wsX5_passNight) B.pre
  have hown : s.vm.findClass RX5 = some m.cls := findClass_of_methodNamed B.named
  have hlocks := B.notSynchronized
  have hS : CallFix p m c cX5_passNight 3 s _ wsX5_passNight RX5 := ⟨hx, hb, hml, hown, hts⟩
  have hin_X5 : ∀ w ∈ wsX50, w ∈ wsX5_passNight := fun w h => (List.mem_cons_of_mem _ (List.mem_append_right _ h))
  subst hsz
  have hw := wk_start hP hD0
  have hA : ∀ q : Nat, s.heap.size ≤ q → va_A (wX5 g a0 T0) s.heap.size q := fun q h => Or.inr h
  generalize va_A (wX5 g a0 T0) s.heap.size = A at hw hA ⊢
  clear hP hD0
  have hl := lv_entry ([.ref (a0 0)]) (n := 3) (Nat.le_of_ble_eq_true rfl)
  rw [lg_entry_eq]
  generalize (lg_sl ([.ref (a0 0)]) ++ List.replicate (3 - (lg_sl ([.ref (a0 0)])).length) Slot.unset).toArray = ls at hl ⊢
  have hl : lv_has ls 3 [(0, .ref (a0 0))] := hl
  rw [f_X5_passNight] at hM
  refine lv_aload_n hx hb dX5_passNight_0 rfl (lv_at hl 0 rfl) ?_
  refine lv_dup hx hb dX5_passNight_1 rfl ?_
  refine wk_get hx hb hts hin_X5 hown hK hw.1 5 0 5 (.int (T0 5 0)) rfl rfl (by decide) (mi 1 rfl) rfl rfl dX5_passNight_2 ?_
  refine lv_iconst (v := (1 : Int32)) hx hb dX5_passNight_5 (by decide) ?_
  refine lv_iadd hx hb dX5_passNight_6 ?_
  refine wk_put (wq := (wX5 g a0 (up T0 5 (fun _ => ((T0 5 0) + (1 : Int32)))))) hx hb hts hin_X5 tyX5 tyX5_ok nmX5 hown hK hw 5 0 5 rfl rfl (by decide) (mi 1 rfl) rfl rfl rfl rfl (Nat.le_of_ble_eq_true rfl) dX5_passNight_7 rfl (fun H locs hw => ?_)
  refine lv_iconst (v := (0 : Int32)) hx hb dX5_passNight_10 (by decide) ?_
  refine lv_istore_n (lv' := [(1, .int (0 : Int32)), (0, .ref (a0 0))]) hx hb dX5_passNight_11 rfl hl (by decide) rfl (fun ls hl => ?_)
  obtain ⟨q3, hL12, hM⟩ := bd hM
  have hJ12 : ∀ (H : Heap) (locs : List Loc), Wk g A s.heap H locs (wX5 g a0 q3) → ∀ (ls : Array Slot), lv_has ls 3 [] → W p l e (headSpec wsX5_passNight ({ frames := 1, cells := 0, slots := 0, locals := 25 } : Room)).room s m ([.ref (a0 0)] : List Value).toArray below meth c H locs 0 0 (MQ below (QcW g none (wX5 g a0 q) A) ([.ref (a0 0)] : List Value).toArray s 0 0 A) (F0 m 73 ls []) := by
    intro H locs hw ls hl
    obtain rfl := Option.some.inj hM
    exact W.vret hx hb hr (fun t ht _ => ⟨rfl, by rw [ht]; exact hw.1, hw.2.2.F ht⟩) hw.2.2.2.2 dX5_passNight_73
  have hW12 : ∀ (n : Nat) (v1_1 : Int32) (TL2 : TS), L_X5_passNight_12 n v1_1 TL2 = some q3 → ∀ (H : Heap) (locs : List Loc), Wk g A s.heap H locs (wX5 g a0 TL2) → ∀ (ls : Array Slot), lv_has ls 3 [(1, .int v1_1), (0, .ref (a0 0))] → W p l e (headSpec wsX5_passNight ({ frames := 1, cells := 0, slots := 0, locals := 25 } : Room)).room s m ([.ref (a0 0)] : List Value).toArray below meth c H locs 0 0 (MQ below (QcW g none (wX5 g a0 q) A) ([.ref (a0 0)] : List Value).toArray s 0 0 A) (F0 m 12 ls []) := by
    intro n
    induction n with
    | zero => intro v1_1 TL2 hM; rw [L_X5_passNight_12] at hM; exact nn hM
    | succ n ih12 =>
      intro v1_1 TL2 hM H locs hw ls hl
      rw [L_X5_passNight_12] at hM
      refine lv_iload_n hx hb dX5_passNight_12 rfl (lv_at hl 0 rfl) ?_
      refine lv_aload_n hx hb dX5_passNight_13 rfl (lv_at hl 1 rfl) ?_
      refine wk_get hx hb hts hin_X5 hown hK hw.1 5 0 1 (.int (TL2 1 0)) rfl rfl (by decide) (mi 2 rfl) rfl rfl dX5_passNight_14 ?_
      refine lv_icmp_ge (tgt := 73) hx hb dX5_passNight_17 (by decide) (fun c4 => ?_) (fun c4 => ?_)
      · replace hM := itp c4 hM
        obtain rfl := Option.some.inj hM
        exact hJ12 _ _ hw _ (lv_sub hl [] rfl)
      · replace hM := itn c4 hM
        refine lv_aload_n hx hb dX5_passNight_20 rfl (lv_at hl 1 rfl) ?_
        refine wk_get hx hb hts hin_X5 hown hK hw.1 5 0 11 (.ref (a0 5)) rfl rfl (by decide) (mi 3 rfl) rfl rfl dX5_passNight_21 ?_
        refine lv_iload_n hx hb dX5_passNight_24 rfl (lv_at hl 0 rfl) ?_
        obtain ⟨k5, hM⟩ := ck hM
        refine wk_iald hx hb hK hw.1 5 7 (TL2 11) rfl k5 dX5_passNight_25 ?_
        refine lv_iconst (v := (5 : Int32)) hx hb dX5_passNight_26 (by decide) ?_
        refine lv_icmp_ne (tgt := 43) hx hb dX5_passNight_27 (by decide) (fun c6 => ?_) (fun c6 => ?_)
        · replace hM := itn c6 hM
          refine lv_iconst (v := (0 : Int32)) hx hb dX5_passNight_43 (by decide) ?_
          refine lv_istore_n (lv' := [(2, .int (0 : Int32)), (1, .int v1_1), (0, .ref (a0 0))]) hx hb dX5_passNight_44 rfl hl (by decide) rfl (fun ls hl => ?_)
          refine lv_aload_n hx hb dX5_passNight_45 rfl (lv_at hl 2 rfl) ?_
          refine wk_get hx hb hts hin_X5 hown hK hw.1 5 0 7 (.ref (a0 1)) rfl rfl (by decide) (mi 4 rfl) rfl rfl dX5_passNight_46 ?_
          refine lv_iload_n hx hb dX5_passNight_49 rfl (lv_at hl 1 rfl) ?_
          refine lv_dup2_11 hx hb dX5_passNight_50 rfl rfl ?_
          refine wk_iald hx hb hK hw.1 1 7 (TL2 7) rfl k5 dX5_passNight_51 ?_
          refine lv_iload_n hx hb dX5_passNight_52 rfl (lv_at hl 0 rfl) ?_
          refine lv_iconst (v := (-1 : Int32)) hx hb dX5_passNight_53 (by decide) ?_
          refine lv_ixor hx hb dX5_passNight_54 ?_
          refine lv_iand hx hb dX5_passNight_55 ?_
          refine wk_iast (wq := (wX5 g a0 (up TL2 7 (upd (TL2 7) (v1_1).toNatClampNeg (((TL2 7) (v1_1).toNatClampNeg) &&& ((0 : Int32) ^^^ (-1 : Int32))))))) hx hb hK hw 1 7 (TL2 7) rfl k5 dX5_passNight_56 rfl (fun H locs hw => ?_)
          refine lv_aload_n hx hb dX5_passNight_57 rfl (lv_at hl 2 rfl) ?_
          refine wk_get hx hb hts hin_X5 hown hK hw.1 5 0 9 (.ref (a0 3)) rfl rfl (by decide) (mi 5 rfl) rfl rfl dX5_passNight_58 ?_
          refine lv_iload_n hx hb dX5_passNight_61 rfl (lv_at hl 1 rfl) ?_
          refine lv_dup2_11 hx hb dX5_passNight_62 rfl rfl ?_
          refine wk_iald hx hb hK hw.1 3 7 (TL2 9) rfl k5 dX5_passNight_63 ?_
          refine lv_iload_n hx hb dX5_passNight_64 rfl (lv_at hl 0 rfl) ?_
          refine lv_ior hx hb dX5_passNight_65 ?_
          refine wk_iast (wq := (wX5 g a0 (up (up TL2 7 (upd (TL2 7) (v1_1).toNatClampNeg (((TL2 7) (v1_1).toNatClampNeg) &&& ((0 : Int32) ^^^ (-1 : Int32))))) 9 (upd (TL2 9) (v1_1).toNatClampNeg (((TL2 9) (v1_1).toNatClampNeg) ||| (0 : Int32)))))) hx hb hK hw 3 7 (TL2 9) rfl k5 dX5_passNight_66 rfl (fun H locs hw => ?_)
          refine lv_iinc (v := (v1_1 + (1 : Int32))) (lv' := [(1, .int (v1_1 + (1 : Int32))), (2, .int (0 : Int32)), (0, .ref (a0 0))]) hx hb dX5_passNight_67 hl (k := 1) rfl rfl (by decide) rfl (fun ls hl => ?_)
          refine lv_goto (tgt := 12) hx hb dX5_passNight_70 (by decide) ?_
          exact ih12 (v1_1 + (1 : Int32)) (up (up TL2 7 (upd (TL2 7) (v1_1).toNatClampNeg (((TL2 7) (v1_1).toNatClampNeg) &&& ((0 : Int32) ^^^ (-1 : Int32))))) 9 (upd (TL2 9) (v1_1).toNatClampNeg (((TL2 9) (v1_1).toNatClampNeg) ||| (0 : Int32)))) hM _ _ hw _ (lv_sub hl [0, 2] rfl)
        · replace hM := itp c6 hM
          refine lv_aload_n hx hb dX5_passNight_30 rfl (lv_at hl 1 rfl) ?_
          refine wk_get hx hb hts hin_X5 hown hK hw.1 5 0 7 (.ref (a0 1)) rfl rfl (by decide) (mi 4 rfl) rfl rfl dX5_passNight_31 ?_
          refine lv_iload_n hx hb dX5_passNight_34 rfl (lv_at hl 0 rfl) ?_
          refine wk_iald hx hb hK hw.1 1 7 (TL2 7) rfl k5 dX5_passNight_35 ?_
          refine lv_iconst (v := (1 : Int32)) hx hb dX5_passNight_36 (by decide) ?_
          obtain ⟨q8, h7, hM⟩ := bd hM
          refine rNR (wc := ([] : va_W)) (As := [.int ((TL2 7) (v1_1).toNatClampNeg), .int (1 : Int32)]) (rest := []) hS (c_X6_firstBits l g ((TL2 7) (v1_1).toNatClampNeg) (1 : Int32) h7) gX5_passNight_X6_firstBits_n94 rfl (mi 6 rfl) (mi 7 rfl) 5 rfl hd_X6_firstBits ⟨Nat.le_of_ble_eq_true rfl, Nat.le_of_ble_eq_true rfl⟩ hK (hP_nil) rfl hl.1 rfl (Nat.le_of_ble_eq_true rfl) dX5_passNight_37 ⟨Nat.zero_le _, Nat.zero_le _⟩ ?_
          refine lv_goto (tgt := 44) hx hb dX5_passNight_40 (by decide) ?_
          refine lv_istore_n (lv' := [(2, .int q8), (1, .int v1_1), (0, .ref (a0 0))]) hx hb dX5_passNight_44 rfl hl (by decide) rfl (fun ls hl => ?_)
          refine lv_aload_n hx hb dX5_passNight_45 rfl (lv_at hl 2 rfl) ?_
          refine wk_get hx hb hts hin_X5 hown hK hw.1 5 0 7 (.ref (a0 1)) rfl rfl (by decide) (mi 4 rfl) rfl rfl dX5_passNight_46 ?_
          refine lv_iload_n hx hb dX5_passNight_49 rfl (lv_at hl 1 rfl) ?_
          refine lv_dup2_11 hx hb dX5_passNight_50 rfl rfl ?_
          refine wk_iald hx hb hK hw.1 1 7 (TL2 7) rfl k5 dX5_passNight_51 ?_
          refine lv_iload_n hx hb dX5_passNight_52 rfl (lv_at hl 0 rfl) ?_
          refine lv_iconst (v := (-1 : Int32)) hx hb dX5_passNight_53 (by decide) ?_
          refine lv_ixor hx hb dX5_passNight_54 ?_
          refine lv_iand hx hb dX5_passNight_55 ?_
          refine wk_iast (wq := (wX5 g a0 (up TL2 7 (upd (TL2 7) (v1_1).toNatClampNeg (((TL2 7) (v1_1).toNatClampNeg) &&& (q8 ^^^ (-1 : Int32))))))) hx hb hK hw 1 7 (TL2 7) rfl k5 dX5_passNight_56 rfl (fun H locs hw => ?_)
          refine lv_aload_n hx hb dX5_passNight_57 rfl (lv_at hl 2 rfl) ?_
          refine wk_get hx hb hts hin_X5 hown hK hw.1 5 0 9 (.ref (a0 3)) rfl rfl (by decide) (mi 5 rfl) rfl rfl dX5_passNight_58 ?_
          refine lv_iload_n hx hb dX5_passNight_61 rfl (lv_at hl 1 rfl) ?_
          refine lv_dup2_11 hx hb dX5_passNight_62 rfl rfl ?_
          refine wk_iald hx hb hK hw.1 3 7 (TL2 9) rfl k5 dX5_passNight_63 ?_
          refine lv_iload_n hx hb dX5_passNight_64 rfl (lv_at hl 0 rfl) ?_
          refine lv_ior hx hb dX5_passNight_65 ?_
          refine wk_iast (wq := (wX5 g a0 (up (up TL2 7 (upd (TL2 7) (v1_1).toNatClampNeg (((TL2 7) (v1_1).toNatClampNeg) &&& (q8 ^^^ (-1 : Int32))))) 9 (upd (TL2 9) (v1_1).toNatClampNeg (((TL2 9) (v1_1).toNatClampNeg) ||| q8))))) hx hb hK hw 3 7 (TL2 9) rfl k5 dX5_passNight_66 rfl (fun H locs hw => ?_)
          refine lv_iinc (v := (v1_1 + (1 : Int32))) (lv' := [(1, .int (v1_1 + (1 : Int32))), (2, .int q8), (0, .ref (a0 0))]) hx hb dX5_passNight_67 hl (k := 1) rfl rfl (by decide) rfl (fun ls hl => ?_)
          refine lv_goto (tgt := 12) hx hb dX5_passNight_70 (by decide) ?_
          exact ih12 (v1_1 + (1 : Int32)) (up (up TL2 7 (upd (TL2 7) (v1_1).toNatClampNeg (((TL2 7) (v1_1).toNatClampNeg) &&& (q8 ^^^ (-1 : Int32))))) 9 (upd (TL2 9) (v1_1).toNatClampNeg (((TL2 9) (v1_1).toNatClampNeg) ||| q8))) hM _ _ hw _ (lv_sub hl [0, 2] rfl)
  exact hW12 300 (0 : Int32) (up T0 5 (fun _ => ((T0 5 0) + (1 : Int32)))) hL12 _ _ hw _ (lv_sub hl [0, 1] rfl)
theorem hd_X5_vouchedFor : yX5_vouchedFor.cls = RX5 ∧ yX5_vouchedFor.cls ≠ "java/lang/invoke/MethodHandle" ∧ yX5_vouchedFor.cls ≠ "java/lang/invoke/VarHandle" ∧ (parseMethodDescriptor yX5_vouchedFor.desc).map (fun d => d.parameters.length) = some 1 := by decide +kernel
set_option maxHeartbeats 4000000 in
set_option maxRecDepth 100000 in
theorem c_X5_vouchedFor (l : Launch) (g : Gm) (a0 : Nat → Nat) (T0 : TS) (p1 : Int32) {q : Int32} (hM : f_X5_vouchedFor T0 p1 = some q) : MR l yX5_vouchedFor wsX5_vouchedFor 0 0 g [.ref (a0 0), .int p1] (wX5 g a0 T0) (some (.int q)) := by
  refine Met.ofW (cc := cX5_vouchedFor) (maxL := 4) (ret := (some .int)) (by decide) rfl ?_
  intro p e s m args below meth c s₁ B hml hv
  obtain ⟨rfl, hP, hK⟩ := hv
  have hx := B.exec; have hb := B.bytes; have hr := B.returns
  have hts := atoms_spec (ws := wsX5_vouchedFor) B.pre
  have hown : s.vm.findClass RX5 = some m.cls := findClass_of_methodNamed B.named
  have hlocks := B.notSynchronized
  have hS : CallFix p m c cX5_vouchedFor 4 s _ wsX5_vouchedFor RX5 := ⟨hx, hb, hml, hown, hts⟩
  have hin_X5 : ∀ w ∈ wsX50, w ∈ wsX5_vouchedFor := fun w h => (List.mem_cons_of_mem _ (List.mem_append_right _ h))
  have hl := lv_entry ([.ref (a0 0), .int p1]) (n := 4) (Nat.le_of_ble_eq_true rfl)
  rw [lg_entry_eq]
  generalize (lg_sl ([.ref (a0 0), .int p1]) ++ List.replicate (4 - (lg_sl ([.ref (a0 0), .int p1])).length) Slot.unset).toArray = ls at hl ⊢
  have hl : lv_has ls 4 [(0, .ref (a0 0)), (1, .int p1)] := hl
  rw [f_X5_vouchedFor] at hM
  refine lv_iconst (v := (0 : Int32)) hx hb dX5_vouchedFor_0 (by decide) ?_
  refine lv_istore_n (lv' := [(2, .int (0 : Int32)), (0, .ref (a0 0)), (1, .int p1)]) hx hb dX5_vouchedFor_1 rfl hl (by decide) rfl (fun ls hl => ?_)
  refine lv_iconst (v := (0 : Int32)) hx hb dX5_vouchedFor_2 (by decide) ?_
  refine lv_istore_n (lv' := [(3, .int (0 : Int32)), (2, .int (0 : Int32)), (0, .ref (a0 0)), (1, .int p1)]) hx hb dX5_vouchedFor_3 rfl hl (by decide) rfl (fun ls hl => ?_)
  obtain ⟨q3, hL4, hM⟩ := bd hM
  have hJ4 : ∀ (ls : Array Slot), lv_has ls 4 [(2, .int q3)] → W p l e (headSpec wsX5_vouchedFor ({ frames := 0, cells := 0, slots := 0, locals := 0 } : Room)).room s m ([.ref (a0 0), .int p1] : List Value).toArray below meth c s.heap [] 0 0 (MQ below (QcR (some (.int q))) ([.ref (a0 0), .int p1] : List Value).toArray s 0 0 (fun _ => False)) (F0 m 47 ls []) := by
    intro ls hl
    refine lv_iload_n hx hb dX5_vouchedFor_47 rfl (lv_at hl 0 rfl) ?_
    obtain rfl := Option.some.inj hM
    exact W.iret hx hb hr (fun t ht _ => ⟨rfl, ht⟩) (fun q hq => by cases hq) dX5_vouchedFor_48
  have hW4 : ∀ (n : Nat) (v3_1 : Int32) (v2_2 : Int32), L_X5_vouchedFor_4 T0 p1 n v3_1 v2_2 = some q3 → ∀ (ls : Array Slot), lv_has ls 4 [(3, .int v3_1), (2, .int v2_2), (0, .ref (a0 0)), (1, .int p1)] → W p l e (headSpec wsX5_vouchedFor ({ frames := 0, cells := 0, slots := 0, locals := 0 } : Room)).room s m ([.ref (a0 0), .int p1] : List Value).toArray below meth c s.heap [] 0 0 (MQ below (QcR (some (.int q))) ([.ref (a0 0), .int p1] : List Value).toArray s 0 0 (fun _ => False)) (F0 m 4 ls []) := by
    intro n
    induction n with
    | zero => intro v3_1 v2_2 hM; rw [L_X5_vouchedFor_4] at hM; exact nn hM
    | succ n ih4 =>
      intro v3_1 v2_2 hM ls hl
      rw [L_X5_vouchedFor_4] at hM
      refine lv_iload_n hx hb dX5_vouchedFor_4 rfl (lv_at hl 0 rfl) ?_
      refine lv_aload_n hx hb dX5_vouchedFor_5 rfl (lv_at hl 2 rfl) ?_
      refine wk_get hx hb hts hin_X5 hown hK hP 5 0 1 (.int (T0 1 0)) rfl rfl (by decide) (mi 1 rfl) rfl rfl dX5_vouchedFor_6 ?_
      refine lv_icmp_ge (tgt := 47) hx hb dX5_vouchedFor_9 (by decide) (fun c4 => ?_) (fun c4 => ?_)
      · replace hM := itp c4 hM
        obtain rfl := Option.some.inj hM
        exact hJ4 _ (lv_sub hl [1] rfl)
      · replace hM := itn c4 hM
        refine lv_aload_n hx hb dX5_vouchedFor_12 rfl (lv_at hl 2 rfl) ?_
        refine wk_get hx hb hts hin_X5 hown hK hP 5 0 10 (.ref (a0 4)) rfl rfl (by decide) (mi 2 rfl) rfl rfl dX5_vouchedFor_13 ?_
        refine lv_iload_n hx hb dX5_vouchedFor_16 rfl (lv_at hl 3 rfl) ?_
        obtain ⟨k5, hM⟩ := ck hM
        refine wk_iald hx hb hK hP 4 7 (T0 10) rfl k5 dX5_vouchedFor_17 ?_
        refine lv_iconst (v := (1 : Int32)) hx hb dX5_vouchedFor_18 (by decide) ?_
        refine lv_iload_n hx hb dX5_vouchedFor_19 rfl (lv_at hl 0 rfl) ?_
        refine lv_ishl hx hb dX5_vouchedFor_20 ?_
        refine lv_iand hx hb dX5_vouchedFor_21 ?_
        refine lv_if_eq (tgt := 41) hx hb dX5_vouchedFor_22 (by decide) (fun c6 => ?_) (fun c6 => ?_)
        · replace hM := itp c6 hM
          refine lv_iinc (v := (v3_1 + (1 : Int32))) (lv' := [(3, .int (v3_1 + (1 : Int32))), (2, .int v2_2), (0, .ref (a0 0)), (1, .int p1)]) hx hb dX5_vouchedFor_41 hl (k := 0) rfl rfl (by decide) rfl (fun ls hl => ?_)
          refine lv_goto (tgt := 4) hx hb dX5_vouchedFor_44 (by decide) ?_
          exact ih4 (v3_1 + (1 : Int32)) v2_2 hM _ (lv_sub hl [0, 1, 2, 3] rfl)
        · replace hM := itn c6 hM
          refine lv_iload_n hx hb dX5_vouchedFor_25 rfl (lv_at hl 1 rfl) ?_
          refine lv_aload_n hx hb dX5_vouchedFor_26 rfl (lv_at hl 2 rfl) ?_
          refine wk_get hx hb hts hin_X5 hown hK hP 5 0 9 (.ref (a0 3)) rfl rfl (by decide) (mi 3 rfl) rfl rfl dX5_vouchedFor_27 ?_
          refine lv_iload_n hx hb dX5_vouchedFor_30 rfl (lv_at hl 0 rfl) ?_
          obtain ⟨k7, hM⟩ := ck hM
          refine wk_iald hx hb hK hP 3 7 (T0 9) rfl k7 dX5_vouchedFor_31 ?_
          refine lv_aload_n hx hb dX5_vouchedFor_32 rfl (lv_at hl 2 rfl) ?_
          refine wk_get hx hb hts hin_X5 hown hK hP 5 0 7 (.ref (a0 1)) rfl rfl (by decide) (mi 4 rfl) rfl rfl dX5_vouchedFor_33 ?_
          refine lv_iload_n hx hb dX5_vouchedFor_36 rfl (lv_at hl 0 rfl) ?_
          refine wk_iald hx hb hK hP 1 7 (T0 7) rfl k7 dX5_vouchedFor_37 ?_
          refine lv_ior hx hb dX5_vouchedFor_38 ?_
          refine lv_ior hx hb dX5_vouchedFor_39 ?_
          refine lv_istore_n (lv' := [(2, .int (v2_2 ||| (((T0 9) (v3_1).toNatClampNeg) ||| ((T0 7) (v3_1).toNatClampNeg)))), (3, .int v3_1), (0, .ref (a0 0)), (1, .int p1)]) hx hb dX5_vouchedFor_40 rfl hl (by decide) rfl (fun ls hl => ?_)
          refine lv_iinc (v := (v3_1 + (1 : Int32))) (lv' := [(3, .int (v3_1 + (1 : Int32))), (2, .int (v2_2 ||| (((T0 9) (v3_1).toNatClampNeg) ||| ((T0 7) (v3_1).toNatClampNeg)))), (0, .ref (a0 0)), (1, .int p1)]) hx hb dX5_vouchedFor_41 hl (k := 1) rfl rfl (by decide) rfl (fun ls hl => ?_)
          refine lv_goto (tgt := 4) hx hb dX5_vouchedFor_44 (by decide) ?_
          exact ih4 (v3_1 + (1 : Int32)) (v2_2 ||| (((T0 9) (v3_1).toNatClampNeg) ||| ((T0 7) (v3_1).toNatClampNeg))) hM _ (lv_sub hl [0, 1, 2, 3] rfl)
  exact hW4 300 (0 : Int32) (0 : Int32) hL4 _ (lv_sub hl [0, 1, 2, 3] rfl)
theorem hd_X5_sayableBy : yX5_sayableBy.cls = RX5 ∧ yX5_sayableBy.cls ≠ "java/lang/invoke/MethodHandle" ∧ yX5_sayableBy.cls ≠ "java/lang/invoke/VarHandle" ∧ (parseMethodDescriptor yX5_sayableBy.desc).map (fun d => d.parameters.length) = some 1 := by decide +kernel
set_option maxHeartbeats 4000000 in
set_option maxRecDepth 100000 in
theorem c_X5_sayableBy (l : Launch) (g : Gm) (a0 : Nat → Nat) (T0 : TS) (p1 : Int32) {q : Int32} (hM : f_X5_sayableBy T0 p1 = some q) : MR l yX5_sayableBy wsX5_sayableBy 1 25 g [.ref (a0 0), .int p1] (wX5 g a0 T0) (some (.int q)) := by
  refine Met.ofW (cc := cX5_sayableBy) (maxL := 4) (ret := (some .int)) (by decide) rfl ?_
  intro p e s m args below meth c s₁ B hml hv
  obtain ⟨rfl, hP, hK⟩ := hv
  have hx := B.exec; have hb := B.bytes; have hr := B.returns
  have hts := atoms_spec (ws := wsX5_sayableBy) B.pre
  have hown : s.vm.findClass RX5 = some m.cls := findClass_of_methodNamed B.named
  have hlocks := B.notSynchronized
  have hS : CallFix p m c cX5_sayableBy 4 s _ wsX5_sayableBy RX5 := ⟨hx, hb, hml, hown, hts⟩
  have hin_X5 : ∀ w ∈ wsX50, w ∈ wsX5_sayableBy := fun w h => (List.mem_cons_of_mem _ (List.mem_append_right _ h))
  have hl := lv_entry ([.ref (a0 0), .int p1]) (n := 4) (Nat.le_of_ble_eq_true rfl)
  rw [lg_entry_eq]
  generalize (lg_sl ([.ref (a0 0), .int p1]) ++ List.replicate (4 - (lg_sl ([.ref (a0 0), .int p1])).length) Slot.unset).toArray = ls at hl ⊢
  have hl : lv_has ls 4 [(0, .ref (a0 0)), (1, .int p1)] := hl
  rw [f_X5_sayableBy] at hM
  refine lv_aload_n hx hb dX5_sayableBy_0 rfl (lv_at hl 0 rfl) ?_
  refine lv_iload_n hx hb dX5_sayableBy_1 rfl (lv_at hl 1 rfl) ?_
  obtain ⟨q2, h1, hM⟩ := bd hM
  refine rVR (wc := (wX5 g a0 T0)) (As := [.int p1]) (rest := []) (q0 := 0) hS (c_X5_barredTo l g a0 T0 p1 h1) gX5_sayableBy_X5_barredTo rfl hd_X5_barredTo ⟨Nat.le_of_ble_eq_true rfl, Nat.le_of_ble_eq_true rfl⟩ hK (va_P.pm hP (pm_1_0 _)) rfl rfl rfl rfl hl.1 rfl (Nat.le_of_ble_eq_true rfl) dX5_sayableBy_2 ⟨Nat.zero_le _, Nat.zero_le _⟩ ?_
  refine lv_istore_n (lv' := [(2, .int q2), (0, .ref (a0 0)), (1, .int p1)]) hx hb dX5_sayableBy_5 rfl hl (by decide) rfl (fun ls hl => ?_)
  refine lv_aload_n hx hb dX5_sayableBy_6 rfl (lv_at hl 1 rfl) ?_
  refine rVR (wc := (wX5 g a0 T0)) (As := []) (rest := []) (q0 := 0) hS (c_X5_allSights l g a0 T0) gX5_sayableBy_X5_allSights rfl hd_X5_allSights ⟨Nat.le_of_ble_eq_true rfl, Nat.le_of_ble_eq_true rfl⟩ hK (va_P.pm hP (pm_1_0 _)) rfl rfl rfl rfl hl.1 rfl (Nat.le_of_ble_eq_true rfl) dX5_sayableBy_7 ⟨Nat.zero_le _, Nat.zero_le _⟩ ?_
  refine lv_iload_n hx hb dX5_sayableBy_10 rfl (lv_at hl 0 rfl) ?_
  refine lv_iconst (v := (-1 : Int32)) hx hb dX5_sayableBy_11 (by decide) ?_
  refine lv_ixor hx hb dX5_sayableBy_12 ?_
  refine lv_iand hx hb dX5_sayableBy_13 ?_
  refine lv_istore_n (lv' := [(3, .int ((f_X5_allSights T0) &&& (q2 ^^^ (-1 : Int32)))), (2, .int q2), (0, .ref (a0 0)), (1, .int p1)]) hx hb dX5_sayableBy_14 rfl hl (by decide) rfl (fun ls hl => ?_)
  refine lv_aload_n hx hb dX5_sayableBy_15 rfl (lv_at hl 2 rfl) ?_
  refine wk_get hx hb hts hin_X5 hown hK hP 5 0 11 (.ref (a0 5)) rfl rfl (by decide) (mi 1 rfl) rfl rfl dX5_sayableBy_16 ?_
  refine lv_iload_n hx hb dX5_sayableBy_19 rfl (lv_at hl 3 rfl) ?_
  obtain ⟨k4, hM⟩ := ck hM
  refine wk_iald hx hb hK hP 5 7 (T0 11) rfl k4 dX5_sayableBy_20 ?_
  by_cases c5_0 : ((T0 11) (p1).toNatClampNeg) = (1 : Int32)
  · replace hM := itp c5_0 hM
    refine lv_tableIn (tgt := 48) hx hb dX5_sayableBy_21 (by rw [c5_0]; decide) (by rw [c5_0]; decide) (by rw [c5_0]; first | done | rfl) (by decide) ?_
    refine lv_aload_n hx hb dX5_sayableBy_48 rfl (lv_at hl 2 rfl) ?_
    refine wk_get hx hb hts hin_X5 hown hK hP 5 0 9 (.ref (a0 3)) rfl rfl (by decide) (mi 2 rfl) rfl rfl dX5_sayableBy_49 ?_
    refine lv_iload_n hx hb dX5_sayableBy_52 rfl (lv_at hl 3 rfl) ?_
    refine wk_iald hx hb hK hP 3 7 (T0 9) rfl k4 dX5_sayableBy_53 ?_
    refine lv_iload_n hx hb dX5_sayableBy_54 rfl (lv_at hl 0 rfl) ?_
    refine lv_iand hx hb dX5_sayableBy_55 ?_
    refine lv_aload_n hx hb dX5_sayableBy_56 rfl (lv_at hl 2 rfl) ?_
    refine lv_iload_n hx hb dX5_sayableBy_57 rfl (lv_at hl 3 rfl) ?_
    obtain ⟨q7, h6, hM⟩ := bd hM
    refine rVR (wc := (wX5 g a0 T0)) (As := [.int p1]) (rest := [.int (((T0 9) (p1).toNatClampNeg) &&& ((f_X5_allSights T0) &&& (q2 ^^^ (-1 : Int32))))]) (q0 := 0) hS (c_X5_vouchedFor l g a0 T0 p1 h6) gX5_sayableBy_X5_vouchedFor rfl hd_X5_vouchedFor ⟨Nat.le_of_ble_eq_true rfl, Nat.le_of_ble_eq_true rfl⟩ hK (va_P.pm hP (pm_1_0 _)) rfl rfl rfl rfl hl.1 rfl (Nat.le_of_ble_eq_true rfl) dX5_sayableBy_58 ⟨Nat.zero_le _, Nat.zero_le _⟩ ?_
    refine lv_iand hx hb dX5_sayableBy_61 ?_
    obtain rfl := Option.some.inj hM
    exact W.iret hx hb hr (fun t ht _ => ⟨rfl, ht⟩) (fun q hq => by cases hq) dX5_sayableBy_62
  replace hM := itn c5_0 hM
  by_cases c5_1 : ((T0 11) (p1).toNatClampNeg) = (2 : Int32)
  · replace hM := itp c5_1 hM
    refine lv_tableIn (tgt := 63) hx hb dX5_sayableBy_21 (by rw [c5_1]; decide) (by rw [c5_1]; decide) (by rw [c5_1]; first | done | rfl) (by decide) ?_
    refine lv_iload_n hx hb dX5_sayableBy_63 rfl (lv_at hl 0 rfl) ?_
    obtain rfl := Option.some.inj hM
    exact W.iret hx hb hr (fun t ht _ => ⟨rfl, ht⟩) (fun q hq => by cases hq) dX5_sayableBy_64
  replace hM := itn c5_1 hM
  by_cases c5_2 : ((T0 11) (p1).toNatClampNeg) = (3 : Int32)
  · replace hM := itp c5_2 hM
    refine lv_tableIn (tgt := 65) hx hb dX5_sayableBy_21 (by rw [c5_2]; decide) (by rw [c5_2]; decide) (by rw [c5_2]; first | done | rfl) (by decide) ?_
    refine lv_iload_n hx hb dX5_sayableBy_65 rfl (lv_at hl 0 rfl) ?_
    refine lv_iload_n hx hb dX5_sayableBy_66 rfl (lv_at hl 1 rfl) ?_
    refine lv_aload_n hx hb dX5_sayableBy_67 rfl (lv_at hl 2 rfl) ?_
    refine wk_get hx hb hts hin_X5 hown hK hP 5 0 4 (.int (T0 4 0)) rfl rfl (by decide) (mi 3 rfl) rfl rfl dX5_sayableBy_68 ?_
    obtain ⟨q9, h8, hM⟩ := bd hM
    refine rNR (wc := ([] : va_W)) (As := [.int q2, .int (T0 4 0)]) (rest := [.int ((f_X5_allSights T0) &&& (q2 ^^^ (-1 : Int32)))]) hS (c_X6_firstBits l g q2 (T0 4 0) h8) gX5_sayableBy_X6_firstBits_n94 rfl (mi 23 rfl) (mi 24 rfl) 5 rfl hd_X6_firstBits ⟨Nat.le_of_ble_eq_true rfl, Nat.le_of_ble_eq_true rfl⟩ hK (hP_nil) rfl hl.1 rfl (Nat.le_of_ble_eq_true rfl) dX5_sayableBy_71 ⟨Nat.zero_le _, Nat.zero_le _⟩ ?_
    refine lv_ior hx hb dX5_sayableBy_74 ?_
    obtain rfl := Option.some.inj hM
    exact W.iret hx hb hr (fun t ht _ => ⟨rfl, ht⟩) (fun q hq => by cases hq) dX5_sayableBy_75
  replace hM := itn c5_2 hM
  refine lv_tableOut (tgt := 76) hx hb dX5_sayableBy_21 (sw_out (lo := 1) (hi := 3) (by decide) (by decide) (fun k h1 h2 hk => by
            have hs : k = (1 : Int) ∨ k = (2 : Int) ∨ k = (3 : Int) := by omega
            rcases hs with hs | hs | hs <;> subst hs <;> first | exact c5_0 (Int32.toInt_inj.mp (hk.trans (by decide))) | exact c5_1 (Int32.toInt_inj.mp (hk.trans (by decide))) | exact c5_2 (Int32.toInt_inj.mp (hk.trans (by decide))))) (by decide) ?_
  refine lv_aload_n hx hb dX5_sayableBy_76 rfl (lv_at hl 2 rfl) ?_
  refine wk_get hx hb hts hin_X5 hown hK hP 5 0 9 (.ref (a0 3)) rfl rfl (by decide) (mi 2 rfl) rfl rfl dX5_sayableBy_77 ?_
  refine lv_iload_n hx hb dX5_sayableBy_80 rfl (lv_at hl 3 rfl) ?_
  refine wk_iald hx hb hK hP 3 7 (T0 9) rfl k4 dX5_sayableBy_81 ?_
  refine lv_iload_n hx hb dX5_sayableBy_82 rfl (lv_at hl 0 rfl) ?_
  refine lv_iand hx hb dX5_sayableBy_83 ?_
  obtain rfl := Option.some.inj hM
  exact W.iret hx hb hr (fun t ht _ => ⟨rfl, ht⟩) (fun q hq => by cases hq) dX5_sayableBy_84
theorem hd_X5_tell : yX5_tell.cls = RX5 ∧ yX5_tell.cls ≠ "java/lang/invoke/MethodHandle" ∧ yX5_tell.cls ≠ "java/lang/invoke/VarHandle" ∧ (parseMethodDescriptor yX5_tell.desc).map (fun d => d.parameters.length) = some 2 := by decide +kernel
set_option maxHeartbeats 4000000 in
set_option maxRecDepth 100000 in
theorem c_X5_tell (l : Launch) (g : Gm) (a0 : Nat → Nat) (T0 : TS) (p1 : Int32) (p2 : Int32) {q : (Int32 × TS)} (hM : f_X5_tell T0 p1 p2 = some q) : MW l yX5_tell wsX5_tell 1 21 g [.ref (a0 0), .int p1, .int p2] (wX5 g a0 T0) (some (.int q.1)) (wX5 g a0 q.2) := by
  intro sz
  refine Met.ofW (cc := cX5_tell) (maxL := 5) (ret := (some .int)) (by decide) rfl ?_
  intro p e s m args below meth c s₁ B hml hv
  obtain ⟨rfl, hsz, hP, hK, hD0⟩ := hv
  have hx := B.exec; have hb := B.bytes; have hr := B.returns
  have hts := atoms_spec (ws := wsX5_tell) B.pre
  have hown : s.vm.findClass RX5 = some m.cls := findClass_of_methodNamed B.named
  have hlocks := B.notSynchronized
  have hS : CallFix p m c cX5_tell 5 s _ wsX5_tell RX5 := ⟨hx, hb, hml, hown, hts⟩
  have hin_X5 : ∀ w ∈ wsX50, w ∈ wsX5_tell := fun w h => (List.mem_cons_of_mem _ (List.mem_append_right _ h))
  subst hsz
  have hw := wk_start hP hD0
  have hA : ∀ q : Nat, s.heap.size ≤ q → va_A (wX5 g a0 T0) s.heap.size q := fun q h => Or.inr h
  generalize va_A (wX5 g a0 T0) s.heap.size = A at hw hA ⊢
  clear hP hD0
  have hl := lv_entry ([.ref (a0 0), .int p1, .int p2]) (n := 5) (Nat.le_of_ble_eq_true rfl)
  rw [lg_entry_eq]
  generalize (lg_sl ([.ref (a0 0), .int p1, .int p2]) ++ List.replicate (5 - (lg_sl ([.ref (a0 0), .int p1, .int p2])).length) Slot.unset).toArray = ls at hl ⊢
  have hl : lv_has ls 5 [(0, .ref (a0 0)), (1, .int p1), (2, .int p2)] := hl
  rw [f_X5_tell] at hM
  refine lv_iconst (v := (0 : Int32)) hx hb dX5_tell_0 (by decide) ?_
  refine lv_istore_n (lv' := [(3, .int (0 : Int32)), (0, .ref (a0 0)), (1, .int p1), (2, .int p2)]) hx hb dX5_tell_1 rfl hl (by decide) rfl (fun ls hl => ?_)
  refine lv_iconst (v := (0 : Int32)) hx hb dX5_tell_2 (by decide) ?_
  refine lv_istore (lv' := [(4, .int (0 : Int32)), (3, .int (0 : Int32)), (0, .ref (a0 0)), (1, .int p1), (2, .int p2)]) hx hb dX5_tell_3 hl (by decide) rfl (fun ls hl => ?_)
  obtain ⟨q4, hL5, hM⟩ := bd hM
  have hJ5 : ∀ (H : Heap) (locs : List Loc), Wk g A s.heap H locs (wX5 g a0 q4.2) → ∀ (ls : Array Slot), lv_has ls 5 [(3, .int q4.1)] → W p l e (headSpec wsX5_tell ({ frames := 1, cells := 0, slots := 0, locals := 21 } : Room)).room s m ([.ref (a0 0), .int p1, .int p2] : List Value).toArray below meth c H locs 0 0 (MQ below (QcW g (some (.int q.1)) (wX5 g a0 q.2) A) ([.ref (a0 0), .int p1, .int p2] : List Value).toArray s 0 0 A) (F0 m 62 ls []) := by
    intro H locs hw ls hl
    refine lv_iload_n hx hb dX5_tell_62 rfl (lv_at hl 0 rfl) ?_
    obtain rfl := Option.some.inj hM
    exact W.iret hx hb hr (fun t ht _ => ⟨rfl, by rw [ht]; exact hw.1, hw.2.2.F ht⟩) hw.2.2.2.2 dX5_tell_63
  have hW5 : ∀ (n : Nat) (v4_1 : Int32) (v3_2 : Int32) (TL3 : TS), L_X5_tell_5 p1 p2 n v4_1 v3_2 TL3 = some q4 → ∀ (H : Heap) (locs : List Loc), Wk g A s.heap H locs (wX5 g a0 TL3) → ∀ (ls : Array Slot), lv_has ls 5 [(4, .int v4_1), (3, .int v3_2), (0, .ref (a0 0)), (1, .int p1), (2, .int p2)] → W p l e (headSpec wsX5_tell ({ frames := 1, cells := 0, slots := 0, locals := 21 } : Room)).room s m ([.ref (a0 0), .int p1, .int p2] : List Value).toArray below meth c H locs 0 0 (MQ below (QcW g (some (.int q.1)) (wX5 g a0 q.2) A) ([.ref (a0 0), .int p1, .int p2] : List Value).toArray s 0 0 A) (F0 m 5 ls []) := by
    intro n
    induction n with
    | zero => intro v4_1 v3_2 TL3 hM; rw [L_X5_tell_5] at hM; exact nn hM
    | succ n ih5 =>
      intro v4_1 v3_2 TL3 hM H locs hw ls hl
      rw [L_X5_tell_5] at hM
      refine lv_iload hx hb dX5_tell_5 (lv_at hl 0 rfl) ?_
      refine lv_aload_n hx hb dX5_tell_7 rfl (lv_at hl 2 rfl) ?_
      refine wk_get hx hb hts hin_X5 hown hK hw.1 5 0 1 (.int (TL3 1 0)) rfl rfl (by decide) (mi 1 rfl) rfl rfl dX5_tell_8 ?_
      refine lv_icmp_ge (tgt := 62) hx hb dX5_tell_11 (by decide) (fun c5 => ?_) (fun c5 => ?_)
      · replace hM := itp c5 hM
        obtain rfl := Option.some.inj hM
        exact hJ5 _ _ hw _ (lv_sub hl [1] rfl)
      · replace hM := itn c5 hM
        refine lv_aload_n hx hb dX5_tell_14 rfl (lv_at hl 2 rfl) ?_
        refine wk_get hx hb hts hin_X5 hown hK hw.1 5 0 10 (.ref (a0 4)) rfl rfl (by decide) (mi 2 rfl) rfl rfl dX5_tell_15 ?_
        refine lv_iload hx hb dX5_tell_18 (lv_at hl 0 rfl) ?_
        obtain ⟨k6, hM⟩ := ck hM
        refine wk_iald hx hb hK hw.1 4 7 (TL3 10) rfl k6 dX5_tell_20 ?_
        refine lv_iload_n hx hb dX5_tell_21 rfl (lv_at hl 3 rfl) ?_
        refine rNR (wc := ([] : va_W)) (As := [.int ((TL3 10) (v4_1).toNatClampNeg), .int p1]) (rest := []) hS (c_X6_has l g ((TL3 10) (v4_1).toNatClampNeg) p1) gX5_tell_X6_has_n65 rfl (mi 4 rfl) (mi 5 rfl) 6 rfl hd_X6_has ⟨Nat.le_of_ble_eq_true rfl, Nat.le_of_ble_eq_true rfl⟩ hK (hP_nil) rfl hl.1 rfl (Nat.le_of_ble_eq_true rfl) dX5_tell_22 ⟨Nat.zero_le _, Nat.zero_le _⟩ ?_
        refine lv_if_eq (tgt := 56) hx hb dX5_tell_25 (by decide) (fun c8 => ?_) (fun c8 => ?_)
        · replace hM := itp c8 hM
          refine lv_iinc (v := (v4_1 + (1 : Int32))) (lv' := [(4, .int (v4_1 + (1 : Int32))), (3, .int v3_2), (0, .ref (a0 0)), (1, .int p1), (2, .int p2)]) hx hb dX5_tell_56 hl (k := 0) rfl rfl (by decide) rfl (fun ls hl => ?_)
          refine lv_goto (tgt := 5) hx hb dX5_tell_59 (by decide) ?_
          exact ih5 (v4_1 + (1 : Int32)) v3_2 TL3 hM _ _ hw _ (lv_sub hl [0, 1, 2, 3, 4] rfl)
        · replace hM := itn c8 hM
          refine lv_iload_n hx hb dX5_tell_28 rfl (lv_at hl 1 rfl) ?_
          refine lv_iload_n hx hb dX5_tell_29 rfl (lv_at hl 4 rfl) ?_
          refine lv_aload_n hx hb dX5_tell_30 rfl (lv_at hl 2 rfl) ?_
          refine wk_get hx hb hts hin_X5 hown hK hw.1 5 0 9 (.ref (a0 3)) rfl rfl (by decide) (mi 3 rfl) rfl rfl dX5_tell_31 ?_
          refine lv_iload hx hb dX5_tell_34 (lv_at hl 0 rfl) ?_
          refine wk_iald hx hb hK hw.1 3 7 (TL3 9) rfl k6 dX5_tell_36 ?_
          refine lv_iconst (v := (-1 : Int32)) hx hb dX5_tell_37 (by decide) ?_
          refine lv_ixor hx hb dX5_tell_38 ?_
          refine lv_iand hx hb dX5_tell_39 ?_
          refine rSR (wc := ([] : va_W)) (As := [.int (p2 &&& (((TL3 9) (v4_1).toNatClampNeg) ^^^ (-1 : Int32)))]) (rest := [.int v3_2]) hS (c_J6_bitCount_0f7a4 l g (p2 &&& (((TL3 9) (v4_1).toNatClampNeg) ^^^ (-1 : Int32)))) gX5_tell_J6_bitCount_0f7a4 rfl hd_J6_bitCount_0f7a4 ⟨Nat.le_of_ble_eq_true rfl, Nat.le_of_ble_eq_true rfl⟩ hK (hP_nil) rfl hl.1 rfl (Nat.le_of_ble_eq_true rfl) dX5_tell_40 ⟨Nat.zero_le _, Nat.zero_le _⟩ ?_
          refine lv_iadd hx hb dX5_tell_43 ?_
          refine lv_istore_n (lv' := [(3, .int (v3_2 + (f_J6_bitCount_0f7a4 (p2 &&& (((TL3 9) (v4_1).toNatClampNeg) ^^^ (-1 : Int32)))))), (4, .int v4_1), (0, .ref (a0 0)), (1, .int p1), (2, .int p2)]) hx hb dX5_tell_44 rfl hl (by decide) rfl (fun ls hl => ?_)
          refine lv_aload_n hx hb dX5_tell_45 rfl (lv_at hl 2 rfl) ?_
          refine wk_get hx hb hts hin_X5 hown hK hw.1 5 0 9 (.ref (a0 3)) rfl rfl (by decide) (mi 3 rfl) rfl rfl dX5_tell_46 ?_
          refine lv_iload hx hb dX5_tell_49 (lv_at hl 1 rfl) ?_
          refine lv_dup2_11 hx hb dX5_tell_51 rfl rfl ?_
          refine wk_iald hx hb hK hw.1 3 7 (TL3 9) rfl k6 dX5_tell_52 ?_
          refine lv_iload_n hx hb dX5_tell_53 rfl (lv_at hl 4 rfl) ?_
          refine lv_ior hx hb dX5_tell_54 ?_
          refine wk_iast (wq := (wX5 g a0 (up TL3 9 (upd (TL3 9) (v4_1).toNatClampNeg (((TL3 9) (v4_1).toNatClampNeg) ||| p2))))) hx hb hK hw 3 7 (TL3 9) rfl k6 dX5_tell_55 rfl (fun H locs hw => ?_)
          refine lv_iinc (v := (v4_1 + (1 : Int32))) (lv' := [(4, .int (v4_1 + (1 : Int32))), (3, .int (v3_2 + (f_J6_bitCount_0f7a4 (p2 &&& (((TL3 9) (v4_1).toNatClampNeg) ^^^ (-1 : Int32)))))), (0, .ref (a0 0)), (1, .int p1), (2, .int p2)]) hx hb dX5_tell_56 hl (k := 1) rfl rfl (by decide) rfl (fun ls hl => ?_)
          refine lv_goto (tgt := 5) hx hb dX5_tell_59 (by decide) ?_
          exact ih5 (v4_1 + (1 : Int32)) (v3_2 + (f_J6_bitCount_0f7a4 (p2 &&& (((TL3 9) (v4_1).toNatClampNeg) ^^^ (-1 : Int32))))) (up TL3 9 (upd (TL3 9) (v4_1).toNatClampNeg (((TL3 9) (v4_1).toNatClampNeg) ||| p2))) hM _ _ hw _ (lv_sub hl [0, 1, 2, 3, 4] rfl)
  exact hW5 300 (0 : Int32) (0 : Int32) T0 hL5 _ _ hw _ (lv_sub hl [0, 1, 2, 3, 4] rfl)
theorem hd_X5_passSigns : yX5_passSigns.cls = RX5 ∧ yX5_passSigns.cls ≠ "java/lang/invoke/MethodHandle" ∧ yX5_passSigns.cls ≠ "java/lang/invoke/VarHandle" ∧ (parseMethodDescriptor yX5_passSigns.desc).map (fun d => d.parameters.length) = some 0 := by decide +kernel
set_option maxHeartbeats 4000000 in
set_option maxRecDepth 100000 in
theorem c_X5_passSigns (l : Launch) (g : Gm) (a0 : Nat → Nat) (T0 : TS) {q : (Int32 × TS)} (hM : f_X5_passSigns T0 = some q) : MW l yX5_passSigns wsX5_passSigns 1 25 g [.ref (a0 0)] (wX5 g a0 T0) (some (.int q.1)) (wX5 g a0 q.2) := by
  intro sz
  refine Met.ofW (cc := cX5_passSigns) (maxL := 5) (ret := (some .int)) (by decide) rfl ?_
  intro p e s m args below meth c s₁ B hml hv
  obtain ⟨rfl, hsz, hP, hK, hD0⟩ := hv
  have hx := B.exec; have hb := B.bytes; have hr := B.returns
  have hts := atoms_spec (ws := wsX5_passSigns) B.pre
  have hown : s.vm.findClass RX5 = some m.cls := findClass_of_methodNamed B.named
  have hlocks := B.notSynchronized
  have hS : CallFix p m c cX5_passSigns 5 s _ wsX5_passSigns RX5 := ⟨hx, hb, hml, hown, hts⟩
  have hin_X5 : ∀ w ∈ wsX50, w ∈ wsX5_passSigns := fun w h => (List.mem_cons_of_mem _ (List.mem_append_right _ h))
  subst hsz
  have hw := wk_start hP hD0
  have hA : ∀ q : Nat, s.heap.size ≤ q → va_A (wX5 g a0 T0) s.heap.size q := fun q h => Or.inr h
  generalize va_A (wX5 g a0 T0) s.heap.size = A at hw hA ⊢
  clear hP hD0
  have hl := lv_entry ([.ref (a0 0)]) (n := 5) (Nat.le_of_ble_eq_true rfl)
  rw [lg_entry_eq]
  generalize (lg_sl ([.ref (a0 0)]) ++ List.replicate (5 - (lg_sl ([.ref (a0 0)])).length) Slot.unset).toArray = ls at hl ⊢
  have hl : lv_has ls 5 [(0, .ref (a0 0))] := hl
  rw [f_X5_passSigns] at hM
  refine lv_iconst (v := (0 : Int32)) hx hb dX5_passSigns_0 (by decide) ?_
  refine lv_istore_n (lv' := [(1, .int (0 : Int32)), (0, .ref (a0 0))]) hx hb dX5_passSigns_1 rfl hl (by decide) rfl (fun ls hl => ?_)
  refine lv_iconst (v := (0 : Int32)) hx hb dX5_passSigns_2 (by decide) ?_
  refine lv_istore_n (lv' := [(2, .int (0 : Int32)), (1, .int (0 : Int32)), (0, .ref (a0 0))]) hx hb dX5_passSigns_3 rfl hl (by decide) rfl (fun ls hl => ?_)
  obtain ⟨q4, hL4, hM⟩ := bd hM
  have hJ4 : ∀ (H : Heap) (locs : List Loc), Wk g A s.heap H locs (wX5 g a0 q4.2) → ∀ (ls : Array Slot), lv_has ls 5 [(1, .int q4.1)] → W p l e (headSpec wsX5_passSigns ({ frames := 1, cells := 0, slots := 0, locals := 25 } : Room)).room s m ([.ref (a0 0)] : List Value).toArray below meth c H locs 0 0 (MQ below (QcW g (some (.int q.1)) (wX5 g a0 q.2) A) ([.ref (a0 0)] : List Value).toArray s 0 0 A) (F0 m 100 ls []) := by
    intro H locs hw ls hl
    refine lv_iload_n hx hb dX5_passSigns_100 rfl (lv_at hl 0 rfl) ?_
    obtain rfl := Option.some.inj hM
    exact W.iret hx hb hr (fun t ht _ => ⟨rfl, by rw [ht]; exact hw.1, hw.2.2.F ht⟩) hw.2.2.2.2 dX5_passSigns_101
  have hW4 : ∀ (n : Nat) (v2_1 : Int32) (v1_2 : Int32) (TL3 : TS), L_X5_passSigns_4 n v2_1 v1_2 TL3 = some q4 → ∀ (H : Heap) (locs : List Loc), Wk g A s.heap H locs (wX5 g a0 TL3) → ∀ (ls : Array Slot), lv_has ls 5 [(2, .int v2_1), (1, .int v1_2), (0, .ref (a0 0))] → W p l e (headSpec wsX5_passSigns ({ frames := 1, cells := 0, slots := 0, locals := 25 } : Room)).room s m ([.ref (a0 0)] : List Value).toArray below meth c H locs 0 0 (MQ below (QcW g (some (.int q.1)) (wX5 g a0 q.2) A) ([.ref (a0 0)] : List Value).toArray s 0 0 A) (F0 m 4 ls []) := by
    intro n
    induction n with
    | zero => intro v2_1 v1_2 TL3 hM; rw [L_X5_passSigns_4] at hM; exact nn hM
    | succ n ih4 =>
      intro v2_1 v1_2 TL3 hM H locs hw ls hl
      rw [L_X5_passSigns_4] at hM
      refine lv_iload_n hx hb dX5_passSigns_4 rfl (lv_at hl 0 rfl) ?_
      refine lv_aload_n hx hb dX5_passSigns_5 rfl (lv_at hl 2 rfl) ?_
      refine wk_get hx hb hts hin_X5 hown hK hw.1 5 0 1 (.int (TL3 1 0)) rfl rfl (by decide) (mi 1 rfl) rfl rfl dX5_passSigns_6 ?_
      refine lv_icmp_ge (tgt := 100) hx hb dX5_passSigns_9 (by decide) (fun c5 => ?_) (fun c5 => ?_)
      · replace hM := itp c5 hM
        obtain rfl := Option.some.inj hM
        exact hJ4 _ _ hw _ (lv_sub hl [1] rfl)
      · replace hM := itn c5 hM
        refine lv_iconst (v := (0 : Int32)) hx hb dX5_passSigns_12 (by decide) ?_
        refine lv_istore_n (lv' := [(3, .int (0 : Int32)), (2, .int v2_1), (1, .int v1_2), (0, .ref (a0 0))]) hx hb dX5_passSigns_13 rfl hl (by decide) rfl (fun ls hl => ?_)
        obtain ⟨q9, hL14, hM⟩ := bd hM
        have hJ14 : ∀ (H : Heap) (locs : List Loc), Wk g A s.heap H locs (wX5 g a0 q9.2) → ∀ (ls : Array Slot), lv_has ls 5 [(2, .int v2_1), (1, .int q9.1), (0, .ref (a0 0))] → W p l e (headSpec wsX5_passSigns ({ frames := 1, cells := 0, slots := 0, locals := 25 } : Room)).room s m ([.ref (a0 0)] : List Value).toArray below meth c H locs 0 0 (MQ below (QcW g (some (.int q.1)) (wX5 g a0 q.2) A) ([.ref (a0 0)] : List Value).toArray s 0 0 A) (F0 m 94 ls []) := by
          intro H locs hw ls hl
          refine lv_iinc (v := (v2_1 + (1 : Int32))) (lv' := [(2, .int (v2_1 + (1 : Int32))), (1, .int q9.1), (0, .ref (a0 0))]) hx hb dX5_passSigns_94 hl (k := 0) rfl rfl (by decide) rfl (fun ls hl => ?_)
          refine lv_goto (tgt := 4) hx hb dX5_passSigns_97 (by decide) ?_
          exact ih4 (v2_1 + (1 : Int32)) q9.1 q9.2 hM _ _ hw _ (lv_sub hl [0, 1, 2] rfl)
        have hW14 : ∀ (n : Nat) (v3_6 : Int32) (v1_7 : Int32) (TL8 : TS), L_X5_passSigns_14 v2_1 n v3_6 v1_7 TL8 = some q9 → ∀ (H : Heap) (locs : List Loc), Wk g A s.heap H locs (wX5 g a0 TL8) → ∀ (ls : Array Slot), lv_has ls 5 [(3, .int v3_6), (2, .int v2_1), (1, .int v1_7), (0, .ref (a0 0))] → W p l e (headSpec wsX5_passSigns ({ frames := 1, cells := 0, slots := 0, locals := 25 } : Room)).room s m ([.ref (a0 0)] : List Value).toArray below meth c H locs 0 0 (MQ below (QcW g (some (.int q.1)) (wX5 g a0 q.2) A) ([.ref (a0 0)] : List Value).toArray s 0 0 A) (F0 m 14 ls []) := by
          intro n
          induction n with
          | zero => intro v3_6 v1_7 TL8 hM; rw [L_X5_passSigns_14] at hM; exact nn hM
          | succ n ih14 =>
            intro v3_6 v1_7 TL8 hM H locs hw ls hl
            rw [L_X5_passSigns_14] at hM
            refine lv_iload_n hx hb dX5_passSigns_14 rfl (lv_at hl 0 rfl) ?_
            refine lv_aload_n hx hb dX5_passSigns_15 rfl (lv_at hl 3 rfl) ?_
            refine wk_get hx hb hts hin_X5 hown hK hw.1 5 0 1 (.int (TL8 1 0)) rfl rfl (by decide) (mi 1 rfl) rfl rfl dX5_passSigns_16 ?_
            refine lv_icmp_ge (tgt := 94) hx hb dX5_passSigns_19 (by decide) (fun c10 => ?_) (fun c10 => ?_)
            · replace hM := itp c10 hM
              obtain rfl := Option.some.inj hM
              exact hJ14 _ _ hw _ (lv_sub hl [1, 2, 3] rfl)
            · replace hM := itn c10 hM
              refine lv_iload_n hx hb dX5_passSigns_22 rfl (lv_at hl 2 rfl) ?_
              refine lv_aload_n hx hb dX5_passSigns_23 rfl (lv_at hl 3 rfl) ?_
              refine wk_get hx hb hts hin_X5 hown hK hw.1 5 0 3 (.int (TL8 3 0)) rfl rfl (by decide) (mi 2 rfl) rfl rfl dX5_passSigns_24 ?_
              refine lv_icmp_ge (tgt := 94) hx hb dX5_passSigns_27 (by decide) (fun c11 => ?_) (fun c11 => ?_)
              · replace hM := itp c11 hM
                obtain rfl := Option.some.inj hM
                exact hJ14 _ _ hw _ (lv_sub hl [1, 2, 3] rfl)
              · replace hM := itn c11 hM
                refine lv_aload_n hx hb dX5_passSigns_30 rfl (lv_at hl 3 rfl) ?_
                refine wk_get hx hb hts hin_X5 hown hK hw.1 5 0 10 (.ref (a0 4)) rfl rfl (by decide) (mi 3 rfl) rfl rfl dX5_passSigns_31 ?_
                refine lv_iload_n hx hb dX5_passSigns_34 rfl (lv_at hl 0 rfl) ?_
                obtain ⟨k12, hM⟩ := ck hM
                refine wk_iald hx hb hK hw.1 4 7 (TL8 10) rfl k12 dX5_passSigns_35 ?_
                refine lv_iload_n hx hb dX5_passSigns_36 rfl (lv_at hl 1 rfl) ?_
                refine rNR (wc := ([] : va_W)) (As := [.int ((TL8 10) (v3_6).toNatClampNeg), .int v2_1]) (rest := []) hS (c_X6_has l g ((TL8 10) (v3_6).toNatClampNeg) v2_1) gX5_passSigns_X6_has_n65 rfl (mi 6 rfl) (mi 7 rfl) 6 rfl hd_X6_has ⟨Nat.le_of_ble_eq_true rfl, Nat.le_of_ble_eq_true rfl⟩ hK (hP_nil) rfl hl.1 rfl (Nat.le_of_ble_eq_true rfl) dX5_passSigns_37 ⟨Nat.zero_le _, Nat.zero_le _⟩ ?_
                refine lv_if_eq (tgt := 88) hx hb dX5_passSigns_40 (by decide) (fun c14 => ?_) (fun c14 => ?_)
                · replace hM := itp c14 hM
                  refine lv_iinc (v := (v3_6 + (1 : Int32))) (lv' := [(3, .int (v3_6 + (1 : Int32))), (2, .int v2_1), (1, .int v1_7), (0, .ref (a0 0))]) hx hb dX5_passSigns_88 hl (k := 0) rfl rfl (by decide) rfl (fun ls hl => ?_)
                  refine lv_goto (tgt := 14) hx hb dX5_passSigns_91 (by decide) ?_
                  exact ih14 (v3_6 + (1 : Int32)) v1_7 TL8 hM _ _ hw _ (lv_sub hl [0, 1, 2, 3] rfl)
                · replace hM := itn c14 hM
                  refine lv_aload_n hx hb dX5_passSigns_43 rfl (lv_at hl 3 rfl) ?_
                  refine wk_get hx hb hts hin_X5 hown hK hw.1 5 0 7 (.ref (a0 1)) rfl rfl (by decide) (mi 4 rfl) rfl rfl dX5_passSigns_44 ?_
                  refine lv_iload_n hx hb dX5_passSigns_47 rfl (lv_at hl 1 rfl) ?_
                  obtain ⟨k15, hM⟩ := ck hM
                  refine wk_iald hx hb hK hw.1 1 7 (TL8 7) rfl k15 dX5_passSigns_48 ?_
                  refine lv_aload_n hx hb dX5_passSigns_49 rfl (lv_at hl 3 rfl) ?_
                  refine wk_get hx hb hts hin_X5 hown hK hw.1 5 0 9 (.ref (a0 3)) rfl rfl (by decide) (mi 5 rfl) rfl rfl dX5_passSigns_50 ?_
                  refine lv_iload_n hx hb dX5_passSigns_53 rfl (lv_at hl 0 rfl) ?_
                  refine wk_iald hx hb hK hw.1 3 7 (TL8 9) rfl k12 dX5_passSigns_54 ?_
                  refine lv_iconst (v := (-1 : Int32)) hx hb dX5_passSigns_55 (by decide) ?_
                  refine lv_ixor hx hb dX5_passSigns_56 ?_
                  refine lv_iand hx hb dX5_passSigns_57 ?_
                  refine lv_aload_n hx hb dX5_passSigns_58 rfl (lv_at hl 3 rfl) ?_
                  refine wk_get hx hb hts hin_X5 hown hK hw.1 5 0 3 (.int (TL8 3 0)) rfl rfl (by decide) (mi 2 rfl) rfl rfl dX5_passSigns_59 ?_
                  refine lv_iload_n hx hb dX5_passSigns_62 rfl (lv_at hl 2 rfl) ?_
                  refine lv_isub hx hb dX5_passSigns_63 ?_
                  obtain ⟨q17, h16, hM⟩ := bd hM
                  refine rNR (wc := ([] : va_W)) (As := [.int (((TL8 7) (v2_1).toNatClampNeg) &&& (((TL8 9) (v3_6).toNatClampNeg) ^^^ (-1 : Int32))), .int ((TL8 3 0) - v1_7)]) (rest := []) hS (c_X6_firstBits l g (((TL8 7) (v2_1).toNatClampNeg) &&& (((TL8 9) (v3_6).toNatClampNeg) ^^^ (-1 : Int32))) ((TL8 3 0) - v1_7) h16) gX5_passSigns_X6_firstBits_n94 rfl (mi 9 rfl) (mi 7 rfl) 5 rfl hd_X6_firstBits ⟨Nat.le_of_ble_eq_true rfl, Nat.le_of_ble_eq_true rfl⟩ hK (hP_nil) rfl hl.1 rfl (Nat.le_of_ble_eq_true rfl) dX5_passSigns_64 ⟨Nat.zero_le _, Nat.zero_le _⟩ ?_
                  refine lv_istore (lv' := [(4, .int q17), (3, .int v3_6), (2, .int v2_1), (1, .int v1_7), (0, .ref (a0 0))]) hx hb dX5_passSigns_67 hl (by decide) rfl (fun ls hl => ?_)
                  refine lv_aload_n hx hb dX5_passSigns_69 rfl (lv_at hl 4 rfl) ?_
                  refine wk_get hx hb hts hin_X5 hown hK hw.1 5 0 9 (.ref (a0 3)) rfl rfl (by decide) (mi 5 rfl) rfl rfl dX5_passSigns_70 ?_
                  refine lv_iload_n hx hb dX5_passSigns_73 rfl (lv_at hl 1 rfl) ?_
                  refine lv_dup2_11 hx hb dX5_passSigns_74 rfl rfl ?_
                  refine wk_iald hx hb hK hw.1 3 7 (TL8 9) rfl k12 dX5_passSigns_75 ?_
                  refine lv_iload hx hb dX5_passSigns_76 (lv_at hl 0 rfl) ?_
                  refine lv_ior hx hb dX5_passSigns_78 ?_
                  refine wk_iast (wq := (wX5 g a0 (up TL8 9 (upd (TL8 9) (v3_6).toNatClampNeg (((TL8 9) (v3_6).toNatClampNeg) ||| q17))))) hx hb hK hw 3 7 (TL8 9) rfl k12 dX5_passSigns_79 rfl (fun H locs hw => ?_)
                  refine lv_iload_n hx hb dX5_passSigns_80 rfl (lv_at hl 3 rfl) ?_
                  refine lv_iload hx hb dX5_passSigns_81 (lv_at hl 0 rfl) ?_
                  refine rSR (wc := ([] : va_W)) (As := [.int q17]) (rest := [.int v1_7]) hS (c_J6_bitCount_0f7a4 l g q17) gX5_passSigns_J6_bitCount_0f7a4 rfl hd_J6_bitCount_0f7a4 ⟨Nat.le_of_ble_eq_true rfl, Nat.le_of_ble_eq_true rfl⟩ hK (hP_nil) rfl hl.1 rfl (Nat.le_of_ble_eq_true rfl) dX5_passSigns_83 ⟨Nat.zero_le _, Nat.zero_le _⟩ ?_
                  refine lv_iadd hx hb dX5_passSigns_86 ?_
                  refine lv_istore_n (lv' := [(1, .int (v1_7 + (f_J6_bitCount_0f7a4 q17))), (4, .int q17), (3, .int v3_6), (2, .int v2_1), (0, .ref (a0 0))]) hx hb dX5_passSigns_87 rfl hl (by decide) rfl (fun ls hl => ?_)
                  refine lv_iinc (v := (v3_6 + (1 : Int32))) (lv' := [(3, .int (v3_6 + (1 : Int32))), (1, .int (v1_7 + (f_J6_bitCount_0f7a4 q17))), (4, .int q17), (2, .int v2_1), (0, .ref (a0 0))]) hx hb dX5_passSigns_88 hl (k := 2) rfl rfl (by decide) rfl (fun ls hl => ?_)
                  refine lv_goto (tgt := 14) hx hb dX5_passSigns_91 (by decide) ?_
                  exact ih14 (v3_6 + (1 : Int32)) (v1_7 + (f_J6_bitCount_0f7a4 q17)) (up TL8 9 (upd (TL8 9) (v3_6).toNatClampNeg (((TL8 9) (v3_6).toNatClampNeg) ||| q17))) hM _ _ hw _ (lv_sub hl [0, 3, 1, 4] rfl)
        exact hW14 300 (0 : Int32) v1_2 TL3 hL14 _ _ hw _ (lv_sub hl [0, 1, 2, 3] rfl)
  exact hW4 300 (0 : Int32) (0 : Int32) T0 hL4 _ _ hw _ (lv_sub hl [0, 1, 2] rfl)
theorem hd_X5_passRound : yX5_passRound.cls = RX5 ∧ yX5_passRound.cls ≠ "java/lang/invoke/MethodHandle" ∧ yX5_passRound.cls ≠ "java/lang/invoke/VarHandle" ∧ (parseMethodDescriptor yX5_passRound.desc).map (fun d => d.parameters.length) = some 0 := by decide +kernel
set_option maxHeartbeats 4000000 in
set_option maxRecDepth 100000 in
theorem c_X5_passRound (l : Launch) (g : Gm) (a0 : Nat → Nat) (T0 : TS) {q : (Int32 × TS)} (hM : f_X5_passRound T0 = some q) : MW l yX5_passRound wsX5_passRound 2 49 g [.ref (a0 0)] (wX5 g a0 T0) (some (.int q.1)) (wX5 g a0 q.2) := by
  intro sz
  refine Met.ofW (cc := cX5_passRound) (maxL := 3) (ret := (some .boolean)) (by decide) rfl ?_
  intro p e s m args below meth c s₁ B hml hv
  obtain ⟨rfl, hsz, hP, hK, hD0⟩ := hv
  have hx := B.exec; have hb := B.bytes; have hr := B.returns
  have hts := atoms_spec (ws := wsX5_passRound) B.pre
  have hown : s.vm.findClass RX5 = some m.cls := findClass_of_methodNamed B.named
  have hlocks := B.notSynchronized
  have hS : CallFix p m c cX5_passRound 3 s _ wsX5_passRound RX5 := ⟨hx, hb, hml, hown, hts⟩
  have hin_X5 : ∀ w ∈ wsX50, w ∈ wsX5_passRound := fun w h => (List.mem_cons_of_mem _ (List.mem_append_right _ h))
  subst hsz
  have hw := wk_start hP hD0
  have hA : ∀ q : Nat, s.heap.size ≤ q → va_A (wX5 g a0 T0) s.heap.size q := fun q h => Or.inr h
  generalize va_A (wX5 g a0 T0) s.heap.size = A at hw hA ⊢
  clear hP hD0
  have hl := lv_entry ([.ref (a0 0)]) (n := 3) (Nat.le_of_ble_eq_true rfl)
  rw [lg_entry_eq]
  generalize (lg_sl ([.ref (a0 0)]) ++ List.replicate (3 - (lg_sl ([.ref (a0 0)])).length) Slot.unset).toArray = ls at hl ⊢
  have hl : lv_has ls 3 [(0, .ref (a0 0))] := hl
  rw [f_X5_passRound] at hM
  refine lv_iconst (v := (0 : Int32)) hx hb dX5_passRound_0 (by decide) ?_
  refine lv_istore_n (lv' := [(1, .int (0 : Int32)), (0, .ref (a0 0))]) hx hb dX5_passRound_1 rfl hl (by decide) rfl (fun ls hl => ?_)
  obtain ⟨q3, hL2, hM⟩ := bd hM
  have hJ2 : ∀ (H : Heap) (locs : List Loc), Wk g A s.heap H locs (wX5 g a0 q3) → ∀ (ls : Array Slot), lv_has ls 3 [(0, .ref (a0 0))] → W p l e (headSpec wsX5_passRound ({ frames := 2, cells := 0, slots := 0, locals := 49 } : Room)).room s m ([.ref (a0 0)] : List Value).toArray below meth c H locs 0 0 (MQ below (QcW g (some (.int q.1)) (wX5 g a0 q.2) A) ([.ref (a0 0)] : List Value).toArray s 0 0 A) (F0 m 27 ls []) := by
    intro H locs hw ls hl
    refine lv_iconst (v := (0 : Int32)) hx hb dX5_passRound_27 (by decide) ?_
    refine lv_istore_n (lv' := [(1, .int (0 : Int32)), (0, .ref (a0 0))]) hx hb dX5_passRound_28 rfl hl (by decide) rfl (fun ls hl => ?_)
    refine lv_iconst (v := (0 : Int32)) hx hb dX5_passRound_29 (by decide) ?_
    refine lv_istore_n (lv' := [(2, .int (0 : Int32)), (1, .int (0 : Int32)), (0, .ref (a0 0))]) hx hb dX5_passRound_30 rfl hl (by decide) rfl (fun ls hl => ?_)
    obtain ⟨q11, hL31, hM⟩ := bd hM
    have hJ31 : ∀ (H : Heap) (locs : List Loc), Wk g A s.heap H locs (wX5 g a0 q11.2) → ∀ (ls : Array Slot), lv_has ls 3 [(1, .int q11.1), (0, .ref (a0 0))] → W p l e (headSpec wsX5_passRound ({ frames := 2, cells := 0, slots := 0, locals := 49 } : Room)).room s m ([.ref (a0 0)] : List Value).toArray below meth c H locs 0 0 (MQ below (QcW g (some (.int q.1)) (wX5 g a0 q.2) A) ([.ref (a0 0)] : List Value).toArray s 0 0 A) (F0 m 59 ls []) := by
      intro H locs hw ls hl
      refine lv_iload_n hx hb dX5_passRound_59 rfl (lv_at hl 0 rfl) ?_
      refine lv_aload_n hx hb dX5_passRound_60 rfl (lv_at hl 1 rfl) ?_
      obtain ⟨q17, h16, hM⟩ := bd hM
      refine rVWp (wc := (wX5 g a0 q11.2)) (wq := (wX5 g a0 q17.2)) (As := []) (rest := [.int q11.1]) (q0 := 0) hS (c_X5_passSigns l g a0 q11.2 h16) gX5_passRound_X5_passSigns rfl hd_X5_passSigns ⟨Nat.le_of_ble_eq_true rfl, Nat.le_of_ble_eq_true rfl⟩ hK hw hA (pm_1_0 _) rfl (pm_1_0 _) rfl rfl rfl rfl hl.1 rfl (Nat.le_of_ble_eq_true rfl) dX5_passRound_61 ⟨Nat.zero_le _, Nat.zero_le _⟩ (fun H locs hw => ?_)
      refine lv_iadd hx hb dX5_passRound_64 ?_
      have hJ24 : ∀ (H : Heap) (locs : List Loc) (x23 : Int32) (ls : Array Slot), Wk g A s.heap H locs (wX5 g a0 q17.2) → x23 = (if (q11.1 + q17.1) ≤ 0 then (0 : Int32) else (1 : Int32)) → lv_has ls 3 [] → W p l e (headSpec wsX5_passRound ({ frames := 2, cells := 0, slots := 0, locals := 49 } : Room)).room s m ([.ref (a0 0)] : List Value).toArray below meth c H locs 0 0 (MQ below (QcW g (some (.int q.1)) (wX5 g a0 q.2) A) ([.ref (a0 0)] : List Value).toArray s 0 0 A) (F0 m 73 ls [.int x23]) := by
        intro H locs x23 ls hw hxx23 hl
        subst hxx23
        obtain rfl := Option.some.inj hM
        exact W.zret hx hb hr (nz (by repeat (first | exact Or.inl rfl | exact Or.inr rfl | split))) (fun t ht _ => ⟨rfl, by rw [ht]; exact hw.1, hw.2.2.F ht⟩) hw.2.2.2.2 dX5_passRound_73
      refine lv_if_le (tgt := 72) hx hb dX5_passRound_65 (by decide) (fun c18 => ?_) (fun c18 => ?_)
      · refine lv_iconst (v := (0 : Int32)) hx hb dX5_passRound_72 (by decide) ?_
        exact hJ24 _ _ _ _ hw (by first | rfl | (simp only [if_pos c18])) (lv_sub hl [] rfl)
      · refine lv_iconst (v := (1 : Int32)) hx hb dX5_passRound_68 (by decide) ?_
        refine lv_goto (tgt := 73) hx hb dX5_passRound_69 (by decide) ?_
        exact hJ24 _ _ _ _ hw (by first | rfl | (simp only [if_neg c18])) (lv_sub hl [] rfl)
    have hW31 : ∀ (n : Nat) (v2_8 : Int32) (v1_9 : Int32) (TL10 : TS), L_X5_passRound_31 n v2_8 v1_9 TL10 = some q11 → ∀ (H : Heap) (locs : List Loc), Wk g A s.heap H locs (wX5 g a0 TL10) → ∀ (ls : Array Slot), lv_has ls 3 [(2, .int v2_8), (1, .int v1_9), (0, .ref (a0 0))] → W p l e (headSpec wsX5_passRound ({ frames := 2, cells := 0, slots := 0, locals := 49 } : Room)).room s m ([.ref (a0 0)] : List Value).toArray below meth c H locs 0 0 (MQ below (QcW g (some (.int q.1)) (wX5 g a0 q.2) A) ([.ref (a0 0)] : List Value).toArray s 0 0 A) (F0 m 31 ls []) := by
      intro n
      induction n with
      | zero => intro v2_8 v1_9 TL10 hM; rw [L_X5_passRound_31] at hM; exact nn hM
      | succ n ih31 =>
        intro v2_8 v1_9 TL10 hM H locs hw ls hl
        rw [L_X5_passRound_31] at hM
        refine lv_iload_n hx hb dX5_passRound_31 rfl (lv_at hl 0 rfl) ?_
        refine lv_aload_n hx hb dX5_passRound_32 rfl (lv_at hl 2 rfl) ?_
        refine wk_get hx hb hts hin_X5 hown hK hw.1 5 0 1 (.int (TL10 1 0)) rfl rfl (by decide) (mi 1 rfl) rfl rfl dX5_passRound_33 ?_
        refine lv_icmp_ge (tgt := 59) hx hb dX5_passRound_36 (by decide) (fun c12 => ?_) (fun c12 => ?_)
        · replace hM := itp c12 hM
          obtain rfl := Option.some.inj hM
          exact hJ31 _ _ hw _ (lv_sub hl [1, 2] rfl)
        · replace hM := itn c12 hM
          refine lv_iload_n hx hb dX5_passRound_39 rfl (lv_at hl 1 rfl) ?_
          refine lv_aload_n hx hb dX5_passRound_40 rfl (lv_at hl 2 rfl) ?_
          refine lv_iload_n hx hb dX5_passRound_41 rfl (lv_at hl 0 rfl) ?_
          refine lv_aload_n hx hb dX5_passRound_42 rfl (lv_at hl 2 rfl) ?_
          refine wk_get hx hb hts hin_X5 hown hK hw.1 5 0 13 (.ref (a0 7)) rfl rfl (by decide) (mi 2 rfl) rfl rfl dX5_passRound_43 ?_
          refine lv_iload_n hx hb dX5_passRound_46 rfl (lv_at hl 0 rfl) ?_
          obtain ⟨k13, hM⟩ := ck hM
          refine wk_iald hx hb hK hw.1 7 7 (TL10 13) rfl k13 dX5_passRound_47 ?_
          obtain ⟨q15, h14, hM⟩ := bd hM
          refine rVWp (wc := (wX5 g a0 TL10)) (wq := (wX5 g a0 q15.2)) (As := [.int v2_8, .int ((TL10 13) (v2_8).toNatClampNeg)]) (rest := [.int v1_9]) (q0 := 0) hS (c_X5_tell l g a0 TL10 v2_8 ((TL10 13) (v2_8).toNatClampNeg) h14) gX5_passRound_X5_tell rfl hd_X5_tell ⟨Nat.le_of_ble_eq_true rfl, Nat.le_of_ble_eq_true rfl⟩ hK hw hA (pm_1_0 _) rfl (pm_1_0 _) rfl rfl rfl rfl hl.1 rfl (Nat.le_of_ble_eq_true rfl) dX5_passRound_48 ⟨Nat.zero_le _, Nat.zero_le _⟩ (fun H locs hw => ?_)
          refine lv_iadd hx hb dX5_passRound_51 ?_
          refine lv_istore_n (lv' := [(1, .int (v1_9 + q15.1)), (2, .int v2_8), (0, .ref (a0 0))]) hx hb dX5_passRound_52 rfl hl (by decide) rfl (fun ls hl => ?_)
          refine lv_iinc (v := (v2_8 + (1 : Int32))) (lv' := [(2, .int (v2_8 + (1 : Int32))), (1, .int (v1_9 + q15.1)), (0, .ref (a0 0))]) hx hb dX5_passRound_53 hl (k := 1) rfl rfl (by decide) rfl (fun ls hl => ?_)
          refine lv_goto (tgt := 31) hx hb dX5_passRound_56 (by decide) ?_
          exact ih31 (v2_8 + (1 : Int32)) (v1_9 + q15.1) q15.2 hM _ _ hw _ (lv_sub hl [0, 1, 2] rfl)
    exact hW31 300 (0 : Int32) (0 : Int32) q3 hL31 _ _ hw _ (lv_sub hl [0, 1, 2] rfl)
  have hW2 : ∀ (n : Nat) (v1_1 : Int32) (TL2 : TS), L_X5_passRound_2 n v1_1 TL2 = some q3 → ∀ (H : Heap) (locs : List Loc), Wk g A s.heap H locs (wX5 g a0 TL2) → ∀ (ls : Array Slot), lv_has ls 3 [(1, .int v1_1), (0, .ref (a0 0))] → W p l e (headSpec wsX5_passRound ({ frames := 2, cells := 0, slots := 0, locals := 49 } : Room)).room s m ([.ref (a0 0)] : List Value).toArray below meth c H locs 0 0 (MQ below (QcW g (some (.int q.1)) (wX5 g a0 q.2) A) ([.ref (a0 0)] : List Value).toArray s 0 0 A) (F0 m 2 ls []) := by
    intro n
    induction n with
    | zero => intro v1_1 TL2 hM; rw [L_X5_passRound_2] at hM; exact nn hM
    | succ n ih2 =>
      intro v1_1 TL2 hM H locs hw ls hl
      rw [L_X5_passRound_2] at hM
      refine lv_iload_n hx hb dX5_passRound_2 rfl (lv_at hl 0 rfl) ?_
      refine lv_aload_n hx hb dX5_passRound_3 rfl (lv_at hl 1 rfl) ?_
      refine wk_get hx hb hts hin_X5 hown hK hw.1 5 0 1 (.int (TL2 1 0)) rfl rfl (by decide) (mi 1 rfl) rfl rfl dX5_passRound_4 ?_
      refine lv_icmp_ge (tgt := 27) hx hb dX5_passRound_7 (by decide) (fun c4 => ?_) (fun c4 => ?_)
      · replace hM := itp c4 hM
        obtain rfl := Option.some.inj hM
        exact hJ2 _ _ hw _ (lv_sub hl [1] rfl)
      · replace hM := itn c4 hM
        refine lv_aload_n hx hb dX5_passRound_10 rfl (lv_at hl 1 rfl) ?_
        refine wk_get hx hb hts hin_X5 hown hK hw.1 5 0 13 (.ref (a0 7)) rfl rfl (by decide) (mi 2 rfl) rfl rfl dX5_passRound_11 ?_
        refine lv_iload_n hx hb dX5_passRound_14 rfl (lv_at hl 0 rfl) ?_
        refine lv_aload_n hx hb dX5_passRound_15 rfl (lv_at hl 1 rfl) ?_
        refine lv_iload_n hx hb dX5_passRound_16 rfl (lv_at hl 0 rfl) ?_
        obtain ⟨q6, h5, hM⟩ := bd hM
        refine rVR (wc := (wX5 g a0 TL2)) (As := [.int v1_1]) (rest := [.int v1_1, .ref (a0 7)]) (q0 := 0) hS (c_X5_sayableBy l g a0 TL2 v1_1 h5) gX5_passRound_X5_sayableBy rfl hd_X5_sayableBy ⟨Nat.le_of_ble_eq_true rfl, Nat.le_of_ble_eq_true rfl⟩ hK (va_P.pm hw.1 (pm_1_0 _)) rfl rfl rfl rfl hl.1 rfl (Nat.le_of_ble_eq_true rfl) dX5_passRound_17 ⟨Nat.zero_le _, Nat.zero_le _⟩ ?_
        obtain ⟨k7, hM⟩ := ck hM
        refine wk_iast (wq := (wX5 g a0 (up TL2 13 (upd (TL2 13) (v1_1).toNatClampNeg q6)))) hx hb hK hw 7 7 (TL2 13) rfl k7 dX5_passRound_20 rfl (fun H locs hw => ?_)
        refine lv_iinc (v := (v1_1 + (1 : Int32))) (lv' := [(1, .int (v1_1 + (1 : Int32))), (0, .ref (a0 0))]) hx hb dX5_passRound_21 hl (k := 0) rfl rfl (by decide) rfl (fun ls hl => ?_)
        refine lv_goto (tgt := 2) hx hb dX5_passRound_24 (by decide) ?_
        exact ih2 (v1_1 + (1 : Int32)) (up TL2 13 (upd (TL2 13) (v1_1).toNatClampNeg q6)) hM _ _ hw _ (lv_sub hl [0, 1] rfl)
  exact hW2 300 (0 : Int32) T0 hL2 _ _ hw _ (lv_sub hl [0, 1] rfl)
