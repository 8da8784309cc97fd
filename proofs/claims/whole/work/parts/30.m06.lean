theorem hd_X7_heard : yX7_heard.cls = RX7 ∧ yX7_heard.cls ≠ "java/lang/invoke/MethodHandle" ∧ yX7_heard.cls ≠ "java/lang/invoke/VarHandle" ∧ (parseMethodDescriptor yX7_heard.desc).map (fun d => d.parameters.length) = some 3 := by decide +kernel
set_option maxHeartbeats 4000000 in
set_option maxRecDepth 100000 in
theorem c_X7_heard (l : Launch) (g : Gm) (a0 : Nat → Nat) (U0 : TS) (V0 : TS) (M0 : LTS) (R0 : LTS) (kv : Value) (t0 : Tr) (tp0 : Option (Nat → Int32)) (h0 : tpOf t0 = tp0) (p1 : Int32) (p2 : Int32) (p3 : Int32) {q : (Int32 × TS × (Option (Nat → Int32)))} (hM : f_X7_heard U0 V0 M0 R0 tp0 p1 p2 p3 = some q) : MB l yX7_heard wsX7_heard 5 140 g [.ref (a0 0), .int p1, .int p2, .int p3] (fun t => (wXM g a0 U0 V0 M0 R0 kv (tvOf t)) ++ wOT g t) t0 (some (.int q.1)) (fun t => (wXM g a0 U0 q.2.1 M0 R0 kv (tvOf t)) ++ wOT g t) q.2.2 := by
  intro sz
  refine Met.ofW (cc := cX7_heard) (maxL := 6) (ret := (some .int)) (by decide) rfl ?_
  intro p e s m args below meth c s₁ B hml hv
  obtain ⟨rfl, hsz, hP, hK, hD0⟩ := hv
  have hx := B.exec; have hb := B.bytes; have hr := B.returns
  have hts := atoms_spec (ws := wsX7_heard) B.pre
  have hown : s.vm.findClass RX7 = some m.cls := findClass_of_methodNamed B.named
  have hlocks := B.notSynchronized
  have hS : CallFix p m c cX7_heard 6 s _ wsX7_heard RX7 := ⟨hx, hb, hml, hown, hts⟩
  have hin_X7 : ∀ w ∈ wsX70, w ∈ wsX7_heard := fun w h => (List.mem_cons_of_mem _ (List.mem_append_right _ h))
  subst hsz
  have hw := wk_start hP hD0
  have hA : ∀ q : Nat, s.heap.size ≤ q → va_A ((wXM g a0 U0 V0 M0 R0 kv (tvOf t0)) ++ (wOT g t0)) s.heap.size q := fun q h => Or.inr h
  generalize va_A ((wXM g a0 U0 V0 M0 R0 kv (tvOf t0)) ++ (wOT g t0)) s.heap.size = A at hw hA ⊢
  clear hP hD0
  have hl := lv_entry ([.ref (a0 0), .int p1, .int p2, .int p3]) (n := 6) (Nat.le_of_ble_eq_true rfl)
  rw [lg_entry_eq]
  generalize (lg_sl ([.ref (a0 0), .int p1, .int p2, .int p3]) ++ List.replicate (6 - (lg_sl ([.ref (a0 0), .int p1, .int p2, .int p3])).length) Slot.unset).toArray = ls at hl ⊢
  have hl : lv_has ls 6 [(0, .ref (a0 0)), (1, .int p1), (2, .int p2), (3, .int p3)] := hl
  refine W_nl t0 ?_
  rw [f_X7_heard] at hM
  refine lv_aload_n hx hb dX7_heard_0 rfl (lv_at hl 0 rfl) ?_
  refine lv_iload_n hx hb dX7_heard_1 rfl (lv_at hl 3 rfl) ?_
  refine rVR (wc := (wXT g a0 (fm a0 V0 kv (tvOf t0)) U0)) (As := [.int p3]) (rest := []) (q0 := 0) hS (c_X7_isOne l g a0 (fm a0 V0 kv (tvOf t0)) U0 p3) gX7_heard_X7_isOne rfl hd_X7_isOne ⟨Nat.le_of_ble_eq_true rfl, Nat.le_of_ble_eq_true rfl⟩ hK (va_P.pm hw.1 (pmX2 _ _ _ _ _ _ _ _ _)) rfl rfl rfl rfl hl.1 rfl (Nat.le_of_ble_eq_true rfl) dX7_heard_2 ⟨nlc _ _ _, nlc _ _ _⟩ ?_
  refine lv_if_ne (tgt := 15) hx hb dX7_heard_5 (by decide) (fun c2 => ?_) (fun c2 => ?_)
  · replace hM := itn c2 hM
    refine lv_aload_n hx hb dX7_heard_15 rfl (lv_at hl 0 rfl) ?_
    refine lv_iload_n hx hb dX7_heard_16 rfl (lv_at hl 1 rfl) ?_
    refine lv_iload_n hx hb dX7_heard_17 rfl (lv_at hl 2 rfl) ?_
    obtain ⟨q6, h5, hM⟩ := bd hM
    refine rVWp (wc := (wXM g a0 U0 V0 M0 R0 kv (tvOf t0))) (wq := ((wXM g a0 U0 q6.2 M0 R0 kv (tvOf t0)) ++ (wOT g t0))) (As := [.int p1, .int p2]) (rest := []) (q0 := 0) hS (c_X7_noEvening l g a0 kv (tvOf t0) U0 V0 M0 R0 p1 p2 h5) gX7_heard_X7_noEvening rfl hd_X7_noEvening ⟨Nat.le_of_ble_eq_true rfl, Nat.le_of_ble_eq_true rfl⟩ hK hw hA (pm_2_0 _ _) rfl (pm_2_0 _ _) rfl rfl rfl rfl hl.1 rfl (Nat.le_of_ble_eq_true rfl) dX7_heard_18 ⟨nlc _ _ _, nlc _ _ _⟩ (fun H locs hw => ?_)
    refine lv_istore (lv' := [(4, .int q6.1), (0, .ref (a0 0)), (1, .int p1), (2, .int p2), (3, .int p3)]) hx hb dX7_heard_21 hl (by decide) rfl (fun ls hl => ?_)
    refine lv_iload hx hb dX7_heard_23 (lv_at hl 0 rfl) ?_
    refine lv_if_eq (tgt := 31) hx hb dX7_heard_25 (by decide) (fun c7 => ?_) (fun c7 => ?_)
    · replace hM := itp c7 hM
      refine lv_aload_n hx hb dX7_heard_31 rfl (lv_at hl 1 rfl) ?_
      refine rVF (t0 := t0) (As := []) (rest := []) (hn := (Nat.le_refl _)) hS (c_X7_fresh l g a0 U0 q6.2 M0 R0 kv t0 tp0 h0) gX7_heard_X7_fresh rfl hd_X7_fresh ⟨Nat.le_of_ble_eq_true rfl, Nat.le_of_ble_eq_true rfl⟩ hK hw hA rfl rfl rfl rfl hl.1 rfl (Nat.le_of_ble_eq_true rfl) dX7_heard_32 (fun b9 G10 H locs hw => ?_)
      have hw : Wk g A s.heap H locs ((wXM g a0 U0 q6.2 M0 R0 kv (.ref (b9 0))) ++ (wXT g b9 G10 (fr0 U0 tp0))) := hw
      refine lv_astore (lv' := [(5, .ref (b9 0)), (4, .int q6.1), (0, .ref (a0 0)), (1, .int p1), (2, .int p2), (3, .int p3)]) hx hb dX7_heard_35 hl (by decide) rfl (fun ls hl => ?_)
      refine lv_aload hx hb dX7_heard_37 (lv_at hl 0 rfl) ?_
      refine lv_aload_n hx hb dX7_heard_39 rfl (lv_at hl 2 rfl) ?_
      refine wk_get hx hb hts hin_X7 hown hK hw.1 7 0 3 (.ref (a0 12)) rfl rfl (by decide) (mi 1 rfl) rfl rfl dX7_heard_40 ?_
      refine lv_iload_n hx hb dX7_heard_43 rfl (lv_at hl 3 rfl) ?_
      obtain ⟨k11, hM⟩ := ck hM
      refine wk_aald hx hb hK hw.1 12 8 (fun i => a0 (20 + i)) 3 rfl (k11) rfl rfl dX7_heard_44 ?_
      refine lv_iload_n hx hb dX7_heard_45 rfl (lv_at hl 4 rfl) ?_
      obtain ⟨q13, h12, hM⟩ := bd hM
      refine rVWp (wc := ((wXT g b9 G10 (fr0 U0 tp0)) ++ (wAL g (fun _ => a0 (20 + (p1).toNatClampNeg)) (fun _ => (R0 (p1).toNatClampNeg))))) (wq := ((wXM g a0 U0 q6.2 M0 R0 kv (.ref (b9 0))) ++ (wXT g b9 G10 q13.2))) (As := [.ref (a0 (20 + (p1).toNatClampNeg)), .int p2]) (rest := []) (q0 := 0) hS (c_X7_goesBy l g b9 (fun _ => a0 (20 + (p1).toNatClampNeg)) G10 (fr0 U0 tp0) (fun _ => (R0 (p1).toNatClampNeg)) p2 h12) gX7_heard_X7_goesBy rfl hd_X7_goesBy ⟨Nat.le_of_ble_eq_true rfl, Nat.le_of_ble_eq_true rfl⟩ hK hw hA (pmR1 (Nat.lt_of_not_le (fun z => k11 (Or.inr z))) _ _ _ _ _ _ _ _ _) rfl (pmR1 (Nat.lt_of_not_le (fun z => k11 (Or.inr z))) _ _ _ _ _ _ _ _ _) rfl rfl rfl rfl hl.1 rfl (Nat.le_of_ble_eq_true rfl) dX7_heard_46 ⟨Nat.le_refl _, Nat.le_refl _⟩ (fun H locs hw => ?_)
      refine lv_iconst (v := (-1 : Int32)) hx hb dX7_heard_49 (by decide) ?_
      refine lv_icmp_eq (tgt := 62) hx hb dX7_heard_50 (by decide) (fun c14 => ?_) (fun c14 => ?_)
      · replace hM := itp c14 hM
        refine lv_aload hx hb dX7_heard_62 (lv_at hl 0 rfl) ?_
        refine wk_get hx hb hts hin_X7 hown hK hw.1 7 28 15 (.ref (b9 5)) rfl rfl (by decide) (mi 2 rfl) rfl rfl dX7_heard_64 ?_
        refine lv_iload_n hx hb dX7_heard_67 rfl (lv_at hl 5 rfl) ?_
        obtain ⟨k15, hM⟩ := ck hM
        refine wk_iald hx hb hK hw.1 33 7 (q13.2 15) rfl k15 dX7_heard_68 ?_
        obtain rfl := Option.some.inj hM
        exact W.iret hx hb hr (fun t ht _ => ⟨rfl, ⟨(some (b9, G10, q13.2)), rfl, by rw [ht]; exact hw.1, hw.2.1⟩, hw.2.2.F ht⟩) hw.2.2.2.2 dX7_heard_69
      · replace hM := itn c14 hM
        refine lv_aload_n hx hb dX7_heard_53 rfl (lv_at hl 2 rfl) ?_
        refine lv_bipush (v := (-5 : Int32)) hx hb dX7_heard_54 (by decide) ?_
        obtain ⟨q17, h16, hM⟩ := bd hM
        refine rVWp (wc := (wXM g a0 U0 q6.2 M0 R0 kv (.ref (b9 0)))) (wq := ((wXM g a0 U0 q17.2 M0 R0 kv (.ref (b9 0))) ++ (wXT g b9 G10 q13.2))) (As := [.int (-5 : Int32)]) (rest := []) (q0 := 0) hS (c_X7_refuse l g a0 kv (.ref (b9 0)) U0 q6.2 M0 R0 (-5 : Int32) h16) gX7_heard_X7_refuse rfl hd_X7_refuse ⟨Nat.le_of_ble_eq_true rfl, Nat.le_of_ble_eq_true rfl⟩ hK hw hA (pm_2_0 _ _) rfl (pm_2_0 _ _) rfl rfl rfl rfl hl.1 rfl (Nat.le_of_ble_eq_true rfl) dX7_heard_56 ⟨Nat.le_refl _, Nat.le_refl _⟩ (fun H locs hw => ?_)
        refine lv_goto (tgt := 69) hx hb dX7_heard_59 (by decide) ?_
        obtain rfl := Option.some.inj hM
        exact W.iret hx hb hr (fun t ht _ => ⟨rfl, ⟨(some (b9, G10, q13.2)), rfl, by rw [ht]; exact hw.1, hw.2.1⟩, hw.2.2.F ht⟩) hw.2.2.2.2 dX7_heard_69
    · replace hM := itn c7 hM
      refine lv_iload hx hb dX7_heard_28 (lv_at hl 0 rfl) ?_
      obtain rfl := Option.some.inj hM
      refine W.widen (k := 28 * nlOf t0) (n := 759 * nlOf t0) (nlc _ _ _) (nlc _ _ _) ?_
      exact W.iret hx hb hr (fun t ht _ => ⟨rfl, ⟨t0, h0, by rw [ht]; exact hw.1, hw.2.1⟩, hw.2.2.F ht⟩) hw.2.2.2.2 dX7_heard_30
  · replace hM := itp c2 hM
    refine lv_aload_n hx hb dX7_heard_8 rfl (lv_at hl 0 rfl) ?_
    refine lv_bipush (v := (-2 : Int32)) hx hb dX7_heard_9 (by decide) ?_
    obtain ⟨q4, h3, hM⟩ := bd hM
    refine rVWp (wc := (wXM g a0 U0 V0 M0 R0 kv (tvOf t0))) (wq := ((wXM g a0 U0 q4.2 M0 R0 kv (tvOf t0)) ++ (wOT g t0))) (As := [.int (-2 : Int32)]) (rest := []) (q0 := 0) hS (c_X7_refuse l g a0 kv (tvOf t0) U0 V0 M0 R0 (-2 : Int32) h3) gX7_heard_X7_refuse rfl hd_X7_refuse ⟨Nat.le_of_ble_eq_true rfl, Nat.le_of_ble_eq_true rfl⟩ hK hw hA (pm_2_0 _ _) rfl (pm_2_0 _ _) rfl rfl rfl rfl hl.1 rfl (Nat.le_of_ble_eq_true rfl) dX7_heard_11 ⟨nlc _ _ _, nlc _ _ _⟩ (fun H locs hw => ?_)
    obtain rfl := Option.some.inj hM
    refine W.widen (k := 28 * nlOf t0) (n := 759 * nlOf t0) (nlc _ _ _) (nlc _ _ _) ?_
    exact W.iret hx hb hr (fun t ht _ => ⟨rfl, ⟨t0, h0, by rw [ht]; exact hw.1, hw.2.1⟩, hw.2.2.F ht⟩) hw.2.2.2.2 dX7_heard_14
theorem hd_X7_holds : yX7_holds.cls = RX7 ∧ yX7_holds.cls ≠ "java/lang/invoke/MethodHandle" ∧ yX7_holds.cls ≠ "java/lang/invoke/VarHandle" ∧ (parseMethodDescriptor yX7_holds.desc).map (fun d => d.parameters.length) = some 1 := by decide +kernel
set_option maxHeartbeats 4000000 in
set_option maxRecDepth 100000 in
theorem c_X7_holds (l : Launch) (g : Gm) (a0 : Nat → Nat) (kv : Value) (tv : Value) (U0 : TS) (V0 : TS) (M0 : LTS) (R0 : LTS) (p1 : Int32) {q : Int32} (hM : f_X7_holds U0 V0 M0 R0 p1 = some q) : MR l yX7_holds wsX7_holds 1 25 g [.ref (a0 0), .int p1] (wXM g a0 U0 V0 M0 R0 kv tv) (some (.int q)) := by
  refine Met.ofW (cc := cX7_holds) (maxL := 2) (ret := (some .int)) (by decide) rfl ?_
  intro p e s m args below meth c s₁ B hml hv
  obtain ⟨rfl, hP, hK⟩ := hv
  have hx := B.exec; have hb := B.bytes; have hr := B.returns
  have hts := atoms_spec (ws := wsX7_holds) B.pre
  have hown : s.vm.findClass RX7 = some m.cls := findClass_of_methodNamed B.named
  have hlocks := B.notSynchronized
  have hS : CallFix p m c cX7_holds 2 s _ wsX7_holds RX7 := ⟨hx, hb, hml, hown, hts⟩
  have hin_X7 : ∀ w ∈ wsX70, w ∈ wsX7_holds := fun w h => (List.mem_cons_of_mem _ (List.mem_append_right _ h))
  have hl := lv_entry ([.ref (a0 0), .int p1]) (n := 2) (Nat.le_of_ble_eq_true rfl)
  rw [lg_entry_eq]
  generalize (lg_sl ([.ref (a0 0), .int p1]) ++ List.replicate (2 - (lg_sl ([.ref (a0 0), .int p1])).length) Slot.unset).toArray = ls at hl ⊢
  have hl : lv_has ls 2 [(0, .ref (a0 0)), (1, .int p1)] := hl
  rw [f_X7_holds] at hM
  refine lv_iload_n hx hb dX7_holds_0 rfl (lv_at hl 1 rfl) ?_
  refine lv_i2l (v := ((p1).toInt64)) hx hb dX7_holds_1 rfl ?_
  refine lv_lconst (v := (0 : Int64)) hx hb dX7_holds_2 (by decide) ?_
  refine lv_ldc2 (v := (7 : Int64)) hx hb hown (hts _ (mi 1 rfl)) dX7_holds_3 ?_
  refine rSR (wc := ([] : va_W)) (As := [.long ((p1).toInt64), .long (0 : Int64), .long (7 : Int64)]) (rest := []) hS (c_X7_in l g ((p1).toInt64) (0 : Int64) (7 : Int64)) gX7_holds_X7_in rfl hd_X7_in ⟨Nat.le_of_ble_eq_true rfl, Nat.le_of_ble_eq_true rfl⟩ hK (hP_nil) rfl hl.1 rfl (Nat.le_of_ble_eq_true rfl) dX7_holds_6 ⟨Nat.zero_le _, Nat.zero_le _⟩ ?_
  refine lv_if_eq (tgt := 21) hx hb dX7_holds_9 (by decide) (fun c2 => ?_) (fun c2 => ?_)
  · replace hM := itp c2 hM
    refine lv_iconst (v := (-1 : Int32)) hx hb dX7_holds_21 (by decide) ?_
    obtain rfl := Option.some.inj hM
    exact W.iret hx hb hr (fun t ht _ => ⟨rfl, ht⟩) (fun q hq => by cases hq) dX7_holds_22
  · replace hM := itn c2 hM
    refine lv_aload_n hx hb dX7_holds_12 rfl (lv_at hl 0 rfl) ?_
    refine wk_get hx hb hts hin_X7 hown hK hP 7 0 0 (.ref (a0 9)) rfl rfl (by decide) (mi 2 rfl) rfl rfl dX7_holds_13 ?_
    refine lv_iload_n hx hb dX7_holds_16 rfl (lv_at hl 1 rfl) ?_
    obtain ⟨k3, hM⟩ := ck hM
    refine wk_iald hx hb hK hP 9 8 (V0 0) rfl k3 dX7_holds_17 ?_
    refine lv_if_ne (tgt := 23) hx hb dX7_holds_18 (by decide) (fun c4 => ?_) (fun c4 => ?_)
    · replace hM := itn c4 hM
      refine lv_aload_n hx hb dX7_holds_23 rfl (lv_at hl 0 rfl) ?_
      refine wk_get hx hb hts hin_X7 hown hK hP 7 0 0 (.ref (a0 9)) rfl rfl (by decide) (mi 2 rfl) rfl rfl dX7_holds_24 ?_
      refine lv_iload_n hx hb dX7_holds_27 rfl (lv_at hl 1 rfl) ?_
      refine wk_iald hx hb hK hP 9 8 (V0 0) rfl k3 dX7_holds_28 ?_
      refine lv_iconst (v := (1 : Int32)) hx hb dX7_holds_29 (by decide) ?_
      have hJ11 : ∀ (x10 : Int32) (ls : Array Slot), x10 = (if ((V0 0) (p1).toNatClampNeg) = (1 : Int32) then ((V0 1) (p1).toNatClampNeg) else ((10 : Int32) + ((V0 5) (p1).toNatClampNeg))) → lv_has ls 2 [] → W p l e (headSpec wsX7_holds ({ frames := 1, cells := 0, slots := 0, locals := 25 } : Room)).room s m ([.ref (a0 0), .int p1] : List Value).toArray below meth c s.heap [] 0 0 (MQ below (QcR (some (.int q))) ([.ref (a0 0), .int p1] : List Value).toArray s 0 0 (fun _ => False)) (F0 m 51 ls [.int x10]) := by
        intro x10 ls hxx10 hl
        subst hxx10
        obtain rfl := Option.some.inj hM
        exact W.iret hx hb hr (fun t ht _ => ⟨rfl, ht⟩) (fun q hq => by cases hq) dX7_holds_51
      refine lv_icmp_ne (tgt := 42) hx hb dX7_holds_30 (by decide) (fun c5 => ?_) (fun c5 => ?_)
      · refine lv_bipush (v := (10 : Int32)) hx hb dX7_holds_42 (by decide) ?_
        refine lv_aload_n hx hb dX7_holds_44 rfl (lv_at hl 0 rfl) ?_
        refine wk_get hx hb hts hin_X7 hown hK hP 7 0 5 (.ref (a0 14)) rfl rfl (by decide) (mi 4 rfl) rfl rfl dX7_holds_45 ?_
        refine lv_iload_n hx hb dX7_holds_48 rfl (lv_at hl 1 rfl) ?_
        refine wk_iald hx hb hK hP 14 8 (V0 5) rfl k3 dX7_holds_49 ?_
        refine lv_iadd hx hb dX7_holds_50 ?_
        exact hJ11 _ _ (by first | with_reducible rfl | (simp only [if_neg c5]) | rfl) (lv_sub hl [] rfl)
      · refine lv_aload_n hx hb dX7_holds_33 rfl (lv_at hl 0 rfl) ?_
        refine wk_get hx hb hts hin_X7 hown hK hP 7 0 1 (.ref (a0 10)) rfl rfl (by decide) (mi 3 rfl) rfl rfl dX7_holds_34 ?_
        refine lv_iload_n hx hb dX7_holds_37 rfl (lv_at hl 1 rfl) ?_
        refine wk_iald hx hb hK hP 10 8 (V0 1) rfl k3 dX7_holds_38 ?_
        refine lv_goto (tgt := 51) hx hb dX7_holds_39 (by decide) ?_
        exact hJ11 _ _ (by first | with_reducible rfl | (simp only [if_pos c5]) | rfl) (lv_sub hl [] rfl)
    · replace hM := itp c4 hM
      refine lv_iconst (v := (-1 : Int32)) hx hb dX7_holds_21 (by decide) ?_
      obtain rfl := Option.some.inj hM
      exact W.iret hx hb hr (fun t ht _ => ⟨rfl, ht⟩) (fun q hq => by cases hq) dX7_holds_22
theorem hd_X7_sees : yX7_sees.cls = RX7 ∧ yX7_sees.cls ≠ "java/lang/invoke/MethodHandle" ∧ yX7_sees.cls ≠ "java/lang/invoke/VarHandle" ∧ (parseMethodDescriptor yX7_sees.desc).map (fun d => d.parameters.length) = some 3 := by decide +kernel
set_option maxHeartbeats 4000000 in
set_option maxRecDepth 100000 in
theorem c_X7_sees (l : Launch) (g : Gm) (a0 : Nat → Nat) (Fw0 : Nat → Value) (U0 : TS) (p1 : Int32) (p2 : Int32) (p3 : Int32) {q : TS} (hM : f_X7_sees U0 p1 p2 p3 = some q) : MW l yX7_sees wsX7_sees 0 0 g [.ref (a0 0), .int p1, .int p2, .int p3] (wXT g a0 Fw0 U0) none (wXT g a0 Fw0 q) := by
  intro sz
  refine Met.ofW (cc := cX7_sees) (maxL := 4) (ret := none) (by decide) rfl ?_
  intro p e s m args below meth c s₁ B hml hv
  obtain ⟨rfl, hsz, hP, hK, hD0⟩ := hv
  have hx := B.exec; have hb := B.bytes; have hr := B.returns
  have hts := atoms_spec (ws := wsX7_sees) B.pre
  have hown : s.vm.findClass RX7 = some m.cls := findClass_of_methodNamed B.named
  have hlocks := B.notSynchronized
  have hS : CallFix p m c cX7_sees 4 s _ wsX7_sees RX7 := ⟨hx, hb, hml, hown, hts⟩
  have hin_X7 : ∀ w ∈ wsX70, w ∈ wsX7_sees := fun w h => (List.mem_cons_of_mem _ (List.mem_append_right _ h))
  subst hsz
  have hw := wk_start hP hD0
  have hA : ∀ q : Nat, s.heap.size ≤ q → va_A (wXT g a0 Fw0 U0) s.heap.size q := fun q h => Or.inr h
  generalize va_A (wXT g a0 Fw0 U0) s.heap.size = A at hw hA ⊢
  clear hP hD0
  have hl := lv_entry ([.ref (a0 0), .int p1, .int p2, .int p3]) (n := 4) (Nat.le_of_ble_eq_true rfl)
  rw [lg_entry_eq]
  generalize (lg_sl ([.ref (a0 0), .int p1, .int p2, .int p3]) ++ List.replicate (4 - (lg_sl ([.ref (a0 0), .int p1, .int p2, .int p3])).length) Slot.unset).toArray = ls at hl ⊢
  have hl : lv_has ls 4 [(0, .ref (a0 0)), (1, .int p1), (2, .int p2), (3, .int p3)] := hl
  rw [f_X7_sees] at hM
  refine lv_aload_n hx hb dX7_sees_0 rfl (lv_at hl 0 rfl) ?_
  refine wk_get hx hb hts hin_X7 hown hK hw.1 7 0 13 (.ref (a0 3)) rfl rfl (by decide) (mi 1 rfl) rfl rfl dX7_sees_1 ?_
  refine lv_iload_n hx hb dX7_sees_4 rfl (lv_at hl 1 rfl) ?_
  refine lv_dup2_11 hx hb dX7_sees_5 rfl rfl ?_
  obtain ⟨k1, hM⟩ := ck hM
  refine wk_iald hx hb hK hw.1 3 7 (U0 13) rfl k1 dX7_sees_6 ?_
  refine lv_iconst (v := (1 : Int32)) hx hb dX7_sees_7 (by decide) ?_
  refine lv_iload_n hx hb dX7_sees_8 rfl (lv_at hl 2 rfl) ?_
  refine lv_ishl hx hb dX7_sees_9 ?_
  refine lv_iconst (v := (-1 : Int32)) hx hb dX7_sees_10 (by decide) ?_
  refine lv_ixor hx hb dX7_sees_11 ?_
  refine lv_iand hx hb dX7_sees_12 ?_
  refine wk_iast (wq := (wXT g a0 Fw0 (up U0 13 (upd (U0 13) (p1).toNatClampNeg (((U0 13) (p1).toNatClampNeg) &&& (((1 : Int32) <<< (p2 &&& 31)) ^^^ (-1 : Int32))))))) hx hb hK hw 3 7 (U0 13) rfl k1 dX7_sees_13 rfl (fun H locs hw => ?_)
  refine lv_aload_n hx hb dX7_sees_14 rfl (lv_at hl 0 rfl) ?_
  refine wk_get hx hb hts hin_X7 hown hK hw.1 7 0 14 (.ref (a0 4)) rfl rfl (by decide) (mi 2 rfl) rfl rfl dX7_sees_15 ?_
  refine lv_iload_n hx hb dX7_sees_18 rfl (lv_at hl 1 rfl) ?_
  refine lv_dup2_11 hx hb dX7_sees_19 rfl rfl ?_
  refine wk_iald hx hb hK hw.1 4 7 (U0 14) rfl k1 dX7_sees_20 ?_
  refine lv_iconst (v := (1 : Int32)) hx hb dX7_sees_21 (by decide) ?_
  refine lv_iload_n hx hb dX7_sees_22 rfl (lv_at hl 2 rfl) ?_
  refine lv_ishl hx hb dX7_sees_23 ?_
  refine lv_iconst (v := (-1 : Int32)) hx hb dX7_sees_24 (by decide) ?_
  refine lv_ixor hx hb dX7_sees_25 ?_
  refine lv_iand hx hb dX7_sees_26 ?_
  refine wk_iast (wq := (wXT g a0 Fw0 (up (up U0 13 (upd (U0 13) (p1).toNatClampNeg (((U0 13) (p1).toNatClampNeg) &&& (((1 : Int32) <<< (p2 &&& 31)) ^^^ (-1 : Int32))))) 14 (upd (U0 14) (p1).toNatClampNeg (((U0 14) (p1).toNatClampNeg) &&& (((1 : Int32) <<< (p2 &&& 31)) ^^^ (-1 : Int32))))))) hx hb hK hw 4 7 (U0 14) rfl k1 dX7_sees_27 rfl (fun H locs hw => ?_)
  refine lv_aload_n hx hb dX7_sees_28 rfl (lv_at hl 0 rfl) ?_
  refine wk_get hx hb hts hin_X7 hown hK hw.1 7 0 13 (.ref (a0 3)) rfl rfl (by decide) (mi 1 rfl) rfl rfl dX7_sees_29 ?_
  refine lv_iload_n hx hb dX7_sees_32 rfl (lv_at hl 1 rfl) ?_
  refine lv_dup2_11 hx hb dX7_sees_33 rfl rfl ?_
  refine wk_iald hx hb hK hw.1 3 7 (upd (U0 13) (p1).toNatClampNeg (((U0 13) (p1).toNatClampNeg) &&& (((1 : Int32) <<< (p2 &&& 31)) ^^^ (-1 : Int32)))) rfl k1 dX7_sees_34 ?_
  refine lv_iload_n hx hb dX7_sees_35 rfl (lv_at hl 3 rfl) ?_
  refine lv_iconst (v := (2 : Int32)) hx hb dX7_sees_36 (by decide) ?_
  have hJ13 : ∀ (H : Heap) (locs : List Loc) (x12 : Int32) (ls : Array Slot), Wk g A s.heap H locs (wXT g a0 Fw0 (up (up U0 13 (upd (U0 13) (p1).toNatClampNeg (((U0 13) (p1).toNatClampNeg) &&& (((1 : Int32) <<< (p2 &&& 31)) ^^^ (-1 : Int32))))) 14 (upd (U0 14) (p1).toNatClampNeg (((U0 14) (p1).toNatClampNeg) &&& (((1 : Int32) <<< (p2 &&& 31)) ^^^ (-1 : Int32)))))) → x12 = (if p3 = (2 : Int32) then ((1 : Int32) <<< (p2 &&& 31)) else (0 : Int32)) → lv_has ls 4 [(0, .ref (a0 0)), (1, .int p1), (2, .int p2), (3, .int p3)] → W p l e (headSpec wsX7_sees ({ frames := 0, cells := 0, slots := 0, locals := 0 } : Room)).room s m ([.ref (a0 0), .int p1, .int p2, .int p3] : List Value).toArray below meth c H locs 0 0 (MQ below (QcW g none (wXT g a0 Fw0 q) A) ([.ref (a0 0), .int p1, .int p2, .int p3] : List Value).toArray s 0 0 A) (F0 m 47 ls [.int x12, .int ((upd (U0 13) (p1).toNatClampNeg (((U0 13) (p1).toNatClampNeg) &&& (((1 : Int32) <<< (p2 &&& 31)) ^^^ (-1 : Int32)))) (p1).toNatClampNeg), .int p1, .ref (a0 3)]) := by
    intro H locs x12 ls hw hxx12 hl
    subst hxx12
    refine lv_ior hx hb dX7_sees_47 ?_
    refine wk_iast (wq := (wXT g a0 Fw0 (up (up U0 14 (upd (U0 14) (p1).toNatClampNeg (((U0 14) (p1).toNatClampNeg) &&& (((1 : Int32) <<< (p2 &&& 31)) ^^^ (-1 : Int32))))) 13 (upd (upd (U0 13) (p1).toNatClampNeg (((U0 13) (p1).toNatClampNeg) &&& (((1 : Int32) <<< (p2 &&& 31)) ^^^ (-1 : Int32)))) (p1).toNatClampNeg (((upd (U0 13) (p1).toNatClampNeg (((U0 13) (p1).toNatClampNeg) &&& (((1 : Int32) <<< (p2 &&& 31)) ^^^ (-1 : Int32)))) (p1).toNatClampNeg) ||| (if p3 = (2 : Int32) then ((1 : Int32) <<< (p2 &&& 31)) else (0 : Int32))))))) hx hb hK hw 3 7 (upd (U0 13) (p1).toNatClampNeg (((U0 13) (p1).toNatClampNeg) &&& (((1 : Int32) <<< (p2 &&& 31)) ^^^ (-1 : Int32)))) rfl k1 dX7_sees_48 rfl (fun H locs hw => ?_)
    refine lv_aload_n hx hb dX7_sees_49 rfl (lv_at hl 0 rfl) ?_
    refine wk_get hx hb hts hin_X7 hown hK hw.1 7 0 14 (.ref (a0 4)) rfl rfl (by decide) (mi 2 rfl) rfl rfl dX7_sees_50 ?_
    refine lv_iload_n hx hb dX7_sees_53 rfl (lv_at hl 1 rfl) ?_
    refine lv_dup2_11 hx hb dX7_sees_54 rfl rfl ?_
    refine wk_iald hx hb hK hw.1 4 7 (upd (U0 14) (p1).toNatClampNeg (((U0 14) (p1).toNatClampNeg) &&& (((1 : Int32) <<< (p2 &&& 31)) ^^^ (-1 : Int32)))) rfl k1 dX7_sees_55 ?_
    refine lv_iload_n hx hb dX7_sees_56 rfl (lv_at hl 3 rfl) ?_
    refine lv_iconst (v := (1 : Int32)) hx hb dX7_sees_57 (by decide) ?_
    have hJ15 : ∀ (H : Heap) (locs : List Loc) (x14 : Int32) (ls : Array Slot), Wk g A s.heap H locs (wXT g a0 Fw0 (up (up U0 14 (upd (U0 14) (p1).toNatClampNeg (((U0 14) (p1).toNatClampNeg) &&& (((1 : Int32) <<< (p2 &&& 31)) ^^^ (-1 : Int32))))) 13 (upd (upd (U0 13) (p1).toNatClampNeg (((U0 13) (p1).toNatClampNeg) &&& (((1 : Int32) <<< (p2 &&& 31)) ^^^ (-1 : Int32)))) (p1).toNatClampNeg (((upd (U0 13) (p1).toNatClampNeg (((U0 13) (p1).toNatClampNeg) &&& (((1 : Int32) <<< (p2 &&& 31)) ^^^ (-1 : Int32)))) (p1).toNatClampNeg) ||| (if p3 = (2 : Int32) then ((1 : Int32) <<< (p2 &&& 31)) else (0 : Int32)))))) → x14 = (if p3 = (1 : Int32) then ((1 : Int32) <<< (p2 &&& 31)) else (0 : Int32)) → lv_has ls 4 [] → W p l e (headSpec wsX7_sees ({ frames := 0, cells := 0, slots := 0, locals := 0 } : Room)).room s m ([.ref (a0 0), .int p1, .int p2, .int p3] : List Value).toArray below meth c H locs 0 0 (MQ below (QcW g none (wXT g a0 Fw0 q) A) ([.ref (a0 0), .int p1, .int p2, .int p3] : List Value).toArray s 0 0 A) (F0 m 68 ls [.int x14, .int ((upd (U0 14) (p1).toNatClampNeg (((U0 14) (p1).toNatClampNeg) &&& (((1 : Int32) <<< (p2 &&& 31)) ^^^ (-1 : Int32)))) (p1).toNatClampNeg), .int p1, .ref (a0 4)]) := by
      intro H locs x14 ls hw hxx14 hl
      subst hxx14
      refine lv_ior hx hb dX7_sees_68 ?_
      refine wk_iast (wq := (wXT g a0 Fw0 (up (up U0 13 (upd (upd (U0 13) (p1).toNatClampNeg (((U0 13) (p1).toNatClampNeg) &&& (((1 : Int32) <<< (p2 &&& 31)) ^^^ (-1 : Int32)))) (p1).toNatClampNeg (((upd (U0 13) (p1).toNatClampNeg (((U0 13) (p1).toNatClampNeg) &&& (((1 : Int32) <<< (p2 &&& 31)) ^^^ (-1 : Int32)))) (p1).toNatClampNeg) ||| (if p3 = (2 : Int32) then ((1 : Int32) <<< (p2 &&& 31)) else (0 : Int32))))) 14 (upd (upd (U0 14) (p1).toNatClampNeg (((U0 14) (p1).toNatClampNeg) &&& (((1 : Int32) <<< (p2 &&& 31)) ^^^ (-1 : Int32)))) (p1).toNatClampNeg (((upd (U0 14) (p1).toNatClampNeg (((U0 14) (p1).toNatClampNeg) &&& (((1 : Int32) <<< (p2 &&& 31)) ^^^ (-1 : Int32)))) (p1).toNatClampNeg) ||| (if p3 = (1 : Int32) then ((1 : Int32) <<< (p2 &&& 31)) else (0 : Int32))))))) hx hb hK hw 4 7 (upd (U0 14) (p1).toNatClampNeg (((U0 14) (p1).toNatClampNeg) &&& (((1 : Int32) <<< (p2 &&& 31)) ^^^ (-1 : Int32)))) rfl k1 dX7_sees_69 rfl (fun H locs hw => ?_)
      obtain rfl := Option.some.inj hM
      exact W.vret hx hb hr (fun t ht _ => ⟨rfl, by rw [ht]; exact hw.1, hw.2.2.F ht⟩) hw.2.2.2.2 dX7_sees_70
    refine lv_icmp_ne (tgt := 67) hx hb dX7_sees_58 (by decide) (fun c3 => ?_) (fun c3 => ?_)
    · refine lv_iconst (v := (0 : Int32)) hx hb dX7_sees_67 (by decide) ?_
      exact hJ15 _ _ _ _ hw (by first | with_reducible rfl | (simp only [if_neg c3]) | rfl) (lv_sub hl [] rfl)
    · refine lv_iconst (v := (1 : Int32)) hx hb dX7_sees_61 (by decide) ?_
      refine lv_iload_n hx hb dX7_sees_62 rfl (lv_at hl 2 rfl) ?_
      refine lv_ishl hx hb dX7_sees_63 ?_
      refine lv_goto (tgt := 68) hx hb dX7_sees_64 (by decide) ?_
      exact hJ15 _ _ _ _ hw (by first | with_reducible rfl | (simp only [if_pos c3]) | rfl) (lv_sub hl [] rfl)
  refine lv_icmp_ne (tgt := 46) hx hb dX7_sees_37 (by decide) (fun c2 => ?_) (fun c2 => ?_)
  · refine lv_iconst (v := (0 : Int32)) hx hb dX7_sees_46 (by decide) ?_
    exact hJ13 _ _ _ _ hw (by first | with_reducible rfl | (simp only [if_neg c2]) | rfl) (lv_sub hl [0, 1, 2, 3] rfl)
  · refine lv_iconst (v := (1 : Int32)) hx hb dX7_sees_40 (by decide) ?_
    refine lv_iload_n hx hb dX7_sees_41 rfl (lv_at hl 2 rfl) ?_
    refine lv_ishl hx hb dX7_sees_42 ?_
    refine lv_goto (tgt := 47) hx hb dX7_sees_43 (by decide) ?_
    exact hJ13 _ _ _ _ hw (by first | with_reducible rfl | (simp only [if_pos c2]) | rfl) (lv_sub hl [0, 1, 2, 3] rfl)
theorem hd_X7_isStopped : yX7_isStopped.cls = RX7 ∧ yX7_isStopped.cls ≠ "java/lang/invoke/MethodHandle" ∧ yX7_isStopped.cls ≠ "java/lang/invoke/VarHandle" ∧ (parseMethodDescriptor yX7_isStopped.desc).map (fun d => d.parameters.length) = some 3 := by decide +kernel
set_option maxHeartbeats 4000000 in
set_option maxRecDepth 100000 in
theorem c_X7_isStopped (l : Launch) (g : Gm) (a0 : Nat → Nat) (U0 : TS) (V0 : TS) (M0 : LTS) (R0 : LTS) (kv : Value) (t0 : Tr) (tp0 : Option (Nat → Int32)) (h0 : tpOf t0 = tp0) (p1 : Int32) (p2 : Int32) (p3 : Int32) {q : (Int32 × (Option (Nat → Int32)))} (hM : f_X7_isStopped U0 V0 M0 R0 tp0 p1 p2 p3 = some q) : MB l yX7_isStopped wsX7_isStopped 5 140 g [.ref (a0 0), .int p1, .int p2, .int p3] (fun t => (wXM g a0 U0 V0 M0 R0 kv (tvOf t)) ++ wOT g t) t0 (some (.int q.1)) (fun t => (wXM g a0 U0 V0 M0 R0 kv (tvOf t)) ++ wOT g t) q.2 := by
  intro sz
  refine Met.ofW (cc := cX7_isStopped) (maxL := 6) (ret := (some .boolean)) (by decide) rfl ?_
  intro p e s m args below meth c s₁ B hml hv
  obtain ⟨rfl, hsz, hP, hK, hD0⟩ := hv
  have hx := B.exec; have hb := B.bytes; have hr := B.returns
  have hts := atoms_spec (ws := wsX7_isStopped) B.pre
  have hown : s.vm.findClass RX7 = some m.cls := findClass_of_methodNamed B.named
  have hlocks := B.notSynchronized
  have hS : CallFix p m c cX7_isStopped 6 s _ wsX7_isStopped RX7 := ⟨hx, hb, hml, hown, hts⟩
  have hin_X7 : ∀ w ∈ wsX70, w ∈ wsX7_isStopped := fun w h => (List.mem_cons_of_mem _ (List.mem_append_right _ h))
  subst hsz
  have hw := wk_start hP hD0
  have hA : ∀ q : Nat, s.heap.size ≤ q → va_A ((wXM g a0 U0 V0 M0 R0 kv (tvOf t0)) ++ (wOT g t0)) s.heap.size q := fun q h => Or.inr h
  generalize va_A ((wXM g a0 U0 V0 M0 R0 kv (tvOf t0)) ++ (wOT g t0)) s.heap.size = A at hw hA ⊢
  clear hP hD0
  have hl := lv_entry ([.ref (a0 0), .int p1, .int p2, .int p3]) (n := 6) (Nat.le_of_ble_eq_true rfl)
  rw [lg_entry_eq]
  generalize (lg_sl ([.ref (a0 0), .int p1, .int p2, .int p3]) ++ List.replicate (6 - (lg_sl ([.ref (a0 0), .int p1, .int p2, .int p3])).length) Slot.unset).toArray = ls at hl ⊢
  have hl : lv_has ls 6 [(0, .ref (a0 0)), (1, .int p1), (2, .int p2), (3, .int p3)] := hl
  refine W_nl t0 ?_
  rw [f_X7_isStopped] at hM
  refine lv_aload_n hx hb dX7_isStopped_0 rfl (lv_at hl 0 rfl) ?_
  refine rVF (t0 := t0) (As := []) (rest := []) (hn := (Nat.le_refl _)) hS (c_X7_fresh l g a0 U0 V0 M0 R0 kv t0 tp0 h0) gX7_isStopped_X7_fresh rfl hd_X7_fresh ⟨Nat.le_of_ble_eq_true rfl, Nat.le_of_ble_eq_true rfl⟩ hK hw hA rfl rfl rfl rfl hl.1 rfl (Nat.le_of_ble_eq_true rfl) dX7_isStopped_1 (fun b2 G3 H locs hw => ?_)
  have hw : Wk g A s.heap H locs ((wXM g a0 U0 V0 M0 R0 kv (.ref (b2 0))) ++ (wXT g b2 G3 (fr0 U0 tp0))) := hw
  refine lv_astore (lv' := [(4, .ref (b2 0)), (0, .ref (a0 0)), (1, .int p1), (2, .int p2), (3, .int p3)]) hx hb dX7_isStopped_4 hl (by decide) rfl (fun ls hl => ?_)
  refine lv_iconst (v := (0 : Int32)) hx hb dX7_isStopped_6 (by decide) ?_
  refine lv_istore (lv' := [(5, .int (0 : Int32)), (4, .ref (b2 0)), (0, .ref (a0 0)), (1, .int p1), (2, .int p2), (3, .int p3)]) hx hb dX7_isStopped_7 hl (by decide) rfl (fun ls hl => ?_)
  obtain ⟨q6, hL9, hM9⟩ := bd hM
  have hJ9 : ∀ (q6x : TS), q6 = .inr q6x → ∀ (H : Heap) (locs : List Loc), Wk g A s.heap H locs ((wXM g a0 U0 V0 M0 R0 kv (.ref (b2 0))) ++ (wXT g b2 G3 q6x)) → ∀ (ls : Array Slot), lv_has ls 6 [(4, .ref (b2 0)), (2, .int p2), (3, .int p3)] → W p l e (headSpec wsX7_isStopped ({ frames := 5, cells := 28 * nlOf t0, slots := 759 * nlOf t0, locals := 140 } : Room)).room s m ([.ref (a0 0), .int p1, .int p2, .int p3] : List Value).toArray below meth c H locs (28 * nlOf t0) (759 * nlOf t0) (MQ below (QcB g (some (.int q.1)) (fun t => (wXM g a0 U0 V0 M0 R0 kv (tvOf t)) ++ wOT g t) q.2 A) ([.ref (a0 0), .int p1, .int p2, .int p3] : List Value).toArray s (28 * nlOf t0) (759 * nlOf t0) A) (F0 m 55 ls []) := by
    intro q6x hX9 H locs hw ls hl
    rw [hX9] at hM9
    have hM := eo_inr hM9
    refine lv_iconst (v := (0 : Int32)) hx hb dX7_isStopped_55 (by decide) ?_
    refine lv_istore (lv' := [(5, .int (0 : Int32)), (4, .ref (b2 0)), (2, .int p2), (3, .int p3)]) hx hb dX7_isStopped_56 hl (by decide) rfl (fun ls hl => ?_)
    obtain ⟨q16, hL58, hM58⟩ := bd hM
    have hJ58 : ∀ (q16x : TS), q16 = .inr q16x → ∀ (H : Heap) (locs : List Loc), Wk g A s.heap H locs ((wXM g a0 U0 V0 M0 R0 kv (.ref (b2 0))) ++ (wXT g b2 G3 q16x)) → ∀ (ls : Array Slot), lv_has ls 6 [(4, .ref (b2 0)), (2, .int p2)] → W p l e (headSpec wsX7_isStopped ({ frames := 5, cells := 28 * nlOf t0, slots := 759 * nlOf t0, locals := 140 } : Room)).room s m ([.ref (a0 0), .int p1, .int p2, .int p3] : List Value).toArray below meth c H locs (28 * nlOf t0) (759 * nlOf t0) (MQ below (QcB g (some (.int q.1)) (fun t => (wXM g a0 U0 V0 M0 R0 kv (tvOf t)) ++ wOT g t) q.2 A) ([.ref (a0 0), .int p1, .int p2, .int p3] : List Value).toArray s (28 * nlOf t0) (759 * nlOf t0) A) (F0 m 87 ls []) := by
      intro q16x hX58 H locs hw ls hl
      rw [hX58] at hM58
      have hM := eo_inr hM58
      refine lv_aload hx hb dX7_isStopped_87 (lv_at hl 0 rfl) ?_
      refine lv_iload_n hx hb dX7_isStopped_89 rfl (lv_at hl 1 rfl) ?_
      obtain ⟨q24, h23, hM⟩ := bd hM
      refine rVR (wc := (wXT g b2 G3 q16x)) (As := [.int p2]) (rest := []) (q0 := 0) hS (c_X7_mouthsOf l g b2 G3 q16x p2 h23) gX7_isStopped_X7_mouthsOf rfl hd_X7_mouthsOf ⟨Nat.le_of_ble_eq_true rfl, Nat.le_of_ble_eq_true rfl⟩ hK (va_P.pm hw.1 (pm_2_1 _ _)) rfl rfl rfl rfl hl.1 rfl (Nat.le_of_ble_eq_true rfl) dX7_isStopped_90 ⟨Nat.le_refl _, Nat.le_refl _⟩ ?_
      have hJ31 : ∀ (H : Heap) (locs : List Loc) (x30 : Int32) (ls : Array Slot), Wk g A s.heap H locs ((wXM g a0 U0 V0 M0 R0 kv (.ref (b2 0))) ++ (wXT g b2 G3 q16x)) → x30 = (if q24 = 0 then (1 : Int32) else (0 : Int32)) → lv_has ls 6 [] → W p l e (headSpec wsX7_isStopped ({ frames := 5, cells := 28 * nlOf t0, slots := 759 * nlOf t0, locals := 140 } : Room)).room s m ([.ref (a0 0), .int p1, .int p2, .int p3] : List Value).toArray below meth c H locs (28 * nlOf t0) (759 * nlOf t0) (MQ below (QcB g (some (.int q.1)) (fun t => (wXM g a0 U0 V0 M0 R0 kv (tvOf t)) ++ wOT g t) q.2 A) ([.ref (a0 0), .int p1, .int p2, .int p3] : List Value).toArray s (28 * nlOf t0) (759 * nlOf t0) A) (F0 m 101 ls [.int x30]) := by
        intro H locs x30 ls hw hxx30 hl
        subst hxx30
        obtain rfl := Option.some.inj hM
        exact W.zret hx hb hr (nz (by repeat (first | exact Or.inl rfl | exact Or.inr rfl | split))) (fun t ht _ => ⟨rfl, ⟨(some (b2, G3, q16x)), rfl, by rw [ht]; exact hw.1, hw.2.1⟩, hw.2.2.F ht⟩) hw.2.2.2.2 dX7_isStopped_101
      refine lv_if_ne (tgt := 100) hx hb dX7_isStopped_93 (by decide) (fun c25 => ?_) (fun c25 => ?_)
      · refine lv_iconst (v := (0 : Int32)) hx hb dX7_isStopped_100 (by decide) ?_
        exact hJ31 _ _ _ _ hw (by first | with_reducible rfl | (simp only [if_neg c25]) | rfl) (lv_sub hl [] rfl)
      · refine lv_iconst (v := (1 : Int32)) hx hb dX7_isStopped_96 (by decide) ?_
        refine lv_goto (tgt := 101) hx hb dX7_isStopped_97 (by decide) ?_
        exact hJ31 _ _ _ _ hw (by first | with_reducible rfl | (simp only [if_pos c25]) | rfl) (lv_sub hl [] rfl)
    have hW58 : ∀ (n : Nat) (v5_14 : Int32) (UL15 : TS), L_X7_isStopped_58 p2 p3 n v5_14 UL15 = some q16 → ∀ (H : Heap) (locs : List Loc), Wk g A s.heap H locs ((wXM g a0 U0 V0 M0 R0 kv (.ref (b2 0))) ++ (wXT g b2 G3 UL15)) → ∀ (ls : Array Slot), lv_has ls 6 [(5, .int v5_14), (4, .ref (b2 0)), (2, .int p2), (3, .int p3)] → W p l e (headSpec wsX7_isStopped ({ frames := 5, cells := 28 * nlOf t0, slots := 759 * nlOf t0, locals := 140 } : Room)).room s m ([.ref (a0 0), .int p1, .int p2, .int p3] : List Value).toArray below meth c H locs (28 * nlOf t0) (759 * nlOf t0) (MQ below (QcB g (some (.int q.1)) (fun t => (wXM g a0 U0 V0 M0 R0 kv (tvOf t)) ++ wOT g t) q.2 A) ([.ref (a0 0), .int p1, .int p2, .int p3] : List Value).toArray s (28 * nlOf t0) (759 * nlOf t0) A) (F0 m 58 ls []) := by
      intro n
      induction n with
      | zero => intro v5_14 UL15 hM; rw [L_X7_isStopped_58] at hM; exact nn hM
      | succ n ih58 =>
        intro v5_14 UL15 hM H locs hw ls hl
        rw [L_X7_isStopped_58] at hM
        refine lv_iload hx hb dX7_isStopped_58 (lv_at hl 0 rfl) ?_
        refine lv_iload_n hx hb dX7_isStopped_60 rfl (lv_at hl 3 rfl) ?_
        refine lv_icmp_ge (tgt := 87) hx hb dX7_isStopped_61 (by decide) (fun c17 => ?_) (fun c17 => ?_)
        · replace hM := itp c17 hM
          exact hJ58 _ (Option.some.inj hM).symm _ _ hw _ (lv_sub hl [1, 2] rfl)
        · replace hM := itn c17 hM
          refine lv_aload hx hb dX7_isStopped_64 (lv_at hl 1 rfl) ?_
          refine lv_iload_n hx hb dX7_isStopped_66 rfl (lv_at hl 2 rfl) ?_
          obtain ⟨q19, h18, hM⟩ := bd hM
          refine rVR (wc := (wXT g b2 G3 UL15)) (As := [.int p2]) (rest := []) (q0 := 0) hS (c_X7_mouthsOf l g b2 G3 UL15 p2 h18) gX7_isStopped_X7_mouthsOf rfl hd_X7_mouthsOf ⟨Nat.le_of_ble_eq_true rfl, Nat.le_of_ble_eq_true rfl⟩ hK (va_P.pm hw.1 (pm_2_1 _ _)) rfl rfl rfl rfl hl.1 rfl (Nat.le_of_ble_eq_true rfl) dX7_isStopped_67 ⟨Nat.le_refl _, Nat.le_refl _⟩ ?_
          refine lv_if_eq (tgt := 75) hx hb dX7_isStopped_70 (by decide) (fun c20 => ?_) (fun c20 => ?_)
          · replace hM := itp c20 hM
            refine lv_aload hx hb dX7_isStopped_75 (lv_at hl 1 rfl) ?_
            obtain ⟨q22, h21, hM⟩ := bd hM
            refine rVWp (wc := (wXT g b2 G3 UL15)) (wq := ((wXM g a0 U0 V0 M0 R0 kv (.ref (b2 0))) ++ (wXT g b2 G3 q22.2))) (As := []) (rest := []) (q0 := 0) hS (c_X7_goesRound l g b2 G3 UL15 h21) gX7_isStopped_X7_goesRound rfl hd_X7_goesRound ⟨Nat.le_of_ble_eq_true rfl, Nat.le_of_ble_eq_true rfl⟩ hK hw hA (pm_2_1 _ _) rfl (pm_2_1 _ _) rfl rfl rfl rfl hl.1 rfl (Nat.le_of_ble_eq_true rfl) dX7_isStopped_77 ⟨Nat.le_refl _, Nat.le_refl _⟩ (fun H locs hw => ?_)
            refine lv_pop hx hb dX7_isStopped_80 rfl ?_
            refine lv_iinc (v := (v5_14 + (1 : Int32))) (lv' := [(5, .int (v5_14 + (1 : Int32))), (4, .ref (b2 0)), (2, .int p2), (3, .int p3)]) hx hb dX7_isStopped_81 hl (k := 0) rfl rfl (by decide) rfl (fun ls hl => ?_)
            refine lv_goto (tgt := 58) hx hb dX7_isStopped_84 (by decide) ?_
            exact ih58 (v5_14 + (1 : Int32)) q22.2 hM _ _ hw _ (lv_sub hl [0, 1, 2, 3] rfl)
          · replace hM := itn c20 hM
            refine lv_iconst (v := (0 : Int32)) hx hb dX7_isStopped_73 (by decide) ?_
            have hE := Option.some.inj hM
            have hM58' := hM58
            rw [← hE] at hM58'
            obtain rfl := eo_inl hM58'
            exact W.zret hx hb hr (nz (Or.inl rfl)) (fun t ht _ => ⟨rfl, ⟨(some (b2, G3, UL15)), rfl, by rw [ht]; exact hw.1, hw.2.1⟩, hw.2.2.F ht⟩) hw.2.2.2.2 dX7_isStopped_74
    exact hW58 300 (0 : Int32) q6x hL58 _ _ hw _ (lv_sub hl [0, 1, 2, 3] rfl)
  have hW9 : ∀ (n : Nat) (v5_4 : Int32) (UL5 : TS), L_X7_isStopped_9 U0 p1 p2 n v5_4 UL5 = some q6 → ∀ (H : Heap) (locs : List Loc), Wk g A s.heap H locs ((wXM g a0 U0 V0 M0 R0 kv (.ref (b2 0))) ++ (wXT g b2 G3 UL5)) → ∀ (ls : Array Slot), lv_has ls 6 [(5, .int v5_4), (4, .ref (b2 0)), (0, .ref (a0 0)), (1, .int p1), (2, .int p2), (3, .int p3)] → W p l e (headSpec wsX7_isStopped ({ frames := 5, cells := 28 * nlOf t0, slots := 759 * nlOf t0, locals := 140 } : Room)).room s m ([.ref (a0 0), .int p1, .int p2, .int p3] : List Value).toArray below meth c H locs (28 * nlOf t0) (759 * nlOf t0) (MQ below (QcB g (some (.int q.1)) (fun t => (wXM g a0 U0 V0 M0 R0 kv (tvOf t)) ++ wOT g t) q.2 A) ([.ref (a0 0), .int p1, .int p2, .int p3] : List Value).toArray s (28 * nlOf t0) (759 * nlOf t0) A) (F0 m 9 ls []) := by
    intro n
    induction n with
    | zero => intro v5_4 UL5 hM; rw [L_X7_isStopped_9] at hM; exact nn hM
    | succ n ih9 =>
      intro v5_4 UL5 hM H locs hw ls hl
      rw [L_X7_isStopped_9] at hM
      refine lv_iload hx hb dX7_isStopped_9 (lv_at hl 0 rfl) ?_
      refine lv_aload_n hx hb dX7_isStopped_11 rfl (lv_at hl 2 rfl) ?_
      refine wk_get hx hb hts hin_X7 hown hK hw.1 7 0 10 (.int (U0 10 0)) rfl rfl (by decide) (mi 1 rfl) rfl rfl dX7_isStopped_12 ?_
      refine lv_icmp_ge (tgt := 55) hx hb dX7_isStopped_15 (by decide) (fun c7 => ?_) (fun c7 => ?_)
      · replace hM := itp c7 hM
        exact hJ9 _ (Option.some.inj hM).symm _ _ hw _ (lv_sub hl [1, 4, 5] rfl)
      · replace hM := itn c7 hM
        refine lv_iload_n hx hb dX7_isStopped_18 rfl (lv_at hl 3 rfl) ?_
        refine lv_iload hx hb dX7_isStopped_19 (lv_at hl 0 rfl) ?_
        refine rSR (wc := ([] : va_W)) (As := [.int p1, .int v5_4]) (rest := []) hS (c_X7_has l g p1 v5_4) gX7_isStopped_X7_has rfl hd_X7_has ⟨Nat.le_of_ble_eq_true rfl, Nat.le_of_ble_eq_true rfl⟩ hK (hP_nil) rfl hl.1 rfl (Nat.le_of_ble_eq_true rfl) dX7_isStopped_21 ⟨Nat.le_refl _, Nat.le_refl _⟩ ?_
        refine lv_if_eq (tgt := 49) hx hb dX7_isStopped_24 (by decide) (fun c9 => ?_) (fun c9 => ?_)
        · replace hM := itp c9 hM
          refine lv_iinc (v := (v5_4 + (1 : Int32))) (lv' := [(5, .int (v5_4 + (1 : Int32))), (4, .ref (b2 0)), (0, .ref (a0 0)), (1, .int p1), (2, .int p2), (3, .int p3)]) hx hb dX7_isStopped_49 hl (k := 0) rfl rfl (by decide) rfl (fun ls hl => ?_)
          refine lv_goto (tgt := 9) hx hb dX7_isStopped_52 (by decide) ?_
          exact ih9 (v5_4 + (1 : Int32)) UL5 hM _ _ hw _ (lv_sub hl [0, 1, 2, 3, 4, 5] rfl)
        · replace hM := itn c9 hM
          refine lv_aload_n hx hb dX7_isStopped_27 rfl (lv_at hl 2 rfl) ?_
          refine wk_get hx hb hts hin_X7 hown hK hw.1 7 0 11 (.ref (a0 1)) rfl rfl (by decide) (mi 2 rfl) rfl rfl dX7_isStopped_28 ?_
          refine lv_iload hx hb dX7_isStopped_31 (lv_at hl 0 rfl) ?_
          obtain ⟨k10, hM⟩ := ck hM
          refine wk_iald hx hb hK hw.1 1 7 (U0 11) rfl k10 dX7_isStopped_33 ?_
          refine lv_iconst (v := (4 : Int32)) hx hb dX7_isStopped_34 (by decide) ?_
          refine lv_icmp_ne (tgt := 40) hx hb dX7_isStopped_35 (by decide) (fun c11 => ?_) (fun c11 => ?_)
          · replace hM := itn c11 hM
            refine lv_aload hx hb dX7_isStopped_40 (lv_at hl 1 rfl) ?_
            refine lv_iload hx hb dX7_isStopped_42 (lv_at hl 0 rfl) ?_
            refine lv_iload_n hx hb dX7_isStopped_44 rfl (lv_at hl 4 rfl) ?_
            refine lv_iconst (v := (2 : Int32)) hx hb dX7_isStopped_45 (by decide) ?_
            obtain ⟨q13, h12, hM⟩ := bd hM
            refine rVWp (wc := (wXT g b2 G3 UL5)) (wq := ((wXM g a0 U0 V0 M0 R0 kv (.ref (b2 0))) ++ (wXT g b2 G3 q13))) (As := [.int v5_4, .int p2, .int (2 : Int32)]) (rest := []) (q0 := 0) hS (c_X7_sees l g b2 G3 UL5 v5_4 p2 (2 : Int32) h12) gX7_isStopped_X7_sees rfl hd_X7_sees ⟨Nat.le_of_ble_eq_true rfl, Nat.le_of_ble_eq_true rfl⟩ hK hw hA (pm_2_1 _ _) rfl (pm_2_1 _ _) rfl rfl rfl rfl hl.1 rfl (Nat.le_of_ble_eq_true rfl) dX7_isStopped_46 ⟨Nat.le_refl _, Nat.le_refl _⟩ (fun H locs hw => ?_)
            refine lv_iinc (v := (v5_4 + (1 : Int32))) (lv' := [(5, .int (v5_4 + (1 : Int32))), (4, .ref (b2 0)), (0, .ref (a0 0)), (1, .int p1), (2, .int p2), (3, .int p3)]) hx hb dX7_isStopped_49 hl (k := 0) rfl rfl (by decide) rfl (fun ls hl => ?_)
            refine lv_goto (tgt := 9) hx hb dX7_isStopped_52 (by decide) ?_
            exact ih9 (v5_4 + (1 : Int32)) q13 hM _ _ hw _ (lv_sub hl [0, 1, 2, 3, 4, 5] rfl)
          · replace hM := itp c11 hM
            refine lv_iconst (v := (0 : Int32)) hx hb dX7_isStopped_38 (by decide) ?_
            have hE := Option.some.inj hM
            have hM9' := hM9
            rw [← hE] at hM9'
            obtain rfl := eo_inl hM9'
            exact W.zret hx hb hr (nz (Or.inl rfl)) (fun t ht _ => ⟨rfl, ⟨(some (b2, G3, UL5)), rfl, by rw [ht]; exact hw.1, hw.2.1⟩, hw.2.2.F ht⟩) hw.2.2.2.2 dX7_isStopped_39
  exact hW9 300 (0 : Int32) (fr0 U0 tp0) hL9 _ _ hw _ (lv_sub hl [0, 1, 2, 3, 4, 5] rfl)
theorem hd_X7_isUnder : yX7_isUnder.cls ≠ "java/lang/invoke/MethodHandle" ∧ yX7_isUnder.cls ≠ "java/lang/invoke/VarHandle" ∧ (parseMethodDescriptor yX7_isUnder.desc).map (fun d => d.parameters.length) = some 2 := by decide +kernel
set_option maxHeartbeats 4000000 in
set_option maxRecDepth 100000 in
theorem c_X7_isUnder (l : Launch) (g : Gm) (p0 : Int32) (p1 : Int32) : MR l yX7_isUnder wsX7_isUnder 0 0 g [.int p0, .int p1] ([] : va_W) (some (.int (f_X7_isUnder p0 p1))) := by
  refine Met.ofW (cc := cX7_isUnder) (maxL := 2) (ret := (some .boolean)) (by decide) rfl ?_
  intro p e s m args below meth c s₁ B hml hv
  obtain ⟨rfl, hP, hK⟩ := hv
  have hx := B.exec; have hb := B.bytes; have hr := B.returns
  have hts := atoms_spec (ws := wsX7_isUnder) B.pre
  have hown : s.vm.findClass RX7 = some m.cls := findClass_of_methodNamed B.named
  have hlocks := B.notSynchronized
  have hS : CallFix p m c cX7_isUnder 2 s _ wsX7_isUnder RX7 := ⟨hx, hb, hml, hown, hts⟩
  have hl := lv_entry ([.int p0, .int p1]) (n := 2) (Nat.le_of_ble_eq_true rfl)
  rw [lg_entry_eq]
  generalize (lg_sl ([.int p0, .int p1]) ++ List.replicate (2 - (lg_sl ([.int p0, .int p1])).length) Slot.unset).toArray = ls at hl ⊢
  have hl : lv_has ls 2 [(0, .int p0), (1, .int p1)] := hl
  obtain ⟨rr, hM⟩ : ∃ rr, f_X7_isUnder p0 p1 = rr := ⟨_, rfl⟩
  rw [hM]
  rw [f_X7_isUnder] at hM
  refine lv_iload_n hx hb dX7_isUnder_0 rfl (lv_at hl 1 rfl) ?_
  have hJ10 : ∀ (x9 : Int32) (ls : Array Slot), x9 = (if p1 = 0 then (1 : Int32) else (if p0 = p1 then (1 : Int32) else (if p1 = (2 : Int32) then (if p0 = (3 : Int32) then (1 : Int32) else (0 : Int32)) else (0 : Int32)))) → lv_has ls 2 [] → W p l e (headSpec wsX7_isUnder ({ frames := 0, cells := 0, slots := 0, locals := 0 } : Room)).room s m ([.int p0, .int p1] : List Value).toArray below meth c s.heap [] 0 0 (MQ below (QcR (some (.int rr))) ([.int p0, .int p1] : List Value).toArray s 0 0 (fun _ => False)) (F0 m 24 ls [.int x9]) := by
    intro x9 ls hxx9 hl
    subst hxx9
    subst hM
    exact W.zret hx hb hr (nz (by repeat (first | exact Or.inl rfl | exact Or.inr rfl | split))) (fun t ht _ => ⟨rfl, ht⟩) (fun q hq => by cases hq) dX7_isUnder_24
  refine lv_if_eq (tgt := 19) hx hb dX7_isUnder_1 (by decide) (fun c1 => ?_) (fun c1 => ?_)
  · refine lv_iconst (v := (1 : Int32)) hx hb dX7_isUnder_19 (by decide) ?_
    refine lv_goto (tgt := 24) hx hb dX7_isUnder_20 (by decide) ?_
    exact hJ10 _ _ (by first | with_reducible rfl | (simp only [if_pos c1]) | rfl) (lv_sub hl [] rfl)
  · refine lv_iload_n hx hb dX7_isUnder_4 rfl (lv_at hl 0 rfl) ?_
    refine lv_iload_n hx hb dX7_isUnder_5 rfl (lv_at hl 1 rfl) ?_
    refine lv_icmp_eq (tgt := 19) hx hb dX7_isUnder_6 (by decide) (fun c2 => ?_) (fun c2 => ?_)
    · refine lv_iconst (v := (1 : Int32)) hx hb dX7_isUnder_19 (by decide) ?_
      refine lv_goto (tgt := 24) hx hb dX7_isUnder_20 (by decide) ?_
      exact hJ10 _ _ (by first | with_reducible rfl | (simp only [if_neg c1, if_pos c2]) | rfl) (lv_sub hl [] rfl)
    · refine lv_iload_n hx hb dX7_isUnder_9 rfl (lv_at hl 1 rfl) ?_
      refine lv_iconst (v := (2 : Int32)) hx hb dX7_isUnder_10 (by decide) ?_
      refine lv_icmp_ne (tgt := 23) hx hb dX7_isUnder_11 (by decide) (fun c3 => ?_) (fun c3 => ?_)
      · refine lv_iconst (v := (0 : Int32)) hx hb dX7_isUnder_23 (by decide) ?_
        exact hJ10 _ _ (by first | with_reducible rfl | (simp only [if_neg c1, if_neg c2, if_neg c3]) | rfl) (lv_sub hl [] rfl)
      · refine lv_iload_n hx hb dX7_isUnder_14 rfl (lv_at hl 0 rfl) ?_
        refine lv_iconst (v := (3 : Int32)) hx hb dX7_isUnder_15 (by decide) ?_
        refine lv_icmp_ne (tgt := 23) hx hb dX7_isUnder_16 (by decide) (fun c4 => ?_) (fun c4 => ?_)
        · refine lv_iconst (v := (0 : Int32)) hx hb dX7_isUnder_23 (by decide) ?_
          exact hJ10 _ _ (by first | with_reducible rfl | (simp only [if_neg c1, if_neg c2, if_pos c3, if_neg c4]) | rfl) (lv_sub hl [] rfl)
        · refine lv_iconst (v := (1 : Int32)) hx hb dX7_isUnder_19 (by decide) ?_
          refine lv_goto (tgt := 24) hx hb dX7_isUnder_20 (by decide) ?_
          exact hJ10 _ _ (by first | with_reducible rfl | (simp only [if_neg c1, if_neg c2, if_pos c3, if_pos c4]) | rfl) (lv_sub hl [] rfl)
theorem hd_X7_judge : yX7_judge.cls = RX7 ∧ yX7_judge.cls ≠ "java/lang/invoke/MethodHandle" ∧ yX7_judge.cls ≠ "java/lang/invoke/VarHandle" ∧ (parseMethodDescriptor yX7_judge.desc).map (fun d => d.parameters.length) = some 2 := by decide +kernel
set_option maxHeartbeats 4000000 in
set_option maxRecDepth 100000 in
theorem c_X7_judge (l : Launch) (g : Gm) (a0 : Nat → Nat) (U0 : TS) (V0 : TS) (M0 : LTS) (R0 : LTS) (kv : Value) (t0 : Tr) (tp0 : Option (Nat → Int32)) (h0 : tpOf t0 = tp0) (p1 : Int32) (p2 : Int32) {q : (Int32 × TS × (Option (Nat → Int32)))} (hM : f_X7_judge U0 V0 M0 R0 tp0 p1 p2 = some q) : MB l yX7_judge wsX7_judge 5 140 g [.ref (a0 0), .int p1, .int p2] (fun t => (wXM g a0 U0 V0 M0 R0 kv (tvOf t)) ++ wOT g t) t0 (some (.int q.1)) (fun t => (wXM g a0 U0 q.2.1 M0 R0 kv (tvOf t)) ++ wOT g t) q.2.2 := by
  intro sz
  refine Met.ofW (cc := cX7_judge) (maxL := 4) (ret := (some .int)) (by decide) rfl ?_
  intro p e s m args below meth c s₁ B hml hv
  obtain ⟨rfl, hsz, hP, hK, hD0⟩ := hv
  have hx := B.exec; have hb := B.bytes; have hr := B.returns
  have hts := atoms_spec (ws := wsX7_judge) B.pre
  have hown : s.vm.findClass RX7 = some m.cls := findClass_of_methodNamed B.named
  have hlocks := B.notSynchronized
  have hS : CallFix p m c cX7_judge 4 s _ wsX7_judge RX7 := ⟨hx, hb, hml, hown, hts⟩
  have hin_X7 : ∀ w ∈ wsX70, w ∈ wsX7_judge := fun w h => (List.mem_cons_of_mem _ (List.mem_append_right _ h))
  subst hsz
  have hw := wk_start hP hD0
  have hA : ∀ q : Nat, s.heap.size ≤ q → va_A ((wXM g a0 U0 V0 M0 R0 kv (tvOf t0)) ++ (wOT g t0)) s.heap.size q := fun q h => Or.inr h
  generalize va_A ((wXM g a0 U0 V0 M0 R0 kv (tvOf t0)) ++ (wOT g t0)) s.heap.size = A at hw hA ⊢
  clear hP hD0
  have hl := lv_entry ([.ref (a0 0), .int p1, .int p2]) (n := 4) (Nat.le_of_ble_eq_true rfl)
  rw [lg_entry_eq]
  generalize (lg_sl ([.ref (a0 0), .int p1, .int p2]) ++ List.replicate (4 - (lg_sl ([.ref (a0 0), .int p1, .int p2])).length) Slot.unset).toArray = ls at hl ⊢
  have hl : lv_has ls 4 [(0, .ref (a0 0)), (1, .int p1), (2, .int p2)] := hl
  refine W_nl t0 ?_
  rw [f_X7_judge] at hM
  refine lv_aload_n hx hb dX7_judge_0 rfl (lv_at hl 0 rfl) ?_
  refine lv_iload_n hx hb dX7_judge_1 rfl (lv_at hl 1 rfl) ?_
  refine lv_iload_n hx hb dX7_judge_2 rfl (lv_at hl 2 rfl) ?_
  obtain ⟨q2, h1, hM⟩ := bd hM
  refine rVWp (wc := (wXM g a0 U0 V0 M0 R0 kv (tvOf t0))) (wq := ((wXM g a0 U0 q2.2 M0 R0 kv (tvOf t0)) ++ (wOT g t0))) (As := [.int p1, .int p2]) (rest := []) (q0 := 0) hS (c_X7_noEvening l g a0 kv (tvOf t0) U0 V0 M0 R0 p1 p2 h1) gX7_judge_X7_noEvening rfl hd_X7_noEvening ⟨Nat.le_of_ble_eq_true rfl, Nat.le_of_ble_eq_true rfl⟩ hK hw hA (pm_2_0 _ _) rfl (pm_2_0 _ _) rfl rfl rfl rfl hl.1 rfl (Nat.le_of_ble_eq_true rfl) dX7_judge_3 ⟨nlc _ _ _, nlc _ _ _⟩ (fun H locs hw => ?_)
  refine lv_istore_n (lv' := [(3, .int q2.1), (0, .ref (a0 0)), (1, .int p1), (2, .int p2)]) hx hb dX7_judge_6 rfl hl (by decide) rfl (fun ls hl => ?_)
  refine lv_iload_n hx hb dX7_judge_7 rfl (lv_at hl 0 rfl) ?_
  refine lv_if_eq (tgt := 15) hx hb dX7_judge_8 (by decide) (fun c3 => ?_) (fun c3 => ?_)
  · replace hM := itp c3 hM
    refine lv_aload_n hx hb dX7_judge_15 rfl (lv_at hl 1 rfl) ?_
    refine rVF (t0 := t0) (As := []) (rest := []) (hn := (Nat.le_refl _)) hS (c_X7_fresh l g a0 U0 q2.2 M0 R0 kv t0 tp0 h0) gX7_judge_X7_fresh rfl hd_X7_fresh ⟨Nat.le_of_ble_eq_true rfl, Nat.le_of_ble_eq_true rfl⟩ hK hw hA rfl rfl rfl rfl hl.1 rfl (Nat.le_of_ble_eq_true rfl) dX7_judge_16 (fun b5 G6 H locs hw => ?_)
    have hw : Wk g A s.heap H locs ((wXM g a0 U0 q2.2 M0 R0 kv (.ref (b5 0))) ++ (wXT g b5 G6 (fr0 U0 tp0))) := hw
    refine lv_aload_n hx hb dX7_judge_19 rfl (lv_at hl 1 rfl) ?_
    refine wk_get hx hb hts hin_X7 hown hK hw.1 7 0 3 (.ref (a0 12)) rfl rfl (by decide) (mi 1 rfl) rfl rfl dX7_judge_20 ?_
    refine lv_iload_n hx hb dX7_judge_23 rfl (lv_at hl 2 rfl) ?_
    obtain ⟨k7, hM⟩ := ck hM
    refine wk_aald hx hb hK hw.1 12 8 (fun i => a0 (20 + i)) 3 rfl (k7) rfl rfl dX7_judge_24 ?_
    refine lv_iload_n hx hb dX7_judge_25 rfl (lv_at hl 3 rfl) ?_
    obtain ⟨q9, h8, hM⟩ := bd hM
    refine rVWp (wc := ((wXT g b5 G6 (fr0 U0 tp0)) ++ (wAL g (fun _ => a0 (20 + (p1).toNatClampNeg)) (fun _ => (R0 (p1).toNatClampNeg))))) (wq := ((wXM g a0 U0 q2.2 M0 R0 kv (.ref (b5 0))) ++ (wXT g b5 G6 q9.2))) (As := [.ref (a0 (20 + (p1).toNatClampNeg)), .int p2]) (rest := []) (q0 := 0) hS (c_X7_goesBy l g b5 (fun _ => a0 (20 + (p1).toNatClampNeg)) G6 (fr0 U0 tp0) (fun _ => (R0 (p1).toNatClampNeg)) p2 h8) gX7_judge_X7_goesBy rfl hd_X7_goesBy ⟨Nat.le_of_ble_eq_true rfl, Nat.le_of_ble_eq_true rfl⟩ hK hw hA (pmR1 (Nat.lt_of_not_le (fun z => k7 (Or.inr z))) _ _ _ _ _ _ _ _ _) rfl (pmR1 (Nat.lt_of_not_le (fun z => k7 (Or.inr z))) _ _ _ _ _ _ _ _ _) rfl rfl rfl rfl hl.1 rfl (Nat.le_of_ble_eq_true rfl) dX7_judge_26 ⟨Nat.le_refl _, Nat.le_refl _⟩ (fun H locs hw => ?_)
    obtain rfl := Option.some.inj hM
    exact W.iret hx hb hr (fun t ht _ => ⟨rfl, ⟨(some (b5, G6, q9.2)), rfl, by rw [ht]; exact hw.1, hw.2.1⟩, hw.2.2.F ht⟩) hw.2.2.2.2 dX7_judge_29
  · replace hM := itn c3 hM
    refine lv_iload_n hx hb dX7_judge_11 rfl (lv_at hl 0 rfl) ?_
    refine lv_goto (tgt := 29) hx hb dX7_judge_12 (by decide) ?_
    obtain rfl := Option.some.inj hM
    refine W.widen (k := 28 * nlOf t0) (n := 759 * nlOf t0) (nlc _ _ _) (nlc _ _ _) ?_
    exact W.iret hx hb hr (fun t ht _ => ⟨rfl, ⟨t0, h0, by rw [ht]; exact hw.1, hw.2.1⟩, hw.2.2.F ht⟩) hw.2.2.2.2 dX7_judge_29
theorem hd_X7_known : yX7_known.cls = RX7 ∧ yX7_known.cls ≠ "java/lang/invoke/MethodHandle" ∧ yX7_known.cls ≠ "java/lang/invoke/VarHandle" ∧ (parseMethodDescriptor yX7_known.desc).map (fun d => d.parameters.length) = some 0 := by decide +kernel
set_option maxHeartbeats 4000000 in
set_option maxRecDepth 100000 in
theorem c_X7_known (l : Launch) (g : Gm) (a0 : Nat → Nat) (kv : Value) (tv : Value) (U0 : TS) (V0 : TS) (M0 : LTS) (R0 : LTS) {q : Int32} (hM : f_X7_known U0 V0 M0 R0 = some q) : MR l yX7_known wsX7_known 2 44 g [.ref (a0 0)] (wXM g a0 U0 V0 M0 R0 kv tv) (some (.int q)) := by
  refine Met.ofW (cc := cX7_known) (maxL := 1) (ret := (some .int)) (by decide) rfl ?_
  intro p e s m args below meth c s₁ B hml hv
  obtain ⟨rfl, hP, hK⟩ := hv
  have hx := B.exec; have hb := B.bytes; have hr := B.returns
  have hts := atoms_spec (ws := wsX7_known) B.pre
  have hown : s.vm.findClass RX7 = some m.cls := findClass_of_methodNamed B.named
  have hlocks := B.notSynchronized
  have hS : CallFix p m c cX7_known 1 s _ wsX7_known RX7 := ⟨hx, hb, hml, hown, hts⟩
  have hl := lv_entry ([.ref (a0 0)]) (n := 1) (Nat.le_of_ble_eq_true rfl)
  rw [lg_entry_eq]
  generalize (lg_sl ([.ref (a0 0)]) ++ List.replicate (1 - (lg_sl ([.ref (a0 0)])).length) Slot.unset).toArray = ls at hl ⊢
  have hl : lv_has ls 1 [(0, .ref (a0 0))] := hl
  rw [f_X7_known] at hM
  refine lv_aload_n hx hb dX7_known_0 rfl (lv_at hl 0 rfl) ?_
  obtain ⟨q2, h1, hM⟩ := bd hM
  refine rVR (wc := (wXT g a0 (fm a0 V0 kv tv) U0)) (As := []) (rest := []) (q0 := 0) hS (c_X7_knownNow l g a0 (fm a0 V0 kv tv) U0 h1) gX7_known_X7_knownNow rfl hd_X7_knownNow ⟨Nat.le_of_ble_eq_true rfl, Nat.le_of_ble_eq_true rfl⟩ hK (va_P.pm hP (pmX1 _ _ _ _ _ _ _ _)) rfl rfl rfl rfl hl.1 rfl (Nat.le_of_ble_eq_true rfl) dX7_known_1 ⟨Nat.zero_le _, Nat.zero_le _⟩ ?_
  obtain rfl := Option.some.inj hM
  exact W.iret hx hb hr (fun t ht _ => ⟨rfl, ht⟩) (fun q hq => by cases hq) dX7_known_4
theorem hd_X7_knownBy : yX7_knownBy.cls = RX7 ∧ yX7_knownBy.cls ≠ "java/lang/invoke/MethodHandle" ∧ yX7_knownBy.cls ≠ "java/lang/invoke/VarHandle" ∧ (parseMethodDescriptor yX7_knownBy.desc).map (fun d => d.parameters.length) = some 1 := by decide +kernel
set_option maxHeartbeats 4000000 in
set_option maxRecDepth 100000 in
theorem c_X7_knownBy (l : Launch) (g : Gm) (a0 : Nat → Nat) (U0 : TS) (V0 : TS) (M0 : LTS) (R0 : LTS) (kv : Value) (t0 : Tr) (tp0 : Option (Nat → Int32)) (h0 : tpOf t0 = tp0) (p1 : Int32) {q : (Int32 × TS × (Option (Nat → Int32)))} (hM : f_X7_knownBy U0 V0 M0 R0 tp0 p1 = some q) : MB l yX7_knownBy wsX7_knownBy 6 163 g [.ref (a0 0), .int p1] (fun t => (wXM g a0 U0 V0 M0 R0 kv (tvOf t)) ++ wOT g t) t0 (some (.int q.1)) (fun t => (wXM g a0 U0 q.2.1 M0 R0 kv (tvOf t)) ++ wOT g t) q.2.2 := by
  intro sz
  refine Met.ofW (cc := cX7_knownBy) (maxL := 2) (ret := (some .int)) (by decide) rfl ?_
  intro p e s m args below meth c s₁ B hml hv
  obtain ⟨rfl, hsz, hP, hK, hD0⟩ := hv
  have hx := B.exec; have hb := B.bytes; have hr := B.returns
  have hts := atoms_spec (ws := wsX7_knownBy) B.pre
  have hown : s.vm.findClass RX7 = some m.cls := findClass_of_methodNamed B.named
  have hlocks := B.notSynchronized
  have hS : CallFix p m c cX7_knownBy 2 s _ wsX7_knownBy RX7 := ⟨hx, hb, hml, hown, hts⟩
  subst hsz
  have hw := wk_start hP hD0
  have hA : ∀ q : Nat, s.heap.size ≤ q → va_A ((wXM g a0 U0 V0 M0 R0 kv (tvOf t0)) ++ (wOT g t0)) s.heap.size q := fun q h => Or.inr h
  generalize va_A ((wXM g a0 U0 V0 M0 R0 kv (tvOf t0)) ++ (wOT g t0)) s.heap.size = A at hw hA ⊢
  clear hP hD0
  have hl := lv_entry ([.ref (a0 0), .int p1]) (n := 2) (Nat.le_of_ble_eq_true rfl)
  rw [lg_entry_eq]
  generalize (lg_sl ([.ref (a0 0), .int p1]) ++ List.replicate (2 - (lg_sl ([.ref (a0 0), .int p1])).length) Slot.unset).toArray = ls at hl ⊢
  have hl : lv_has ls 2 [(0, .ref (a0 0)), (1, .int p1)] := hl
  refine W_nl t0 ?_
  rw [f_X7_knownBy] at hM
  refine lv_iload_n hx hb dX7_knownBy_0 rfl (lv_at hl 1 rfl) ?_
  refine rSR (wc := ([] : va_W)) (As := [.int p1]) (rest := []) hS (c_X7_isRounds l g p1) gX7_knownBy_X7_isRounds rfl hd_X7_isRounds ⟨Nat.le_of_ble_eq_true rfl, Nat.le_of_ble_eq_true rfl⟩ hK (hP_nil) rfl hl.1 rfl (Nat.le_of_ble_eq_true rfl) dX7_knownBy_1 ⟨nlc _ _ _, nlc _ _ _⟩ ?_
  refine lv_if_eq (tgt := 18) hx hb dX7_knownBy_4 (by decide) (fun c2 => ?_) (fun c2 => ?_)
  · replace hM := itp c2 hM
    refine lv_aload_n hx hb dX7_knownBy_18 rfl (lv_at hl 0 rfl) ?_
    refine lv_bipush (v := (-2 : Int32)) hx hb dX7_knownBy_19 (by decide) ?_
    obtain ⟨q4, h3, hM⟩ := bd hM
    refine rVWp (wc := (wXM g a0 U0 V0 M0 R0 kv (tvOf t0))) (wq := ((wXM g a0 U0 q4.2 M0 R0 kv (tvOf t0)) ++ (wOT g t0))) (As := [.int (-2 : Int32)]) (rest := []) (q0 := 0) hS (c_X7_refuse l g a0 kv (tvOf t0) U0 V0 M0 R0 (-2 : Int32) h3) gX7_knownBy_X7_refuse rfl hd_X7_refuse ⟨Nat.le_of_ble_eq_true rfl, Nat.le_of_ble_eq_true rfl⟩ hK hw hA (pm_2_0 _ _) rfl (pm_2_0 _ _) rfl rfl rfl rfl hl.1 rfl (Nat.le_of_ble_eq_true rfl) dX7_knownBy_21 ⟨nlc _ _ _, nlc _ _ _⟩ (fun H locs hw => ?_)
    obtain rfl := Option.some.inj hM
    refine W.widen (k := 28 * nlOf t0) (n := 759 * nlOf t0) (nlc _ _ _) (nlc _ _ _) ?_
    exact W.iret hx hb hr (fun t ht _ => ⟨rfl, ⟨t0, h0, by rw [ht]; exact hw.1, hw.2.1⟩, hw.2.2.F ht⟩) hw.2.2.2.2 dX7_knownBy_24
  · replace hM := itn c2 hM
    refine lv_aload_n hx hb dX7_knownBy_7 rfl (lv_at hl 0 rfl) ?_
    refine lv_iload_n hx hb dX7_knownBy_8 rfl (lv_at hl 1 rfl) ?_
    obtain ⟨q8, h5, hM⟩ := bd hM
    refine rVF (t0 := t0) (As := [.int p1]) (rest := []) (hn := (Nat.le_refl _)) hS (c_X7_after l g a0 U0 V0 M0 R0 kv t0 tp0 h0 p1 h5) gX7_knownBy_X7_after rfl hd_X7_after ⟨Nat.le_of_ble_eq_true rfl, Nat.le_of_ble_eq_true rfl⟩ hK hw hA rfl rfl rfl rfl hl.1 rfl (Nat.le_of_ble_eq_true rfl) dX7_knownBy_9 (fun b6 G7 H locs hw => ?_)
    have hw : Wk g A s.heap H locs ((wXM g a0 U0 V0 M0 R0 kv (.ref (b6 0))) ++ (wXT g b6 G7 q8)) := hw
    obtain ⟨q10, h9, hM⟩ := bd hM
    refine rVR (wc := (wXT g b6 G7 q8)) (As := []) (rest := []) (q0 := 0) hS (c_X7_knownNow l g b6 G7 q8 h9) gX7_knownBy_X7_knownNow rfl hd_X7_knownNow ⟨Nat.le_of_ble_eq_true rfl, Nat.le_of_ble_eq_true rfl⟩ hK (va_P.pm hw.1 (pm_2_1 _ _)) rfl rfl rfl rfl hl.1 rfl (Nat.le_of_ble_eq_true rfl) dX7_knownBy_12 ⟨Nat.le_refl _, Nat.le_refl _⟩ ?_
    refine lv_goto (tgt := 24) hx hb dX7_knownBy_15 (by decide) ?_
    obtain rfl := Option.some.inj hM
    exact W.iret hx hb hr (fun t ht _ => ⟨rfl, ⟨(some (b6, G7, q8)), rfl, by rw [ht]; exact hw.1, hw.2.1⟩, hw.2.2.F ht⟩) hw.2.2.2.2 dX7_knownBy_24
theorem hd_X7_knownTo : yX7_knownTo.cls = RX7 ∧ yX7_knownTo.cls ≠ "java/lang/invoke/MethodHandle" ∧ yX7_knownTo.cls ≠ "java/lang/invoke/VarHandle" ∧ (parseMethodDescriptor yX7_knownTo.desc).map (fun d => d.parameters.length) = some 1 := by decide +kernel
set_option maxHeartbeats 4000000 in
set_option maxRecDepth 100000 in
theorem c_X7_knownTo (l : Launch) (g : Gm) (a0 : Nat → Nat) (Fw0 : Nat → Value) (U0 : TS) (p1 : Int32) {q : Int32} (hM : f_X7_knownTo U0 p1 = some q) : MR l yX7_knownTo wsX7_knownTo 1 22 g [.ref (a0 0), .int p1] (wXT g a0 Fw0 U0) (some (.int q)) := by
  refine Met.ofW (cc := cX7_knownTo) (maxL := 4) (ret := (some .int)) (by decide) rfl ?_
  intro p e s m args below meth c s₁ B hml hv
  obtain ⟨rfl, hP, hK⟩ := hv
  have hx := B.exec; have hb := B.bytes; have hr := B.returns
  have hts := atoms_spec (ws := wsX7_knownTo) B.pre
  have hown : s.vm.findClass RX7 = some m.cls := findClass_of_methodNamed B.named
  have hlocks := B.notSynchronized
  have hS : CallFix p m c cX7_knownTo 4 s _ wsX7_knownTo RX7 := ⟨hx, hb, hml, hown, hts⟩
  have hin_X7 : ∀ w ∈ wsX70, w ∈ wsX7_knownTo := fun w h => (List.mem_cons_of_mem _ (List.mem_append_right _ h))
  have hl := lv_entry ([.ref (a0 0), .int p1]) (n := 4) (Nat.le_of_ble_eq_true rfl)
  rw [lg_entry_eq]
  generalize (lg_sl ([.ref (a0 0), .int p1]) ++ List.replicate (4 - (lg_sl ([.ref (a0 0), .int p1])).length) Slot.unset).toArray = ls at hl ⊢
  have hl : lv_has ls 4 [(0, .ref (a0 0)), (1, .int p1)] := hl
  rw [f_X7_knownTo] at hM
  refine lv_iconst (v := (0 : Int32)) hx hb dX7_knownTo_0 (by decide) ?_
  refine lv_istore_n (lv' := [(2, .int (0 : Int32)), (0, .ref (a0 0)), (1, .int p1)]) hx hb dX7_knownTo_1 rfl hl (by decide) rfl (fun ls hl => ?_)
  refine lv_iconst (v := (0 : Int32)) hx hb dX7_knownTo_2 (by decide) ?_
  refine lv_istore_n (lv' := [(3, .int (0 : Int32)), (2, .int (0 : Int32)), (0, .ref (a0 0)), (1, .int p1)]) hx hb dX7_knownTo_3 rfl hl (by decide) rfl (fun ls hl => ?_)
  obtain ⟨q3, hL4, hM⟩ := bd hM
  have hJ4 : ∀ (ls : Array Slot), lv_has ls 4 [(2, .int q3)] → W p l e (headSpec wsX7_knownTo ({ frames := 1, cells := 0, slots := 0, locals := 22 } : Room)).room s m ([.ref (a0 0), .int p1] : List Value).toArray below meth c s.heap [] 0 0 (MQ below (QcR (some (.int q))) ([.ref (a0 0), .int p1] : List Value).toArray s 0 0 (fun _ => False)) (F0 m 38 ls []) := by
    intro ls hl
    refine lv_iload_n hx hb dX7_knownTo_38 rfl (lv_at hl 0 rfl) ?_
    obtain rfl := Option.some.inj hM
    exact W.iret hx hb hr (fun t ht _ => ⟨rfl, ht⟩) (fun q hq => by cases hq) dX7_knownTo_39
  have hW4 : ∀ (n : Nat) (v3_1 : Int32) (v2_2 : Int32), L_X7_knownTo_4 U0 p1 n v3_1 v2_2 = some q3 → ∀ (ls : Array Slot), lv_has ls 4 [(3, .int v3_1), (2, .int v2_2), (0, .ref (a0 0)), (1, .int p1)] → W p l e (headSpec wsX7_knownTo ({ frames := 1, cells := 0, slots := 0, locals := 22 } : Room)).room s m ([.ref (a0 0), .int p1] : List Value).toArray below meth c s.heap [] 0 0 (MQ below (QcR (some (.int q))) ([.ref (a0 0), .int p1] : List Value).toArray s 0 0 (fun _ => False)) (F0 m 4 ls []) := by
    intro n
    induction n with
    | zero => intro v3_1 v2_2 hM; rw [L_X7_knownTo_4] at hM; exact nn hM
    | succ n ih4 =>
      intro v3_1 v2_2 hM ls hl
      rw [L_X7_knownTo_4] at hM
      refine lv_iload_n hx hb dX7_knownTo_4 rfl (lv_at hl 0 rfl) ?_
      refine lv_aload_n hx hb dX7_knownTo_5 rfl (lv_at hl 2 rfl) ?_
      refine wk_get hx hb hts hin_X7 hown hK hP 7 0 10 (.int (U0 10 0)) rfl rfl (by decide) (mi 1 rfl) rfl rfl dX7_knownTo_6 ?_
      refine lv_icmp_ge (tgt := 38) hx hb dX7_knownTo_9 (by decide) (fun c4 => ?_) (fun c4 => ?_)
      · replace hM := itp c4 hM
        obtain rfl := Option.some.inj hM
        exact hJ4 _ (lv_sub hl [1] rfl)
      · replace hM := itn c4 hM
        refine lv_iload_n hx hb dX7_knownTo_12 rfl (lv_at hl 1 rfl) ?_
        refine lv_iload_n hx hb dX7_knownTo_13 rfl (lv_at hl 0 rfl) ?_
        refine lv_iload_n hx hb dX7_knownTo_14 rfl (lv_at hl 3 rfl) ?_
        refine lv_icmp_ne (tgt := 22) hx hb dX7_knownTo_15 (by decide) (fun c5 => ?_) (fun c5 => ?_)
        · replace hM := itn c5 hM
          refine lv_aload_n hx hb dX7_knownTo_22 rfl (lv_at hl 2 rfl) ?_
          refine lv_iload_n hx hb dX7_knownTo_23 rfl (lv_at hl 0 rfl) ?_
          obtain ⟨q7, h6, hM⟩ := bd hM
          refine rVR (wc := (wXT g a0 Fw0 U0)) (As := [.int v3_1]) (rest := [.int v2_2]) (q0 := 0) hS (c_X7_knows l g a0 Fw0 U0 v3_1 h6) gX7_knownTo_X7_knows rfl hd_X7_knows ⟨Nat.le_of_ble_eq_true rfl, Nat.le_of_ble_eq_true rfl⟩ hK (va_P.pm hP (pm_1_0 _)) rfl rfl rfl rfl hl.1 rfl (Nat.le_of_ble_eq_true rfl) dX7_knownTo_24 ⟨Nat.zero_le _, Nat.zero_le _⟩ ?_
          obtain ⟨q9, h8, hM⟩ := bd hM
          refine rSR (wc := ([] : va_W)) (As := [.int q7]) (rest := [.int v2_2]) hS (c_X7_bits l g q7 h8) gX7_knownTo_X7_bits rfl hd_X7_bits ⟨Nat.le_of_ble_eq_true rfl, Nat.le_of_ble_eq_true rfl⟩ hK (hP_nil) rfl hl.1 rfl (Nat.le_of_ble_eq_true rfl) dX7_knownTo_27 ⟨Nat.zero_le _, Nat.zero_le _⟩ ?_
          refine lv_iadd hx hb dX7_knownTo_30 ?_
          refine lv_istore_n (lv' := [(2, .int (v2_2 + q9)), (3, .int v3_1), (0, .ref (a0 0)), (1, .int p1)]) hx hb dX7_knownTo_31 rfl hl (by decide) rfl (fun ls hl => ?_)
          refine lv_iinc (v := (v3_1 + (1 : Int32))) (lv' := [(3, .int (v3_1 + (1 : Int32))), (2, .int (v2_2 + q9)), (0, .ref (a0 0)), (1, .int p1)]) hx hb dX7_knownTo_32 hl (k := 1) rfl rfl (by decide) rfl (fun ls hl => ?_)
          refine lv_goto (tgt := 4) hx hb dX7_knownTo_35 (by decide) ?_
          exact ih4 (v3_1 + (1 : Int32)) (v2_2 + q9) hM _ (lv_sub hl [0, 1, 2, 3] rfl)
        · replace hM := itp c5 hM
          refine lv_iconst (v := (0 : Int32)) hx hb dX7_knownTo_18 (by decide) ?_
          refine lv_goto (tgt := 30) hx hb dX7_knownTo_19 (by decide) ?_
          refine lv_iadd hx hb dX7_knownTo_30 ?_
          refine lv_istore_n (lv' := [(2, .int (v2_2 + (0 : Int32))), (3, .int v3_1), (0, .ref (a0 0)), (1, .int p1)]) hx hb dX7_knownTo_31 rfl hl (by decide) rfl (fun ls hl => ?_)
          refine lv_iinc (v := (v3_1 + (1 : Int32))) (lv' := [(3, .int (v3_1 + (1 : Int32))), (2, .int (v2_2 + (0 : Int32))), (0, .ref (a0 0)), (1, .int p1)]) hx hb dX7_knownTo_32 hl (k := 1) rfl rfl (by decide) rfl (fun ls hl => ?_)
          refine lv_goto (tgt := 4) hx hb dX7_knownTo_35 (by decide) ?_
          exact ih4 (v3_1 + (1 : Int32)) (v2_2 + (0 : Int32)) hM _ (lv_sub hl [0, 1, 2, 3] rfl)
  exact hW4 300 (0 : Int32) (0 : Int32) hL4 _ (lv_sub hl [0, 1, 2, 3] rfl)
theorem hd_X7_loudest : yX7_loudest.cls = RX7 ∧ yX7_loudest.cls ≠ "java/lang/invoke/MethodHandle" ∧ yX7_loudest.cls ≠ "java/lang/invoke/VarHandle" ∧ (parseMethodDescriptor yX7_loudest.desc).map (fun d => d.parameters.length) = some 0 := by decide +kernel
set_option maxHeartbeats 4000000 in
set_option maxRecDepth 100000 in
theorem c_X7_loudest (l : Launch) (g : Gm) (a0 : Nat → Nat) (kv : Value) (tv : Value) (U0 : TS) (V0 : TS) (M0 : LTS) (R0 : LTS) {q : (Int32 × TS)} (hM : f_X7_loudest U0 V0 M0 R0 = some q) : MW l yX7_loudest wsX7_loudest 2 46 g [.ref (a0 0)] (wXM g a0 U0 V0 M0 R0 kv tv) (some (.int q.1)) (wXM g a0 U0 q.2 M0 R0 kv tv) := by
  intro sz
  refine Met.ofW (cc := cX7_loudest) (maxL := 3) (ret := (some .int)) (by decide) rfl ?_
  intro p e s m args below meth c s₁ B hml hv
  obtain ⟨rfl, hsz, hP, hK, hD0⟩ := hv
  have hx := B.exec; have hb := B.bytes; have hr := B.returns
  have hts := atoms_spec (ws := wsX7_loudest) B.pre
  have hown : s.vm.findClass RX7 = some m.cls := findClass_of_methodNamed B.named
  have hlocks := B.notSynchronized
  have hS : CallFix p m c cX7_loudest 3 s _ wsX7_loudest RX7 := ⟨hx, hb, hml, hown, hts⟩
  have hin_X7 : ∀ w ∈ wsX70, w ∈ wsX7_loudest := fun w h => (List.mem_cons_of_mem _ (List.mem_append_right _ h))
  subst hsz
  have hw := wk_start hP hD0
  have hA : ∀ q : Nat, s.heap.size ≤ q → va_A (wXM g a0 U0 V0 M0 R0 kv tv) s.heap.size q := fun q h => Or.inr h
  generalize va_A (wXM g a0 U0 V0 M0 R0 kv tv) s.heap.size = A at hw hA ⊢
  clear hP hD0
  have hl := lv_entry ([.ref (a0 0)]) (n := 3) (Nat.le_of_ble_eq_true rfl)
  rw [lg_entry_eq]
  generalize (lg_sl ([.ref (a0 0)]) ++ List.replicate (3 - (lg_sl ([.ref (a0 0)])).length) Slot.unset).toArray = ls at hl ⊢
  have hl : lv_has ls 3 [(0, .ref (a0 0))] := hl
  rw [f_X7_loudest] at hM
  refine lv_aload_n hx hb dX7_loudest_0 rfl (lv_at hl 0 rfl) ?_
  refine wk_get hx hb hts hin_X7 hown hK hw.1 7 0 10 (.int (U0 10 0)) rfl rfl (by decide) (mi 1 rfl) rfl rfl dX7_loudest_1 ?_
  refine lv_if_ne (tgt := 14) hx hb dX7_loudest_4 (by decide) (fun c1 => ?_) (fun c1 => ?_)
  · replace hM := itn c1 hM
    refine lv_iconst (v := (0 : Int32)) hx hb dX7_loudest_14 (by decide) ?_
    refine lv_istore_n (lv' := [(1, .int (0 : Int32)), (0, .ref (a0 0))]) hx hb dX7_loudest_15 rfl hl (by decide) rfl (fun ls hl => ?_)
    refine lv_iconst (v := (1 : Int32)) hx hb dX7_loudest_16 (by decide) ?_
    refine lv_istore_n (lv' := [(2, .int (1 : Int32)), (1, .int (0 : Int32)), (0, .ref (a0 0))]) hx hb dX7_loudest_17 rfl hl (by decide) rfl (fun ls hl => ?_)
    obtain ⟨q6, hL18, hM⟩ := bd hM
    have hJ18 : ∀ (H : Heap) (locs : List Loc), Wk g A s.heap H locs (wXM g a0 U0 V0 M0 R0 kv tv) → ∀ (ls : Array Slot), lv_has ls 3 [(1, .int q6)] → W p l e (headSpec wsX7_loudest ({ frames := 2, cells := 0, slots := 0, locals := 46 } : Room)).room s m ([.ref (a0 0)] : List Value).toArray below meth c H locs 0 0 (MQ below (QcW g (some (.int q.1)) (wXM g a0 U0 q.2 M0 R0 kv tv) A) ([.ref (a0 0)] : List Value).toArray s 0 0 A) (F0 m 57 ls []) := by
      intro H locs hw ls hl
      refine lv_iload_n hx hb dX7_loudest_57 rfl (lv_at hl 0 rfl) ?_
      obtain rfl := Option.some.inj hM
      exact W.iret hx hb hr (fun t ht _ => ⟨rfl, by rw [ht]; exact hw.1, hw.2.2.F ht⟩) hw.2.2.2.2 dX7_loudest_58
    have hW18 : ∀ (n : Nat) (v2_4 : Int32) (v1_5 : Int32), L_X7_loudest_18 U0 n v2_4 v1_5 = some q6 → ∀ (H : Heap) (locs : List Loc), Wk g A s.heap H locs (wXM g a0 U0 V0 M0 R0 kv tv) → ∀ (ls : Array Slot), lv_has ls 3 [(2, .int v2_4), (1, .int v1_5), (0, .ref (a0 0))] → W p l e (headSpec wsX7_loudest ({ frames := 2, cells := 0, slots := 0, locals := 46 } : Room)).room s m ([.ref (a0 0)] : List Value).toArray below meth c H locs 0 0 (MQ below (QcW g (some (.int q.1)) (wXM g a0 U0 q.2 M0 R0 kv tv) A) ([.ref (a0 0)] : List Value).toArray s 0 0 A) (F0 m 18 ls []) := by
      intro n
      induction n with
      | zero => intro v2_4 v1_5 hM; rw [L_X7_loudest_18] at hM; exact nn hM
      | succ n ih18 =>
        intro v2_4 v1_5 hM H locs hw ls hl
        rw [L_X7_loudest_18] at hM
        refine lv_iload_n hx hb dX7_loudest_18 rfl (lv_at hl 0 rfl) ?_
        refine lv_aload_n hx hb dX7_loudest_19 rfl (lv_at hl 2 rfl) ?_
        refine wk_get hx hb hts hin_X7 hown hK hw.1 7 0 10 (.int (U0 10 0)) rfl rfl (by decide) (mi 1 rfl) rfl rfl dX7_loudest_20 ?_
        refine lv_icmp_ge (tgt := 57) hx hb dX7_loudest_23 (by decide) (fun c7 => ?_) (fun c7 => ?_)
        · replace hM := itp c7 hM
          obtain rfl := Option.some.inj hM
          exact hJ18 _ _ hw _ (lv_sub hl [1] rfl)
        · replace hM := itn c7 hM
          refine lv_aload_n hx hb dX7_loudest_26 rfl (lv_at hl 2 rfl) ?_
          refine lv_iload_n hx hb dX7_loudest_27 rfl (lv_at hl 0 rfl) ?_
          obtain ⟨q9, h8, hM⟩ := bd hM
          refine rVR (wc := (wXT g a0 (fm a0 V0 kv tv) U0)) (As := [.int v2_4]) (rest := []) (q0 := 0) hS (c_X7_mayOf l g a0 (fm a0 V0 kv tv) U0 v2_4 h8) gX7_loudest_X7_mayOf rfl hd_X7_mayOf ⟨Nat.le_of_ble_eq_true rfl, Nat.le_of_ble_eq_true rfl⟩ hK (va_P.pm hw.1 (pmX1 _ _ _ _ _ _ _ _)) rfl rfl rfl rfl hl.1 rfl (Nat.le_of_ble_eq_true rfl) dX7_loudest_28 ⟨Nat.zero_le _, Nat.zero_le _⟩ ?_
          obtain ⟨q11, h10, hM⟩ := bd hM
          refine rSR (wc := ([] : va_W)) (As := [.int q9]) (rest := []) hS (c_X7_bits l g q9 h10) gX7_loudest_X7_bits rfl hd_X7_bits ⟨Nat.le_of_ble_eq_true rfl, Nat.le_of_ble_eq_true rfl⟩ hK (hP_nil) rfl hl.1 rfl (Nat.le_of_ble_eq_true rfl) dX7_loudest_31 ⟨Nat.zero_le _, Nat.zero_le _⟩ ?_
          refine lv_aload_n hx hb dX7_loudest_34 rfl (lv_at hl 2 rfl) ?_
          refine lv_iload_n hx hb dX7_loudest_35 rfl (lv_at hl 1 rfl) ?_
          obtain ⟨q13, h12, hM⟩ := bd hM
          refine rVR (wc := (wXT g a0 (fm a0 V0 kv tv) U0)) (As := [.int v1_5]) (rest := [.int q11]) (q0 := 0) hS (c_X7_mayOf l g a0 (fm a0 V0 kv tv) U0 v1_5 h12) gX7_loudest_X7_mayOf rfl hd_X7_mayOf ⟨Nat.le_of_ble_eq_true rfl, Nat.le_of_ble_eq_true rfl⟩ hK (va_P.pm hw.1 (pmX1 _ _ _ _ _ _ _ _)) rfl rfl rfl rfl hl.1 rfl (Nat.le_of_ble_eq_true rfl) dX7_loudest_36 ⟨Nat.zero_le _, Nat.zero_le _⟩ ?_
          obtain ⟨q15, h14, hM⟩ := bd hM
          refine rSR (wc := ([] : va_W)) (As := [.int q13]) (rest := [.int q11]) hS (c_X7_bits l g q13 h14) gX7_loudest_X7_bits rfl hd_X7_bits ⟨Nat.le_of_ble_eq_true rfl, Nat.le_of_ble_eq_true rfl⟩ hK (hP_nil) rfl hl.1 rfl (Nat.le_of_ble_eq_true rfl) dX7_loudest_39 ⟨Nat.zero_le _, Nat.zero_le _⟩ ?_
          have hJ22 : ∀ (H : Heap) (locs : List Loc) (x21 : Int32) (ls : Array Slot), Wk g A s.heap H locs (wXM g a0 U0 V0 M0 R0 kv tv) → x21 = (if q11 ≤ q15 then v1_5 else v2_4) → lv_has ls 3 [(2, .int v2_4), (0, .ref (a0 0))] → W p l e (headSpec wsX7_loudest ({ frames := 2, cells := 0, slots := 0, locals := 46 } : Room)).room s m ([.ref (a0 0)] : List Value).toArray below meth c H locs 0 0 (MQ below (QcW g (some (.int q.1)) (wXM g a0 U0 q.2 M0 R0 kv tv) A) ([.ref (a0 0)] : List Value).toArray s 0 0 A) (F0 m 50 ls [.int x21]) := by
            intro H locs x21 ls hw hxx21 hl
            subst hxx21
            refine lv_istore_n (lv' := [(1, .int (if q11 ≤ q15 then v1_5 else v2_4)), (2, .int v2_4), (0, .ref (a0 0))]) hx hb dX7_loudest_50 rfl hl (by decide) rfl (fun ls hl => ?_)
            refine lv_iinc (v := (v2_4 + (1 : Int32))) (lv' := [(2, .int (v2_4 + (1 : Int32))), (1, .int (if q11 ≤ q15 then v1_5 else v2_4)), (0, .ref (a0 0))]) hx hb dX7_loudest_51 hl (k := 1) rfl rfl (by decide) rfl (fun ls hl => ?_)
            refine lv_goto (tgt := 18) hx hb dX7_loudest_54 (by decide) ?_
            exact ih18 (v2_4 + (1 : Int32)) (if q11 ≤ q15 then v1_5 else v2_4) hM _ _ hw _ (lv_sub hl [0, 1, 2] rfl)
          refine lv_icmp_le (tgt := 49) hx hb dX7_loudest_42 (by decide) (fun c16 => ?_) (fun c16 => ?_)
          · refine lv_iload_n hx hb dX7_loudest_49 rfl (lv_at hl 1 rfl) ?_
            exact hJ22 _ _ _ _ hw (by first | with_reducible rfl | (simp only [if_pos c16]) | rfl) (lv_sub hl [0, 2] rfl)
          · refine lv_iload_n hx hb dX7_loudest_45 rfl (lv_at hl 0 rfl) ?_
            refine lv_goto (tgt := 50) hx hb dX7_loudest_46 (by decide) ?_
            exact hJ22 _ _ _ _ hw (by first | with_reducible rfl | (simp only [if_neg c16]) | rfl) (lv_sub hl [0, 2] rfl)
    exact hW18 300 (1 : Int32) (0 : Int32) hL18 _ _ hw _ (lv_sub hl [0, 1, 2] rfl)
  · replace hM := itp c1 hM
    refine lv_aload_n hx hb dX7_loudest_7 rfl (lv_at hl 0 rfl) ?_
    refine lv_bipush (v := (-5 : Int32)) hx hb dX7_loudest_8 (by decide) ?_
    obtain ⟨q3, h2, hM⟩ := bd hM
    refine rVWp (wc := (wXM g a0 U0 V0 M0 R0 kv tv)) (wq := (wXM g a0 U0 q3.2 M0 R0 kv tv)) (As := [.int (-5 : Int32)]) (rest := []) (q0 := 0) hS (c_X7_refuse l g a0 kv tv U0 V0 M0 R0 (-5 : Int32) h2) gX7_loudest_X7_refuse rfl hd_X7_refuse ⟨Nat.le_of_ble_eq_true rfl, Nat.le_of_ble_eq_true rfl⟩ hK hw hA (pm_1_0 _) rfl (pm_1_0 _) rfl rfl rfl rfl hl.1 rfl (Nat.le_of_ble_eq_true rfl) dX7_loudest_10 ⟨Nat.zero_le _, Nat.zero_le _⟩ (fun H locs hw => ?_)
    obtain rfl := Option.some.inj hM
    exact W.iret hx hb hr (fun t ht _ => ⟨rfl, by rw [ht]; exact hw.1, hw.2.2.F ht⟩) hw.2.2.2.2 dX7_loudest_13
theorem hd_X7_may : yX7_may.cls = RX7 ∧ yX7_may.cls ≠ "java/lang/invoke/MethodHandle" ∧ yX7_may.cls ≠ "java/lang/invoke/VarHandle" ∧ (parseMethodDescriptor yX7_may.desc).map (fun d => d.parameters.length) = some 2 := by decide +kernel
set_option maxHeartbeats 4000000 in
set_option maxRecDepth 100000 in
theorem c_X7_may (l : Launch) (g : Gm) (a0 : Nat → Nat) (kv : Value) (tv : Value) (U0 : TS) (V0 : TS) (M0 : LTS) (R0 : LTS) (p1 : Int32) (p2 : Int32) {q : (Int32 × TS)} (hM : f_X7_may U0 V0 M0 R0 p1 p2 = some q) : MW l yX7_may wsX7_may 2 46 g [.ref (a0 0), .int p1, .int p2] (wXM g a0 U0 V0 M0 R0 kv tv) (some (.int q.1)) (wXM g a0 U0 q.2 M0 R0 kv tv) := by
  intro sz
  refine Met.ofW (cc := cX7_may) (maxL := 3) (ret := (some .int)) (by decide) rfl ?_
  intro p e s m args below meth c s₁ B hml hv
  obtain ⟨rfl, hsz, hP, hK, hD0⟩ := hv
  have hx := B.exec; have hb := B.bytes; have hr := B.returns
  have hts := atoms_spec (ws := wsX7_may) B.pre
  have hown : s.vm.findClass RX7 = some m.cls := findClass_of_methodNamed B.named
  have hlocks := B.notSynchronized
  have hS : CallFix p m c cX7_may 3 s _ wsX7_may RX7 := ⟨hx, hb, hml, hown, hts⟩
  subst hsz
  have hw := wk_start hP hD0
  have hA : ∀ q : Nat, s.heap.size ≤ q → va_A (wXM g a0 U0 V0 M0 R0 kv tv) s.heap.size q := fun q h => Or.inr h
  generalize va_A (wXM g a0 U0 V0 M0 R0 kv tv) s.heap.size = A at hw hA ⊢
  clear hP hD0
  have hl := lv_entry ([.ref (a0 0), .int p1, .int p2]) (n := 3) (Nat.le_of_ble_eq_true rfl)
  rw [lg_entry_eq]
  generalize (lg_sl ([.ref (a0 0), .int p1, .int p2]) ++ List.replicate (3 - (lg_sl ([.ref (a0 0), .int p1, .int p2])).length) Slot.unset).toArray = ls at hl ⊢
  have hl : lv_has ls 3 [(0, .ref (a0 0)), (1, .int p1), (2, .int p2)] := hl
  rw [f_X7_may] at hM
  refine lv_aload_n hx hb dX7_may_0 rfl (lv_at hl 0 rfl) ?_
  refine lv_iload_n hx hb dX7_may_1 rfl (lv_at hl 1 rfl) ?_
  refine rVR (wc := (wXT g a0 (fm a0 V0 kv tv) U0)) (As := [.int p1]) (rest := []) (q0 := 0) hS (c_X7_isOne l g a0 (fm a0 V0 kv tv) U0 p1) gX7_may_X7_isOne rfl hd_X7_isOne ⟨Nat.le_of_ble_eq_true rfl, Nat.le_of_ble_eq_true rfl⟩ hK (va_P.pm hw.1 (pmX1 _ _ _ _ _ _ _ _)) rfl rfl rfl rfl hl.1 rfl (Nat.le_of_ble_eq_true rfl) dX7_may_2 ⟨Nat.zero_le _, Nat.zero_le _⟩ ?_
  refine lv_if_eq (tgt := 16) hx hb dX7_may_5 (by decide) (fun c2 => ?_) (fun c2 => ?_)
  · replace hM := itp c2 hM
    refine lv_aload_n hx hb dX7_may_16 rfl (lv_at hl 0 rfl) ?_
    refine lv_bipush (v := (-2 : Int32)) hx hb dX7_may_17 (by decide) ?_
    obtain ⟨q4, h3, hM⟩ := bd hM
    refine rVWp (wc := (wXM g a0 U0 V0 M0 R0 kv tv)) (wq := (wXM g a0 U0 q4.2 M0 R0 kv tv)) (As := [.int (-2 : Int32)]) (rest := []) (q0 := 0) hS (c_X7_refuse l g a0 kv tv U0 V0 M0 R0 (-2 : Int32) h3) gX7_may_X7_refuse rfl hd_X7_refuse ⟨Nat.le_of_ble_eq_true rfl, Nat.le_of_ble_eq_true rfl⟩ hK hw hA (pm_1_0 _) rfl (pm_1_0 _) rfl rfl rfl rfl hl.1 rfl (Nat.le_of_ble_eq_true rfl) dX7_may_19 ⟨Nat.zero_le _, Nat.zero_le _⟩ (fun H locs hw => ?_)
    obtain rfl := Option.some.inj hM
    exact W.iret hx hb hr (fun t ht _ => ⟨rfl, by rw [ht]; exact hw.1, hw.2.2.F ht⟩) hw.2.2.2.2 dX7_may_22
  · replace hM := itn c2 hM
    refine lv_aload_n hx hb dX7_may_8 rfl (lv_at hl 0 rfl) ?_
    refine lv_iload_n hx hb dX7_may_9 rfl (lv_at hl 2 rfl) ?_
    refine rVR (wc := (wXT g a0 (fm a0 V0 kv tv) U0)) (As := [.int p2]) (rest := []) (q0 := 0) hS (c_X7_isSight l g a0 (fm a0 V0 kv tv) U0 p2) gX7_may_X7_isSight rfl hd_X7_isSight ⟨Nat.le_of_ble_eq_true rfl, Nat.le_of_ble_eq_true rfl⟩ hK (va_P.pm hw.1 (pmX1 _ _ _ _ _ _ _ _)) rfl rfl rfl rfl hl.1 rfl (Nat.le_of_ble_eq_true rfl) dX7_may_10 ⟨Nat.zero_le _, Nat.zero_le _⟩ ?_
    refine lv_if_ne (tgt := 23) hx hb dX7_may_13 (by decide) (fun c6 => ?_) (fun c6 => ?_)
    · replace hM := itn c6 hM
      refine lv_aload_n hx hb dX7_may_23 rfl (lv_at hl 0 rfl) ?_
      refine lv_iload_n hx hb dX7_may_24 rfl (lv_at hl 1 rfl) ?_
      obtain ⟨q10, h9, hM⟩ := bd hM
      refine rVR (wc := (wXT g a0 (fm a0 V0 kv tv) U0)) (As := [.int p1]) (rest := []) (q0 := 0) hS (c_X7_mayOf l g a0 (fm a0 V0 kv tv) U0 p1 h9) gX7_may_X7_mayOf rfl hd_X7_mayOf ⟨Nat.le_of_ble_eq_true rfl, Nat.le_of_ble_eq_true rfl⟩ hK (va_P.pm hw.1 (pmX1 _ _ _ _ _ _ _ _)) rfl rfl rfl rfl hl.1 rfl (Nat.le_of_ble_eq_true rfl) dX7_may_25 ⟨Nat.zero_le _, Nat.zero_le _⟩ ?_
      refine lv_iload_n hx hb dX7_may_28 rfl (lv_at hl 2 rfl) ?_
      refine rSR (wc := ([] : va_W)) (As := [.int q10, .int p2]) (rest := []) hS (c_X7_has l g q10 p2) gX7_may_X7_has rfl hd_X7_has ⟨Nat.le_of_ble_eq_true rfl, Nat.le_of_ble_eq_true rfl⟩ hK (hP_nil) rfl hl.1 rfl (Nat.le_of_ble_eq_true rfl) dX7_may_29 ⟨Nat.zero_le _, Nat.zero_le _⟩ ?_
      have hJ18 : ∀ (H : Heap) (locs : List Loc) (x17 : Int32) (ls : Array Slot), Wk g A s.heap H locs (wXM g a0 U0 V0 M0 R0 kv tv) → x17 = (if (f_X7_has q10 p2) = 0 then (0 : Int32) else (1 : Int32)) → lv_has ls 3 [] → W p l e (headSpec wsX7_may ({ frames := 2, cells := 0, slots := 0, locals := 46 } : Room)).room s m ([.ref (a0 0), .int p1, .int p2] : List Value).toArray below meth c H locs 0 0 (MQ below (QcW g (some (.int q.1)) (wXM g a0 U0 q.2 M0 R0 kv tv) A) ([.ref (a0 0), .int p1, .int p2] : List Value).toArray s 0 0 A) (F0 m 40 ls [.int x17]) := by
        intro H locs x17 ls hw hxx17 hl
        subst hxx17
        obtain rfl := Option.some.inj hM
        exact W.iret hx hb hr (fun t ht _ => ⟨rfl, by rw [ht]; exact hw.1, hw.2.2.F ht⟩) hw.2.2.2.2 dX7_may_40
      refine lv_if_eq (tgt := 39) hx hb dX7_may_32 (by decide) (fun c12 => ?_) (fun c12 => ?_)
      · refine lv_iconst (v := (0 : Int32)) hx hb dX7_may_39 (by decide) ?_
        exact hJ18 _ _ _ _ hw (by first | with_reducible rfl | (simp only [if_pos c12]) | rfl) (lv_sub hl [] rfl)
      · refine lv_iconst (v := (1 : Int32)) hx hb dX7_may_35 (by decide) ?_
        refine lv_goto (tgt := 40) hx hb dX7_may_36 (by decide) ?_
        exact hJ18 _ _ _ _ hw (by first | with_reducible rfl | (simp only [if_neg c12]) | rfl) (lv_sub hl [] rfl)
    · replace hM := itp c6 hM
      refine lv_aload_n hx hb dX7_may_16 rfl (lv_at hl 0 rfl) ?_
      refine lv_bipush (v := (-2 : Int32)) hx hb dX7_may_17 (by decide) ?_
      obtain ⟨q8, h7, hM⟩ := bd hM
      refine rVWp (wc := (wXM g a0 U0 V0 M0 R0 kv tv)) (wq := (wXM g a0 U0 q8.2 M0 R0 kv tv)) (As := [.int (-2 : Int32)]) (rest := []) (q0 := 0) hS (c_X7_refuse l g a0 kv tv U0 V0 M0 R0 (-2 : Int32) h7) gX7_may_X7_refuse rfl hd_X7_refuse ⟨Nat.le_of_ble_eq_true rfl, Nat.le_of_ble_eq_true rfl⟩ hK hw hA (pm_1_0 _) rfl (pm_1_0 _) rfl rfl rfl rfl hl.1 rfl (Nat.le_of_ble_eq_true rfl) dX7_may_19 ⟨Nat.zero_le _, Nat.zero_le _⟩ (fun H locs hw => ?_)
      obtain rfl := Option.some.inj hM
      exact W.iret hx hb hr (fun t ht _ => ⟨rfl, by rw [ht]; exact hw.1, hw.2.2.F ht⟩) hw.2.2.2.2 dX7_may_22
theorem hd_X7_mouths : yX7_mouths.cls = RX7 ∧ yX7_mouths.cls ≠ "java/lang/invoke/MethodHandle" ∧ yX7_mouths.cls ≠ "java/lang/invoke/VarHandle" ∧ (parseMethodDescriptor yX7_mouths.desc).map (fun d => d.parameters.length) = some 1 := by decide +kernel
set_option maxHeartbeats 4000000 in
set_option maxRecDepth 100000 in
theorem c_X7_mouths (l : Launch) (g : Gm) (a0 : Nat → Nat) (kv : Value) (tv : Value) (U0 : TS) (V0 : TS) (M0 : LTS) (R0 : LTS) (p1 : Int32) {q : (Int32 × TS)} (hM : f_X7_mouths U0 V0 M0 R0 p1 = some q) : MW l yX7_mouths wsX7_mouths 3 69 g [.ref (a0 0), .int p1] (wXM g a0 U0 V0 M0 R0 kv tv) (some (.int q.1)) (wXM g a0 U0 q.2 M0 R0 kv tv) := by
  intro sz
  refine Met.ofW (cc := cX7_mouths) (maxL := 2) (ret := (some .int)) (by decide) rfl ?_
  intro p e s m args below meth c s₁ B hml hv
  obtain ⟨rfl, hsz, hP, hK, hD0⟩ := hv
  have hx := B.exec; have hb := B.bytes; have hr := B.returns
  have hts := atoms_spec (ws := wsX7_mouths) B.pre
  have hown : s.vm.findClass RX7 = some m.cls := findClass_of_methodNamed B.named
  have hlocks := B.notSynchronized
  have hS : CallFix p m c cX7_mouths 2 s _ wsX7_mouths RX7 := ⟨hx, hb, hml, hown, hts⟩
  subst hsz
  have hw := wk_start hP hD0
  have hA : ∀ q : Nat, s.heap.size ≤ q → va_A (wXM g a0 U0 V0 M0 R0 kv tv) s.heap.size q := fun q h => Or.inr h
  generalize va_A (wXM g a0 U0 V0 M0 R0 kv tv) s.heap.size = A at hw hA ⊢
  clear hP hD0
  have hl := lv_entry ([.ref (a0 0), .int p1]) (n := 2) (Nat.le_of_ble_eq_true rfl)
  rw [lg_entry_eq]
  generalize (lg_sl ([.ref (a0 0), .int p1]) ++ List.replicate (2 - (lg_sl ([.ref (a0 0), .int p1])).length) Slot.unset).toArray = ls at hl ⊢
  have hl : lv_has ls 2 [(0, .ref (a0 0)), (1, .int p1)] := hl
  rw [f_X7_mouths] at hM
  refine lv_aload_n hx hb dX7_mouths_0 rfl (lv_at hl 0 rfl) ?_
  refine lv_iload_n hx hb dX7_mouths_1 rfl (lv_at hl 1 rfl) ?_
  refine rVR (wc := (wXT g a0 (fm a0 V0 kv tv) U0)) (As := [.int p1]) (rest := []) (q0 := 0) hS (c_X7_isSight l g a0 (fm a0 V0 kv tv) U0 p1) gX7_mouths_X7_isSight rfl hd_X7_isSight ⟨Nat.le_of_ble_eq_true rfl, Nat.le_of_ble_eq_true rfl⟩ hK (va_P.pm hw.1 (pmX1 _ _ _ _ _ _ _ _)) rfl rfl rfl rfl hl.1 rfl (Nat.le_of_ble_eq_true rfl) dX7_mouths_2 ⟨Nat.zero_le _, Nat.zero_le _⟩ ?_
  refine lv_if_eq (tgt := 16) hx hb dX7_mouths_5 (by decide) (fun c2 => ?_) (fun c2 => ?_)
  · replace hM := itp c2 hM
    refine lv_aload_n hx hb dX7_mouths_16 rfl (lv_at hl 0 rfl) ?_
    refine lv_bipush (v := (-2 : Int32)) hx hb dX7_mouths_17 (by decide) ?_
    obtain ⟨q4, h3, hM⟩ := bd hM
    refine rVWp (wc := (wXM g a0 U0 V0 M0 R0 kv tv)) (wq := (wXM g a0 U0 q4.2 M0 R0 kv tv)) (As := [.int (-2 : Int32)]) (rest := []) (q0 := 0) hS (c_X7_refuse l g a0 kv tv U0 V0 M0 R0 (-2 : Int32) h3) gX7_mouths_X7_refuse rfl hd_X7_refuse ⟨Nat.le_of_ble_eq_true rfl, Nat.le_of_ble_eq_true rfl⟩ hK hw hA (pm_1_0 _) rfl (pm_1_0 _) rfl rfl rfl rfl hl.1 rfl (Nat.le_of_ble_eq_true rfl) dX7_mouths_19 ⟨Nat.zero_le _, Nat.zero_le _⟩ (fun H locs hw => ?_)
    obtain rfl := Option.some.inj hM
    exact W.iret hx hb hr (fun t ht _ => ⟨rfl, by rw [ht]; exact hw.1, hw.2.2.F ht⟩) hw.2.2.2.2 dX7_mouths_22
  · replace hM := itn c2 hM
    refine lv_aload_n hx hb dX7_mouths_8 rfl (lv_at hl 0 rfl) ?_
    refine lv_iload_n hx hb dX7_mouths_9 rfl (lv_at hl 1 rfl) ?_
    obtain ⟨q6, h5, hM⟩ := bd hM
    refine rVR (wc := (wXT g a0 (fm a0 V0 kv tv) U0)) (As := [.int p1]) (rest := []) (q0 := 0) hS (c_X7_mouthsOf l g a0 (fm a0 V0 kv tv) U0 p1 h5) gX7_mouths_X7_mouthsOf rfl hd_X7_mouthsOf ⟨Nat.le_of_ble_eq_true rfl, Nat.le_of_ble_eq_true rfl⟩ hK (va_P.pm hw.1 (pmX1 _ _ _ _ _ _ _ _)) rfl rfl rfl rfl hl.1 rfl (Nat.le_of_ble_eq_true rfl) dX7_mouths_10 ⟨Nat.zero_le _, Nat.zero_le _⟩ ?_
    refine lv_goto (tgt := 22) hx hb dX7_mouths_13 (by decide) ?_
    obtain rfl := Option.some.inj hM
    exact W.iret hx hb hr (fun t ht _ => ⟨rfl, by rw [ht]; exact hw.1, hw.2.2.F ht⟩) hw.2.2.2.2 dX7_mouths_22
theorem hd_X7_mouthsBy : yX7_mouthsBy.cls = RX7 ∧ yX7_mouthsBy.cls ≠ "java/lang/invoke/MethodHandle" ∧ yX7_mouthsBy.cls ≠ "java/lang/invoke/VarHandle" ∧ (parseMethodDescriptor yX7_mouthsBy.desc).map (fun d => d.parameters.length) = some 2 := by decide +kernel
set_option maxHeartbeats 4000000 in
set_option maxRecDepth 100000 in
theorem c_X7_mouthsBy (l : Launch) (g : Gm) (a0 : Nat → Nat) (U0 : TS) (V0 : TS) (M0 : LTS) (R0 : LTS) (kv : Value) (t0 : Tr) (tp0 : Option (Nat → Int32)) (h0 : tpOf t0 = tp0) (p1 : Int32) (p2 : Int32) {q : (Int32 × TS × (Option (Nat → Int32)))} (hM : f_X7_mouthsBy U0 V0 M0 R0 tp0 p1 p2 = some q) : MB l yX7_mouthsBy wsX7_mouthsBy 6 163 g [.ref (a0 0), .int p1, .int p2] (fun t => (wXM g a0 U0 V0 M0 R0 kv (tvOf t)) ++ wOT g t) t0 (some (.int q.1)) (fun t => (wXM g a0 U0 q.2.1 M0 R0 kv (tvOf t)) ++ wOT g t) q.2.2 := by
  intro sz
  refine Met.ofW (cc := cX7_mouthsBy) (maxL := 3) (ret := (some .int)) (by decide) rfl ?_
  intro p e s m args below meth c s₁ B hml hv
  obtain ⟨rfl, hsz, hP, hK, hD0⟩ := hv
  have hx := B.exec; have hb := B.bytes; have hr := B.returns
  have hts := atoms_spec (ws := wsX7_mouthsBy) B.pre
  have hown : s.vm.findClass RX7 = some m.cls := findClass_of_methodNamed B.named
  have hlocks := B.notSynchronized
  have hS : CallFix p m c cX7_mouthsBy 3 s _ wsX7_mouthsBy RX7 := ⟨hx, hb, hml, hown, hts⟩
  subst hsz
  have hw := wk_start hP hD0
  have hA : ∀ q : Nat, s.heap.size ≤ q → va_A ((wXM g a0 U0 V0 M0 R0 kv (tvOf t0)) ++ (wOT g t0)) s.heap.size q := fun q h => Or.inr h
  generalize va_A ((wXM g a0 U0 V0 M0 R0 kv (tvOf t0)) ++ (wOT g t0)) s.heap.size = A at hw hA ⊢
  clear hP hD0
  have hl := lv_entry ([.ref (a0 0), .int p1, .int p2]) (n := 3) (Nat.le_of_ble_eq_true rfl)
  rw [lg_entry_eq]
  generalize (lg_sl ([.ref (a0 0), .int p1, .int p2]) ++ List.replicate (3 - (lg_sl ([.ref (a0 0), .int p1, .int p2])).length) Slot.unset).toArray = ls at hl ⊢
  have hl : lv_has ls 3 [(0, .ref (a0 0)), (1, .int p1), (2, .int p2)] := hl
  refine W_nl t0 ?_
  rw [f_X7_mouthsBy] at hM
  refine lv_aload_n hx hb dX7_mouthsBy_0 rfl (lv_at hl 0 rfl) ?_
  refine lv_iload_n hx hb dX7_mouthsBy_1 rfl (lv_at hl 1 rfl) ?_
  refine rVR (wc := (wXT g a0 (fm a0 V0 kv (tvOf t0)) U0)) (As := [.int p1]) (rest := []) (q0 := 0) hS (c_X7_isSight l g a0 (fm a0 V0 kv (tvOf t0)) U0 p1) gX7_mouthsBy_X7_isSight rfl hd_X7_isSight ⟨Nat.le_of_ble_eq_true rfl, Nat.le_of_ble_eq_true rfl⟩ hK (va_P.pm hw.1 (pmX2 _ _ _ _ _ _ _ _ _)) rfl rfl rfl rfl hl.1 rfl (Nat.le_of_ble_eq_true rfl) dX7_mouthsBy_2 ⟨nlc _ _ _, nlc _ _ _⟩ ?_
  refine lv_if_eq (tgt := 27) hx hb dX7_mouthsBy_5 (by decide) (fun c2 => ?_) (fun c2 => ?_)
  · replace hM := itp c2 hM
    refine lv_aload_n hx hb dX7_mouthsBy_27 rfl (lv_at hl 0 rfl) ?_
    refine lv_bipush (v := (-2 : Int32)) hx hb dX7_mouthsBy_28 (by decide) ?_
    obtain ⟨q4, h3, hM⟩ := bd hM
    refine rVWp (wc := (wXM g a0 U0 V0 M0 R0 kv (tvOf t0))) (wq := ((wXM g a0 U0 q4.2 M0 R0 kv (tvOf t0)) ++ (wOT g t0))) (As := [.int (-2 : Int32)]) (rest := []) (q0 := 0) hS (c_X7_refuse l g a0 kv (tvOf t0) U0 V0 M0 R0 (-2 : Int32) h3) gX7_mouthsBy_X7_refuse rfl hd_X7_refuse ⟨Nat.le_of_ble_eq_true rfl, Nat.le_of_ble_eq_true rfl⟩ hK hw hA (pm_2_0 _ _) rfl (pm_2_0 _ _) rfl rfl rfl rfl hl.1 rfl (Nat.le_of_ble_eq_true rfl) dX7_mouthsBy_30 ⟨nlc _ _ _, nlc _ _ _⟩ (fun H locs hw => ?_)
    obtain rfl := Option.some.inj hM
    refine W.widen (k := 28 * nlOf t0) (n := 759 * nlOf t0) (nlc _ _ _) (nlc _ _ _) ?_
    exact W.iret hx hb hr (fun t ht _ => ⟨rfl, ⟨t0, h0, by rw [ht]; exact hw.1, hw.2.1⟩, hw.2.2.F ht⟩) hw.2.2.2.2 dX7_mouthsBy_33
  · replace hM := itn c2 hM
    refine lv_iload_n hx hb dX7_mouthsBy_8 rfl (lv_at hl 2 rfl) ?_
    refine rSR (wc := ([] : va_W)) (As := [.int p2]) (rest := []) hS (c_X7_isRounds l g p2) gX7_mouthsBy_X7_isRounds rfl hd_X7_isRounds ⟨Nat.le_of_ble_eq_true rfl, Nat.le_of_ble_eq_true rfl⟩ hK (hP_nil) rfl hl.1 rfl (Nat.le_of_ble_eq_true rfl) dX7_mouthsBy_9 ⟨nlc _ _ _, nlc _ _ _⟩ ?_
    refine lv_if_eq (tgt := 27) hx hb dX7_mouthsBy_12 (by decide) (fun c6 => ?_) (fun c6 => ?_)
    · replace hM := itp c6 hM
      refine lv_aload_n hx hb dX7_mouthsBy_27 rfl (lv_at hl 0 rfl) ?_
      refine lv_bipush (v := (-2 : Int32)) hx hb dX7_mouthsBy_28 (by decide) ?_
      obtain ⟨q8, h7, hM⟩ := bd hM
      refine rVWp (wc := (wXM g a0 U0 V0 M0 R0 kv (tvOf t0))) (wq := ((wXM g a0 U0 q8.2 M0 R0 kv (tvOf t0)) ++ (wOT g t0))) (As := [.int (-2 : Int32)]) (rest := []) (q0 := 0) hS (c_X7_refuse l g a0 kv (tvOf t0) U0 V0 M0 R0 (-2 : Int32) h7) gX7_mouthsBy_X7_refuse rfl hd_X7_refuse ⟨Nat.le_of_ble_eq_true rfl, Nat.le_of_ble_eq_true rfl⟩ hK hw hA (pm_2_0 _ _) rfl (pm_2_0 _ _) rfl rfl rfl rfl hl.1 rfl (Nat.le_of_ble_eq_true rfl) dX7_mouthsBy_30 ⟨nlc _ _ _, nlc _ _ _⟩ (fun H locs hw => ?_)
      obtain rfl := Option.some.inj hM
      refine W.widen (k := 28 * nlOf t0) (n := 759 * nlOf t0) (nlc _ _ _) (nlc _ _ _) ?_
      exact W.iret hx hb hr (fun t ht _ => ⟨rfl, ⟨t0, h0, by rw [ht]; exact hw.1, hw.2.1⟩, hw.2.2.F ht⟩) hw.2.2.2.2 dX7_mouthsBy_33
    · replace hM := itn c6 hM
      refine lv_aload_n hx hb dX7_mouthsBy_15 rfl (lv_at hl 0 rfl) ?_
      refine lv_iload_n hx hb dX7_mouthsBy_16 rfl (lv_at hl 2 rfl) ?_
      obtain ⟨q12, h9, hM⟩ := bd hM
      refine rVF (t0 := t0) (As := [.int p2]) (rest := []) (hn := (Nat.le_refl _)) hS (c_X7_after l g a0 U0 V0 M0 R0 kv t0 tp0 h0 p2 h9) gX7_mouthsBy_X7_after rfl hd_X7_after ⟨Nat.le_of_ble_eq_true rfl, Nat.le_of_ble_eq_true rfl⟩ hK hw hA rfl rfl rfl rfl hl.1 rfl (Nat.le_of_ble_eq_true rfl) dX7_mouthsBy_17 (fun b10 G11 H locs hw => ?_)
      have hw : Wk g A s.heap H locs ((wXM g a0 U0 V0 M0 R0 kv (.ref (b10 0))) ++ (wXT g b10 G11 q12)) := hw
      refine lv_iload_n hx hb dX7_mouthsBy_20 rfl (lv_at hl 1 rfl) ?_
      obtain ⟨q14, h13, hM⟩ := bd hM
      refine rVR (wc := (wXT g b10 G11 q12)) (As := [.int p1]) (rest := []) (q0 := 0) hS (c_X7_mouthsOf l g b10 G11 q12 p1 h13) gX7_mouthsBy_X7_mouthsOf rfl hd_X7_mouthsOf ⟨Nat.le_of_ble_eq_true rfl, Nat.le_of_ble_eq_true rfl⟩ hK (va_P.pm hw.1 (pm_2_1 _ _)) rfl rfl rfl rfl hl.1 rfl (Nat.le_of_ble_eq_true rfl) dX7_mouthsBy_21 ⟨Nat.le_refl _, Nat.le_refl _⟩ ?_
      refine lv_goto (tgt := 33) hx hb dX7_mouthsBy_24 (by decide) ?_
      obtain rfl := Option.some.inj hM
      exact W.iret hx hb hr (fun t ht _ => ⟨rfl, ⟨(some (b10, G11, q12)), rfl, by rw [ht]; exact hw.1, hw.2.1⟩, hw.2.2.F ht⟩) hw.2.2.2.2 dX7_mouthsBy_33
