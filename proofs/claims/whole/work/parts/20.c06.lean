theorem hd_X1_weigh : yX1_weigh.cls = RX1 ∧ yX1_weigh.cls ≠ "java/lang/invoke/MethodHandle" ∧ yX1_weigh.cls ≠ "java/lang/invoke/VarHandle" ∧ (parseMethodDescriptor yX1_weigh.desc).map (fun d => d.parameters.length) = some 0 := by decide +kernel
set_option maxHeartbeats 4000000 in
set_option maxRecDepth 100000 in
theorem c_X1_weigh (l : Launch) (g : Gm) (a0 : Nat → Nat) (a1 : Nat → Nat) (a2 : Nat → Nat) (O0 : TS) (B0 : TS) (T1 : TS) (T2 : TS) {q : TS} (hM : f_X1_weigh O0 B0 T1 T2 = some q) : MW l yX1_weigh wsX1_weigh 2 80 g [.ref (a0 0)] ((wX1 g a0 (a1 0) (a2 0) O0 B0) ++ ((wX5 g a1 T1) ++ (wX5 g a2 T2))) none ((wX1 g a0 (a1 0) (a2 0) q B0) ++ ((wX5 g a1 T1) ++ (wX5 g a2 T2))) := by
  intro sz
  refine Met.ofW (cc := cX1_weigh) (maxL := 2) (ret := none) (by decide) rfl ?_
  intro p e s m args below meth c s₁ B hml hv
  obtain ⟨rfl, hsz, hP, hK, hD0⟩ := hv
  have hx := B.exec; have hb := B.bytes; have hr := B.returns
  have hts := atoms_spec (ws := wsX1_weigh) B.pre
  have hown : s.vm.findClass RX1 = some m.cls := findClass_of_methodNamed B.named
  have hlocks := B.notSynchronized
  have hS : CallFix p m c cX1_weigh 2 s _ wsX1_weigh RX1 := ⟨hx, hb, hml, hown, hts⟩
  have hin_X1 : ∀ w ∈ wsX10, w ∈ wsX1_weigh := fun w h => (List.mem_cons_of_mem _ (List.mem_append_left _ (List.mem_append_right _ h)))
  subst hsz
  have hw := wk_start hP hD0
  have hA : ∀ q : Nat, s.heap.size ≤ q → va_A ((wX1 g a0 (a1 0) (a2 0) O0 B0) ++ ((wX5 g a1 T1) ++ (wX5 g a2 T2))) s.heap.size q := fun q h => Or.inr h
  generalize va_A ((wX1 g a0 (a1 0) (a2 0) O0 B0) ++ ((wX5 g a1 T1) ++ (wX5 g a2 T2))) s.heap.size = A at hw hA ⊢
  clear hP hD0
  have hl := lv_entry ([.ref (a0 0)]) (n := 2) (Nat.le_of_ble_eq_true rfl)
  rw [lg_entry_eq]
  generalize (lg_sl ([.ref (a0 0)]) ++ List.replicate (2 - (lg_sl ([.ref (a0 0)])).length) Slot.unset).toArray = ls at hl ⊢
  have hl : lv_has ls 2 [(0, .ref (a0 0))] := hl
  rw [f_X1_weigh] at hM
  refine lv_aload_n hx hb dX1_weigh_0 rfl (lv_at hl 0 rfl) ?_
  refine wk_get hx hb hts hin_X1 hown hK hw.1 1 0 1 (.ref (a2 0)) rfl rfl (by decide) (mi 1 rfl) rfl rfl dX1_weigh_1 ?_
  obtain ⟨q2, h1, hM⟩ := bd hM
  refine rVR (wc := (wX5 g a2 T2)) (As := []) (rest := []) (q0 := 0) hS (c_X5_knownInAll l g a2 T2 h1) gX1_weigh_X5_knownInAll rfl hd_X5_knownInAll ⟨Nat.le_of_ble_eq_true rfl, Nat.le_of_ble_eq_true rfl⟩ hK (va_P.pm hw.1 (pm_3_2 _ _ _)) rfl rfl rfl rfl hl.1 rfl (Nat.le_of_ble_eq_true rfl) dX1_weigh_4 ⟨Nat.zero_le _, Nat.zero_le _⟩ ?_
  refine lv_istore_n (lv' := [(1, .int q2), (0, .ref (a0 0))]) hx hb dX1_weigh_7 rfl hl (by decide) rfl (fun ls hl => ?_)
  refine lv_iload_n hx hb dX1_weigh_8 rfl (lv_at hl 0 rfl) ?_
  refine lv_aload_n hx hb dX1_weigh_9 rfl (lv_at hl 1 rfl) ?_
  refine wk_get hx hb hts hin_X1 hown hK hw.1 1 0 5 (.int (O0 5 0)) rfl rfl (by decide) (mi 2 rfl) rfl rfl dX1_weigh_10 ?_
  refine lv_icmp_le (tgt := 36) hx hb dX1_weigh_13 (by decide) (fun c3 => ?_) (fun c3 => ?_)
  · replace hM := itp c3 hM
    obtain rfl := Option.some.inj hM
    exact W.vret hx hb hr (fun t ht _ => ⟨rfl, by rw [ht]; exact hw.1, hw.2.2.F ht⟩) hw.2.2.2.2 dX1_weigh_36
  · replace hM := itn c3 hM
    refine lv_aload_n hx hb dX1_weigh_16 rfl (lv_at hl 1 rfl) ?_
    refine lv_iload_n hx hb dX1_weigh_17 rfl (lv_at hl 0 rfl) ?_
    refine wk_put (wq := ((wX1 g a0 (a1 0) (a2 0) (up O0 5 (fun _ => q2)) B0) ++ ((wX5 g a1 T1) ++ (wX5 g a2 T2)))) hx hb hts hin_X1 tyX1 tyX1_ok nmX1 hown hK hw 1 0 5 rfl rfl (by decide) (mi 2 rfl) rfl rfl rfl rfl (Nat.le_of_ble_eq_true rfl) dX1_weigh_18 rfl (fun H locs hw => ?_)
    refine lv_aload_n hx hb dX1_weigh_21 rfl (lv_at hl 1 rfl) ?_
    refine wk_get hx hb hts hin_X1 hown hK hw.1 1 0 3 (.ref (a0 2)) rfl rfl (by decide) (mi 3 rfl) rfl rfl dX1_weigh_22 ?_
    refine lv_iconst (v := (0 : Int32)) hx hb dX1_weigh_25 (by decide) ?_
    refine lv_aload_n hx hb dX1_weigh_26 rfl (lv_at hl 1 rfl) ?_
    refine wk_get hx hb hts hin_X1 hown hK hw.1 1 0 4 (.ref (a0 3)) rfl rfl (by decide) (mi 4 rfl) rfl rfl dX1_weigh_27 ?_
    refine lv_iconst (v := (0 : Int32)) hx hb dX1_weigh_30 (by decide) ?_
    refine lv_bipush (v := (7 : Int32)) hx hb dX1_weigh_31 (by decide) ?_
    refine wk_copyi (wq := ((wX1 g a0 (a1 0) (a2 0) (up (up O0 5 (fun _ => q2)) 4 (va_cpy (O0 3) (O0 4) ((0 : Int32)).toNatClampNeg ((0 : Int32)).toNatClampNeg ((7 : Int32)).toNatClampNeg)) B0) ++ ((wX5 g a1 T1) ++ (wX5 g a2 T2)))) hx hb (hml.trans hl.1.symm) hown (hts _ (mi 5 rfl)) (hts _ (mi 6 rfl)) (hts _ (mi 7 rfl)) (hts _ (mi 8 rfl)) hK hw 2 3 7 7 (O0 3) (O0 4) rfl rfl (by decide) (Nat.le_of_ble_eq_true rfl) (Nat.le_of_ble_eq_true rfl) dX1_weigh_33 rfl (fun H locs hw => ?_)
    obtain rfl := Option.some.inj hM
    exact W.vret hx hb hr (fun t ht _ => ⟨rfl, by rw [ht]; exact hw.1, hw.2.2.F ht⟩) hw.2.2.2.2 dX1_weigh_36
theorem hd_X1_speakOn : yX1_speakOn.cls ≠ "java/lang/invoke/MethodHandle" ∧ yX1_speakOn.cls ≠ "java/lang/invoke/VarHandle" ∧ (parseMethodDescriptor yX1_speakOn.desc).map (fun d => d.parameters.length) = some 3 := by decide +kernel
set_option maxHeartbeats 4000000 in
set_option maxRecDepth 100000 in
theorem c_X1_speakOn (l : Launch) (g : Gm) (a0 : Nat → Nat) (a1 : Nat → Nat) (a2 : Nat → Nat) : ∀ (d : Nat) (O0 : TS) (B0 : TS) (T1 : TS) (T2 : TS) (p1 : Int32) (p2 : Int32) {q : (TS × TS × TS)}, f_X1_speakOn d O0 B0 T1 T2 p1 p2 = some q → MW l yX1_speakOn wsX1_speakOn (d + 3) (d * 24 + 101) g [.ref (a0 0), .int p1, .int p2] ((wX1 g a0 (a1 0) (a2 0) O0 B0) ++ ((wX5 g a1 T1) ++ (wX5 g a2 T2))) none ((wX1 g a0 (a1 0) (a2 0) q.1 q.2.1) ++ ((wX5 g a1 T1) ++ (wX5 g a2 q.2.2))) := by
  intro d
  induction d with
  | zero => intro O0 B0 T1 T2 p1 p2 q hM; rw [f_X1_speakOn] at hM; exact nn hM
  | succ d ihR =>
  intro O0 B0 T1 T2 p1 p2 q hM
  intro sz
  refine Met.ofW (cc := cX1_speakOn) (maxL := 5) (ret := none) (by decide) rfl ?_
  intro p e s m args below meth c s₁ B hml hv
  obtain ⟨rfl, hsz, hP, hK, hD0⟩ := hv
  have hx := B.exec; have hb := B.bytes; have hr := B.returns
  have hts := atoms_spec (ws := wsX1_speakOn) B.pre
  have hown : s.vm.findClass RX1 = some m.cls := findClass_of_methodNamed B.named
  have hlocks := B.notSynchronized
  have hS : CallFix p m c cX1_speakOn 5 s _ wsX1_speakOn RX1 := ⟨hx, hb, hml, hown, hts⟩
  have hin_X1 : ∀ w ∈ wsX10, w ∈ wsX1_speakOn := fun w h => (List.mem_cons_of_mem _ (List.mem_append_left _ (List.mem_append_right _ h)))
  have hin_X5 : ∀ w ∈ wsX50, w ∈ wsX1_speakOn := fun w h => (List.mem_cons_of_mem _ (List.mem_append_right _ h))
  subst hsz
  have hw := wk_start hP hD0
  have hA : ∀ q : Nat, s.heap.size ≤ q → va_A ((wX1 g a0 (a1 0) (a2 0) O0 B0) ++ ((wX5 g a1 T1) ++ (wX5 g a2 T2))) s.heap.size q := fun q h => Or.inr h
  generalize va_A ((wX1 g a0 (a1 0) (a2 0) O0 B0) ++ ((wX5 g a1 T1) ++ (wX5 g a2 T2))) s.heap.size = A at hw hA ⊢
  clear hP hD0
  have hl := lv_entry ([.ref (a0 0), .int p1, .int p2]) (n := 5) (Nat.le_of_ble_eq_true rfl)
  rw [lg_entry_eq]
  generalize (lg_sl ([.ref (a0 0), .int p1, .int p2]) ++ List.replicate (5 - (lg_sl ([.ref (a0 0), .int p1, .int p2])).length) Slot.unset).toArray = ls at hl ⊢
  have hl : lv_has ls 5 [(0, .ref (a0 0)), (1, .int p1), (2, .int p2)] := hl
  rw [f_X1_speakOn] at hM
  refine lv_iload_n hx hb dX1_speakOn_0 rfl (lv_at hl 2 rfl) ?_
  refine lv_if_eq (tgt := 10) hx hb dX1_speakOn_1 (by decide) (fun c1 => ?_) (fun c1 => ?_)
  · replace hM := itp c1 hM
    refine lv_aload_n hx hb dX1_speakOn_10 rfl (lv_at hl 0 rfl) ?_
    obtain ⟨q3, h2, hM⟩ := bd hM
    refine rVWp (wc := ((wX1 g a0 (a1 0) (a2 0) O0 B0) ++ ((wX5 g a1 T1) ++ (wX5 g a2 T2)))) (wq := ((wX1 g a0 (a1 0) (a2 0) q3 B0) ++ ((wX5 g a1 T1) ++ (wX5 g a2 T2)))) (As := []) (rest := []) (q0 := 0) hS (c_X1_weigh l g a0 a1 a2 O0 B0 T1 T2 h2) gX1_speakOn_X1_weigh rfl hd_X1_weigh ⟨by show _ ≤ d + 1 + _; omega, by show _ ≤ (d + 1) * _ + _; omega⟩ hK hw hA (pm_3_0_1_2 _ _ _) rfl (pm_3_0_1_2 _ _ _) rfl rfl rfl rfl hl.1 rfl (Nat.le_of_ble_eq_true rfl) dX1_speakOn_11 ⟨Nat.zero_le _, Nat.zero_le _⟩ (fun H locs hw => ?_)
    obtain rfl := Option.some.inj hM
    exact W.vret hx hb hr (fun t ht _ => ⟨rfl, by rw [ht]; exact hw.1, hw.2.2.F ht⟩) hw.2.2.2.2 dX1_speakOn_14
  · replace hM := itn c1 hM
    refine lv_iload_n hx hb dX1_speakOn_4 rfl (lv_at hl 1 rfl) ?_
    refine lv_bipush (v := (7 : Int32)) hx hb dX1_speakOn_5 (by decide) ?_
    refine lv_icmp_lt (tgt := 15) hx hb dX1_speakOn_7 (by decide) (fun c4 => ?_) (fun c4 => ?_)
    · replace hM := itp c4 hM
      refine lv_aload_n hx hb dX1_speakOn_15 rfl (lv_at hl 0 rfl) ?_
      refine wk_get hx hb hts hin_X1 hown hK hw.1 1 0 2 (.ref (a0 1)) rfl rfl (by decide) (mi 1 rfl) rfl rfl dX1_speakOn_16 ?_
      refine lv_iload_n hx hb dX1_speakOn_19 rfl (lv_at hl 1 rfl) ?_
      obtain ⟨k5, hM⟩ := ck hM
      refine wk_aald hx hb hK hw.1 1 7 (fun i => a0 (4 + i)) 2 rfl (k5) rfl rfl dX1_speakOn_20 ?_
      refine lv_astore_n (lv' := [(3, .ref (a0 (4 + (p1).toNatClampNeg))), (0, .ref (a0 0)), (1, .int p1), (2, .int p2)]) hx hb dX1_speakOn_21 rfl hl (by decide) rfl (fun ls hl => ?_)
      refine lv_aload_n hx hb dX1_speakOn_22 rfl (lv_at hl 1 rfl) ?_
      refine wk_get hx hb hts hin_X1 hown hK hw.1 1 0 1 (.ref (a2 0)) rfl rfl (by decide) (mi 2 rfl) rfl rfl dX1_speakOn_23 ?_
      refine wk_get hx hb hts hin_X5 hown hK hw.1 5 19 9 (.ref (a2 3)) rfl rfl (by decide) (mi 3 rfl) rfl rfl dX1_speakOn_26 ?_
      refine lv_iconst (v := (0 : Int32)) hx hb dX1_speakOn_29 (by decide) ?_
      refine lv_aload_n hx hb dX1_speakOn_30 rfl (lv_at hl 0 rfl) ?_
      refine lv_iconst (v := (0 : Int32)) hx hb dX1_speakOn_31 (by decide) ?_
      refine lv_bipush (v := (7 : Int32)) hx hb dX1_speakOn_32 (by decide) ?_
      refine wk_copyi (wq := ((wX1 g a0 (a1 0) (a2 0) O0 (up B0 (p1).toNatClampNeg (va_cpy (T2 9) (B0 (p1).toNatClampNeg) ((0 : Int32)).toNatClampNeg ((0 : Int32)).toNatClampNeg ((7 : Int32)).toNatClampNeg))) ++ ((wX5 g a1 T1) ++ (wX5 g a2 T2)))) hx hb (hml.trans hl.1.symm) hown (hts _ (mi 4 rfl)) (hts _ (mi 5 rfl)) (hts _ (mi 6 rfl)) (hts _ (mi 7 rfl)) hK hw 22 (4 + (p1).toNatClampNeg) 7 7 (T2 9) (B0 (p1).toNatClampNeg) rfl (wX1_rowA (Nat.lt_of_not_le (fun z => k5 (Or.inr z)))) (by decide) (Nat.le_of_ble_eq_true rfl) (Nat.le_of_ble_eq_true rfl) dX1_speakOn_34 (wX1_setA (Nat.lt_of_not_le (fun z => k5 (Or.inr z)))) (fun H locs hw => ?_)
      refine lv_iconst (v := (0 : Int32)) hx hb dX1_speakOn_37 (by decide) ?_
      refine lv_istore (lv' := [(4, .int (0 : Int32)), (3, .ref (a0 (4 + (p1).toNatClampNeg))), (0, .ref (a0 0)), (1, .int p1), (2, .int p2)]) hx hb dX1_speakOn_38 hl (by decide) rfl (fun ls hl => ?_)
      obtain ⟨q10, hL40, hM⟩ := bd hM
      have hJ40 : ∀ (H : Heap) (locs : List Loc), Wk g A s.heap H locs ((wX1 g a0 (a1 0) (a2 0) q10.1 q10.2.1) ++ ((wX5 g a1 T1) ++ (wX5 g a2 q10.2.2))) → ∀ (ls : Array Slot), lv_has ls 5 [] → W p l e (headSpec wsX1_speakOn ({ frames := (d + 1 + 3), cells := 0, slots := 0, locals := ((d + 1) * 24 + 101) } : Room)).room s m ([.ref (a0 0), .int p1, .int p2] : List Value).toArray below meth c H locs 0 0 (MQ below (QcW g none ((wX1 g a0 (a1 0) (a2 0) q.1 q.2.1) ++ ((wX5 g a1 T1) ++ (wX5 g a2 q.2.2))) A) ([.ref (a0 0), .int p1, .int p2] : List Value).toArray s 0 0 A) (F0 m 134 ls []) := by
        intro H locs hw ls hl
        obtain rfl := Option.some.inj hM
        exact W.vret hx hb hr (fun t ht _ => ⟨rfl, by rw [ht]; exact hw.1, hw.2.2.F ht⟩) hw.2.2.2.2 dX1_speakOn_134
      have hW40 : ∀ (n : Nat) (v4_6 : Int32) (OL7 : TS) (BL8 : TS) (TL9 : TS), L_X1_speakOn_40 (f_X1_speakOn d) T1 p1 p2 n v4_6 OL7 BL8 TL9 = some q10 → ∀ (H : Heap) (locs : List Loc), Wk g A s.heap H locs ((wX1 g a0 (a1 0) (a2 0) OL7 BL8) ++ ((wX5 g a1 T1) ++ (wX5 g a2 TL9))) → ∀ (ls : Array Slot), lv_has ls 5 [(4, .int v4_6), (3, .ref (a0 (4 + (p1).toNatClampNeg))), (0, .ref (a0 0)), (1, .int p1), (2, .int p2)] → W p l e (headSpec wsX1_speakOn ({ frames := (d + 1 + 3), cells := 0, slots := 0, locals := ((d + 1) * 24 + 101) } : Room)).room s m ([.ref (a0 0), .int p1, .int p2] : List Value).toArray below meth c H locs 0 0 (MQ below (QcW g none ((wX1 g a0 (a1 0) (a2 0) q.1 q.2.1) ++ ((wX5 g a1 T1) ++ (wX5 g a2 q.2.2))) A) ([.ref (a0 0), .int p1, .int p2] : List Value).toArray s 0 0 A) (F0 m 40 ls []) := by
        intro n
        induction n with
        | zero => intro v4_6 OL7 BL8 TL9 hM; rw [L_X1_speakOn_40] at hM; exact nn hM
        | succ n ih40 =>
          intro v4_6 OL7 BL8 TL9 hM H locs hw ls hl
          rw [L_X1_speakOn_40] at hM
          refine lv_iload hx hb dX1_speakOn_40 (lv_at hl 0 rfl) ?_
          refine lv_aload_n hx hb dX1_speakOn_42 rfl (lv_at hl 2 rfl) ?_
          refine wk_get hx hb hts hin_X1 hown hK hw.1 1 0 1 (.ref (a2 0)) rfl rfl (by decide) (mi 2 rfl) rfl rfl dX1_speakOn_43 ?_
          refine wk_get hx hb hts hin_X5 hown hK hw.1 5 19 1 (.int (TL9 1 0)) rfl rfl (by decide) (mi 8 rfl) rfl rfl dX1_speakOn_46 ?_
          refine lv_icmp_ge (tgt := 134) hx hb dX1_speakOn_49 (by decide) (fun c11 => ?_) (fun c11 => ?_)
          · replace hM := itp c11 hM
            obtain rfl := Option.some.inj hM
            exact hJ40 _ _ hw _ (lv_sub hl [] rfl)
          · replace hM := itn c11 hM
            refine lv_aload_n hx hb dX1_speakOn_52 rfl (lv_at hl 2 rfl) ?_
            refine wk_get hx hb hts hin_X1 hown hK hw.1 1 0 5 (.int (OL7 5 0)) rfl rfl (by decide) (mi 9 rfl) rfl rfl dX1_speakOn_53 ?_
            refine lv_aload_n hx hb dX1_speakOn_56 rfl (lv_at hl 2 rfl) ?_
            refine wk_get hx hb hts hin_X1 hown hK hw.1 1 0 6 (.int (OL7 6 0)) rfl rfl (by decide) (mi 10 rfl) rfl rfl dX1_speakOn_57 ?_
            refine lv_icmp_ge (tgt := 134) hx hb dX1_speakOn_60 (by decide) (fun c12 => ?_) (fun c12 => ?_)
            · replace hM := itp c12 hM
              obtain rfl := Option.some.inj hM
              exact hJ40 _ _ hw _ (lv_sub hl [] rfl)
            · replace hM := itn c12 hM
              refine lv_iload_n hx hb dX1_speakOn_63 rfl (lv_at hl 4 rfl) ?_
              refine lv_iload hx hb dX1_speakOn_64 (lv_at hl 0 rfl) ?_
              refine rNR (wc := ([] : va_W)) (As := [.int p2, .int v4_6]) (rest := []) hS (c_X6_has l g p2 v4_6) gX1_speakOn_X6_has_n79 rfl (mi 38 rfl) (mi 39 rfl) 11 rfl hd_X6_has ⟨by show _ ≤ d + 1 + _; omega, by show _ ≤ (d + 1) * _ + _; omega⟩ hK (hP_nil) rfl hl.1 rfl (Nat.le_of_ble_eq_true rfl) dX1_speakOn_66 ⟨Nat.zero_le _, Nat.zero_le _⟩ ?_
              refine lv_if_eq (tgt := 128) hx hb dX1_speakOn_69 (by decide) (fun c14 => ?_) (fun c14 => ?_)
              · replace hM := itp c14 hM
                refine lv_iinc (v := (v4_6 + (1 : Int32))) (lv' := [(4, .int (v4_6 + (1 : Int32))), (3, .ref (a0 (4 + (p1).toNatClampNeg))), (0, .ref (a0 0)), (1, .int p1), (2, .int p2)]) hx hb dX1_speakOn_128 hl (k := 0) rfl rfl (by decide) rfl (fun ls hl => ?_)
                refine lv_goto (tgt := 40) hx hb dX1_speakOn_131 (by decide) ?_
                exact ih40 (v4_6 + (1 : Int32)) OL7 BL8 TL9 hM _ _ hw _ (lv_sub hl [0, 1, 2, 3, 4] rfl)
              · replace hM := itn c14 hM
                refine lv_aload_n hx hb dX1_speakOn_72 rfl (lv_at hl 2 rfl) ?_
                refine wk_get hx hb hts hin_X1 hown hK hw.1 1 0 3 (.ref (a0 2)) rfl rfl (by decide) (mi 11 rfl) rfl rfl dX1_speakOn_73 ?_
                refine lv_iload_n hx hb dX1_speakOn_76 rfl (lv_at hl 3 rfl) ?_
                refine lv_iload hx hb dX1_speakOn_77 (lv_at hl 0 rfl) ?_
                refine wk_iast (wq := ((wX1 g a0 (a1 0) (a2 0) (up OL7 3 (upd (OL7 3) (p1).toNatClampNeg v4_6)) BL8) ++ ((wX5 g a1 T1) ++ (wX5 g a2 TL9)))) hx hb hK hw 2 7 (OL7 3) rfl k5 dX1_speakOn_79 rfl (fun H locs hw => ?_)
                refine lv_aload_n hx hb dX1_speakOn_80 rfl (lv_at hl 2 rfl) ?_
                refine wk_get hx hb hts hin_X1 hown hK hw.1 1 0 1 (.ref (a2 0)) rfl rfl (by decide) (mi 2 rfl) rfl rfl dX1_speakOn_81 ?_
                refine lv_iload hx hb dX1_speakOn_84 (lv_at hl 0 rfl) ?_
                refine lv_aload_n hx hb dX1_speakOn_86 rfl (lv_at hl 2 rfl) ?_
                refine wk_get hx hb hts hin_X1 hown hK hw.1 1 0 1 (.ref (a2 0)) rfl rfl (by decide) (mi 2 rfl) rfl rfl dX1_speakOn_87 ?_
                refine lv_iload hx hb dX1_speakOn_90 (lv_at hl 0 rfl) ?_
                obtain ⟨q16, h15, hM⟩ := bd hM
                refine rVR (wc := (wX5 g a2 TL9)) (As := [.int v4_6]) (rest := [.int v4_6, .ref (a2 0)]) (q0 := 0) hS (c_X5_sayableBy l g a2 TL9 v4_6 h15) gX1_speakOn_X5_sayableBy rfl hd_X5_sayableBy ⟨by show _ ≤ d + 1 + _; omega, by show _ ≤ (d + 1) * _ + _; omega⟩ hK (va_P.pm hw.1 (pm_3_2 _ _ _)) rfl rfl rfl rfl hl.1 rfl (Nat.le_of_ble_eq_true rfl) dX1_speakOn_92 ⟨Nat.zero_le _, Nat.zero_le _⟩ ?_
                obtain ⟨q18, h17, hM⟩ := bd hM
                refine rVWp (wc := (wX5 g a2 TL9)) (wq := ((wX1 g a0 (a1 0) (a2 0) (up OL7 3 (upd (OL7 3) (p1).toNatClampNeg v4_6)) BL8) ++ ((wX5 g a1 T1) ++ (wX5 g a2 q18.2)))) (As := [.int v4_6, .int q16]) (rest := []) (q0 := 0) hS (c_X5_tell l g a2 TL9 v4_6 q16 h17) gX1_speakOn_X5_tell rfl hd_X5_tell ⟨by show _ ≤ d + 1 + _; omega, by show _ ≤ (d + 1) * _ + _; omega⟩ hK hw hA (pm_3_2 _ _ _) rfl (pm_3_2 _ _ _) rfl rfl rfl rfl hl.1 rfl (Nat.le_of_ble_eq_true rfl) dX1_speakOn_95 ⟨Nat.zero_le _, Nat.zero_le _⟩ (fun H locs hw => ?_)
                refine lv_pop hx hb dX1_speakOn_98 rfl ?_
                refine lv_aload_n hx hb dX1_speakOn_99 rfl (lv_at hl 2 rfl) ?_
                refine lv_iload_n hx hb dX1_speakOn_100 rfl (lv_at hl 3 rfl) ?_
                refine lv_iconst (v := (1 : Int32)) hx hb dX1_speakOn_101 (by decide) ?_
                refine lv_iadd hx hb dX1_speakOn_102 ?_
                refine lv_iload_n hx hb dX1_speakOn_103 rfl (lv_at hl 4 rfl) ?_
                refine lv_iload hx hb dX1_speakOn_104 (lv_at hl 0 rfl) ?_
                refine lv_iconst (v := (0 : Int32)) hx hb dX1_speakOn_106 (by decide) ?_
                refine rNR (wc := ([] : va_W)) (As := [.int p2, .int v4_6, .int (0 : Int32)]) (rest := [.int (p1 + (1 : Int32)), .ref (a0 0)]) hS (c_X6_with l g p2 v4_6 (0 : Int32)) gX1_speakOn_X6_with_n91 rfl (mi 68 rfl) (mi 39 rfl) 12 rfl hd_X6_with ⟨by show _ ≤ d + 1 + _; omega, by show _ ≤ (d + 1) * _ + _; omega⟩ hK (hP_nil) rfl hl.1 rfl (Nat.le_of_ble_eq_true rfl) dX1_speakOn_107 ⟨Nat.zero_le _, Nat.zero_le _⟩ ?_
                obtain ⟨q21, h20, hM⟩ := bd hM
                refine rSWp (wc := ((wX1 g a0 (a1 0) (a2 0) (up OL7 3 (upd (OL7 3) (p1).toNatClampNeg v4_6)) BL8) ++ ((wX5 g a1 T1) ++ (wX5 g a2 q18.2)))) (wq := ((wX1 g a0 (a1 0) (a2 0) q21.1 q21.2.1) ++ ((wX5 g a1 T1) ++ (wX5 g a2 q21.2.2)))) (As := [.ref (a0 0), .int (p1 + (1 : Int32)), .int (f_X6_with p2 v4_6 (0 : Int32))]) (rest := []) hS (ihR (up OL7 3 (upd (OL7 3) (p1).toNatClampNeg v4_6)) BL8 T1 q18.2 (p1 + (1 : Int32)) (f_X6_with p2 v4_6 (0 : Int32)) h20) gX1_speakOn_X1_speakOn rfl hd_X1_speakOn ⟨by show _ ≤ d + 1 + _; omega, by show _ ≤ (d + 1) * _ + _; omega⟩ hK hw hA (pm_3_0_1_2 _ _ _) rfl (pm_3_0_1_2 _ _ _) rfl hl.1 rfl (Nat.le_of_ble_eq_true rfl) dX1_speakOn_110 ⟨Nat.zero_le _, Nat.zero_le _⟩ (fun H locs hw => ?_)
                refine lv_aload_n hx hb dX1_speakOn_113 rfl (lv_at hl 1 rfl) ?_
                refine lv_iconst (v := (0 : Int32)) hx hb dX1_speakOn_114 (by decide) ?_
                refine lv_aload_n hx hb dX1_speakOn_115 rfl (lv_at hl 2 rfl) ?_
                refine wk_get hx hb hts hin_X1 hown hK hw.1 1 0 1 (.ref (a2 0)) rfl rfl (by decide) (mi 2 rfl) rfl rfl dX1_speakOn_116 ?_
                refine wk_get hx hb hts hin_X5 hown hK hw.1 5 19 9 (.ref (a2 3)) rfl rfl (by decide) (mi 3 rfl) rfl rfl dX1_speakOn_119 ?_
                refine lv_iconst (v := (0 : Int32)) hx hb dX1_speakOn_122 (by decide) ?_
                refine lv_bipush (v := (7 : Int32)) hx hb dX1_speakOn_123 (by decide) ?_
                refine wk_copyi (wq := ((wX1 g a0 (a1 0) (a2 0) q21.1 q21.2.1) ++ ((wX5 g a1 T1) ++ (wX5 g a2 (up q21.2.2 9 (va_cpy (q21.2.1 (p1).toNatClampNeg) (q21.2.2 9) ((0 : Int32)).toNatClampNeg ((0 : Int32)).toNatClampNeg ((7 : Int32)).toNatClampNeg)))))) hx hb (hml.trans hl.1.symm) hown (hts _ (mi 4 rfl)) (hts _ (mi 5 rfl)) (hts _ (mi 6 rfl)) (hts _ (mi 7 rfl)) hK hw (4 + (p1).toNatClampNeg) 22 7 7 (q21.2.1 (p1).toNatClampNeg) (q21.2.2 9) (wX1_rowA (Nat.lt_of_not_le (fun z => k5 (Or.inr z)))) rfl (by decide) (Nat.le_of_ble_eq_true rfl) (Nat.le_of_ble_eq_true rfl) dX1_speakOn_125 rfl (fun H locs hw => ?_)
                refine lv_iinc (v := (v4_6 + (1 : Int32))) (lv' := [(4, .int (v4_6 + (1 : Int32))), (3, .ref (a0 (4 + (p1).toNatClampNeg))), (0, .ref (a0 0)), (1, .int p1), (2, .int p2)]) hx hb dX1_speakOn_128 hl (k := 0) rfl rfl (by decide) rfl (fun ls hl => ?_)
                refine lv_goto (tgt := 40) hx hb dX1_speakOn_131 (by decide) ?_
                exact ih40 (v4_6 + (1 : Int32)) q21.1 q21.2.1 (up q21.2.2 9 (va_cpy (q21.2.1 (p1).toNatClampNeg) (q21.2.2 9) ((0 : Int32)).toNatClampNeg ((0 : Int32)).toNatClampNeg ((7 : Int32)).toNatClampNeg)) hM _ _ hw _ (lv_sub hl [0, 1, 2, 3, 4] rfl)
      exact hW40 300 (0 : Int32) O0 (up B0 (p1).toNatClampNeg (va_cpy (T2 9) (B0 (p1).toNatClampNeg) ((0 : Int32)).toNatClampNeg ((0 : Int32)).toNatClampNeg ((7 : Int32)).toNatClampNeg)) T2 hL40 _ _ hw _ (lv_sub hl [0, 1, 2, 3, 4] rfl)
    · replace hM := itn c4 hM
      refine lv_aload_n hx hb dX1_speakOn_10 rfl (lv_at hl 0 rfl) ?_
      obtain ⟨q23, h22, hM⟩ := bd hM
      refine rVWp (wc := ((wX1 g a0 (a1 0) (a2 0) O0 B0) ++ ((wX5 g a1 T1) ++ (wX5 g a2 T2)))) (wq := ((wX1 g a0 (a1 0) (a2 0) q23 B0) ++ ((wX5 g a1 T1) ++ (wX5 g a2 T2)))) (As := []) (rest := []) (q0 := 0) hS (c_X1_weigh l g a0 a1 a2 O0 B0 T1 T2 h22) gX1_speakOn_X1_weigh rfl hd_X1_weigh ⟨by show _ ≤ d + 1 + _; omega, by show _ ≤ (d + 1) * _ + _; omega⟩ hK hw hA (pm_3_0_1_2 _ _ _) rfl (pm_3_0_1_2 _ _ _) rfl rfl rfl rfl hl.1 rfl (Nat.le_of_ble_eq_true rfl) dX1_speakOn_11 ⟨Nat.zero_le _, Nat.zero_le _⟩ (fun H locs hw => ?_)
      obtain rfl := Option.some.inj hM
      exact W.vret hx hb hr (fun t ht _ => ⟨rfl, by rw [ht]; exact hw.1, hw.2.2.F ht⟩) hw.2.2.2.2 dX1_speakOn_14
theorem hd_X1_search : yX1_search.cls = RX1 ∧ yX1_search.cls ≠ "java/lang/invoke/MethodHandle" ∧ yX1_search.cls ≠ "java/lang/invoke/VarHandle" ∧ (parseMethodDescriptor yX1_search.desc).map (fun d => d.parameters.length) = some 0 := by decide +kernel
set_option maxHeartbeats 4000000 in
set_option maxRecDepth 100000 in
theorem c_X1_search (l : Launch) (g : Gm) (a0 : Nat → Nat) (a1 : Nat → Nat) (a2 : Nat → Nat) (O0 : TS) (B0 : TS) (T1 : TS) (T2 : TS) {q : (TS × TS × TS)} (hM : f_X1_search O0 B0 T1 T2 = some q) : MW l yX1_search wsX1_search 13 341 g [.ref (a0 0)] ((wX1 g a0 (a1 0) (a2 0) O0 B0) ++ ((wX5 g a1 T1) ++ (wX5 g a2 T2))) none ((wX1 g a0 (a1 0) (a2 0) q.1 q.2.1) ++ ((wX5 g a1 T1) ++ (wX5 g a2 q.2.2))) := by
  intro sz
  refine Met.ofW (cc := cX1_search) (maxL := 1) (ret := none) (by decide) rfl ?_
  intro p e s m args below meth c s₁ B hml hv
  obtain ⟨rfl, hsz, hP, hK, hD0⟩ := hv
  have hx := B.exec; have hb := B.bytes; have hr := B.returns
  have hts := atoms_spec (ws := wsX1_search) B.pre
  have hown : s.vm.findClass RX1 = some m.cls := findClass_of_methodNamed B.named
  have hlocks := B.notSynchronized
  have hS : CallFix p m c cX1_search 1 s _ wsX1_search RX1 := ⟨hx, hb, hml, hown, hts⟩
  have hin_X1 : ∀ w ∈ wsX10, w ∈ wsX1_search := fun w h => (List.mem_cons_of_mem _ (List.mem_append_left _ (List.mem_append_right _ h)))
  subst hsz
  have hw := wk_start hP hD0
  have hA : ∀ q : Nat, s.heap.size ≤ q → va_A ((wX1 g a0 (a1 0) (a2 0) O0 B0) ++ ((wX5 g a1 T1) ++ (wX5 g a2 T2))) s.heap.size q := fun q h => Or.inr h
  generalize va_A ((wX1 g a0 (a1 0) (a2 0) O0 B0) ++ ((wX5 g a1 T1) ++ (wX5 g a2 T2))) s.heap.size = A at hw hA ⊢
  clear hP hD0
  have hl := lv_entry ([.ref (a0 0)]) (n := 1) (Nat.le_of_ble_eq_true rfl)
  rw [lg_entry_eq]
  generalize (lg_sl ([.ref (a0 0)]) ++ List.replicate (1 - (lg_sl ([.ref (a0 0)])).length) Slot.unset).toArray = ls at hl ⊢
  have hl : lv_has ls 1 [(0, .ref (a0 0))] := hl
  rw [f_X1_search] at hM
  refine lv_aload_n hx hb dX1_search_0 rfl (lv_at hl 0 rfl) ?_
  refine lv_aload_n hx hb dX1_search_1 rfl (lv_at hl 0 rfl) ?_
  obtain ⟨q2, h1, hM⟩ := bd hM
  refine rVWp (wc := ((wX1 g a0 (a1 0) (a2 0) O0 B0) ++ ((wX5 g a1 T1) ++ (wX5 g a2 T2)))) (wq := ((wX1 g a0 (a1 0) (a2 0) O0 B0) ++ ((wX5 g a1 T1) ++ (wX5 g a2 q2.2)))) (As := []) (rest := [.ref (a0 0)]) (q0 := 0) hS (c_X1_knownWhenAllIsSaid l g a0 a1 a2 O0 B0 T1 T2 h1) gX1_search_X1_knownWhenAllIsSaid rfl hd_X1_knownWhenAllIsSaid ⟨Nat.le_of_ble_eq_true rfl, Nat.le_of_ble_eq_true rfl⟩ hK hw hA (pm_3_0_1_2 _ _ _) rfl (pm_3_0_1_2 _ _ _) rfl rfl rfl rfl hl.1 rfl (Nat.le_of_ble_eq_true rfl) dX1_search_2 ⟨Nat.zero_le _, Nat.zero_le _⟩ (fun H locs hw => ?_)
  refine wk_put (wq := ((wX1 g a0 (a1 0) (a2 0) (up O0 6 (fun _ => q2.1)) B0) ++ ((wX5 g a1 T1) ++ (wX5 g a2 q2.2)))) hx hb hts hin_X1 tyX1 tyX1_ok nmX1 hown hK hw 1 0 6 rfl rfl (by decide) (mi 1 rfl) rfl rfl rfl rfl (Nat.le_of_ble_eq_true rfl) dX1_search_5 rfl (fun H locs hw => ?_)
  refine lv_aload_n hx hb dX1_search_8 rfl (lv_at hl 0 rfl) ?_
  refine lv_iconst (v := (-1 : Int32)) hx hb dX1_search_9 (by decide) ?_
  refine wk_put (wq := ((wX1 g a0 (a1 0) (a2 0) (up (up O0 6 (fun _ => q2.1)) 5 (fun _ => (-1 : Int32))) B0) ++ ((wX5 g a1 T1) ++ (wX5 g a2 q2.2)))) hx hb hts hin_X1 tyX1 tyX1_ok nmX1 hown hK hw 1 0 5 rfl rfl (by decide) (mi 2 rfl) rfl rfl rfl rfl (Nat.le_of_ble_eq_true rfl) dX1_search_10 rfl (fun H locs hw => ?_)
  refine lv_aload_n hx hb dX1_search_13 rfl (lv_at hl 0 rfl) ?_
  refine wk_get hx hb hts hin_X1 hown hK hw.1 1 0 1 (.ref (a2 0)) rfl rfl (by decide) (mi 3 rfl) rfl rfl dX1_search_14 ?_
  refine lv_aload_n hx hb dX1_search_17 rfl (lv_at hl 0 rfl) ?_
  refine wk_get hx hb hts hin_X1 hown hK hw.1 1 0 0 (.ref (a1 0)) rfl rfl (by decide) (mi 4 rfl) rfl rfl dX1_search_18 ?_
  obtain ⟨q4, h3, hM⟩ := bd hM
  refine rVWp (wc := ((wX5 g a2 q2.2) ++ (wX5 g a1 T1))) (wq := ((wX1 g a0 (a1 0) (a2 0) (up (up O0 6 (fun _ => q2.1)) 5 (fun _ => (-1 : Int32))) B0) ++ ((wX5 g a1 T1) ++ (wX5 g a2 q4)))) (As := [.ref (a1 0)]) (rest := []) (q0 := 0) hS (c_X5_become l g a2 a1 q2.2 T1 h3) gX1_search_X5_become rfl hd_X5_become ⟨Nat.le_of_ble_eq_true rfl, Nat.le_of_ble_eq_true rfl⟩ hK hw hA (pm_3_2_1 _ _ _) rfl (pm_3_2_1 _ _ _) rfl rfl rfl rfl hl.1 rfl (Nat.le_of_ble_eq_true rfl) dX1_search_21 ⟨Nat.zero_le _, Nat.zero_le _⟩ (fun H locs hw => ?_)
  refine lv_aload_n hx hb dX1_search_24 rfl (lv_at hl 0 rfl) ?_
  refine lv_iconst (v := (0 : Int32)) hx hb dX1_search_25 (by decide) ?_
  refine lv_aload_n hx hb dX1_search_26 rfl (lv_at hl 0 rfl) ?_
  refine wk_get hx hb hts hin_X1 hown hK hw.1 1 0 0 (.ref (a1 0)) rfl rfl (by decide) (mi 4 rfl) rfl rfl dX1_search_27 ?_
  refine rVR (wc := (wX5 g a1 T1)) (As := []) (rest := [.int (0 : Int32), .ref (a0 0)]) (q0 := 0) hS (c_X5_allPeople l g a1 T1) gX1_search_X5_allPeople rfl hd_X5_allPeople ⟨Nat.le_of_ble_eq_true rfl, Nat.le_of_ble_eq_true rfl⟩ hK (va_P.pm hw.1 (pm_3_1 _ _ _)) rfl rfl rfl rfl hl.1 rfl (Nat.le_of_ble_eq_true rfl) dX1_search_30 ⟨Nat.zero_le _, Nat.zero_le _⟩ ?_
  obtain ⟨q7, h6, hM⟩ := bd hM
  refine rSWp (wc := ((wX1 g a0 (a1 0) (a2 0) (up (up O0 6 (fun _ => q2.1)) 5 (fun _ => (-1 : Int32))) B0) ++ ((wX5 g a1 T1) ++ (wX5 g a2 q4)))) (wq := ((wX1 g a0 (a1 0) (a2 0) q7.1 q7.2.1) ++ ((wX5 g a1 T1) ++ (wX5 g a2 q7.2.2)))) (As := [.ref (a0 0), .int (0 : Int32), .int (f_X5_allPeople T1)]) (rest := []) hS (c_X1_speakOn l g a0 a1 a2 9 (up (up O0 6 (fun _ => q2.1)) 5 (fun _ => (-1 : Int32))) B0 T1 q4 (0 : Int32) (f_X5_allPeople T1) h6) gX1_search_X1_speakOn rfl hd_X1_speakOn ⟨Nat.le_of_ble_eq_true rfl, Nat.le_of_ble_eq_true rfl⟩ hK hw hA (pm_3_0_1_2 _ _ _) rfl (pm_3_0_1_2 _ _ _) rfl hl.1 rfl (Nat.le_of_ble_eq_true rfl) dX1_search_33 ⟨Nat.zero_le _, Nat.zero_le _⟩ (fun H locs hw => ?_)
  obtain rfl := Option.some.inj hM
  exact W.vret hx hb hr (fun t ht _ => ⟨rfl, by rw [ht]; exact hw.1, hw.2.2.F ht⟩) hw.2.2.2.2 dX1_search_36
theorem hd_X1_speakerAt : yX1_speakerAt.cls = RX1 ∧ yX1_speakerAt.cls ≠ "java/lang/invoke/MethodHandle" ∧ yX1_speakerAt.cls ≠ "java/lang/invoke/VarHandle" ∧ (parseMethodDescriptor yX1_speakerAt.desc).map (fun d => d.parameters.length) = some 1 := by decide +kernel
set_option maxHeartbeats 4000000 in
set_option maxRecDepth 100000 in
theorem c_X1_speakerAt (l : Launch) (g : Gm) (a0 : Nat → Nat) (a1 : Nat → Nat) (a2 : Nat → Nat) (O0 : TS) (B0 : TS) (T1 : TS) (T2 : TS) (p1 : Int32) {q : Int32} (hM : f_X1_speakerAt O0 B0 T1 T2 p1 = some q) : MR l yX1_speakerAt wsX1_speakerAt 0 0 g [.ref (a0 0), .int p1] ((wX1 g a0 (a1 0) (a2 0) O0 B0) ++ ((wX5 g a1 T1) ++ (wX5 g a2 T2))) (some (.int q)) := by
  refine Met.ofW (cc := cX1_speakerAt) (maxL := 2) (ret := (some .int)) (by decide) rfl ?_
  intro p e s m args below meth c s₁ B hml hv
  obtain ⟨rfl, hP, hK⟩ := hv
  have hx := B.exec; have hb := B.bytes; have hr := B.returns
  have hts := atoms_spec (ws := wsX1_speakerAt) B.pre
  have hown : s.vm.findClass RX1 = some m.cls := findClass_of_methodNamed B.named
  have hlocks := B.notSynchronized
  have hS : CallFix p m c cX1_speakerAt 2 s _ wsX1_speakerAt RX1 := ⟨hx, hb, hml, hown, hts⟩
  have hin_X1 : ∀ w ∈ wsX10, w ∈ wsX1_speakerAt := fun w h => (List.mem_cons_of_mem _ (List.mem_append_right _ h))
  have hl := lv_entry ([.ref (a0 0), .int p1]) (n := 2) (Nat.le_of_ble_eq_true rfl)
  rw [lg_entry_eq]
  generalize (lg_sl ([.ref (a0 0), .int p1]) ++ List.replicate (2 - (lg_sl ([.ref (a0 0), .int p1])).length) Slot.unset).toArray = ls at hl ⊢
  have hl : lv_has ls 2 [(0, .ref (a0 0)), (1, .int p1)] := hl
  rw [f_X1_speakerAt] at hM
  refine lv_aload_n hx hb dX1_speakerAt_0 rfl (lv_at hl 0 rfl) ?_
  refine wk_get hx hb hts hin_X1 hown hK hP 1 0 4 (.ref (a0 3)) rfl rfl (by decide) (mi 1 rfl) rfl rfl dX1_speakerAt_1 ?_
  refine lv_iload_n hx hb dX1_speakerAt_4 rfl (lv_at hl 1 rfl) ?_
  obtain ⟨k1, hM⟩ := ck hM
  refine wk_iald hx hb hK hP 3 7 (O0 4) rfl k1 dX1_speakerAt_5 ?_
  obtain rfl := Option.some.inj hM
  exact W.iret hx hb hr (fun t ht _ => ⟨rfl, ht⟩) (fun q hq => by cases hq) dX1_speakerAt_6
theorem hd_X0_isSaying : yX0_isSaying.cls = RX0 ∧ yX0_isSaying.cls ≠ "java/lang/invoke/MethodHandle" ∧ yX0_isSaying.cls ≠ "java/lang/invoke/VarHandle" ∧ (parseMethodDescriptor yX0_isSaying.desc).map (fun d => d.parameters.length) = some 1 := by decide +kernel
set_option maxHeartbeats 4000000 in
set_option maxRecDepth 100000 in
theorem c_X0_isSaying (l : Launch) (g : Gm) (a0 : Nat → Nat) (a1 : Nat → Nat) (a2 : Nat → Nat) (a3 : Nat → Nat) (T1 : TS) (T2 : TS) (G3 : TS) (R3 : LTS) (p1 : Int64) : MR l yX0_isSaying wsX0_isSaying 0 0 g [.ref (a0 0), .long p1] ((wX0 g a0 (a1 0) (a2 0) (a3 0)) ++ ((wX5 g a1 T1) ++ ((wX5 g a2 T2) ++ (wX3 g a3 G3 R3)))) (some (.int (f_X0_isSaying T1 T2 G3 R3 p1))) := by
  refine Met.ofW (cc := cX0_isSaying) (maxL := 3) (ret := (some .boolean)) (by decide) rfl ?_
  intro p e s m args below meth c s₁ B hml hv
  obtain ⟨rfl, hP, hK⟩ := hv
  have hx := B.exec; have hb := B.bytes; have hr := B.returns
  have hts := atoms_spec (ws := wsX0_isSaying) B.pre
  have hown : s.vm.findClass RX0 = some m.cls := findClass_of_methodNamed B.named
  have hlocks := B.notSynchronized
  have hS : CallFix p m c cX0_isSaying 3 s _ wsX0_isSaying RX0 := ⟨hx, hb, hml, hown, hts⟩
  have hin_X0 : ∀ w ∈ wsX00, w ∈ wsX0_isSaying := fun w h => (List.mem_cons_of_mem _ (List.mem_append_left _ (List.mem_append_right _ h)))
  have hin_X5 : ∀ w ∈ wsX50, w ∈ wsX0_isSaying := fun w h => (List.mem_cons_of_mem _ (List.mem_append_right _ h))
  have hl := lv_entry ([.ref (a0 0), .long p1]) (n := 3) (Nat.le_of_ble_eq_true rfl)
  rw [lg_entry_eq]
  generalize (lg_sl ([.ref (a0 0), .long p1]) ++ List.replicate (3 - (lg_sl ([.ref (a0 0), .long p1])).length) Slot.unset).toArray = ls at hl ⊢
  have hl : lv_has ls 3 [(0, .ref (a0 0)), (1, .long p1)] := hl
  obtain ⟨rr, hM⟩ : ∃ rr, f_X0_isSaying T1 T2 G3 R3 p1 = rr := ⟨_, rfl⟩
  rw [hM]
  rw [f_X0_isSaying] at hM
  refine lv_lload_n hx hb dX0_isSaying_0 rfl (lv_at hl 1 rfl) ?_
  refine lv_lconst (v := (0 : Int64)) hx hb dX0_isSaying_1 (by decide) ?_
  refine W.lcmp hx hb dX0_isSaying_2 ?_
  have hJ9 : ∀ (x8 : Int32) (ls : Array Slot), x8 = (if (lg_cmp p1 (0 : Int64)) < 0 then (0 : Int32) else (if 0 ≤ (lg_cmp (p1 / (10 : Int64)) (((T1 1 0)).toInt64)) then (0 : Int32) else (if 0 ≤ (lg_cmp (p1 - p1 / (10 : Int64) * (10 : Int64)) (((T1 0 0)).toInt64)) then (0 : Int32) else (1 : Int32)))) → lv_has ls 3 [] → W p l e (headSpec wsX0_isSaying ({ frames := 0, cells := 0, slots := 0, locals := 0 } : Room)).room s m ([.ref (a0 0), .long p1] : List Value).toArray below meth c s.heap [] 0 0 (MQ below (QcR (some (.int rr))) ([.ref (a0 0), .long p1] : List Value).toArray s 0 0 (fun _ => False)) (F0 m 45 ls [.int x8]) := by
    intro x8 ls hxx8 hl
    subst hxx8
    subst hM
    exact W.zret hx hb hr (nz (by repeat (first | exact Or.inl rfl | exact Or.inr rfl | split))) (fun t ht _ => ⟨rfl, ht⟩) (fun q hq => by cases hq) dX0_isSaying_45
  refine lv_if_lt (tgt := 44) hx hb dX0_isSaying_3 (by decide) (fun c1 => ?_) (fun c1 => ?_)
  · refine lv_iconst (v := (0 : Int32)) hx hb dX0_isSaying_44 (by decide) ?_
    exact hJ9 _ _ (by first | rfl | (simp only [if_pos c1])) (lv_sub hl [] rfl)
  · refine lv_lload_n hx hb dX0_isSaying_6 rfl (lv_at hl 1 rfl) ?_
    refine lv_ldc2 (v := (10 : Int64)) hx hb hown (hts _ (mi 1 rfl)) dX0_isSaying_7 ?_
    refine lv_ldiv hx hb dX0_isSaying_10 (by decide) ?_
    refine lv_aload_n hx hb dX0_isSaying_11 rfl (lv_at hl 0 rfl) ?_
    refine wk_get hx hb hts hin_X0 hown hK hP 0 0 0 (.ref (a1 0)) rfl rfl (by decide) (mi 2 rfl) rfl rfl dX0_isSaying_12 ?_
    refine wk_get hx hb hts hin_X5 hown hK hP 5 1 1 (.int (T1 1 0)) rfl rfl (by decide) (mi 3 rfl) rfl rfl dX0_isSaying_15 ?_
    refine lv_i2l (v := (((T1 1 0)).toInt64)) hx hb dX0_isSaying_18 rfl ?_
    refine W.lcmp hx hb dX0_isSaying_19 ?_
    refine lv_if_ge (tgt := 44) hx hb dX0_isSaying_20 (by decide) (fun c2 => ?_) (fun c2 => ?_)
    · refine lv_iconst (v := (0 : Int32)) hx hb dX0_isSaying_44 (by decide) ?_
      exact hJ9 _ _ (by first | rfl | (simp only [if_neg c1, if_pos c2])) (lv_sub hl [] rfl)
    · refine lv_lload_n hx hb dX0_isSaying_23 rfl (lv_at hl 1 rfl) ?_
      refine lv_ldc2 (v := (10 : Int64)) hx hb hown (hts _ (mi 1 rfl)) dX0_isSaying_24 ?_
      refine lv_lrem hx hb dX0_isSaying_27 (by decide) ?_
      refine lv_aload_n hx hb dX0_isSaying_28 rfl (lv_at hl 0 rfl) ?_
      refine wk_get hx hb hts hin_X0 hown hK hP 0 0 0 (.ref (a1 0)) rfl rfl (by decide) (mi 2 rfl) rfl rfl dX0_isSaying_29 ?_
      refine wk_get hx hb hts hin_X5 hown hK hP 5 1 0 (.int (T1 0 0)) rfl rfl (by decide) (mi 4 rfl) rfl rfl dX0_isSaying_32 ?_
      refine lv_i2l (v := (((T1 0 0)).toInt64)) hx hb dX0_isSaying_35 rfl ?_
      refine W.lcmp hx hb dX0_isSaying_36 ?_
      refine lv_if_ge (tgt := 44) hx hb dX0_isSaying_37 (by decide) (fun c3 => ?_) (fun c3 => ?_)
      · refine lv_iconst (v := (0 : Int32)) hx hb dX0_isSaying_44 (by decide) ?_
        exact hJ9 _ _ (by first | rfl | (simp only [if_neg c1, if_neg c2, if_pos c3])) (lv_sub hl [] rfl)
      · refine lv_iconst (v := (1 : Int32)) hx hb dX0_isSaying_40 (by decide) ?_
        refine lv_goto (tgt := 45) hx hb dX0_isSaying_41 (by decide) ?_
        exact hJ9 _ _ (by first | rfl | (simp only [if_neg c1, if_neg c2, if_neg c3])) (lv_sub hl [] rfl)
theorem hd_X0_areSayings : yX0_areSayings.cls = RX0 ∧ yX0_areSayings.cls ≠ "java/lang/invoke/MethodHandle" ∧ yX0_areSayings.cls ≠ "java/lang/invoke/VarHandle" ∧ (parseMethodDescriptor yX0_areSayings.desc).map (fun d => d.parameters.length) = some 2 := by decide +kernel
set_option maxHeartbeats 4000000 in
set_option maxRecDepth 100000 in
theorem c_X0_areSayings (l : Launch) (g : Gm) (a0 : Nat → Nat) (a1 : Nat → Nat) (a2 : Nat → Nat) (a3 : Nat → Nat) (T1 : TS) (T2 : TS) (G3 : TS) (R3 : LTS) (p1 : Int32) (p2 : Int32) {q : Int32} (hM : f_X0_areSayings T1 T2 G3 R3 p1 p2 = some q) : MR l yX0_areSayings wsX0_areSayings 3 64 g [.ref (a0 0), .int p1, .int p2] ((wX0 g a0 (a1 0) (a2 0) (a3 0)) ++ ((wX5 g a1 T1) ++ ((wX5 g a2 T2) ++ (wX3 g a3 G3 R3)))) (some (.int q)) := by
  refine Met.ofW (cc := cX0_areSayings) (maxL := 4) (ret := (some .boolean)) (by decide) rfl ?_
  intro p e s m args below meth c s₁ B hml hv
  obtain ⟨rfl, hP, hK⟩ := hv
  have hx := B.exec; have hb := B.bytes; have hr := B.returns
  have hts := atoms_spec (ws := wsX0_areSayings) B.pre
  have hown : s.vm.findClass RX0 = some m.cls := findClass_of_methodNamed B.named
  have hlocks := B.notSynchronized
  have hS : CallFix p m c cX0_areSayings 4 s _ wsX0_areSayings RX0 := ⟨hx, hb, hml, hown, hts⟩
  have hin_X0 : ∀ w ∈ wsX00, w ∈ wsX0_areSayings := fun w h => (List.mem_cons_of_mem _ (List.mem_append_left _ (List.mem_append_left _ (List.mem_append_right _ h))))
  have hl := lv_entry ([.ref (a0 0), .int p1, .int p2]) (n := 4) (Nat.le_of_ble_eq_true rfl)
  rw [lg_entry_eq]
  generalize (lg_sl ([.ref (a0 0), .int p1, .int p2]) ++ List.replicate (4 - (lg_sl ([.ref (a0 0), .int p1, .int p2])).length) Slot.unset).toArray = ls at hl ⊢
  have hl : lv_has ls 4 [(0, .ref (a0 0)), (1, .int p1), (2, .int p2)] := hl
  rw [f_X0_areSayings] at hM
  refine lv_iconst (v := (0 : Int32)) hx hb dX0_areSayings_0 (by decide) ?_
  refine lv_istore_n (lv' := [(3, .int (0 : Int32)), (0, .ref (a0 0)), (1, .int p1), (2, .int p2)]) hx hb dX0_areSayings_1 rfl hl (by decide) rfl (fun ls hl => ?_)
  obtain ⟨q2, hL2, hM2⟩ := bd hM
  have hJ2 : ∀ (q2x : Unit), q2 = .inr q2x → ∀ (ls : Array Slot), lv_has ls 4 [] → W p l e (headSpec wsX0_areSayings ({ frames := 3, cells := 0, slots := 0, locals := 64 } : Room)).room s m ([.ref (a0 0), .int p1, .int p2] : List Value).toArray below meth c s.heap [] 0 0 (MQ below (QcR (some (.int q))) ([.ref (a0 0), .int p1, .int p2] : List Value).toArray s 0 0 (fun _ => False)) (F0 m 31 ls []) := by
    intro q2x hX2 ls hl
    rw [hX2] at hM2
    have hM := eo_inr hM2
    refine lv_iconst (v := (1 : Int32)) hx hb dX0_areSayings_31 (by decide) ?_
    obtain rfl := Option.some.inj hM
    exact W.zret hx hb hr (nz (Or.inr rfl)) (fun t ht _ => ⟨rfl, ht⟩) (fun q hq => by cases hq) dX0_areSayings_32
  have hW2 : ∀ (n : Nat) (v3_1 : Int32), L_X0_areSayings_2 T1 T2 G3 R3 p1 p2 n v3_1 = some q2 → ∀ (ls : Array Slot), lv_has ls 4 [(3, .int v3_1), (0, .ref (a0 0)), (1, .int p1), (2, .int p2)] → W p l e (headSpec wsX0_areSayings ({ frames := 3, cells := 0, slots := 0, locals := 64 } : Room)).room s m ([.ref (a0 0), .int p1, .int p2] : List Value).toArray below meth c s.heap [] 0 0 (MQ below (QcR (some (.int q))) ([.ref (a0 0), .int p1, .int p2] : List Value).toArray s 0 0 (fun _ => False)) (F0 m 2 ls []) := by
    intro n
    induction n with
    | zero => intro v3_1 hM; rw [L_X0_areSayings_2] at hM; exact nn hM
    | succ n ih2 =>
      intro v3_1 hM ls hl
      rw [L_X0_areSayings_2] at hM
      refine lv_iload_n hx hb dX0_areSayings_2 rfl (lv_at hl 0 rfl) ?_
      refine lv_iload_n hx hb dX0_areSayings_3 rfl (lv_at hl 3 rfl) ?_
      refine lv_icmp_ge (tgt := 31) hx hb dX0_areSayings_4 (by decide) (fun c3 => ?_) (fun c3 => ?_)
      · replace hM := itp c3 hM
        exact hJ2 _ (Option.some.inj hM).symm _ (lv_sub hl [] rfl)
      · replace hM := itn c3 hM
        refine lv_aload_n hx hb dX0_areSayings_7 rfl (lv_at hl 1 rfl) ?_
        refine lv_aload_n hx hb dX0_areSayings_8 rfl (lv_at hl 1 rfl) ?_
        refine wk_get hx hb hts hin_X0 hown hK hP 0 0 2 (.ref (a3 0)) rfl rfl (by decide) (mi 1 rfl) rfl rfl dX0_areSayings_9 ?_
        refine lv_iload_n hx hb dX0_areSayings_12 rfl (lv_at hl 2 rfl) ?_
        refine lv_iload_n hx hb dX0_areSayings_13 rfl (lv_at hl 0 rfl) ?_
        obtain ⟨q5, h4, hM⟩ := bd hM
        refine rVR (wc := (wX3 g a3 G3 R3)) (As := [.int p1, .int v3_1]) (rest := [.ref (a0 0)]) (q0 := 0) hS (c_X3_elementOf l g a3 G3 R3 p1 v3_1 h4) gX0_areSayings_X3_elementOf rfl hd_X3_elementOf ⟨Nat.le_of_ble_eq_true rfl, Nat.le_of_ble_eq_true rfl⟩ hK (va_P.pm hP (pm_4_3 _ _ _ _)) rfl rfl rfl rfl hl.1 rfl (Nat.le_of_ble_eq_true rfl) dX0_areSayings_14 ⟨Nat.zero_le _, Nat.zero_le _⟩ ?_
        refine rVR (wc := ((wX0 g a0 (a1 0) (a2 0) (a3 0)) ++ ((wX5 g a1 T1) ++ ((wX5 g a2 T2) ++ (wX3 g a3 G3 R3))))) (As := [.long q5]) (rest := []) (q0 := 0) hS (c_X0_isSaying l g a0 a1 a2 a3 T1 T2 G3 R3 q5) gX0_areSayings_X0_isSaying rfl hd_X0_isSaying ⟨Nat.le_of_ble_eq_true rfl, Nat.le_of_ble_eq_true rfl⟩ hK (va_P.pm hP (pm_4_0_1_2_3 _ _ _ _)) rfl rfl rfl rfl hl.1 rfl (Nat.le_of_ble_eq_true rfl) dX0_areSayings_17 ⟨Nat.zero_le _, Nat.zero_le _⟩ ?_
        refine lv_if_ne (tgt := 25) hx hb dX0_areSayings_20 (by decide) (fun c7 => ?_) (fun c7 => ?_)
        · replace hM := itn c7 hM
          refine lv_iinc (v := (v3_1 + (1 : Int32))) (lv' := [(3, .int (v3_1 + (1 : Int32))), (0, .ref (a0 0)), (1, .int p1), (2, .int p2)]) hx hb dX0_areSayings_25 hl (k := 0) rfl rfl (by decide) rfl (fun ls hl => ?_)
          refine lv_goto (tgt := 2) hx hb dX0_areSayings_28 (by decide) ?_
          exact ih2 (v3_1 + (1 : Int32)) hM _ (lv_sub hl [0, 1, 2, 3] rfl)
        · replace hM := itp c7 hM
          refine lv_iconst (v := (0 : Int32)) hx hb dX0_areSayings_23 (by decide) ?_
          have hE := Option.some.inj hM
          have hM2' := hM2
          rw [← hE] at hM2'
          obtain rfl := eo_inl hM2'
          exact W.zret hx hb hr (nz (Or.inl rfl)) (fun t ht _ => ⟨rfl, ht⟩) (fun q hq => by cases hq) dX0_areSayings_24
  exact hW2 300 (0 : Int32) hL2 _ (lv_sub hl [0, 1, 2, 3] rfl)
theorem hd_X0_speakerOf : yX0_speakerOf.cls = RX0 ∧ yX0_speakerOf.cls ≠ "java/lang/invoke/MethodHandle" ∧ yX0_speakerOf.cls ≠ "java/lang/invoke/VarHandle" ∧ (parseMethodDescriptor yX0_speakerOf.desc).map (fun d => d.parameters.length) = some 2 := by decide +kernel
set_option maxHeartbeats 4000000 in
set_option maxRecDepth 100000 in
theorem c_X0_speakerOf (l : Launch) (g : Gm) (a0 : Nat → Nat) (a1 : Nat → Nat) (a2 : Nat → Nat) (a3 : Nat → Nat) (T1 : TS) (T2 : TS) (G3 : TS) (R3 : LTS) (p1 : Int32) (p2 : Int32) {q : Int32} (hM : f_X0_speakerOf T1 T2 G3 R3 p1 p2 = some q) : MR l yX0_speakerOf wsX0_speakerOf 3 64 g [.ref (a0 0), .int p1, .int p2] ((wX0 g a0 (a1 0) (a2 0) (a3 0)) ++ ((wX5 g a1 T1) ++ ((wX5 g a2 T2) ++ (wX3 g a3 G3 R3)))) (some (.int q)) := by
  refine Met.ofW (cc := cX0_speakerOf) (maxL := 3) (ret := (some .int)) (by decide) rfl ?_
  intro p e s m args below meth c s₁ B hml hv
  obtain ⟨rfl, hP, hK⟩ := hv
  have hx := B.exec; have hb := B.bytes; have hr := B.returns
  have hts := atoms_spec (ws := wsX0_speakerOf) B.pre
  have hown : s.vm.findClass RX0 = some m.cls := findClass_of_methodNamed B.named
  have hlocks := B.notSynchronized
  have hS : CallFix p m c cX0_speakerOf 3 s _ wsX0_speakerOf RX0 := ⟨hx, hb, hml, hown, hts⟩
  have hin_X0 : ∀ w ∈ wsX00, w ∈ wsX0_speakerOf := fun w h => (List.mem_cons_of_mem _ (List.mem_append_left _ (List.mem_append_right _ h)))
  have hl := lv_entry ([.ref (a0 0), .int p1, .int p2]) (n := 3) (Nat.le_of_ble_eq_true rfl)
  rw [lg_entry_eq]
  generalize (lg_sl ([.ref (a0 0), .int p1, .int p2]) ++ List.replicate (3 - (lg_sl ([.ref (a0 0), .int p1, .int p2])).length) Slot.unset).toArray = ls at hl ⊢
  have hl : lv_has ls 3 [(0, .ref (a0 0)), (1, .int p1), (2, .int p2)] := hl
  rw [f_X0_speakerOf] at hM
  refine lv_aload_n hx hb dX0_speakerOf_0 rfl (lv_at hl 0 rfl) ?_
  refine wk_get hx hb hts hin_X0 hown hK hP 0 0 2 (.ref (a3 0)) rfl rfl (by decide) (mi 1 rfl) rfl rfl dX0_speakerOf_1 ?_
  refine lv_iload_n hx hb dX0_speakerOf_4 rfl (lv_at hl 1 rfl) ?_
  refine lv_iload_n hx hb dX0_speakerOf_5 rfl (lv_at hl 2 rfl) ?_
  obtain ⟨q2, h1, hM⟩ := bd hM
  refine rVR (wc := (wX3 g a3 G3 R3)) (As := [.int p1, .int p2]) (rest := []) (q0 := 0) hS (c_X3_elementOf l g a3 G3 R3 p1 p2 h1) gX0_speakerOf_X3_elementOf rfl hd_X3_elementOf ⟨Nat.le_of_ble_eq_true rfl, Nat.le_of_ble_eq_true rfl⟩ hK (va_P.pm hP (pm_4_3 _ _ _ _)) rfl rfl rfl rfl hl.1 rfl (Nat.le_of_ble_eq_true rfl) dX0_speakerOf_6 ⟨Nat.zero_le _, Nat.zero_le _⟩ ?_
  refine lv_ldc2 (v := (10 : Int64)) hx hb hown (hts _ (mi 2 rfl)) dX0_speakerOf_9 ?_
  refine lv_ldiv hx hb dX0_speakerOf_12 (by decide) ?_
  refine lv_l2i (v := (((q2 / (10 : Int64))).toInt32)) hx hb dX0_speakerOf_13 rfl ?_
  obtain rfl := Option.some.inj hM
  exact W.iret hx hb hr (fun t ht _ => ⟨rfl, ht⟩) (fun q hq => by cases hq) dX0_speakerOf_14
theorem hd_X0_sightOf : yX0_sightOf.cls = RX0 ∧ yX0_sightOf.cls ≠ "java/lang/invoke/MethodHandle" ∧ yX0_sightOf.cls ≠ "java/lang/invoke/VarHandle" ∧ (parseMethodDescriptor yX0_sightOf.desc).map (fun d => d.parameters.length) = some 2 := by decide +kernel
set_option maxHeartbeats 4000000 in
set_option maxRecDepth 100000 in
theorem c_X0_sightOf (l : Launch) (g : Gm) (a0 : Nat → Nat) (a1 : Nat → Nat) (a2 : Nat → Nat) (a3 : Nat → Nat) (T1 : TS) (T2 : TS) (G3 : TS) (R3 : LTS) (p1 : Int32) (p2 : Int32) {q : Int32} (hM : f_X0_sightOf T1 T2 G3 R3 p1 p2 = some q) : MR l yX0_sightOf wsX0_sightOf 3 64 g [.ref (a0 0), .int p1, .int p2] ((wX0 g a0 (a1 0) (a2 0) (a3 0)) ++ ((wX5 g a1 T1) ++ ((wX5 g a2 T2) ++ (wX3 g a3 G3 R3)))) (some (.int q)) := by
  refine Met.ofW (cc := cX0_sightOf) (maxL := 3) (ret := (some .int)) (by decide) rfl ?_
  intro p e s m args below meth c s₁ B hml hv
  obtain ⟨rfl, hP, hK⟩ := hv
  have hx := B.exec; have hb := B.bytes; have hr := B.returns
  have hts := atoms_spec (ws := wsX0_sightOf) B.pre
  have hown : s.vm.findClass RX0 = some m.cls := findClass_of_methodNamed B.named
  have hlocks := B.notSynchronized
  have hS : CallFix p m c cX0_sightOf 3 s _ wsX0_sightOf RX0 := ⟨hx, hb, hml, hown, hts⟩
  have hin_X0 : ∀ w ∈ wsX00, w ∈ wsX0_sightOf := fun w h => (List.mem_cons_of_mem _ (List.mem_append_left _ (List.mem_append_right _ h)))
  have hl := lv_entry ([.ref (a0 0), .int p1, .int p2]) (n := 3) (Nat.le_of_ble_eq_true rfl)
  rw [lg_entry_eq]
  generalize (lg_sl ([.ref (a0 0), .int p1, .int p2]) ++ List.replicate (3 - (lg_sl ([.ref (a0 0), .int p1, .int p2])).length) Slot.unset).toArray = ls at hl ⊢
  have hl : lv_has ls 3 [(0, .ref (a0 0)), (1, .int p1), (2, .int p2)] := hl
  rw [f_X0_sightOf] at hM
  refine lv_aload_n hx hb dX0_sightOf_0 rfl (lv_at hl 0 rfl) ?_
  refine wk_get hx hb hts hin_X0 hown hK hP 0 0 2 (.ref (a3 0)) rfl rfl (by decide) (mi 1 rfl) rfl rfl dX0_sightOf_1 ?_
  refine lv_iload_n hx hb dX0_sightOf_4 rfl (lv_at hl 1 rfl) ?_
  refine lv_iload_n hx hb dX0_sightOf_5 rfl (lv_at hl 2 rfl) ?_
  obtain ⟨q2, h1, hM⟩ := bd hM
  refine rVR (wc := (wX3 g a3 G3 R3)) (As := [.int p1, .int p2]) (rest := []) (q0 := 0) hS (c_X3_elementOf l g a3 G3 R3 p1 p2 h1) gX0_sightOf_X3_elementOf rfl hd_X3_elementOf ⟨Nat.le_of_ble_eq_true rfl, Nat.le_of_ble_eq_true rfl⟩ hK (va_P.pm hP (pm_4_3 _ _ _ _)) rfl rfl rfl rfl hl.1 rfl (Nat.le_of_ble_eq_true rfl) dX0_sightOf_6 ⟨Nat.zero_le _, Nat.zero_le _⟩ ?_
  refine lv_ldc2 (v := (10 : Int64)) hx hb hown (hts _ (mi 2 rfl)) dX0_sightOf_9 ?_
  refine lv_lrem hx hb dX0_sightOf_12 (by decide) ?_
  refine lv_l2i (v := (((q2 - q2 / (10 : Int64) * (10 : Int64))).toInt32)) hx hb dX0_sightOf_13 rfl ?_
  obtain rfl := Option.some.inj hM
  exact W.iret hx hb hr (fun t ht _ => ⟨rfl, ht⟩) (fun q hq => by cases hq) dX0_sightOf_14
theorem hd_X0_falseSayings : yX0_falseSayings.cls = RX0 ∧ yX0_falseSayings.cls ≠ "java/lang/invoke/MethodHandle" ∧ yX0_falseSayings.cls ≠ "java/lang/invoke/VarHandle" ∧ (parseMethodDescriptor yX0_falseSayings.desc).map (fun d => d.parameters.length) = some 2 := by decide +kernel
set_option maxHeartbeats 4000000 in
set_option maxRecDepth 100000 in
theorem c_X0_falseSayings (l : Launch) (g : Gm) (a0 : Nat → Nat) (a1 : Nat → Nat) (a2 : Nat → Nat) (a3 : Nat → Nat) (T1 : TS) (T2 : TS) (G3 : TS) (R3 : LTS) (p1 : Int32) (p2 : Int32) {q : Int32} (hM : f_X0_falseSayings T1 T2 G3 R3 p1 p2 = some q) : MR l yX0_falseSayings wsX0_falseSayings 4 86 g [.ref (a0 0), .int p1, .int p2] ((wX0 g a0 (a1 0) (a2 0) (a3 0)) ++ ((wX5 g a1 T1) ++ ((wX5 g a2 T2) ++ (wX3 g a3 G3 R3)))) (some (.int q)) := by
  refine Met.ofW (cc := cX0_falseSayings) (maxL := 5) (ret := (some .int)) (by decide) rfl ?_
  intro p e s m args below meth c s₁ B hml hv
  obtain ⟨rfl, hP, hK⟩ := hv
  have hx := B.exec; have hb := B.bytes; have hr := B.returns
  have hts := atoms_spec (ws := wsX0_falseSayings) B.pre
  have hown : s.vm.findClass RX0 = some m.cls := findClass_of_methodNamed B.named
  have hlocks := B.notSynchronized
  have hS : CallFix p m c cX0_falseSayings 5 s _ wsX0_falseSayings RX0 := ⟨hx, hb, hml, hown, hts⟩
  have hin_X0 : ∀ w ∈ wsX00, w ∈ wsX0_falseSayings := fun w h => (List.mem_cons_of_mem _ (List.mem_append_left _ (List.mem_append_left _ (List.mem_append_right _ h))))
  have hl := lv_entry ([.ref (a0 0), .int p1, .int p2]) (n := 5) (Nat.le_of_ble_eq_true rfl)
  rw [lg_entry_eq]
  generalize (lg_sl ([.ref (a0 0), .int p1, .int p2]) ++ List.replicate (5 - (lg_sl ([.ref (a0 0), .int p1, .int p2])).length) Slot.unset).toArray = ls at hl ⊢
  have hl : lv_has ls 5 [(0, .ref (a0 0)), (1, .int p1), (2, .int p2)] := hl
  rw [f_X0_falseSayings] at hM
  refine lv_iconst (v := (0 : Int32)) hx hb dX0_falseSayings_0 (by decide) ?_
  refine lv_istore_n (lv' := [(3, .int (0 : Int32)), (0, .ref (a0 0)), (1, .int p1), (2, .int p2)]) hx hb dX0_falseSayings_1 rfl hl (by decide) rfl (fun ls hl => ?_)
  refine lv_iconst (v := (0 : Int32)) hx hb dX0_falseSayings_2 (by decide) ?_
  refine lv_istore (lv' := [(4, .int (0 : Int32)), (3, .int (0 : Int32)), (0, .ref (a0 0)), (1, .int p1), (2, .int p2)]) hx hb dX0_falseSayings_3 hl (by decide) rfl (fun ls hl => ?_)
  obtain ⟨q3, hL5, hM⟩ := bd hM
  have hJ5 : ∀ (ls : Array Slot), lv_has ls 5 [(3, .int q3)] → W p l e (headSpec wsX0_falseSayings ({ frames := 4, cells := 0, slots := 0, locals := 86 } : Room)).room s m ([.ref (a0 0), .int p1, .int p2] : List Value).toArray below meth c s.heap [] 0 0 (MQ below (QcR (some (.int q))) ([.ref (a0 0), .int p1, .int p2] : List Value).toArray s 0 0 (fun _ => False)) (F0 m 47 ls []) := by
    intro ls hl
    refine lv_iload_n hx hb dX0_falseSayings_47 rfl (lv_at hl 0 rfl) ?_
    obtain rfl := Option.some.inj hM
    exact W.iret hx hb hr (fun t ht _ => ⟨rfl, ht⟩) (fun q hq => by cases hq) dX0_falseSayings_48
  have hW5 : ∀ (n : Nat) (v4_1 : Int32) (v3_2 : Int32), L_X0_falseSayings_5 T1 T2 G3 R3 p1 p2 n v4_1 v3_2 = some q3 → ∀ (ls : Array Slot), lv_has ls 5 [(4, .int v4_1), (3, .int v3_2), (0, .ref (a0 0)), (1, .int p1), (2, .int p2)] → W p l e (headSpec wsX0_falseSayings ({ frames := 4, cells := 0, slots := 0, locals := 86 } : Room)).room s m ([.ref (a0 0), .int p1, .int p2] : List Value).toArray below meth c s.heap [] 0 0 (MQ below (QcR (some (.int q))) ([.ref (a0 0), .int p1, .int p2] : List Value).toArray s 0 0 (fun _ => False)) (F0 m 5 ls []) := by
    intro n
    induction n with
    | zero => intro v4_1 v3_2 hM; rw [L_X0_falseSayings_5] at hM; exact nn hM
    | succ n ih5 =>
      intro v4_1 v3_2 hM ls hl
      rw [L_X0_falseSayings_5] at hM
      refine lv_iload hx hb dX0_falseSayings_5 (lv_at hl 0 rfl) ?_
      refine lv_iload_n hx hb dX0_falseSayings_7 rfl (lv_at hl 4 rfl) ?_
      refine lv_icmp_ge (tgt := 47) hx hb dX0_falseSayings_8 (by decide) (fun c4 => ?_) (fun c4 => ?_)
      · replace hM := itp c4 hM
        obtain rfl := Option.some.inj hM
        exact hJ5 _ (lv_sub hl [1] rfl)
      · replace hM := itn c4 hM
        refine lv_aload_n hx hb dX0_falseSayings_11 rfl (lv_at hl 2 rfl) ?_
        refine wk_get hx hb hts hin_X0 hown hK hP 0 0 0 (.ref (a1 0)) rfl rfl (by decide) (mi 1 rfl) rfl rfl dX0_falseSayings_12 ?_
        refine lv_aload_n hx hb dX0_falseSayings_15 rfl (lv_at hl 2 rfl) ?_
        refine lv_iload_n hx hb dX0_falseSayings_16 rfl (lv_at hl 3 rfl) ?_
        refine lv_iload hx hb dX0_falseSayings_17 (lv_at hl 0 rfl) ?_
        obtain ⟨q6, h5, hM⟩ := bd hM
        refine rVR (wc := ((wX0 g a0 (a1 0) (a2 0) (a3 0)) ++ ((wX5 g a1 T1) ++ ((wX5 g a2 T2) ++ (wX3 g a3 G3 R3))))) (As := [.int p1, .int v4_1]) (rest := [.ref (a1 0)]) (q0 := 0) hS (c_X0_speakerOf l g a0 a1 a2 a3 T1 T2 G3 R3 p1 v4_1 h5) gX0_falseSayings_X0_speakerOf rfl hd_X0_speakerOf ⟨Nat.le_of_ble_eq_true rfl, Nat.le_of_ble_eq_true rfl⟩ hK (va_P.pm hP (pm_4_0_1_2_3 _ _ _ _)) rfl rfl rfl rfl hl.1 rfl (Nat.le_of_ble_eq_true rfl) dX0_falseSayings_19 ⟨Nat.zero_le _, Nat.zero_le _⟩ ?_
        obtain ⟨q8, h7, hM⟩ := bd hM
        refine rVR (wc := (wX5 g a1 T1)) (As := [.int q6]) (rest := []) (q0 := 0) hS (c_X5_barredTo l g a1 T1 q6 h7) gX0_falseSayings_X5_barredTo rfl hd_X5_barredTo ⟨Nat.le_of_ble_eq_true rfl, Nat.le_of_ble_eq_true rfl⟩ hK (va_P.pm hP (pm_4_1 _ _ _ _)) rfl rfl rfl rfl hl.1 rfl (Nat.le_of_ble_eq_true rfl) dX0_falseSayings_22 ⟨Nat.zero_le _, Nat.zero_le _⟩ ?_
        refine lv_aload_n hx hb dX0_falseSayings_25 rfl (lv_at hl 2 rfl) ?_
        refine lv_iload_n hx hb dX0_falseSayings_26 rfl (lv_at hl 3 rfl) ?_
        refine lv_iload hx hb dX0_falseSayings_27 (lv_at hl 0 rfl) ?_
        obtain ⟨q10, h9, hM⟩ := bd hM
        refine rVR (wc := ((wX0 g a0 (a1 0) (a2 0) (a3 0)) ++ ((wX5 g a1 T1) ++ ((wX5 g a2 T2) ++ (wX3 g a3 G3 R3))))) (As := [.int p1, .int v4_1]) (rest := [.int q8]) (q0 := 0) hS (c_X0_sightOf l g a0 a1 a2 a3 T1 T2 G3 R3 p1 v4_1 h9) gX0_falseSayings_X0_sightOf rfl hd_X0_sightOf ⟨Nat.le_of_ble_eq_true rfl, Nat.le_of_ble_eq_true rfl⟩ hK (va_P.pm hP (pm_4_0_1_2_3 _ _ _ _)) rfl rfl rfl rfl hl.1 rfl (Nat.le_of_ble_eq_true rfl) dX0_falseSayings_29 ⟨Nat.zero_le _, Nat.zero_le _⟩ ?_
        refine rNR (wc := ([] : va_W)) (As := [.int q8, .int q10]) (rest := []) hS (c_X6_has l g q8 q10) gX0_falseSayings_X6_has_n58 rfl (mi 34 rfl) (mi 17 rfl) 13 rfl hd_X6_has ⟨Nat.le_of_ble_eq_true rfl, Nat.le_of_ble_eq_true rfl⟩ hK (hP_nil) rfl hl.1 rfl (Nat.le_of_ble_eq_true rfl) dX0_falseSayings_32 ⟨Nat.zero_le _, Nat.zero_le _⟩ ?_
        have hJ18 : ∀ (x17 : Int32) (ls : Array Slot), x17 = (if (f_X6_has q8 q10) = 0 then v3_2 else (v3_2 + (1 : Int32))) → lv_has ls 5 [(4, .int v4_1), (3, .int x17), (0, .ref (a0 0)), (1, .int p1), (2, .int p2)] → W p l e (headSpec wsX0_falseSayings ({ frames := 4, cells := 0, slots := 0, locals := 86 } : Room)).room s m ([.ref (a0 0), .int p1, .int p2] : List Value).toArray below meth c s.heap [] 0 0 (MQ below (QcR (some (.int q))) ([.ref (a0 0), .int p1, .int p2] : List Value).toArray s 0 0 (fun _ => False)) (F0 m 41 ls []) := by
          intro x17 ls hxx17 hl
          subst hxx17
          refine lv_iinc (v := (v4_1 + (1 : Int32))) (lv' := [(4, .int (v4_1 + (1 : Int32))), (3, .int (if (f_X6_has q8 q10) = 0 then v3_2 else (v3_2 + (1 : Int32)))), (0, .ref (a0 0)), (1, .int p1), (2, .int p2)]) hx hb dX0_falseSayings_41 hl (k := 0) rfl rfl (by decide) rfl (fun ls hl => ?_)
          refine lv_goto (tgt := 5) hx hb dX0_falseSayings_44 (by decide) ?_
          exact ih5 (v4_1 + (1 : Int32)) (if (f_X6_has q8 q10) = 0 then v3_2 else (v3_2 + (1 : Int32))) hM _ (lv_sub hl [0, 1, 2, 3, 4] rfl)
        refine lv_if_eq (tgt := 41) hx hb dX0_falseSayings_35 (by decide) (fun c12 => ?_) (fun c12 => ?_)
        · exact hJ18 _ _ (by first | rfl | (simp only [if_pos c12])) (lv_sub hl [0, 1, 2, 3, 4] rfl)
        · refine lv_iinc (v := (v3_2 + (1 : Int32))) (lv' := [(3, .int (v3_2 + (1 : Int32))), (4, .int v4_1), (0, .ref (a0 0)), (1, .int p1), (2, .int p2)]) hx hb dX0_falseSayings_38 hl (k := 1) rfl rfl (by decide) rfl (fun ls hl => ?_)
          exact hJ18 _ _ (by first | rfl | (simp only [if_neg c12])) (lv_sub hl [1, 0, 2, 3, 4] rfl)
  exact hW5 300 (0 : Int32) (0 : Int32) hL5 _ (lv_sub hl [0, 1, 2, 3, 4] rfl)
theorem hd_X0_firstWrong : yX0_firstWrong.cls = RX0 ∧ yX0_firstWrong.cls ≠ "java/lang/invoke/MethodHandle" ∧ yX0_firstWrong.cls ≠ "java/lang/invoke/VarHandle" ∧ (parseMethodDescriptor yX0_firstWrong.desc).map (fun d => d.parameters.length) = some 2 := by decide +kernel
set_option maxHeartbeats 4000000 in
set_option maxRecDepth 100000 in
theorem c_X0_firstWrong (l : Launch) (g : Gm) (a0 : Nat → Nat) (a1 : Nat → Nat) (a2 : Nat → Nat) (a3 : Nat → Nat) (T1 : TS) (T2 : TS) (G3 : TS) (R3 : LTS) (p1 : Int32) (p2 : Int32) {q : (Int32 × TS)} (hM : f_X0_firstWrong T1 T2 G3 R3 p1 p2 = some q) : MW l yX0_firstWrong wsX0_firstWrong 4 101 g [.ref (a0 0), .int p1, .int p2] ((wX0 g a0 (a1 0) (a2 0) (a3 0)) ++ ((wX5 g a1 T1) ++ ((wX5 g a2 T2) ++ (wX3 g a3 G3 R3)))) (some (.int q.1)) ((wX0 g a0 (a1 0) (a2 0) (a3 0)) ++ ((wX5 g a1 T1) ++ ((wX5 g a2 q.2) ++ (wX3 g a3 G3 R3)))) := by
  intro sz
  refine Met.ofW (cc := cX0_firstWrong) (maxL := 6) (ret := (some .int)) (by decide) rfl ?_
  intro p e s m args below meth c s₁ B hml hv
  obtain ⟨rfl, hsz, hP, hK, hD0⟩ := hv
  have hx := B.exec; have hb := B.bytes; have hr := B.returns
  have hts := atoms_spec (ws := wsX0_firstWrong) B.pre
  have hown : s.vm.findClass RX0 = some m.cls := findClass_of_methodNamed B.named
  have hlocks := B.notSynchronized
  have hS : CallFix p m c cX0_firstWrong 6 s _ wsX0_firstWrong RX0 := ⟨hx, hb, hml, hown, hts⟩
  have hin_X0 : ∀ w ∈ wsX00, w ∈ wsX0_firstWrong := fun w h => (List.mem_cons_of_mem _ (List.mem_append_left _ (List.mem_append_left _ (List.mem_append_right _ h))))
  subst hsz
  have hw := wk_start hP hD0
  have hA : ∀ q : Nat, s.heap.size ≤ q → va_A ((wX0 g a0 (a1 0) (a2 0) (a3 0)) ++ ((wX5 g a1 T1) ++ ((wX5 g a2 T2) ++ (wX3 g a3 G3 R3)))) s.heap.size q := fun q h => Or.inr h
  generalize va_A ((wX0 g a0 (a1 0) (a2 0) (a3 0)) ++ ((wX5 g a1 T1) ++ ((wX5 g a2 T2) ++ (wX3 g a3 G3 R3)))) s.heap.size = A at hw hA ⊢
  clear hP hD0
  have hl := lv_entry ([.ref (a0 0), .int p1, .int p2]) (n := 6) (Nat.le_of_ble_eq_true rfl)
  rw [lg_entry_eq]
  generalize (lg_sl ([.ref (a0 0), .int p1, .int p2]) ++ List.replicate (6 - (lg_sl ([.ref (a0 0), .int p1, .int p2])).length) Slot.unset).toArray = ls at hl ⊢
  have hl : lv_has ls 6 [(0, .ref (a0 0)), (1, .int p1), (2, .int p2)] := hl
  rw [f_X0_firstWrong] at hM
  refine lv_aload_n hx hb dX0_firstWrong_0 rfl (lv_at hl 0 rfl) ?_
  refine wk_get hx hb hts hin_X0 hown hK hw.1 0 0 1 (.ref (a2 0)) rfl rfl (by decide) (mi 1 rfl) rfl rfl dX0_firstWrong_1 ?_
  refine lv_aload_n hx hb dX0_firstWrong_4 rfl (lv_at hl 0 rfl) ?_
  refine wk_get hx hb hts hin_X0 hown hK hw.1 0 0 0 (.ref (a1 0)) rfl rfl (by decide) (mi 2 rfl) rfl rfl dX0_firstWrong_5 ?_
  obtain ⟨q2, h1, hM⟩ := bd hM
  refine rVWp (wc := ((wX5 g a2 T2) ++ (wX5 g a1 T1))) (wq := ((wX0 g a0 (a1 0) (a2 0) (a3 0)) ++ ((wX5 g a1 T1) ++ ((wX5 g a2 q2) ++ (wX3 g a3 G3 R3))))) (As := [.ref (a1 0)]) (rest := []) (q0 := 0) hS (c_X5_become l g a2 a1 T2 T1 h1) gX0_firstWrong_X5_become rfl hd_X5_become ⟨Nat.le_of_ble_eq_true rfl, Nat.le_of_ble_eq_true rfl⟩ hK hw hA (pm_4_2_1 _ _ _ _) rfl (pm_4_2_1 _ _ _ _) rfl rfl rfl rfl hl.1 rfl (Nat.le_of_ble_eq_true rfl) dX0_firstWrong_8 ⟨Nat.zero_le _, Nat.zero_le _⟩ (fun H locs hw => ?_)
  refine lv_iconst (v := (0 : Int32)) hx hb dX0_firstWrong_11 (by decide) ?_
  refine lv_istore_n (lv' := [(3, .int (0 : Int32)), (0, .ref (a0 0)), (1, .int p1), (2, .int p2)]) hx hb dX0_firstWrong_12 rfl hl (by decide) rfl (fun ls hl => ?_)
  obtain ⟨q5, hL13, hM13⟩ := bd hM
  have hJ13 : ∀ (q5x : TS), q5 = .inr q5x → ∀ (H : Heap) (locs : List Loc), Wk g A s.heap H locs ((wX0 g a0 (a1 0) (a2 0) (a3 0)) ++ ((wX5 g a1 T1) ++ ((wX5 g a2 q5x) ++ (wX3 g a3 G3 R3)))) → ∀ (ls : Array Slot), lv_has ls 6 [] → W p l e (headSpec wsX0_firstWrong ({ frames := 4, cells := 0, slots := 0, locals := 101 } : Room)).room s m ([.ref (a0 0), .int p1, .int p2] : List Value).toArray below meth c H locs 0 0 (MQ below (QcW g (some (.int q.1)) ((wX0 g a0 (a1 0) (a2 0) (a3 0)) ++ ((wX5 g a1 T1) ++ ((wX5 g a2 q.2) ++ (wX3 g a3 G3 R3)))) A) ([.ref (a0 0), .int p1, .int p2] : List Value).toArray s 0 0 A) (F0 m 91 ls []) := by
    intro q5x hX13 H locs hw ls hl
    rw [hX13] at hM13
    have hM := eo_inr hM13
    refine lv_iconst (v := (-1 : Int32)) hx hb dX0_firstWrong_91 (by decide) ?_
    obtain rfl := Option.some.inj hM
    exact W.iret hx hb hr (fun t ht _ => ⟨rfl, by rw [ht]; exact hw.1, hw.2.2.F ht⟩) hw.2.2.2.2 dX0_firstWrong_92
  have hW13 : ∀ (n : Nat) (v3_3 : Int32) (TL4 : TS), L_X0_firstWrong_13 T1 G3 R3 p1 p2 n v3_3 TL4 = some q5 → ∀ (H : Heap) (locs : List Loc), Wk g A s.heap H locs ((wX0 g a0 (a1 0) (a2 0) (a3 0)) ++ ((wX5 g a1 T1) ++ ((wX5 g a2 TL4) ++ (wX3 g a3 G3 R3)))) → ∀ (ls : Array Slot), lv_has ls 6 [(3, .int v3_3), (0, .ref (a0 0)), (1, .int p1), (2, .int p2)] → W p l e (headSpec wsX0_firstWrong ({ frames := 4, cells := 0, slots := 0, locals := 101 } : Room)).room s m ([.ref (a0 0), .int p1, .int p2] : List Value).toArray below meth c H locs 0 0 (MQ below (QcW g (some (.int q.1)) ((wX0 g a0 (a1 0) (a2 0) (a3 0)) ++ ((wX5 g a1 T1) ++ ((wX5 g a2 q.2) ++ (wX3 g a3 G3 R3)))) A) ([.ref (a0 0), .int p1, .int p2] : List Value).toArray s 0 0 A) (F0 m 13 ls []) := by
    intro n
    induction n with
    | zero => intro v3_3 TL4 hM; rw [L_X0_firstWrong_13] at hM; exact nn hM
    | succ n ih13 =>
      intro v3_3 TL4 hM H locs hw ls hl
      rw [L_X0_firstWrong_13] at hM
      refine lv_iload_n hx hb dX0_firstWrong_13 rfl (lv_at hl 0 rfl) ?_
      refine lv_iload_n hx hb dX0_firstWrong_14 rfl (lv_at hl 3 rfl) ?_
      refine lv_icmp_ge (tgt := 91) hx hb dX0_firstWrong_15 (by decide) (fun c6 => ?_) (fun c6 => ?_)
      · replace hM := itp c6 hM
        exact hJ13 _ (Option.some.inj hM).symm _ _ hw _ (lv_sub hl [] rfl)
      · replace hM := itn c6 hM
        refine lv_aload_n hx hb dX0_firstWrong_18 rfl (lv_at hl 1 rfl) ?_
        refine lv_aload_n hx hb dX0_firstWrong_19 rfl (lv_at hl 1 rfl) ?_
        refine wk_get hx hb hts hin_X0 hown hK hw.1 0 0 2 (.ref (a3 0)) rfl rfl (by decide) (mi 3 rfl) rfl rfl dX0_firstWrong_20 ?_
        refine lv_iload_n hx hb dX0_firstWrong_23 rfl (lv_at hl 2 rfl) ?_
        refine lv_iload_n hx hb dX0_firstWrong_24 rfl (lv_at hl 0 rfl) ?_
        obtain ⟨q8, h7, hM⟩ := bd hM
        refine rVR (wc := (wX3 g a3 G3 R3)) (As := [.int p1, .int v3_3]) (rest := [.ref (a0 0)]) (q0 := 0) hS (c_X3_elementOf l g a3 G3 R3 p1 v3_3 h7) gX0_firstWrong_X3_elementOf rfl hd_X3_elementOf ⟨Nat.le_of_ble_eq_true rfl, Nat.le_of_ble_eq_true rfl⟩ hK (va_P.pm hw.1 (pm_4_3 _ _ _ _)) rfl rfl rfl rfl hl.1 rfl (Nat.le_of_ble_eq_true rfl) dX0_firstWrong_25 ⟨Nat.zero_le _, Nat.zero_le _⟩ ?_
        refine rVR (wc := ((wX0 g a0 (a1 0) (a2 0) (a3 0)) ++ ((wX5 g a1 T1) ++ ((wX5 g a2 TL4) ++ (wX3 g a3 G3 R3))))) (As := [.long q8]) (rest := []) (q0 := 0) hS (c_X0_isSaying l g a0 a1 a2 a3 T1 TL4 G3 R3 q8) gX0_firstWrong_X0_isSaying rfl hd_X0_isSaying ⟨Nat.le_of_ble_eq_true rfl, Nat.le_of_ble_eq_true rfl⟩ hK (va_P.pm hw.1 (pm_4_0_1_2_3 _ _ _ _)) rfl rfl rfl rfl hl.1 rfl (Nat.le_of_ble_eq_true rfl) dX0_firstWrong_28 ⟨Nat.zero_le _, Nat.zero_le _⟩ ?_
        refine lv_if_ne (tgt := 36) hx hb dX0_firstWrong_31 (by decide) (fun c10 => ?_) (fun c10 => ?_)
        · replace hM := itn c10 hM
          refine lv_aload_n hx hb dX0_firstWrong_36 rfl (lv_at hl 1 rfl) ?_
          refine lv_iload_n hx hb dX0_firstWrong_37 rfl (lv_at hl 2 rfl) ?_
          refine lv_iload_n hx hb dX0_firstWrong_38 rfl (lv_at hl 0 rfl) ?_
          obtain ⟨q12, h11, hM⟩ := bd hM
          refine rVR (wc := ((wX0 g a0 (a1 0) (a2 0) (a3 0)) ++ ((wX5 g a1 T1) ++ ((wX5 g a2 TL4) ++ (wX3 g a3 G3 R3))))) (As := [.int p1, .int v3_3]) (rest := []) (q0 := 0) hS (c_X0_speakerOf l g a0 a1 a2 a3 T1 TL4 G3 R3 p1 v3_3 h11) gX0_firstWrong_X0_speakerOf rfl hd_X0_speakerOf ⟨Nat.le_of_ble_eq_true rfl, Nat.le_of_ble_eq_true rfl⟩ hK (va_P.pm hw.1 (pm_4_0_1_2_3 _ _ _ _)) rfl rfl rfl rfl hl.1 rfl (Nat.le_of_ble_eq_true rfl) dX0_firstWrong_39 ⟨Nat.zero_le _, Nat.zero_le _⟩ ?_
          refine lv_istore (lv' := [(4, .int q12), (3, .int v3_3), (0, .ref (a0 0)), (1, .int p1), (2, .int p2)]) hx hb dX0_firstWrong_42 hl (by decide) rfl (fun ls hl => ?_)
          refine lv_aload_n hx hb dX0_firstWrong_44 rfl (lv_at hl 2 rfl) ?_
          refine lv_iload_n hx hb dX0_firstWrong_45 rfl (lv_at hl 3 rfl) ?_
          refine lv_iload_n hx hb dX0_firstWrong_46 rfl (lv_at hl 1 rfl) ?_
          obtain ⟨q14, h13, hM⟩ := bd hM
          refine rVR (wc := ((wX0 g a0 (a1 0) (a2 0) (a3 0)) ++ ((wX5 g a1 T1) ++ ((wX5 g a2 TL4) ++ (wX3 g a3 G3 R3))))) (As := [.int p1, .int v3_3]) (rest := []) (q0 := 0) hS (c_X0_sightOf l g a0 a1 a2 a3 T1 TL4 G3 R3 p1 v3_3 h13) gX0_firstWrong_X0_sightOf rfl hd_X0_sightOf ⟨Nat.le_of_ble_eq_true rfl, Nat.le_of_ble_eq_true rfl⟩ hK (va_P.pm hw.1 (pm_4_0_1_2_3 _ _ _ _)) rfl rfl rfl rfl hl.1 rfl (Nat.le_of_ble_eq_true rfl) dX0_firstWrong_47 ⟨Nat.zero_le _, Nat.zero_le _⟩ ?_
          refine lv_istore (lv' := [(5, .int q14), (4, .int q12), (3, .int v3_3), (0, .ref (a0 0)), (1, .int p1), (2, .int p2)]) hx hb dX0_firstWrong_50 hl (by decide) rfl (fun ls hl => ?_)
          refine lv_aload_n hx hb dX0_firstWrong_52 rfl (lv_at hl 3 rfl) ?_
          refine wk_get hx hb hts hin_X0 hown hK hw.1 0 0 1 (.ref (a2 0)) rfl rfl (by decide) (mi 1 rfl) rfl rfl dX0_firstWrong_53 ?_
          refine lv_iload hx hb dX0_firstWrong_56 (lv_at hl 1 rfl) ?_
          obtain ⟨q16, h15, hM⟩ := bd hM
          refine rVR (wc := (wX5 g a2 TL4)) (As := [.int q12]) (rest := []) (q0 := 0) hS (c_X5_sayableBy l g a2 TL4 q12 h15) gX0_firstWrong_X5_sayableBy rfl hd_X5_sayableBy ⟨Nat.le_of_ble_eq_true rfl, Nat.le_of_ble_eq_true rfl⟩ hK (va_P.pm hw.1 (pm_4_2 _ _ _ _)) rfl rfl rfl rfl hl.1 rfl (Nat.le_of_ble_eq_true rfl) dX0_firstWrong_58 ⟨Nat.zero_le _, Nat.zero_le _⟩ ?_
          refine lv_iload hx hb dX0_firstWrong_61 (lv_at hl 0 rfl) ?_
          refine rNR (wc := ([] : va_W)) (As := [.int q16, .int q14]) (rest := []) hS (c_X6_has l g q16 q14) gX0_firstWrong_X6_has_n58 rfl (mi 73 rfl) (mi 34 rfl) 13 rfl hd_X6_has ⟨Nat.le_of_ble_eq_true rfl, Nat.le_of_ble_eq_true rfl⟩ hK (hP_nil) rfl hl.1 rfl (Nat.le_of_ble_eq_true rfl) dX0_firstWrong_63 ⟨Nat.zero_le _, Nat.zero_le _⟩ ?_
          refine lv_if_ne (tgt := 71) hx hb dX0_firstWrong_66 (by decide) (fun c18 => ?_) (fun c18 => ?_)
          · replace hM := itn c18 hM
            refine lv_aload_n hx hb dX0_firstWrong_71 rfl (lv_at hl 3 rfl) ?_
            refine wk_get hx hb hts hin_X0 hown hK hw.1 0 0 1 (.ref (a2 0)) rfl rfl (by decide) (mi 1 rfl) rfl rfl dX0_firstWrong_72 ?_
            refine lv_iload hx hb dX0_firstWrong_75 (lv_at hl 1 rfl) ?_
            refine lv_iconst (v := (1 : Int32)) hx hb dX0_firstWrong_77 (by decide) ?_
            refine lv_iload hx hb dX0_firstWrong_78 (lv_at hl 0 rfl) ?_
            refine lv_ishl hx hb dX0_firstWrong_80 ?_
            obtain ⟨q20, h19, hM⟩ := bd hM
            refine rVWp (wc := (wX5 g a2 TL4)) (wq := ((wX0 g a0 (a1 0) (a2 0) (a3 0)) ++ ((wX5 g a1 T1) ++ ((wX5 g a2 q20.2) ++ (wX3 g a3 G3 R3))))) (As := [.int q12, .int ((1 : Int32) <<< (q14 &&& 31))]) (rest := []) (q0 := 0) hS (c_X5_tell l g a2 TL4 q12 ((1 : Int32) <<< (q14 &&& 31)) h19) gX0_firstWrong_X5_tell rfl hd_X5_tell ⟨Nat.le_of_ble_eq_true rfl, Nat.le_of_ble_eq_true rfl⟩ hK hw hA (pm_4_2 _ _ _ _) rfl (pm_4_2 _ _ _ _) rfl rfl rfl rfl hl.1 rfl (Nat.le_of_ble_eq_true rfl) dX0_firstWrong_81 ⟨Nat.zero_le _, Nat.zero_le _⟩ (fun H locs hw => ?_)
            refine lv_pop hx hb dX0_firstWrong_84 rfl ?_
            refine lv_iinc (v := (v3_3 + (1 : Int32))) (lv' := [(3, .int (v3_3 + (1 : Int32))), (5, .int q14), (4, .int q12), (0, .ref (a0 0)), (1, .int p1), (2, .int p2)]) hx hb dX0_firstWrong_85 hl (k := 2) rfl rfl (by decide) rfl (fun ls hl => ?_)
            refine lv_goto (tgt := 13) hx hb dX0_firstWrong_88 (by decide) ?_
            exact ih13 (v3_3 + (1 : Int32)) q20.2 hM _ _ hw _ (lv_sub hl [0, 3, 4, 5] rfl)
          · replace hM := itp c18 hM
            refine lv_iload_n hx hb dX0_firstWrong_69 rfl (lv_at hl 2 rfl) ?_
            have hE := Option.some.inj hM
            have hM13' := hM13
            rw [← hE] at hM13'
            obtain rfl := eo_inl hM13'
            exact W.iret hx hb hr (fun t ht _ => ⟨rfl, by rw [ht]; exact hw.1, hw.2.2.F ht⟩) hw.2.2.2.2 dX0_firstWrong_70
        · replace hM := itp c10 hM
          refine lv_iload_n hx hb dX0_firstWrong_34 rfl (lv_at hl 0 rfl) ?_
          have hE := Option.some.inj hM
          have hM13' := hM13
          rw [← hE] at hM13'
          obtain rfl := eo_inl hM13'
          exact W.iret hx hb hr (fun t ht _ => ⟨rfl, by rw [ht]; exact hw.1, hw.2.2.F ht⟩) hw.2.2.2.2 dX0_firstWrong_35
  exact hW13 300 (0 : Int32) q2 hL13 _ _ hw _ (lv_sub hl [0, 1, 2, 3] rfl)
theorem hd_X0_isSilent : yX0_isSilent.cls = RX0 ∧ yX0_isSilent.cls ≠ "java/lang/invoke/MethodHandle" ∧ yX0_isSilent.cls ≠ "java/lang/invoke/VarHandle" ∧ (parseMethodDescriptor yX0_isSilent.desc).map (fun d => d.parameters.length) = some 4 := by decide +kernel
set_option maxHeartbeats 4000000 in
set_option maxRecDepth 100000 in
theorem c_X0_isSilent (l : Launch) (g : Gm) (a0 : Nat → Nat) (a1 : Nat → Nat) (a2 : Nat → Nat) (a3 : Nat → Nat) (T1 : TS) (T2 : TS) (G3 : TS) (R3 : LTS) (p1 : Int32) (p2 : Int32) (p3 : Int32) (p4 : Int32) {q : Int32} (hM : f_X0_isSilent T1 T2 G3 R3 p1 p2 p3 p4 = some q) : MR l yX0_isSilent wsX0_isSilent 4 86 g [.ref (a0 0), .int p1, .int p2, .int p3, .int p4] ((wX0 g a0 (a1 0) (a2 0) (a3 0)) ++ ((wX5 g a1 T1) ++ ((wX5 g a2 T2) ++ (wX3 g a3 G3 R3)))) (some (.int q)) := by
  refine Met.ofW (cc := cX0_isSilent) (maxL := 8) (ret := (some .boolean)) (by decide) rfl ?_
  intro p e s m args below meth c s₁ B hml hv
  obtain ⟨rfl, hP, hK⟩ := hv
  have hx := B.exec; have hb := B.bytes; have hr := B.returns
  have hts := atoms_spec (ws := wsX0_isSilent) B.pre
  have hown : s.vm.findClass RX0 = some m.cls := findClass_of_methodNamed B.named
  have hlocks := B.notSynchronized
  have hS : CallFix p m c cX0_isSilent 8 s _ wsX0_isSilent RX0 := ⟨hx, hb, hml, hown, hts⟩
  have hin_X0 : ∀ w ∈ wsX00, w ∈ wsX0_isSilent := fun w h => (List.mem_cons_of_mem _ (List.mem_append_left _ (List.mem_append_left _ (List.mem_append_right _ h))))
  have hin_X5 : ∀ w ∈ wsX50, w ∈ wsX0_isSilent := fun w h => (List.mem_cons_of_mem _ (List.mem_append_left _ (List.mem_append_right _ h)))
  have hl := lv_entry ([.ref (a0 0), .int p1, .int p2, .int p3, .int p4]) (n := 8) (Nat.le_of_ble_eq_true rfl)
  rw [lg_entry_eq]
  generalize (lg_sl ([.ref (a0 0), .int p1, .int p2, .int p3, .int p4]) ++ List.replicate (8 - (lg_sl ([.ref (a0 0), .int p1, .int p2, .int p3, .int p4])).length) Slot.unset).toArray = ls at hl ⊢
  have hl : lv_has ls 8 [(0, .ref (a0 0)), (1, .int p1), (2, .int p2), (3, .int p3), (4, .int p4)] := hl
  rw [f_X0_isSilent] at hM
  refine lv_iconst (v := (0 : Int32)) hx hb dX0_isSilent_0 (by decide) ?_
  refine lv_istore (lv' := [(5, .int (0 : Int32)), (0, .ref (a0 0)), (1, .int p1), (2, .int p2), (3, .int p3), (4, .int p4)]) hx hb dX0_isSilent_1 hl (by decide) rfl (fun ls hl => ?_)
  refine lv_iconst (v := (0 : Int32)) hx hb dX0_isSilent_3 (by decide) ?_
  refine lv_istore (lv' := [(6, .int (0 : Int32)), (5, .int (0 : Int32)), (0, .ref (a0 0)), (1, .int p1), (2, .int p2), (3, .int p3), (4, .int p4)]) hx hb dX0_isSilent_4 hl (by decide) rfl (fun ls hl => ?_)
  obtain ⟨q3, hL6, hM6⟩ := bd hM
  have hJ6 : ∀ (q3x : Int32), q3 = .inr q3x → ∀ (ls : Array Slot), lv_has ls 8 [(5, .int q3x)] → W p l e (headSpec wsX0_isSilent ({ frames := 4, cells := 0, slots := 0, locals := 86 } : Room)).room s m ([.ref (a0 0), .int p1, .int p2, .int p3, .int p4] : List Value).toArray below meth c s.heap [] 0 0 (MQ below (QcR (some (.int q))) ([.ref (a0 0), .int p1, .int p2, .int p3, .int p4] : List Value).toArray s 0 0 (fun _ => False)) (F0 m 81 ls []) := by
    intro q3x hX6 ls hl
    rw [hX6] at hM6
    have hM := eo_inr hM6
    refine lv_iload hx hb dX0_isSilent_81 (lv_at hl 0 rfl) ?_
    obtain ⟨k20, hM⟩ := ck hM
    obtain rfl := Option.some.inj hM
    exact W.zret hx hb hr (nz (Decidable.not_not.mp k20)) (fun t ht _ => ⟨rfl, ht⟩) (fun q hq => by cases hq) dX0_isSilent_83
  have hW6 : ∀ (n : Nat) (v6_1 : Int32) (v5_2 : Int32), L_X0_isSilent_6 T1 T2 G3 R3 p1 p2 p3 p4 n v6_1 v5_2 = some q3 → ∀ (ls : Array Slot), lv_has ls 8 [(6, .int v6_1), (5, .int v5_2), (0, .ref (a0 0)), (1, .int p1), (2, .int p2), (3, .int p3), (4, .int p4)] → W p l e (headSpec wsX0_isSilent ({ frames := 4, cells := 0, slots := 0, locals := 86 } : Room)).room s m ([.ref (a0 0), .int p1, .int p2, .int p3, .int p4] : List Value).toArray below meth c s.heap [] 0 0 (MQ below (QcR (some (.int q))) ([.ref (a0 0), .int p1, .int p2, .int p3, .int p4] : List Value).toArray s 0 0 (fun _ => False)) (F0 m 6 ls []) := by
    intro n
    induction n with
    | zero => intro v6_1 v5_2 hM; rw [L_X0_isSilent_6] at hM; exact nn hM
    | succ n ih6 =>
      intro v6_1 v5_2 hM ls hl
      rw [L_X0_isSilent_6] at hM
      refine lv_iload hx hb dX0_isSilent_6 (lv_at hl 0 rfl) ?_
      refine lv_iload_n hx hb dX0_isSilent_8 rfl (lv_at hl 5 rfl) ?_
      refine lv_icmp_ge (tgt := 81) hx hb dX0_isSilent_9 (by decide) (fun c4 => ?_) (fun c4 => ?_)
      · replace hM := itp c4 hM
        exact hJ6 _ (Option.some.inj hM).symm _ (lv_sub hl [1] rfl)
      · replace hM := itn c4 hM
        refine lv_aload_n hx hb dX0_isSilent_12 rfl (lv_at hl 2 rfl) ?_
        refine lv_iload_n hx hb dX0_isSilent_13 rfl (lv_at hl 4 rfl) ?_
        refine lv_iload hx hb dX0_isSilent_14 (lv_at hl 0 rfl) ?_
        obtain ⟨q6, h5, hM⟩ := bd hM
        refine rVR (wc := ((wX0 g a0 (a1 0) (a2 0) (a3 0)) ++ ((wX5 g a1 T1) ++ ((wX5 g a2 T2) ++ (wX3 g a3 G3 R3))))) (As := [.int p2, .int v6_1]) (rest := []) (q0 := 0) hS (c_X0_sightOf l g a0 a1 a2 a3 T1 T2 G3 R3 p2 v6_1 h5) gX0_isSilent_X0_sightOf rfl hd_X0_sightOf ⟨Nat.le_of_ble_eq_true rfl, Nat.le_of_ble_eq_true rfl⟩ hK (va_P.pm hP (pm_4_0_1_2_3 _ _ _ _)) rfl rfl rfl rfl hl.1 rfl (Nat.le_of_ble_eq_true rfl) dX0_isSilent_16 ⟨Nat.zero_le _, Nat.zero_le _⟩ ?_
        refine lv_iload hx hb dX0_isSilent_19 (lv_at hl 6 rfl) ?_
        refine lv_icmp_ne (tgt := 75) hx hb dX0_isSilent_21 (by decide) (fun c7 => ?_) (fun c7 => ?_)
        · replace hM := itn c7 hM
          refine lv_iinc (v := (v6_1 + (1 : Int32))) (lv' := [(6, .int (v6_1 + (1 : Int32))), (5, .int v5_2), (0, .ref (a0 0)), (1, .int p1), (2, .int p2), (3, .int p3), (4, .int p4)]) hx hb dX0_isSilent_75 hl (k := 0) rfl rfl (by decide) rfl (fun ls hl => ?_)
          refine lv_goto (tgt := 6) hx hb dX0_isSilent_78 (by decide) ?_
          exact ih6 (v6_1 + (1 : Int32)) v5_2 hM _ (lv_sub hl [0, 1, 2, 3, 4, 5, 6] rfl)
        · replace hM := itp c7 hM
          refine lv_aload_n hx hb dX0_isSilent_24 rfl (lv_at hl 2 rfl) ?_
          refine lv_iload_n hx hb dX0_isSilent_25 rfl (lv_at hl 4 rfl) ?_
          refine lv_iload hx hb dX0_isSilent_26 (lv_at hl 0 rfl) ?_
          obtain ⟨q9, h8, hM⟩ := bd hM
          refine rVR (wc := ((wX0 g a0 (a1 0) (a2 0) (a3 0)) ++ ((wX5 g a1 T1) ++ ((wX5 g a2 T2) ++ (wX3 g a3 G3 R3))))) (As := [.int p2, .int v6_1]) (rest := []) (q0 := 0) hS (c_X0_speakerOf l g a0 a1 a2 a3 T1 T2 G3 R3 p2 v6_1 h8) gX0_isSilent_X0_speakerOf rfl hd_X0_speakerOf ⟨Nat.le_of_ble_eq_true rfl, Nat.le_of_ble_eq_true rfl⟩ hK (va_P.pm hP (pm_4_0_1_2_3 _ _ _ _)) rfl rfl rfl rfl hl.1 rfl (Nat.le_of_ble_eq_true rfl) dX0_isSilent_28 ⟨Nat.zero_le _, Nat.zero_le _⟩ ?_
          refine lv_istore (lv' := [(7, .int q9), (6, .int v6_1), (5, .int v5_2), (0, .ref (a0 0)), (1, .int p1), (2, .int p2), (3, .int p3), (4, .int p4)]) hx hb dX0_isSilent_31 hl (by decide) rfl (fun ls hl => ?_)
          refine lv_iload hx hb dX0_isSilent_33 (lv_at hl 2 rfl) ?_
          refine lv_if_eq (tgt := 46) hx hb dX0_isSilent_35 (by decide) (fun c10 => ?_) (fun c10 => ?_)
          · replace hM := itp c10 hM
            refine lv_iload hx hb dX0_isSilent_46 (lv_at hl 2 rfl) ?_
            refine lv_if_ne (tgt := 68) hx hb dX0_isSilent_48 (by decide) (fun c11 => ?_) (fun c11 => ?_)
            · replace hM := itn c11 hM
              refine lv_iconst (v := (1 : Int32)) hx hb dX0_isSilent_68 (by decide) ?_
              refine lv_goto (tgt := 73) hx hb dX0_isSilent_69 (by decide) ?_
              refine lv_istore (lv' := [(5, .int (1 : Int32)), (7, .int q9), (6, .int v6_1), (0, .ref (a0 0)), (1, .int p1), (2, .int p2), (3, .int p3), (4, .int p4)]) hx hb dX0_isSilent_73 hl (by decide) rfl (fun ls hl => ?_)
              refine lv_iinc (v := (v6_1 + (1 : Int32))) (lv' := [(6, .int (v6_1 + (1 : Int32))), (5, .int (1 : Int32)), (7, .int q9), (0, .ref (a0 0)), (1, .int p1), (2, .int p2), (3, .int p3), (4, .int p4)]) hx hb dX0_isSilent_75 hl (k := 2) rfl rfl (by decide) rfl (fun ls hl => ?_)
              refine lv_goto (tgt := 6) hx hb dX0_isSilent_78 (by decide) ?_
              exact ih6 (v6_1 + (1 : Int32)) (1 : Int32) hM _ (lv_sub hl [0, 1, 3, 4, 5, 6, 7] rfl)
            · replace hM := itp c11 hM
              refine lv_aload_n hx hb dX0_isSilent_51 rfl (lv_at hl 3 rfl) ?_
              refine wk_get hx hb hts hin_X0 hown hK hP 0 0 0 (.ref (a1 0)) rfl rfl (by decide) (mi 1 rfl) rfl rfl dX0_isSilent_52 ?_
              refine wk_get hx hb hts hin_X5 hown hK hP 5 1 10 (.ref (a1 4)) rfl rfl (by decide) (mi 2 rfl) rfl rfl dX0_isSilent_55 ?_
              refine lv_iload_n hx hb dX0_isSilent_58 rfl (lv_at hl 4 rfl) ?_
              obtain ⟨k12, hM⟩ := ck hM
              refine wk_iald hx hb hK hP 5 7 (T1 10) rfl k12 dX0_isSilent_59 ?_
              refine lv_iload hx hb dX0_isSilent_60 (lv_at hl 0 rfl) ?_
              refine rNR (wc := ([] : va_W)) (As := [.int ((T1 10) (p1).toNatClampNeg), .int q9]) (rest := []) hS (c_X6_has l g ((T1 10) (p1).toNatClampNeg) q9) gX0_isSilent_X6_has_n58 rfl (mi 27 rfl) (mi 18 rfl) 13 rfl hd_X6_has ⟨Nat.le_of_ble_eq_true rfl, Nat.le_of_ble_eq_true rfl⟩ hK (hP_nil) rfl hl.1 rfl (Nat.le_of_ble_eq_true rfl) dX0_isSilent_62 ⟨Nat.zero_le _, Nat.zero_le _⟩ ?_
              have hJ30 : ∀ (x29 : Int32) (ls : Array Slot), x29 = (if (f_X6_has ((T1 10) (p1).toNatClampNeg) q9) = 0 then (0 : Int32) else (1 : Int32)) → lv_has ls 8 [(6, .int v6_1), (0, .ref (a0 0)), (1, .int p1), (2, .int p2), (3, .int p3), (4, .int p4)] → W p l e (headSpec wsX0_isSilent ({ frames := 4, cells := 0, slots := 0, locals := 86 } : Room)).room s m ([.ref (a0 0), .int p1, .int p2, .int p3, .int p4] : List Value).toArray below meth c s.heap [] 0 0 (MQ below (QcR (some (.int q))) ([.ref (a0 0), .int p1, .int p2, .int p3, .int p4] : List Value).toArray s 0 0 (fun _ => False)) (F0 m 73 ls [.int x29]) := by
                intro x29 ls hxx29 hl
                subst hxx29
                refine lv_istore (lv' := [(5, .int (if (f_X6_has ((T1 10) (p1).toNatClampNeg) q9) = 0 then (0 : Int32) else (1 : Int32))), (6, .int v6_1), (0, .ref (a0 0)), (1, .int p1), (2, .int p2), (3, .int p3), (4, .int p4)]) hx hb dX0_isSilent_73 hl (by decide) rfl (fun ls hl => ?_)
                refine lv_iinc (v := (v6_1 + (1 : Int32))) (lv' := [(6, .int (v6_1 + (1 : Int32))), (5, .int (if (f_X6_has ((T1 10) (p1).toNatClampNeg) q9) = 0 then (0 : Int32) else (1 : Int32))), (0, .ref (a0 0)), (1, .int p1), (2, .int p2), (3, .int p3), (4, .int p4)]) hx hb dX0_isSilent_75 hl (k := 1) rfl rfl (by decide) rfl (fun ls hl => ?_)
                refine lv_goto (tgt := 6) hx hb dX0_isSilent_78 (by decide) ?_
                exact ih6 (v6_1 + (1 : Int32)) (if (f_X6_has ((T1 10) (p1).toNatClampNeg) q9) = 0 then (0 : Int32) else (1 : Int32)) hM _ (lv_sub hl [0, 1, 2, 3, 4, 5, 6] rfl)
              refine lv_if_eq (tgt := 72) hx hb dX0_isSilent_65 (by decide) (fun c14 => ?_) (fun c14 => ?_)
              · refine lv_iconst (v := (0 : Int32)) hx hb dX0_isSilent_72 (by decide) ?_
                exact hJ30 _ _ (by first | rfl | (simp only [if_pos c14])) (lv_sub hl [1, 3, 4, 5, 6, 7] rfl)
              · refine lv_iconst (v := (1 : Int32)) hx hb dX0_isSilent_68 (by decide) ?_
                refine lv_goto (tgt := 73) hx hb dX0_isSilent_69 (by decide) ?_
                exact hJ30 _ _ (by first | rfl | (simp only [if_neg c14])) (lv_sub hl [1, 3, 4, 5, 6, 7] rfl)
          · replace hM := itn c10 hM
            refine lv_iload hx hb dX0_isSilent_38 (lv_at hl 0 rfl) ?_
            refine lv_iload_n hx hb dX0_isSilent_40 rfl (lv_at hl 4 rfl) ?_
            refine lv_icmp_ne (tgt := 46) hx hb dX0_isSilent_41 (by decide) (fun c15 => ?_) (fun c15 => ?_)
            · replace hM := itn c15 hM
              refine lv_iload hx hb dX0_isSilent_46 (lv_at hl 2 rfl) ?_
              refine lv_if_ne (tgt := 68) hx hb dX0_isSilent_48 (by decide) (fun c16 => ?_) (fun c16 => ?_)
              · replace hM := itn c16 hM
                refine lv_iconst (v := (1 : Int32)) hx hb dX0_isSilent_68 (by decide) ?_
                refine lv_goto (tgt := 73) hx hb dX0_isSilent_69 (by decide) ?_
                refine lv_istore (lv' := [(5, .int (1 : Int32)), (7, .int q9), (6, .int v6_1), (0, .ref (a0 0)), (1, .int p1), (2, .int p2), (3, .int p3), (4, .int p4)]) hx hb dX0_isSilent_73 hl (by decide) rfl (fun ls hl => ?_)
                refine lv_iinc (v := (v6_1 + (1 : Int32))) (lv' := [(6, .int (v6_1 + (1 : Int32))), (5, .int (1 : Int32)), (7, .int q9), (0, .ref (a0 0)), (1, .int p1), (2, .int p2), (3, .int p3), (4, .int p4)]) hx hb dX0_isSilent_75 hl (k := 2) rfl rfl (by decide) rfl (fun ls hl => ?_)
                refine lv_goto (tgt := 6) hx hb dX0_isSilent_78 (by decide) ?_
                exact ih6 (v6_1 + (1 : Int32)) (1 : Int32) hM _ (lv_sub hl [0, 1, 3, 4, 5, 6, 7] rfl)
              · replace hM := itp c16 hM
                refine lv_aload_n hx hb dX0_isSilent_51 rfl (lv_at hl 3 rfl) ?_
                refine wk_get hx hb hts hin_X0 hown hK hP 0 0 0 (.ref (a1 0)) rfl rfl (by decide) (mi 1 rfl) rfl rfl dX0_isSilent_52 ?_
                refine wk_get hx hb hts hin_X5 hown hK hP 5 1 10 (.ref (a1 4)) rfl rfl (by decide) (mi 2 rfl) rfl rfl dX0_isSilent_55 ?_
                refine lv_iload_n hx hb dX0_isSilent_58 rfl (lv_at hl 4 rfl) ?_
                obtain ⟨k17, hM⟩ := ck hM
                refine wk_iald hx hb hK hP 5 7 (T1 10) rfl k17 dX0_isSilent_59 ?_
                refine lv_iload hx hb dX0_isSilent_60 (lv_at hl 0 rfl) ?_
                refine rNR (wc := ([] : va_W)) (As := [.int ((T1 10) (p1).toNatClampNeg), .int q9]) (rest := []) hS (c_X6_has l g ((T1 10) (p1).toNatClampNeg) q9) gX0_isSilent_X6_has_n58 rfl (mi 27 rfl) (mi 18 rfl) 13 rfl hd_X6_has ⟨Nat.le_of_ble_eq_true rfl, Nat.le_of_ble_eq_true rfl⟩ hK (hP_nil) rfl hl.1 rfl (Nat.le_of_ble_eq_true rfl) dX0_isSilent_62 ⟨Nat.zero_le _, Nat.zero_le _⟩ ?_
                have hJ32 : ∀ (x31 : Int32) (ls : Array Slot), x31 = (if (f_X6_has ((T1 10) (p1).toNatClampNeg) q9) = 0 then (0 : Int32) else (1 : Int32)) → lv_has ls 8 [(6, .int v6_1), (0, .ref (a0 0)), (1, .int p1), (2, .int p2), (3, .int p3), (4, .int p4)] → W p l e (headSpec wsX0_isSilent ({ frames := 4, cells := 0, slots := 0, locals := 86 } : Room)).room s m ([.ref (a0 0), .int p1, .int p2, .int p3, .int p4] : List Value).toArray below meth c s.heap [] 0 0 (MQ below (QcR (some (.int q))) ([.ref (a0 0), .int p1, .int p2, .int p3, .int p4] : List Value).toArray s 0 0 (fun _ => False)) (F0 m 73 ls [.int x31]) := by
                  intro x31 ls hxx31 hl
                  subst hxx31
                  refine lv_istore (lv' := [(5, .int (if (f_X6_has ((T1 10) (p1).toNatClampNeg) q9) = 0 then (0 : Int32) else (1 : Int32))), (6, .int v6_1), (0, .ref (a0 0)), (1, .int p1), (2, .int p2), (3, .int p3), (4, .int p4)]) hx hb dX0_isSilent_73 hl (by decide) rfl (fun ls hl => ?_)
                  refine lv_iinc (v := (v6_1 + (1 : Int32))) (lv' := [(6, .int (v6_1 + (1 : Int32))), (5, .int (if (f_X6_has ((T1 10) (p1).toNatClampNeg) q9) = 0 then (0 : Int32) else (1 : Int32))), (0, .ref (a0 0)), (1, .int p1), (2, .int p2), (3, .int p3), (4, .int p4)]) hx hb dX0_isSilent_75 hl (k := 1) rfl rfl (by decide) rfl (fun ls hl => ?_)
                  refine lv_goto (tgt := 6) hx hb dX0_isSilent_78 (by decide) ?_
                  exact ih6 (v6_1 + (1 : Int32)) (if (f_X6_has ((T1 10) (p1).toNatClampNeg) q9) = 0 then (0 : Int32) else (1 : Int32)) hM _ (lv_sub hl [0, 1, 2, 3, 4, 5, 6] rfl)
                refine lv_if_eq (tgt := 72) hx hb dX0_isSilent_65 (by decide) (fun c19 => ?_) (fun c19 => ?_)
                · refine lv_iconst (v := (0 : Int32)) hx hb dX0_isSilent_72 (by decide) ?_
                  exact hJ32 _ _ (by first | rfl | (simp only [if_pos c19])) (lv_sub hl [1, 3, 4, 5, 6, 7] rfl)
                · refine lv_iconst (v := (1 : Int32)) hx hb dX0_isSilent_68 (by decide) ?_
                  refine lv_goto (tgt := 73) hx hb dX0_isSilent_69 (by decide) ?_
                  exact hJ32 _ _ (by first | rfl | (simp only [if_neg c19])) (lv_sub hl [1, 3, 4, 5, 6, 7] rfl)
            · replace hM := itp c15 hM
              refine lv_iconst (v := (0 : Int32)) hx hb dX0_isSilent_44 (by decide) ?_
              have hE := Option.some.inj hM
              have hM6' := hM6
              rw [← hE] at hM6'
              obtain rfl := eo_inl hM6'
              exact W.zret hx hb hr (nz (Or.inl rfl)) (fun t ht _ => ⟨rfl, ht⟩) (fun q hq => by cases hq) dX0_isSilent_45
  exact hW6 300 (0 : Int32) (0 : Int32) hL6 _ (lv_sub hl [0, 1, 2, 3, 4, 5, 6] rfl)
