theorem hd_X7_isWord : yX7_isWord.cls = RX7 ∧ yX7_isWord.cls ≠ "java/lang/invoke/MethodHandle" ∧ yX7_isWord.cls ≠ "java/lang/invoke/VarHandle" ∧ (parseMethodDescriptor yX7_isWord.desc).map (fun d => d.parameters.length) = some 1 := by decide +kernel
set_option maxHeartbeats 4000000 in
set_option maxRecDepth 100000 in
theorem c_X7_isWord (l : Launch) (g : Gm) (k : SgT) (a0 : Nat → Nat) (kv : Value) (tv : Value) (U0 : TS) (V0 : TS) (M0 : LTS) (R0 : LTS) (i1 : Nat) (hi1 : i1 < 9) {q : Int32} (hM : f_X7_isWord U0 V0 M0 R0 i1 = some q) : MRS l yX7_isWord wsX7_isWord 4 85 k g [.ref (a0 0), .ref (k.1 i1)] (wXM g a0 U0 V0 M0 R0 kv tv) (some (.int q)) := by
  refine Met.ofW (cc := cX7_isWord) (maxL := 3) (ret := (some .boolean)) (by decide) rfl ?_
  intro p e s m args below meth c s₁ B hml hv
  obtain ⟨hv, hSg⟩ := hv
  obtain ⟨rfl, hP, hK⟩ := hv
  have hx := B.exec; have hb := B.bytes; have hr := B.returns
  have hts := atoms_spec (ws := wsX7_isWord) B.pre
  have hown : s.vm.findClass RX7 = some m.cls := findClass_of_methodNamed B.named
  have hlocks := B.notSynchronized
  have hS : CallFix p m c cX7_isWord 3 s _ wsX7_isWord RX7 := ⟨hx, hb, hml, hown, hts⟩
  have hin_X7 : ∀ w ∈ wsX70, w ∈ wsX7_isWord := fun w h => (List.mem_cons_of_mem _ (List.mem_append_right _ h))
  have hl := lv_entry ([.ref (a0 0), .ref (k.1 i1)]) (n := 3) (Nat.le_of_ble_eq_true rfl)
  rw [lg_entry_eq]
  generalize (lg_sl ([.ref (a0 0), .ref (k.1 i1)]) ++ List.replicate (3 - (lg_sl ([.ref (a0 0), .ref (k.1 i1)])).length) Slot.unset).toArray = ls at hl ⊢
  have hl : lv_has ls 3 [(0, .ref (a0 0)), (1, .ref (k.1 i1))] := hl
  rw [f_X7_isWord] at hM
  refine lv_aload_n hx hb dX7_isWord_0 rfl (lv_at hl 0 rfl) ?_
  refine wk_get hx hb hts hin_X7 hown hK hP 7 0 23 (.int (V0 23 0)) rfl rfl (by decide) (mi 1 rfl) rfl rfl dX7_isWord_1 ?_
  refine lv_iconst (v := (1 : Int32)) hx hb dX7_isWord_4 (by decide) ?_
  refine lv_icmp_ne (tgt := 24) hx hb dX7_isWord_5 (by decide) (fun c1 => ?_) (fun c1 => ?_)
  · replace hM := itn c1 hM
    refine lv_iconst (v := (0 : Int32)) hx hb dX7_isWord_24 (by decide) ?_
    obtain rfl := Option.some.inj hM
    exact W.zret hx hb hr (nz (Or.inl rfl)) (fun t ht _ => ⟨rfl, ht⟩) (fun q hq => by cases hq) dX7_isWord_25
  · replace hM := itp c1 hM
    refine lv_aload_n hx hb dX7_isWord_8 rfl (lv_at hl 0 rfl) ?_
    refine wk_get hx hb hts hin_X7 hown hK hP 7 0 22 (.int (V0 22 0)) rfl rfl (by decide) (mi 2 rfl) rfl rfl dX7_isWord_9 ?_
    refine lv_aload_n hx hb dX7_isWord_12 rfl (lv_at hl 0 rfl) ?_
    refine wk_get hx hb hts hin_X7 hown hK hP 7 0 24 (.int (V0 24 0)) rfl rfl (by decide) (mi 3 rfl) rfl rfl dX7_isWord_13 ?_
    refine lv_isub hx hb dX7_isWord_16 ?_
    refine lv_aload_n hx hb dX7_isWord_17 rfl (lv_at hl 1 rfl) ?_
    refine rVRstr (As := []) (rest := [.int ((V0 22 0) - (V0 24 0))]) (i := i1) hS (c_J0_length_8abf5 l g k i1 hi1) gX7_isWord_J0_length_8abf5 rfl hd_J0_length_8abf5 ⟨Nat.le_of_ble_eq_true rfl, Nat.le_of_ble_eq_true rfl⟩ hK hSg va_S.rf hi1 rfl hl.1 rfl (Nat.le_of_ble_eq_true rfl) dX7_isWord_18 ⟨Nat.zero_le _, Nat.zero_le _⟩ ?_
    refine lv_icmp_eq (tgt := 26) hx hb dX7_isWord_21 (by decide) (fun c2 => ?_) (fun c2 => ?_)
    · replace hM := itp c2 hM
      refine lv_iconst (v := (0 : Int32)) hx hb dX7_isWord_26 (by decide) ?_
      refine lv_istore_n (lv' := [(2, .int (0 : Int32)), (0, .ref (a0 0)), (1, .ref (k.1 i1))]) hx hb dX7_isWord_27 rfl hl (by decide) rfl (fun ls hl => ?_)
      obtain ⟨q4, hL28, hM28⟩ := bd hM
      have hJ28 : ∀ (q4x : Unit), q4 = .inr q4x → ∀ (ls : Array Slot), lv_has ls 3 [] → W p l e (headSpec wsX7_isWord ({ frames := 4, cells := 0, slots := 0, locals := 85 } : Room)).room s m ([.ref (a0 0), .ref (k.1 i1)] : List Value).toArray below meth c s.heap [] 0 0 (MQ below (QcR (some (.int q))) ([.ref (a0 0), .ref (k.1 i1)] : List Value).toArray s 0 0 (fun _ => False)) (F0 m 63 ls []) := by
        intro q4x hX28 ls hl
        rw [hX28] at hM28
        have hM := eo_inr hM28
        refine lv_iconst (v := (1 : Int32)) hx hb dX7_isWord_63 (by decide) ?_
        obtain rfl := Option.some.inj hM
        exact W.zret hx hb hr (nz (Or.inr rfl)) (fun t ht _ => ⟨rfl, ht⟩) (fun q hq => by cases hq) dX7_isWord_64
      have hW28 : ∀ (n : Nat) (v2_3 : Int32), L_X7_isWord_28 V0 i1 n v2_3 = some q4 → ∀ (ls : Array Slot), lv_has ls 3 [(2, .int v2_3), (0, .ref (a0 0)), (1, .ref (k.1 i1))] → W p l e (headSpec wsX7_isWord ({ frames := 4, cells := 0, slots := 0, locals := 85 } : Room)).room s m ([.ref (a0 0), .ref (k.1 i1)] : List Value).toArray below meth c s.heap [] 0 0 (MQ below (QcR (some (.int q))) ([.ref (a0 0), .ref (k.1 i1)] : List Value).toArray s 0 0 (fun _ => False)) (F0 m 28 ls []) := by
        intro n
        induction n with
        | zero => intro v2_3 hM; rw [L_X7_isWord_28] at hM; exact nn hM
        | succ n ih28 =>
          intro v2_3 hM ls hl
          rw [L_X7_isWord_28] at hM
          refine lv_iload_n hx hb dX7_isWord_28 rfl (lv_at hl 0 rfl) ?_
          refine lv_aload_n hx hb dX7_isWord_29 rfl (lv_at hl 2 rfl) ?_
          refine rVRstr (As := []) (rest := [.int v2_3]) (i := i1) hS (c_J0_length_8abf5 l g k i1 hi1) gX7_isWord_J0_length_8abf5 rfl hd_J0_length_8abf5 ⟨Nat.le_of_ble_eq_true rfl, Nat.le_of_ble_eq_true rfl⟩ hK hSg va_S.rf hi1 rfl hl.1 rfl (Nat.le_of_ble_eq_true rfl) dX7_isWord_30 ⟨Nat.zero_le _, Nat.zero_le _⟩ ?_
          refine lv_icmp_ge (tgt := 63) hx hb dX7_isWord_33 (by decide) (fun c5 => ?_) (fun c5 => ?_)
          · replace hM := itp c5 hM
            exact hJ28 _ (Option.some.inj hM).symm _ (lv_sub hl [] rfl)
          · replace hM := itn c5 hM
            refine lv_aload_n hx hb dX7_isWord_36 rfl (lv_at hl 1 rfl) ?_
            refine wk_get hx hb hts hin_X7 hown hK hP 7 0 6 (.ref (a0 15)) rfl rfl (by decide) (mi 4 rfl) rfl rfl dX7_isWord_37 ?_
            refine lv_aload_n hx hb dX7_isWord_40 rfl (lv_at hl 1 rfl) ?_
            refine wk_get hx hb hts hin_X7 hown hK hP 7 0 24 (.int (V0 24 0)) rfl rfl (by decide) (mi 3 rfl) rfl rfl dX7_isWord_41 ?_
            refine lv_iload_n hx hb dX7_isWord_44 rfl (lv_at hl 0 rfl) ?_
            refine lv_iadd hx hb dX7_isWord_45 ?_
            obtain ⟨k6, hM⟩ := ck hM
            refine wk_iald hx hb hK hP 15 250 (V0 6) rfl k6 dX7_isWord_46 ?_
            refine lv_aload_n hx hb dX7_isWord_47 rfl (lv_at hl 2 rfl) ?_
            refine lv_iload_n hx hb dX7_isWord_48 rfl (lv_at hl 0 rfl) ?_
            obtain ⟨k7, hM⟩ := ck hM
            refine rVRstr (As := [.int v2_3]) (rest := [.int ((V0 6) (((V0 24 0) + v2_3)).toNatClampNeg)]) (i := i1) hS (c_J0_charAt_5068e l g k i1 hi1 v2_3 k7) gX7_isWord_J0_charAt_5068e rfl hd_J0_charAt_5068e ⟨Nat.le_of_ble_eq_true rfl, Nat.le_of_ble_eq_true rfl⟩ hK hSg va_S.rf hi1 rfl hl.1 rfl (Nat.le_of_ble_eq_true rfl) dX7_isWord_49 ⟨Nat.zero_le _, Nat.zero_le _⟩ ?_
            refine lv_icmp_eq (tgt := 57) hx hb dX7_isWord_52 (by decide) (fun c8 => ?_) (fun c8 => ?_)
            · replace hM := itp c8 hM
              refine lv_iinc (v := (v2_3 + (1 : Int32))) (lv' := [(2, .int (v2_3 + (1 : Int32))), (0, .ref (a0 0)), (1, .ref (k.1 i1))]) hx hb dX7_isWord_57 hl (k := 0) rfl rfl (by decide) rfl (fun ls hl => ?_)
              refine lv_goto (tgt := 28) hx hb dX7_isWord_60 (by decide) ?_
              exact ih28 (v2_3 + (1 : Int32)) hM _ (lv_sub hl [0, 1, 2] rfl)
            · replace hM := itn c8 hM
              refine lv_iconst (v := (0 : Int32)) hx hb dX7_isWord_55 (by decide) ?_
              have hE := Option.some.inj hM
              have hM28' := hM28
              rw [← hE] at hM28'
              obtain rfl := eo_inl hM28'
              exact W.zret hx hb hr (nz (Or.inl rfl)) (fun t ht _ => ⟨rfl, ht⟩) (fun q hq => by cases hq) dX7_isWord_56
      exact hW28 300 (0 : Int32) hL28 _ (lv_sub hl [0, 1, 2] rfl)
    · replace hM := itn c2 hM
      refine lv_iconst (v := (0 : Int32)) hx hb dX7_isWord_24 (by decide) ?_
      obtain rfl := Option.some.inj hM
      exact W.zret hx hb hr (nz (Or.inl rfl)) (fun t ht _ => ⟨rfl, ht⟩) (fun q hq => by cases hq) dX7_isWord_25
theorem hd_X7_personTold : yX7_personTold.cls = RX7 ∧ yX7_personTold.cls ≠ "java/lang/invoke/MethodHandle" ∧ yX7_personTold.cls ≠ "java/lang/invoke/VarHandle" ∧ (parseMethodDescriptor yX7_personTold.desc).map (fun d => d.parameters.length) = some 0 := by decide +kernel
set_option maxHeartbeats 4000000 in
set_option maxRecDepth 100000 in
theorem c_X7_personTold (l : Launch) (g : Gm) (k : SgT) (a0 : Nat → Nat) (kv : Value) (tv : Value) (U0 : TS) (V0 : TS) (M0 : LTS) (R0 : LTS) {q : (Int32 × TS × TS)} (hM : f_X7_personTold U0 V0 M0 R0 = some q) : MWS l yX7_personTold wsX7_personTold 5 107 k g [.ref (a0 0)] (wXM g a0 U0 V0 M0 R0 kv tv) (some (.int q.1)) (wXM g a0 q.2.1 q.2.2 M0 R0 kv tv) := by
  intro sz
  refine Met.ofW (cc := cX7_personTold) (maxL := 2) (ret := (some .boolean)) (by decide) rfl ?_
  intro p e s m args below meth c s₁ B hml hv
  obtain ⟨hv, hSg⟩ := hv
  obtain ⟨rfl, hsz, hP, hK, hD0⟩ := hv
  have hx := B.exec; have hb := B.bytes; have hr := B.returns
  have hts := atoms_spec (ws := wsX7_personTold) B.pre
  have hown : s.vm.findClass RX7 = some m.cls := findClass_of_methodNamed B.named
  have hlocks := B.notSynchronized
  have hS : CallFix p m c cX7_personTold 2 s _ wsX7_personTold RX7 := ⟨hx, hb, hml, hown, hts⟩
  have hin_X7 : ∀ w ∈ wsX70, w ∈ wsX7_personTold := fun w h => (List.mem_cons_of_mem _ (List.mem_append_right _ h))
  subst hsz
  have hw := wk_start hP hD0
  have hA : ∀ q : Nat, s.heap.size ≤ q → va_A (wXM g a0 U0 V0 M0 R0 kv tv) s.heap.size q := fun q h => Or.inr h
  generalize va_A (wXM g a0 U0 V0 M0 R0 kv tv) s.heap.size = A at hw hA hSg ⊢
  clear hP hD0
  have hl := lv_entry ([.ref (a0 0)]) (n := 2) (Nat.le_of_ble_eq_true rfl)
  rw [lg_entry_eq]
  generalize (lg_sl ([.ref (a0 0)]) ++ List.replicate (2 - (lg_sl ([.ref (a0 0)])).length) Slot.unset).toArray = ls at hl ⊢
  have hl : lv_has ls 2 [(0, .ref (a0 0))] := hl
  rw [f_X7_personTold] at hM
  refine lv_aload_n hx hb dX7_personTold_0 rfl (lv_at hl 0 rfl) ?_
  refine lv_iconst (v := (0 : Int32)) hx hb dX7_personTold_1 (by decide) ?_
  refine lv_iconst (v := (5 : Int32)) hx hb dX7_personTold_2 (by decide) ?_
  obtain ⟨q2, h1, hM⟩ := bd hM
  refine rVWp (wc := (wXM g a0 U0 V0 M0 R0 kv tv)) (wq := (wXM g a0 U0 q2.2 M0 R0 kv tv)) (As := [.int (0 : Int32), .int (5 : Int32)]) (rest := []) (q0 := 0) hS (c_X7_tells l g a0 kv tv U0 V0 M0 R0 (0 : Int32) (5 : Int32) h1) gX7_personTold_X7_tells rfl hd_X7_tells ⟨Nat.le_of_ble_eq_true rfl, Nat.le_of_ble_eq_true rfl⟩ hK hw hA (pm_1_0 _) rfl (pm_1_0 _) rfl rfl rfl rfl hl.1 rfl (Nat.le_of_ble_eq_true rfl) dX7_personTold_3 ⟨Nat.zero_le _, Nat.zero_le _⟩ (fun H locs hw => ?_)
  refine lv_if_eq (tgt := 20) hx hb dX7_personTold_6 (by decide) (fun c3 => ?_) (fun c3 => ?_)
  · replace hM := itp c3 hM
    refine lv_iconst (v := (0 : Int32)) hx hb dX7_personTold_20 (by decide) ?_
    obtain rfl := Option.some.inj hM
    exact W.zret hx hb hr (nz (Or.inl rfl)) (fun t ht _ => ⟨rfl, by rw [ht]; exact hw.1, hw.2.2.F ht⟩) hw.2.2.2.2 dX7_personTold_21
  · replace hM := itn c3 hM
    refine lv_aload_n hx hb dX7_personTold_9 rfl (lv_at hl 0 rfl) ?_
    refine lv_iconst (v := (1 : Int32)) hx hb dX7_personTold_10 (by decide) ?_
    refine lv_iconst (v := (0 : Int32)) hx hb dX7_personTold_11 (by decide) ?_
    refine lv_bipush (v := (9 : Int32)) hx hb dX7_personTold_12 (by decide) ?_
    obtain ⟨q5, h4, hM⟩ := bd hM
    refine rVWp (wc := (wXM g a0 U0 q2.2 M0 R0 kv tv)) (wq := (wXM g a0 U0 q5.2 M0 R0 kv tv)) (As := [.int (1 : Int32), .int (0 : Int32), .int (9 : Int32)]) (rest := []) (q0 := 0) hS (c_X7_number l g a0 kv tv U0 q2.2 M0 R0 (1 : Int32) (0 : Int32) (9 : Int32) h4) gX7_personTold_X7_number rfl hd_X7_number ⟨Nat.le_of_ble_eq_true rfl, Nat.le_of_ble_eq_true rfl⟩ hK hw hA (pm_1_0 _) rfl (pm_1_0 _) rfl rfl rfl rfl hl.1 rfl (Nat.le_of_ble_eq_true rfl) dX7_personTold_14 ⟨Nat.zero_le _, Nat.zero_le _⟩ (fun H locs hw => ?_)
    refine lv_if_ne (tgt := 22) hx hb dX7_personTold_17 (by decide) (fun c6 => ?_) (fun c6 => ?_)
    · replace hM := itn c6 hM
      refine lv_aload_n hx hb dX7_personTold_22 rfl (lv_at hl 0 rfl) ?_
      refine lv_aload_n hx hb dX7_personTold_23 rfl (lv_at hl 0 rfl) ?_
      refine wk_get hx hb hts hin_X7 hown hK hw.1 7 0 27 (.ref (a0 17)) rfl rfl (by decide) (mi 1 rfl) rfl rfl dX7_personTold_24 ?_
      refine lv_iconst (v := (0 : Int32)) hx hb dX7_personTold_27 (by decide) ?_
      refine wk_iald hx hb hK hw.1 17 2 (q5.2 27) rfl (by decide) dX7_personTold_28 ?_
      refine lv_aload_n hx hb dX7_personTold_29 rfl (lv_at hl 0 rfl) ?_
      refine wk_get hx hb hts hin_X7 hown hK hw.1 7 0 27 (.ref (a0 17)) rfl rfl (by decide) (mi 1 rfl) rfl rfl dX7_personTold_30 ?_
      refine lv_iconst (v := (1 : Int32)) hx hb dX7_personTold_33 (by decide) ?_
      refine wk_iald hx hb hK hw.1 17 2 (q5.2 27) rfl (by decide) dX7_personTold_34 ?_
      obtain ⟨q8, h7, hM⟩ := bd hM
      refine rVWp (wc := (wXT g a0 (fm a0 q5.2 kv tv) U0)) (wq := (wXM g a0 q8 q5.2 M0 R0 kv tv)) (As := [.int ((q5.2 27) ((0 : Int32)).toNatClampNeg), .int ((q5.2 27) ((1 : Int32)).toNatClampNeg)]) (rest := []) (q0 := 0) hS (c_X7_addOne l g a0 (fm a0 q5.2 kv tv) U0 ((q5.2 27) ((0 : Int32)).toNatClampNeg) ((q5.2 27) ((1 : Int32)).toNatClampNeg) h7) gX7_personTold_X7_addOne rfl hd_X7_addOne ⟨Nat.le_of_ble_eq_true rfl, Nat.le_of_ble_eq_true rfl⟩ hK hw hA (pmX1 _ _ _ _ _ _ _ _) rfl (pmX1 _ _ _ _ _ _ _ _) rfl rfl rfl rfl hl.1 rfl (Nat.le_of_ble_eq_true rfl) dX7_personTold_35 ⟨Nat.zero_le _, Nat.zero_le _⟩ (fun H locs hw => ?_)
      refine lv_aload_n hx hb dX7_personTold_38 rfl (lv_at hl 0 rfl) ?_
      refine wk_get hx hb hts hin_X7 hown hK hw.1 7 0 10 (.int (q8 10 0)) rfl rfl (by decide) (mi 2 rfl) rfl rfl dX7_personTold_39 ?_
      refine lv_iconst (v := (1 : Int32)) hx hb dX7_personTold_42 (by decide) ?_
      refine lv_isub hx hb dX7_personTold_43 ?_
      refine lv_istore_n (lv' := [(1, .int ((q8 10 0) - (1 : Int32))), (0, .ref (a0 0))]) hx hb dX7_personTold_44 rfl hl (by decide) rfl (fun ls hl => ?_)
      refine lv_aload_n hx hb dX7_personTold_45 rfl (lv_at hl 1 rfl) ?_
      refine va_ldcS hx hb hown (hSg.2.2.2 2 (by decide)).2 dX7_personTold_46 ?_
      obtain ⟨q10, h9, hM⟩ := bd hM
      refine rVRS (wc := (wXM g a0 q8 q5.2 M0 R0 kv tv)) (As := [.ref (k.1 2)]) (rest := []) (q0 := 0) hS (c_X7_isWord l g k a0 kv tv q8 q5.2 M0 R0 2 (by decide) h9) gX7_personTold_X7_isWord rfl hd_X7_isWord ⟨Nat.le_of_ble_eq_true rfl, Nat.le_of_ble_eq_true rfl⟩ hK hSg hw.2.2 (va_P.pm hw.1 (pm_1_0 _)) rfl rfl rfl rfl hl.1 rfl (Nat.le_of_ble_eq_true rfl) dX7_personTold_48 ⟨Nat.zero_le _, Nat.zero_le _⟩ ?_
      refine lv_if_eq (tgt := 92) hx hb dX7_personTold_51 (by decide) (fun c11 => ?_) (fun c11 => ?_)
      · replace hM := itp c11 hM
        refine lv_aload_n hx hb dX7_personTold_92 rfl (lv_at hl 1 rfl) ?_
        refine va_ldcS hx hb hown (hSg.2.2.2 4 (by decide)).2 dX7_personTold_93 ?_
        obtain ⟨q13, h12, hM⟩ := bd hM
        refine rVRS (wc := (wXM g a0 q8 q5.2 M0 R0 kv tv)) (As := [.ref (k.1 4)]) (rest := []) (q0 := 0) hS (c_X7_isWord l g k a0 kv tv q8 q5.2 M0 R0 4 (by decide) h12) gX7_personTold_X7_isWord rfl hd_X7_isWord ⟨Nat.le_of_ble_eq_true rfl, Nat.le_of_ble_eq_true rfl⟩ hK hSg hw.2.2 (va_P.pm hw.1 (pm_1_0 _)) rfl rfl rfl rfl hl.1 rfl (Nat.le_of_ble_eq_true rfl) dX7_personTold_95 ⟨Nat.zero_le _, Nat.zero_le _⟩ ?_
        refine lv_if_eq (tgt := 134) hx hb dX7_personTold_98 (by decide) (fun c14 => ?_) (fun c14 => ?_)
        · replace hM := itp c14 hM
          refine lv_iconst (v := (1 : Int32)) hx hb dX7_personTold_134 (by decide) ?_
          obtain rfl := Option.some.inj hM
          exact W.zret hx hb hr (nz (Or.inr rfl)) (fun t ht _ => ⟨rfl, by rw [ht]; exact hw.1, hw.2.2.F ht⟩) hw.2.2.2.2 dX7_personTold_135
        · replace hM := itn c14 hM
          refine lv_aload_n hx hb dX7_personTold_101 rfl (lv_at hl 1 rfl) ?_
          refine lv_iconst (v := (0 : Int32)) hx hb dX7_personTold_102 (by decide) ?_
          refine lv_aload_n hx hb dX7_personTold_103 rfl (lv_at hl 1 rfl) ?_
          refine wk_get hx hb hts hin_X7 hown hK hw.1 7 0 9 (.int (q8 9 0)) rfl rfl (by decide) (mi 4 rfl) rfl rfl dX7_personTold_104 ?_
          refine lv_iconst (v := (1 : Int32)) hx hb dX7_personTold_107 (by decide) ?_
          refine lv_isub hx hb dX7_personTold_108 ?_
          obtain ⟨q16, h15, hM⟩ := bd hM
          refine rVWp (wc := (wXM g a0 q8 q5.2 M0 R0 kv tv)) (wq := (wXM g a0 q8 q16.2 M0 R0 kv tv)) (As := [.int (0 : Int32), .int ((q8 9 0) - (1 : Int32))]) (rest := []) (q0 := 0) hS (c_X7_tells l g a0 kv tv q8 q5.2 M0 R0 (0 : Int32) ((q8 9 0) - (1 : Int32)) h15) gX7_personTold_X7_tells rfl hd_X7_tells ⟨Nat.le_of_ble_eq_true rfl, Nat.le_of_ble_eq_true rfl⟩ hK hw hA (pm_1_0 _) rfl (pm_1_0 _) rfl rfl rfl rfl hl.1 rfl (Nat.le_of_ble_eq_true rfl) dX7_personTold_109 ⟨Nat.zero_le _, Nat.zero_le _⟩ (fun H locs hw => ?_)
          refine lv_if_ne (tgt := 117) hx hb dX7_personTold_112 (by decide) (fun c17 => ?_) (fun c17 => ?_)
          · replace hM := itn c17 hM
            refine lv_aload_n hx hb dX7_personTold_117 rfl (lv_at hl 1 rfl) ?_
            refine wk_get hx hb hts hin_X7 hown hK hw.1 7 0 15 (.ref (a0 5)) rfl rfl (by decide) (mi 5 rfl) rfl rfl dX7_personTold_118 ?_
            refine lv_iload_n hx hb dX7_personTold_121 rfl (lv_at hl 0 rfl) ?_
            refine lv_dup2_11 hx hb dX7_personTold_122 rfl rfl ?_
            obtain ⟨k18, hM⟩ := ck hM
            refine wk_iald hx hb hK hw.1 5 7 (q8 15) rfl k18 dX7_personTold_123 ?_
            refine lv_iconst (v := (1 : Int32)) hx hb dX7_personTold_124 (by decide) ?_
            refine lv_aload_n hx hb dX7_personTold_125 rfl (lv_at hl 1 rfl) ?_
            refine wk_get hx hb hts hin_X7 hown hK hw.1 7 0 27 (.ref (a0 17)) rfl rfl (by decide) (mi 1 rfl) rfl rfl dX7_personTold_126 ?_
            refine lv_iconst (v := (0 : Int32)) hx hb dX7_personTold_129 (by decide) ?_
            refine wk_iald hx hb hK hw.1 17 2 (q16.2 27) rfl (by decide) dX7_personTold_130 ?_
            refine lv_ishl hx hb dX7_personTold_131 ?_
            refine lv_ior hx hb dX7_personTold_132 ?_
            refine wk_iast (wq := (wXM g a0 (up q8 15 (upd (q8 15) (((q8 10 0) - (1 : Int32))).toNatClampNeg (((q8 15) (((q8 10 0) - (1 : Int32))).toNatClampNeg) ||| ((1 : Int32) <<< (((q16.2 27) ((0 : Int32)).toNatClampNeg) &&& 31))))) q16.2 M0 R0 kv tv)) hx hb hK hw 5 7 (q8 15) rfl k18 dX7_personTold_133 rfl (fun H locs hw => ?_)
            refine lv_iconst (v := (1 : Int32)) hx hb dX7_personTold_134 (by decide) ?_
            obtain rfl := Option.some.inj hM
            exact W.zret hx hb hr (nz (Or.inr rfl)) (fun t ht _ => ⟨rfl, by rw [ht]; exact hw.1, hw.2.2.F ht⟩) hw.2.2.2.2 dX7_personTold_135
          · replace hM := itp c17 hM
            refine lv_iconst (v := (0 : Int32)) hx hb dX7_personTold_115 (by decide) ?_
            obtain rfl := Option.some.inj hM
            exact W.zret hx hb hr (nz (Or.inl rfl)) (fun t ht _ => ⟨rfl, by rw [ht]; exact hw.1, hw.2.2.F ht⟩) hw.2.2.2.2 dX7_personTold_116
      · replace hM := itn c11 hM
        refine lv_aload_n hx hb dX7_personTold_54 rfl (lv_at hl 1 rfl) ?_
        refine wk_get hx hb hts hin_X7 hown hK hw.1 7 0 11 (.ref (a0 1)) rfl rfl (by decide) (mi 3 rfl) rfl rfl dX7_personTold_55 ?_
        refine lv_iload_n hx hb dX7_personTold_58 rfl (lv_at hl 0 rfl) ?_
        obtain ⟨k19, hM⟩ := ck hM
        refine wk_iald hx hb hK hw.1 1 7 (q8 11) rfl k19 dX7_personTold_59 ?_
        refine lv_iconst (v := (4 : Int32)) hx hb dX7_personTold_60 (by decide) ?_
        refine lv_icmp_eq (tgt := 92) hx hb dX7_personTold_61 (by decide) (fun c20 => ?_) (fun c20 => ?_)
        · replace hM := itp c20 hM
          refine lv_aload_n hx hb dX7_personTold_92 rfl (lv_at hl 1 rfl) ?_
          refine va_ldcS hx hb hown (hSg.2.2.2 4 (by decide)).2 dX7_personTold_93 ?_
          obtain ⟨q22, h21, hM⟩ := bd hM
          refine rVRS (wc := (wXM g a0 q8 q5.2 M0 R0 kv tv)) (As := [.ref (k.1 4)]) (rest := []) (q0 := 0) hS (c_X7_isWord l g k a0 kv tv q8 q5.2 M0 R0 4 (by decide) h21) gX7_personTold_X7_isWord rfl hd_X7_isWord ⟨Nat.le_of_ble_eq_true rfl, Nat.le_of_ble_eq_true rfl⟩ hK hSg hw.2.2 (va_P.pm hw.1 (pm_1_0 _)) rfl rfl rfl rfl hl.1 rfl (Nat.le_of_ble_eq_true rfl) dX7_personTold_95 ⟨Nat.zero_le _, Nat.zero_le _⟩ ?_
          refine lv_if_eq (tgt := 134) hx hb dX7_personTold_98 (by decide) (fun c23 => ?_) (fun c23 => ?_)
          · replace hM := itp c23 hM
            refine lv_iconst (v := (1 : Int32)) hx hb dX7_personTold_134 (by decide) ?_
            obtain rfl := Option.some.inj hM
            exact W.zret hx hb hr (nz (Or.inr rfl)) (fun t ht _ => ⟨rfl, by rw [ht]; exact hw.1, hw.2.2.F ht⟩) hw.2.2.2.2 dX7_personTold_135
          · replace hM := itn c23 hM
            refine lv_aload_n hx hb dX7_personTold_101 rfl (lv_at hl 1 rfl) ?_
            refine lv_iconst (v := (0 : Int32)) hx hb dX7_personTold_102 (by decide) ?_
            refine lv_aload_n hx hb dX7_personTold_103 rfl (lv_at hl 1 rfl) ?_
            refine wk_get hx hb hts hin_X7 hown hK hw.1 7 0 9 (.int (q8 9 0)) rfl rfl (by decide) (mi 4 rfl) rfl rfl dX7_personTold_104 ?_
            refine lv_iconst (v := (1 : Int32)) hx hb dX7_personTold_107 (by decide) ?_
            refine lv_isub hx hb dX7_personTold_108 ?_
            obtain ⟨q25, h24, hM⟩ := bd hM
            refine rVWp (wc := (wXM g a0 q8 q5.2 M0 R0 kv tv)) (wq := (wXM g a0 q8 q25.2 M0 R0 kv tv)) (As := [.int (0 : Int32), .int ((q8 9 0) - (1 : Int32))]) (rest := []) (q0 := 0) hS (c_X7_tells l g a0 kv tv q8 q5.2 M0 R0 (0 : Int32) ((q8 9 0) - (1 : Int32)) h24) gX7_personTold_X7_tells rfl hd_X7_tells ⟨Nat.le_of_ble_eq_true rfl, Nat.le_of_ble_eq_true rfl⟩ hK hw hA (pm_1_0 _) rfl (pm_1_0 _) rfl rfl rfl rfl hl.1 rfl (Nat.le_of_ble_eq_true rfl) dX7_personTold_109 ⟨Nat.zero_le _, Nat.zero_le _⟩ (fun H locs hw => ?_)
            refine lv_if_ne (tgt := 117) hx hb dX7_personTold_112 (by decide) (fun c26 => ?_) (fun c26 => ?_)
            · replace hM := itn c26 hM
              refine lv_aload_n hx hb dX7_personTold_117 rfl (lv_at hl 1 rfl) ?_
              refine wk_get hx hb hts hin_X7 hown hK hw.1 7 0 15 (.ref (a0 5)) rfl rfl (by decide) (mi 5 rfl) rfl rfl dX7_personTold_118 ?_
              refine lv_iload_n hx hb dX7_personTold_121 rfl (lv_at hl 0 rfl) ?_
              refine lv_dup2_11 hx hb dX7_personTold_122 rfl rfl ?_
              refine wk_iald hx hb hK hw.1 5 7 (q8 15) rfl k19 dX7_personTold_123 ?_
              refine lv_iconst (v := (1 : Int32)) hx hb dX7_personTold_124 (by decide) ?_
              refine lv_aload_n hx hb dX7_personTold_125 rfl (lv_at hl 1 rfl) ?_
              refine wk_get hx hb hts hin_X7 hown hK hw.1 7 0 27 (.ref (a0 17)) rfl rfl (by decide) (mi 1 rfl) rfl rfl dX7_personTold_126 ?_
              refine lv_iconst (v := (0 : Int32)) hx hb dX7_personTold_129 (by decide) ?_
              refine wk_iald hx hb hK hw.1 17 2 (q25.2 27) rfl (by decide) dX7_personTold_130 ?_
              refine lv_ishl hx hb dX7_personTold_131 ?_
              refine lv_ior hx hb dX7_personTold_132 ?_
              refine wk_iast (wq := (wXM g a0 (up q8 15 (upd (q8 15) (((q8 10 0) - (1 : Int32))).toNatClampNeg (((q8 15) (((q8 10 0) - (1 : Int32))).toNatClampNeg) ||| ((1 : Int32) <<< (((q25.2 27) ((0 : Int32)).toNatClampNeg) &&& 31))))) q25.2 M0 R0 kv tv)) hx hb hK hw 5 7 (q8 15) rfl k19 dX7_personTold_133 rfl (fun H locs hw => ?_)
              refine lv_iconst (v := (1 : Int32)) hx hb dX7_personTold_134 (by decide) ?_
              obtain rfl := Option.some.inj hM
              exact W.zret hx hb hr (nz (Or.inr rfl)) (fun t ht _ => ⟨rfl, by rw [ht]; exact hw.1, hw.2.2.F ht⟩) hw.2.2.2.2 dX7_personTold_135
            · replace hM := itp c26 hM
              refine lv_iconst (v := (0 : Int32)) hx hb dX7_personTold_115 (by decide) ?_
              obtain rfl := Option.some.inj hM
              exact W.zret hx hb hr (nz (Or.inl rfl)) (fun t ht _ => ⟨rfl, by rw [ht]; exact hw.1, hw.2.2.F ht⟩) hw.2.2.2.2 dX7_personTold_116
        · replace hM := itn c20 hM
          refine lv_aload_n hx hb dX7_personTold_64 rfl (lv_at hl 1 rfl) ?_
          refine lv_iconst (v := (0 : Int32)) hx hb dX7_personTold_65 (by decide) ?_
          refine lv_aload_n hx hb dX7_personTold_66 rfl (lv_at hl 1 rfl) ?_
          refine wk_get hx hb hts hin_X7 hown hK hw.1 7 0 9 (.int (q8 9 0)) rfl rfl (by decide) (mi 4 rfl) rfl rfl dX7_personTold_67 ?_
          refine lv_iconst (v := (1 : Int32)) hx hb dX7_personTold_70 (by decide) ?_
          refine lv_isub hx hb dX7_personTold_71 ?_
          obtain ⟨q28, h27, hM⟩ := bd hM
          refine rVWp (wc := (wXM g a0 q8 q5.2 M0 R0 kv tv)) (wq := (wXM g a0 q8 q28.2 M0 R0 kv tv)) (As := [.int (0 : Int32), .int ((q8 9 0) - (1 : Int32))]) (rest := []) (q0 := 0) hS (c_X7_tells l g a0 kv tv q8 q5.2 M0 R0 (0 : Int32) ((q8 9 0) - (1 : Int32)) h27) gX7_personTold_X7_tells rfl hd_X7_tells ⟨Nat.le_of_ble_eq_true rfl, Nat.le_of_ble_eq_true rfl⟩ hK hw hA (pm_1_0 _) rfl (pm_1_0 _) rfl rfl rfl rfl hl.1 rfl (Nat.le_of_ble_eq_true rfl) dX7_personTold_72 ⟨Nat.zero_le _, Nat.zero_le _⟩ (fun H locs hw => ?_)
          refine lv_if_ne (tgt := 80) hx hb dX7_personTold_75 (by decide) (fun c29 => ?_) (fun c29 => ?_)
          · replace hM := itn c29 hM
            refine lv_aload_n hx hb dX7_personTold_80 rfl (lv_at hl 1 rfl) ?_
            refine lv_iload_n hx hb dX7_personTold_81 rfl (lv_at hl 0 rfl) ?_
            refine lv_aload_n hx hb dX7_personTold_82 rfl (lv_at hl 1 rfl) ?_
            refine wk_get hx hb hts hin_X7 hown hK hw.1 7 0 27 (.ref (a0 17)) rfl rfl (by decide) (mi 1 rfl) rfl rfl dX7_personTold_83 ?_
            refine lv_iconst (v := (0 : Int32)) hx hb dX7_personTold_86 (by decide) ?_
            refine wk_iald hx hb hK hw.1 17 2 (q28.2 27) rfl (by decide) dX7_personTold_87 ?_
            refine lv_iconst (v := (2 : Int32)) hx hb dX7_personTold_88 (by decide) ?_
            obtain ⟨q31, h30, hM⟩ := bd hM
            refine rVWp (wc := (wXT g a0 (fm a0 q28.2 kv tv) q8)) (wq := (wXM g a0 q31 q28.2 M0 R0 kv tv)) (As := [.int ((q8 10 0) - (1 : Int32)), .int ((q28.2 27) ((0 : Int32)).toNatClampNeg), .int (2 : Int32)]) (rest := []) (q0 := 0) hS (c_X7_sees l g a0 (fm a0 q28.2 kv tv) q8 ((q8 10 0) - (1 : Int32)) ((q28.2 27) ((0 : Int32)).toNatClampNeg) (2 : Int32) h30) gX7_personTold_X7_sees rfl hd_X7_sees ⟨Nat.le_of_ble_eq_true rfl, Nat.le_of_ble_eq_true rfl⟩ hK hw hA (pmX1 _ _ _ _ _ _ _ _) rfl (pmX1 _ _ _ _ _ _ _ _) rfl rfl rfl rfl hl.1 rfl (Nat.le_of_ble_eq_true rfl) dX7_personTold_89 ⟨Nat.zero_le _, Nat.zero_le _⟩ (fun H locs hw => ?_)
            refine lv_aload_n hx hb dX7_personTold_92 rfl (lv_at hl 1 rfl) ?_
            refine va_ldcS hx hb hown (hSg.2.2.2 4 (by decide)).2 dX7_personTold_93 ?_
            obtain ⟨q33, h32, hM⟩ := bd hM
            refine rVRS (wc := (wXM g a0 q31 q28.2 M0 R0 kv tv)) (As := [.ref (k.1 4)]) (rest := []) (q0 := 0) hS (c_X7_isWord l g k a0 kv tv q31 q28.2 M0 R0 4 (by decide) h32) gX7_personTold_X7_isWord rfl hd_X7_isWord ⟨Nat.le_of_ble_eq_true rfl, Nat.le_of_ble_eq_true rfl⟩ hK hSg hw.2.2 (va_P.pm hw.1 (pm_1_0 _)) rfl rfl rfl rfl hl.1 rfl (Nat.le_of_ble_eq_true rfl) dX7_personTold_95 ⟨Nat.zero_le _, Nat.zero_le _⟩ ?_
            refine lv_if_eq (tgt := 134) hx hb dX7_personTold_98 (by decide) (fun c34 => ?_) (fun c34 => ?_)
            · replace hM := itp c34 hM
              refine lv_iconst (v := (1 : Int32)) hx hb dX7_personTold_134 (by decide) ?_
              obtain rfl := Option.some.inj hM
              exact W.zret hx hb hr (nz (Or.inr rfl)) (fun t ht _ => ⟨rfl, by rw [ht]; exact hw.1, hw.2.2.F ht⟩) hw.2.2.2.2 dX7_personTold_135
            · replace hM := itn c34 hM
              refine lv_aload_n hx hb dX7_personTold_101 rfl (lv_at hl 1 rfl) ?_
              refine lv_iconst (v := (0 : Int32)) hx hb dX7_personTold_102 (by decide) ?_
              refine lv_aload_n hx hb dX7_personTold_103 rfl (lv_at hl 1 rfl) ?_
              refine wk_get hx hb hts hin_X7 hown hK hw.1 7 0 9 (.int (q31 9 0)) rfl rfl (by decide) (mi 4 rfl) rfl rfl dX7_personTold_104 ?_
              refine lv_iconst (v := (1 : Int32)) hx hb dX7_personTold_107 (by decide) ?_
              refine lv_isub hx hb dX7_personTold_108 ?_
              obtain ⟨q36, h35, hM⟩ := bd hM
              refine rVWp (wc := (wXM g a0 q31 q28.2 M0 R0 kv tv)) (wq := (wXM g a0 q31 q36.2 M0 R0 kv tv)) (As := [.int (0 : Int32), .int ((q31 9 0) - (1 : Int32))]) (rest := []) (q0 := 0) hS (c_X7_tells l g a0 kv tv q31 q28.2 M0 R0 (0 : Int32) ((q31 9 0) - (1 : Int32)) h35) gX7_personTold_X7_tells rfl hd_X7_tells ⟨Nat.le_of_ble_eq_true rfl, Nat.le_of_ble_eq_true rfl⟩ hK hw hA (pm_1_0 _) rfl (pm_1_0 _) rfl rfl rfl rfl hl.1 rfl (Nat.le_of_ble_eq_true rfl) dX7_personTold_109 ⟨Nat.zero_le _, Nat.zero_le _⟩ (fun H locs hw => ?_)
              refine lv_if_ne (tgt := 117) hx hb dX7_personTold_112 (by decide) (fun c37 => ?_) (fun c37 => ?_)
              · replace hM := itn c37 hM
                refine lv_aload_n hx hb dX7_personTold_117 rfl (lv_at hl 1 rfl) ?_
                refine wk_get hx hb hts hin_X7 hown hK hw.1 7 0 15 (.ref (a0 5)) rfl rfl (by decide) (mi 5 rfl) rfl rfl dX7_personTold_118 ?_
                refine lv_iload_n hx hb dX7_personTold_121 rfl (lv_at hl 0 rfl) ?_
                refine lv_dup2_11 hx hb dX7_personTold_122 rfl rfl ?_
                refine wk_iald hx hb hK hw.1 5 7 (q31 15) rfl k19 dX7_personTold_123 ?_
                refine lv_iconst (v := (1 : Int32)) hx hb dX7_personTold_124 (by decide) ?_
                refine lv_aload_n hx hb dX7_personTold_125 rfl (lv_at hl 1 rfl) ?_
                refine wk_get hx hb hts hin_X7 hown hK hw.1 7 0 27 (.ref (a0 17)) rfl rfl (by decide) (mi 1 rfl) rfl rfl dX7_personTold_126 ?_
                refine lv_iconst (v := (0 : Int32)) hx hb dX7_personTold_129 (by decide) ?_
                refine wk_iald hx hb hK hw.1 17 2 (q36.2 27) rfl (by decide) dX7_personTold_130 ?_
                refine lv_ishl hx hb dX7_personTold_131 ?_
                refine lv_ior hx hb dX7_personTold_132 ?_
                refine wk_iast (wq := (wXM g a0 (up q31 15 (upd (q31 15) (((q8 10 0) - (1 : Int32))).toNatClampNeg (((q31 15) (((q8 10 0) - (1 : Int32))).toNatClampNeg) ||| ((1 : Int32) <<< (((q36.2 27) ((0 : Int32)).toNatClampNeg) &&& 31))))) q36.2 M0 R0 kv tv)) hx hb hK hw 5 7 (q31 15) rfl k19 dX7_personTold_133 rfl (fun H locs hw => ?_)
                refine lv_iconst (v := (1 : Int32)) hx hb dX7_personTold_134 (by decide) ?_
                obtain rfl := Option.some.inj hM
                exact W.zret hx hb hr (nz (Or.inr rfl)) (fun t ht _ => ⟨rfl, by rw [ht]; exact hw.1, hw.2.2.F ht⟩) hw.2.2.2.2 dX7_personTold_135
              · replace hM := itp c37 hM
                refine lv_iconst (v := (0 : Int32)) hx hb dX7_personTold_115 (by decide) ?_
                obtain rfl := Option.some.inj hM
                exact W.zret hx hb hr (nz (Or.inl rfl)) (fun t ht _ => ⟨rfl, by rw [ht]; exact hw.1, hw.2.2.F ht⟩) hw.2.2.2.2 dX7_personTold_116
          · replace hM := itp c29 hM
            refine lv_iconst (v := (0 : Int32)) hx hb dX7_personTold_78 (by decide) ?_
            obtain rfl := Option.some.inj hM
            exact W.zret hx hb hr (nz (Or.inl rfl)) (fun t ht _ => ⟨rfl, by rw [ht]; exact hw.1, hw.2.2.F ht⟩) hw.2.2.2.2 dX7_personTold_79
    · replace hM := itp c6 hM
      refine lv_iconst (v := (0 : Int32)) hx hb dX7_personTold_20 (by decide) ?_
      obtain rfl := Option.some.inj hM
      exact W.zret hx hb hr (nz (Or.inl rfl)) (fun t ht _ => ⟨rfl, by rw [ht]; exact hw.1, hw.2.2.F ht⟩) hw.2.2.2.2 dX7_personTold_21
theorem hd_X7_statement : yX7_statement.cls = RX7 ∧ yX7_statement.cls ≠ "java/lang/invoke/MethodHandle" ∧ yX7_statement.cls ≠ "java/lang/invoke/VarHandle" ∧ (parseMethodDescriptor yX7_statement.desc).map (fun d => d.parameters.length) = some 0 := by decide +kernel
set_option maxHeartbeats 4000000 in
set_option maxRecDepth 100000 in
theorem c_X7_statement (l : Launch) (g : Gm) (k : SgT) (a0 : Nat → Nat) (kv : Value) (tv : Value) (U0 : TS) (V0 : TS) (M0 : LTS) (R0 : LTS) {q : (Int32 × TS × TS)} (hM : f_X7_statement U0 V0 M0 R0 = some q) : MWS l yX7_statement wsX7_statement 6 128 k g [.ref (a0 0)] (wXM g a0 U0 V0 M0 R0 kv tv) (some (.int q.1)) (wXM g a0 q.2.1 q.2.2 M0 R0 kv tv) := by
  intro sz
  refine Met.ofW (cc := cX7_statement) (maxL := 2) (ret := (some .boolean)) (by decide) rfl ?_
  intro p e s m args below meth c s₁ B hml hv
  obtain ⟨hv, hSg⟩ := hv
  obtain ⟨rfl, hsz, hP, hK, hD0⟩ := hv
  have hx := B.exec; have hb := B.bytes; have hr := B.returns
  have hts := atoms_spec (ws := wsX7_statement) B.pre
  have hown : s.vm.findClass RX7 = some m.cls := findClass_of_methodNamed B.named
  have hlocks := B.notSynchronized
  have hS : CallFix p m c cX7_statement 2 s _ wsX7_statement RX7 := ⟨hx, hb, hml, hown, hts⟩
  have hin_X7 : ∀ w ∈ wsX70, w ∈ wsX7_statement := fun w h => (List.mem_cons_of_mem _ (List.mem_append_right _ h))
  subst hsz
  have hw := wk_start hP hD0
  have hA : ∀ q : Nat, s.heap.size ≤ q → va_A (wXM g a0 U0 V0 M0 R0 kv tv) s.heap.size q := fun q h => Or.inr h
  generalize va_A (wXM g a0 U0 V0 M0 R0 kv tv) s.heap.size = A at hw hA hSg ⊢
  clear hP hD0
  have hl := lv_entry ([.ref (a0 0)]) (n := 2) (Nat.le_of_ble_eq_true rfl)
  rw [lg_entry_eq]
  generalize (lg_sl ([.ref (a0 0)]) ++ List.replicate (2 - (lg_sl ([.ref (a0 0)])).length) Slot.unset).toArray = ls at hl ⊢
  have hl : lv_has ls 2 [(0, .ref (a0 0))] := hl
  rw [f_X7_statement] at hM
  refine lv_aload_n hx hb dX7_statement_0 rfl (lv_at hl 0 rfl) ?_
  refine va_ldcS hx hb hown (hSg.2.2.2 0 (by decide)).2 dX7_statement_1 ?_
  obtain ⟨q2, h1, hM⟩ := bd hM
  refine rVRS (wc := (wXM g a0 U0 V0 M0 R0 kv tv)) (As := [.ref (k.1 0)]) (rest := []) (q0 := 0) hS (c_X7_isWord l g k a0 kv tv U0 V0 M0 R0 0 (by decide) h1) gX7_statement_X7_isWord rfl hd_X7_isWord ⟨Nat.le_of_ble_eq_true rfl, Nat.le_of_ble_eq_true rfl⟩ hK hSg hw.2.2 (va_P.pm hw.1 (pm_1_0 _)) rfl rfl rfl rfl hl.1 rfl (Nat.le_of_ble_eq_true rfl) dX7_statement_3 ⟨Nat.zero_le _, Nat.zero_le _⟩ ?_
  refine lv_if_eq (tgt := 43) hx hb dX7_statement_6 (by decide) (fun c3 => ?_) (fun c3 => ?_)
  · replace hM := itp c3 hM
    refine lv_aload_n hx hb dX7_statement_43 rfl (lv_at hl 0 rfl) ?_
    refine va_ldcS hx hb hown (hSg.2.2.2 1 (by decide)).2 dX7_statement_44 ?_
    obtain ⟨q5, h4, hM⟩ := bd hM
    refine rVRS (wc := (wXM g a0 U0 V0 M0 R0 kv tv)) (As := [.ref (k.1 1)]) (rest := []) (q0 := 0) hS (c_X7_isWord l g k a0 kv tv U0 V0 M0 R0 1 (by decide) h4) gX7_statement_X7_isWord rfl hd_X7_isWord ⟨Nat.le_of_ble_eq_true rfl, Nat.le_of_ble_eq_true rfl⟩ hK hSg hw.2.2 (va_P.pm hw.1 (pm_1_0 _)) rfl rfl rfl rfl hl.1 rfl (Nat.le_of_ble_eq_true rfl) dX7_statement_46 ⟨Nat.zero_le _, Nat.zero_le _⟩ ?_
    refine lv_if_eq (tgt := 66) hx hb dX7_statement_49 (by decide) (fun c6 => ?_) (fun c6 => ?_)
    · replace hM := itp c6 hM
      refine lv_aload_n hx hb dX7_statement_66 rfl (lv_at hl 0 rfl) ?_
      refine va_ldcS hx hb hown (hSg.2.2.2 2 (by decide)).2 dX7_statement_67 ?_
      obtain ⟨q8, h7, hM⟩ := bd hM
      refine rVRS (wc := (wXM g a0 U0 V0 M0 R0 kv tv)) (As := [.ref (k.1 2)]) (rest := []) (q0 := 0) hS (c_X7_isWord l g k a0 kv tv U0 V0 M0 R0 2 (by decide) h7) gX7_statement_X7_isWord rfl hd_X7_isWord ⟨Nat.le_of_ble_eq_true rfl, Nat.le_of_ble_eq_true rfl⟩ hK hSg hw.2.2 (va_P.pm hw.1 (pm_1_0 _)) rfl rfl rfl rfl hl.1 rfl (Nat.le_of_ble_eq_true rfl) dX7_statement_69 ⟨Nat.zero_le _, Nat.zero_le _⟩ ?_
      refine lv_if_eq (tgt := 81) hx hb dX7_statement_72 (by decide) (fun c9 => ?_) (fun c9 => ?_)
      · replace hM := itp c9 hM
        refine lv_aload_n hx hb dX7_statement_81 rfl (lv_at hl 0 rfl) ?_
        refine va_ldcS hx hb hown (hSg.2.2.2 3 (by decide)).2 dX7_statement_82 ?_
        obtain ⟨q11, h10, hM⟩ := bd hM
        refine rVRS (wc := (wXM g a0 U0 V0 M0 R0 kv tv)) (As := [.ref (k.1 3)]) (rest := []) (q0 := 0) hS (c_X7_isWord l g k a0 kv tv U0 V0 M0 R0 3 (by decide) h10) gX7_statement_X7_isWord rfl hd_X7_isWord ⟨Nat.le_of_ble_eq_true rfl, Nat.le_of_ble_eq_true rfl⟩ hK hSg hw.2.2 (va_P.pm hw.1 (pm_1_0 _)) rfl rfl rfl rfl hl.1 rfl (Nat.le_of_ble_eq_true rfl) dX7_statement_84 ⟨Nat.zero_le _, Nat.zero_le _⟩ ?_
        refine lv_if_eq (tgt := 96) hx hb dX7_statement_87 (by decide) (fun c12 => ?_) (fun c12 => ?_)
        · replace hM := itp c12 hM
          refine lv_aload_n hx hb dX7_statement_96 rfl (lv_at hl 0 rfl) ?_
          refine va_ldcS hx hb hown (hSg.2.2.2 4 (by decide)).2 dX7_statement_97 ?_
          obtain ⟨q14, h13, hM⟩ := bd hM
          refine rVRS (wc := (wXM g a0 U0 V0 M0 R0 kv tv)) (As := [.ref (k.1 4)]) (rest := []) (q0 := 0) hS (c_X7_isWord l g k a0 kv tv U0 V0 M0 R0 4 (by decide) h13) gX7_statement_X7_isWord rfl hd_X7_isWord ⟨Nat.le_of_ble_eq_true rfl, Nat.le_of_ble_eq_true rfl⟩ hK hSg hw.2.2 (va_P.pm hw.1 (pm_1_0 _)) rfl rfl rfl rfl hl.1 rfl (Nat.le_of_ble_eq_true rfl) dX7_statement_99 ⟨Nat.zero_le _, Nat.zero_le _⟩ ?_
          refine lv_if_eq (tgt := 160) hx hb dX7_statement_102 (by decide) (fun c15 => ?_) (fun c15 => ?_)
          · replace hM := itp c15 hM
            refine lv_aload_n hx hb dX7_statement_160 rfl (lv_at hl 0 rfl) ?_
            refine va_ldcS hx hb hown (hSg.2.2.2 5 (by decide)).2 dX7_statement_161 ?_
            obtain ⟨q17, h16, hM⟩ := bd hM
            refine rVRS (wc := (wXM g a0 U0 V0 M0 R0 kv tv)) (As := [.ref (k.1 5)]) (rest := []) (q0 := 0) hS (c_X7_isWord l g k a0 kv tv U0 V0 M0 R0 5 (by decide) h16) gX7_statement_X7_isWord rfl hd_X7_isWord ⟨Nat.le_of_ble_eq_true rfl, Nat.le_of_ble_eq_true rfl⟩ hK hSg hw.2.2 (va_P.pm hw.1 (pm_1_0 _)) rfl rfl rfl rfl hl.1 rfl (Nat.le_of_ble_eq_true rfl) dX7_statement_163 ⟨Nat.zero_le _, Nat.zero_le _⟩ ?_
            refine lv_if_eq (tgt := 174) hx hb dX7_statement_166 (by decide) (fun c18 => ?_) (fun c18 => ?_)
            · replace hM := itp c18 hM
              refine lv_aload_n hx hb dX7_statement_174 rfl (lv_at hl 0 rfl) ?_
              refine va_ldcS hx hb hown (hSg.2.2.2 6 (by decide)).2 dX7_statement_175 ?_
              obtain ⟨q20, h19, hM⟩ := bd hM
              refine rVRS (wc := (wXM g a0 U0 V0 M0 R0 kv tv)) (As := [.ref (k.1 6)]) (rest := []) (q0 := 0) hS (c_X7_isWord l g k a0 kv tv U0 V0 M0 R0 6 (by decide) h19) gX7_statement_X7_isWord rfl hd_X7_isWord ⟨Nat.le_of_ble_eq_true rfl, Nat.le_of_ble_eq_true rfl⟩ hK hSg hw.2.2 (va_P.pm hw.1 (pm_1_0 _)) rfl rfl rfl rfl hl.1 rfl (Nat.le_of_ble_eq_true rfl) dX7_statement_177 ⟨Nat.zero_le _, Nat.zero_le _⟩ ?_
              refine lv_if_eq (tgt := 189) hx hb dX7_statement_180 (by decide) (fun c21 => ?_) (fun c21 => ?_)
              · replace hM := itp c21 hM
                refine lv_aload_n hx hb dX7_statement_189 rfl (lv_at hl 0 rfl) ?_
                refine va_ldcS hx hb hown (hSg.2.2.2 7 (by decide)).2 dX7_statement_190 ?_
                obtain ⟨q23, h22, hM⟩ := bd hM
                refine rVRS (wc := (wXM g a0 U0 V0 M0 R0 kv tv)) (As := [.ref (k.1 7)]) (rest := []) (q0 := 0) hS (c_X7_isWord l g k a0 kv tv U0 V0 M0 R0 7 (by decide) h22) gX7_statement_X7_isWord rfl hd_X7_isWord ⟨Nat.le_of_ble_eq_true rfl, Nat.le_of_ble_eq_true rfl⟩ hK hSg hw.2.2 (va_P.pm hw.1 (pm_1_0 _)) rfl rfl rfl rfl hl.1 rfl (Nat.le_of_ble_eq_true rfl) dX7_statement_192 ⟨Nat.zero_le _, Nat.zero_le _⟩ ?_
                refine lv_if_eq (tgt := 204) hx hb dX7_statement_195 (by decide) (fun c24 => ?_) (fun c24 => ?_)
                · replace hM := itp c24 hM
                  refine lv_aload_n hx hb dX7_statement_204 rfl (lv_at hl 0 rfl) ?_
                  refine va_ldcS hx hb hown (hSg.2.2.2 8 (by decide)).2 dX7_statement_205 ?_
                  obtain ⟨q26, h25, hM⟩ := bd hM
                  refine rVRS (wc := (wXM g a0 U0 V0 M0 R0 kv tv)) (As := [.ref (k.1 8)]) (rest := []) (q0 := 0) hS (c_X7_isWord l g k a0 kv tv U0 V0 M0 R0 8 (by decide) h25) gX7_statement_X7_isWord rfl hd_X7_isWord ⟨Nat.le_of_ble_eq_true rfl, Nat.le_of_ble_eq_true rfl⟩ hK hSg hw.2.2 (va_P.pm hw.1 (pm_1_0 _)) rfl rfl rfl rfl hl.1 rfl (Nat.le_of_ble_eq_true rfl) dX7_statement_207 ⟨Nat.zero_le _, Nat.zero_le _⟩ ?_
                  refine lv_if_eq (tgt := 221) hx hb dX7_statement_210 (by decide) (fun c27 => ?_) (fun c27 => ?_)
                  · replace hM := itp c27 hM
                    refine lv_aload_n hx hb dX7_statement_221 rfl (lv_at hl 0 rfl) ?_
                    obtain ⟨q29, h28, hM⟩ := bd hM
                    refine rVWp (wc := (wXM g a0 U0 V0 M0 R0 kv tv)) (wq := (wXM g a0 U0 q29.2 M0 R0 kv tv)) (As := []) (rest := []) (q0 := 0) hS (c_X7_wrong l g a0 kv tv U0 V0 M0 R0 h28) gX7_statement_X7_wrong rfl hd_X7_wrong ⟨Nat.le_of_ble_eq_true rfl, Nat.le_of_ble_eq_true rfl⟩ hK hw hA (pm_1_0 _) rfl (pm_1_0 _) rfl rfl rfl rfl hl.1 rfl (Nat.le_of_ble_eq_true rfl) dX7_statement_222 ⟨Nat.zero_le _, Nat.zero_le _⟩ (fun H locs hw => ?_)
                    obtain rfl := Option.some.inj hM
                    exact W.zret hx hb hr (nz (bz_X7_wrong h28)) (fun t ht _ => ⟨rfl, by rw [ht]; exact hw.1, hw.2.2.F ht⟩) hw.2.2.2.2 dX7_statement_225
                  · replace hM := itn c27 hM
                    refine lv_aload_n hx hb dX7_statement_213 rfl (lv_at hl 0 rfl) ?_
                    refine lv_iconst (v := (2 : Int32)) hx hb dX7_statement_214 (by decide) ?_
                    obtain ⟨q31, h30, hM⟩ := bd hM
                    refine rVWp (wc := (wXM g a0 U0 V0 M0 R0 kv tv)) (wq := (wXM g a0 q31.2.1 q31.2.2 M0 R0 kv tv)) (As := [.int (2 : Int32)]) (rest := []) (q0 := 0) hS (c_X7_askedTold l g a0 kv tv U0 V0 M0 R0 (2 : Int32) h30) gX7_statement_X7_askedTold rfl hd_X7_askedTold ⟨Nat.le_of_ble_eq_true rfl, Nat.le_of_ble_eq_true rfl⟩ hK hw hA (pm_1_0 _) rfl (pm_1_0 _) rfl rfl rfl rfl hl.1 rfl (Nat.le_of_ble_eq_true rfl) dX7_statement_215 ⟨Nat.zero_le _, Nat.zero_le _⟩ (fun H locs hw => ?_)
                    refine lv_goto (tgt := 225) hx hb dX7_statement_218 (by decide) ?_
                    obtain rfl := Option.some.inj hM
                    exact W.zret hx hb hr (nz (bz_X7_askedTold h30)) (fun t ht _ => ⟨rfl, by rw [ht]; exact hw.1, hw.2.2.F ht⟩) hw.2.2.2.2 dX7_statement_225
                · replace hM := itn c24 hM
                  refine lv_aload_n hx hb dX7_statement_198 rfl (lv_at hl 0 rfl) ?_
                  refine lv_iconst (v := (1 : Int32)) hx hb dX7_statement_199 (by decide) ?_
                  obtain ⟨q33, h32, hM⟩ := bd hM
                  refine rVWp (wc := (wXM g a0 U0 V0 M0 R0 kv tv)) (wq := (wXM g a0 q33.2.1 q33.2.2 M0 R0 kv tv)) (As := [.int (1 : Int32)]) (rest := []) (q0 := 0) hS (c_X7_askedTold l g a0 kv tv U0 V0 M0 R0 (1 : Int32) h32) gX7_statement_X7_askedTold rfl hd_X7_askedTold ⟨Nat.le_of_ble_eq_true rfl, Nat.le_of_ble_eq_true rfl⟩ hK hw hA (pm_1_0 _) rfl (pm_1_0 _) rfl rfl rfl rfl hl.1 rfl (Nat.le_of_ble_eq_true rfl) dX7_statement_200 ⟨Nat.zero_le _, Nat.zero_le _⟩ (fun H locs hw => ?_)
                  obtain rfl := Option.some.inj hM
                  exact W.zret hx hb hr (nz (bz_X7_askedTold h32)) (fun t ht _ => ⟨rfl, by rw [ht]; exact hw.1, hw.2.2.F ht⟩) hw.2.2.2.2 dX7_statement_203
              · replace hM := itn c21 hM
                refine lv_aload_n hx hb dX7_statement_183 rfl (lv_at hl 0 rfl) ?_
                refine lv_iconst (v := (0 : Int32)) hx hb dX7_statement_184 (by decide) ?_
                obtain ⟨q35, h34, hM⟩ := bd hM
                refine rVWp (wc := (wXM g a0 U0 V0 M0 R0 kv tv)) (wq := (wXM g a0 q35.2.1 q35.2.2 M0 R0 kv tv)) (As := [.int (0 : Int32)]) (rest := []) (q0 := 0) hS (c_X7_askedTold l g a0 kv tv U0 V0 M0 R0 (0 : Int32) h34) gX7_statement_X7_askedTold rfl hd_X7_askedTold ⟨Nat.le_of_ble_eq_true rfl, Nat.le_of_ble_eq_true rfl⟩ hK hw hA (pm_1_0 _) rfl (pm_1_0 _) rfl rfl rfl rfl hl.1 rfl (Nat.le_of_ble_eq_true rfl) dX7_statement_185 ⟨Nat.zero_le _, Nat.zero_le _⟩ (fun H locs hw => ?_)
                obtain rfl := Option.some.inj hM
                exact W.zret hx hb hr (nz (bz_X7_askedTold h34)) (fun t ht _ => ⟨rfl, by rw [ht]; exact hw.1, hw.2.2.F ht⟩) hw.2.2.2.2 dX7_statement_188
            · replace hM := itn c18 hM
              refine lv_aload_n hx hb dX7_statement_169 rfl (lv_at hl 0 rfl) ?_
              obtain ⟨q37, h36, hM⟩ := bd hM
              refine rVWp (wc := (wXM g a0 U0 V0 M0 R0 kv tv)) (wq := (wXM g a0 q37.2.1 q37.2.2 M0 R0 kv tv)) (As := []) (rest := []) (q0 := 0) hS (c_X7_nearTold l g a0 kv tv U0 V0 M0 R0 h36) gX7_statement_X7_nearTold rfl hd_X7_nearTold ⟨Nat.le_of_ble_eq_true rfl, Nat.le_of_ble_eq_true rfl⟩ hK hw hA (pm_1_0 _) rfl (pm_1_0 _) rfl rfl rfl rfl hl.1 rfl (Nat.le_of_ble_eq_true rfl) dX7_statement_170 ⟨Nat.zero_le _, Nat.zero_le _⟩ (fun H locs hw => ?_)
              obtain rfl := Option.some.inj hM
              exact W.zret hx hb hr (nz (bz_X7_nearTold h36)) (fun t ht _ => ⟨rfl, by rw [ht]; exact hw.1, hw.2.2.F ht⟩) hw.2.2.2.2 dX7_statement_173
          · replace hM := itn c15 hM
            refine lv_aload_n hx hb dX7_statement_105 rfl (lv_at hl 0 rfl) ?_
            refine lv_iconst (v := (0 : Int32)) hx hb dX7_statement_106 (by decide) ?_
            refine lv_aload_n hx hb dX7_statement_107 rfl (lv_at hl 0 rfl) ?_
            refine wk_get hx hb hts hin_X7 hown hK hw.1 7 0 10 (.int (U0 10 0)) rfl rfl (by decide) (mi 3 rfl) rfl rfl dX7_statement_108 ?_
            refine lv_iconst (v := (1 : Int32)) hx hb dX7_statement_111 (by decide) ?_
            refine lv_isub hx hb dX7_statement_112 ?_
            obtain ⟨q39, h38, hM⟩ := bd hM
            refine rVWp (wc := (wXM g a0 U0 V0 M0 R0 kv tv)) (wq := (wXM g a0 U0 q39.2 M0 R0 kv tv)) (As := [.int (0 : Int32), .int ((U0 10 0) - (1 : Int32))]) (rest := []) (q0 := 0) hS (c_X7_tells l g a0 kv tv U0 V0 M0 R0 (0 : Int32) ((U0 10 0) - (1 : Int32)) h38) gX7_statement_X7_tells rfl hd_X7_tells ⟨Nat.le_of_ble_eq_true rfl, Nat.le_of_ble_eq_true rfl⟩ hK hw hA (pm_1_0 _) rfl (pm_1_0 _) rfl rfl rfl rfl hl.1 rfl (Nat.le_of_ble_eq_true rfl) dX7_statement_113 ⟨Nat.zero_le _, Nat.zero_le _⟩ (fun H locs hw => ?_)
            refine lv_if_eq (tgt := 134) hx hb dX7_statement_116 (by decide) (fun c40 => ?_) (fun c40 => ?_)
            · replace hM := itp c40 hM
              refine lv_iconst (v := (0 : Int32)) hx hb dX7_statement_134 (by decide) ?_
              obtain rfl := Option.some.inj hM
              exact W.zret hx hb hr (nz (Or.inl rfl)) (fun t ht _ => ⟨rfl, by rw [ht]; exact hw.1, hw.2.2.F ht⟩) hw.2.2.2.2 dX7_statement_135
            · replace hM := itn c40 hM
              refine lv_aload_n hx hb dX7_statement_119 rfl (lv_at hl 0 rfl) ?_
              refine lv_iconst (v := (1 : Int32)) hx hb dX7_statement_120 (by decide) ?_
              refine lv_iconst (v := (0 : Int32)) hx hb dX7_statement_121 (by decide) ?_
              refine lv_aload_n hx hb dX7_statement_122 rfl (lv_at hl 0 rfl) ?_
              refine wk_get hx hb hts hin_X7 hown hK hw.1 7 0 9 (.int (U0 9 0)) rfl rfl (by decide) (mi 1 rfl) rfl rfl dX7_statement_123 ?_
              refine lv_iconst (v := (1 : Int32)) hx hb dX7_statement_126 (by decide) ?_
              refine lv_isub hx hb dX7_statement_127 ?_
              obtain ⟨q42, h41, hM⟩ := bd hM
              refine rVWp (wc := (wXM g a0 U0 q39.2 M0 R0 kv tv)) (wq := (wXM g a0 U0 q42.2 M0 R0 kv tv)) (As := [.int (1 : Int32), .int (0 : Int32), .int ((U0 9 0) - (1 : Int32))]) (rest := []) (q0 := 0) hS (c_X7_number l g a0 kv tv U0 q39.2 M0 R0 (1 : Int32) (0 : Int32) ((U0 9 0) - (1 : Int32)) h41) gX7_statement_X7_number rfl hd_X7_number ⟨Nat.le_of_ble_eq_true rfl, Nat.le_of_ble_eq_true rfl⟩ hK hw hA (pm_1_0 _) rfl (pm_1_0 _) rfl rfl rfl rfl hl.1 rfl (Nat.le_of_ble_eq_true rfl) dX7_statement_128 ⟨Nat.zero_le _, Nat.zero_le _⟩ (fun H locs hw => ?_)
              refine lv_if_ne (tgt := 136) hx hb dX7_statement_131 (by decide) (fun c43 => ?_) (fun c43 => ?_)
              · replace hM := itn c43 hM
                refine lv_aload_n hx hb dX7_statement_136 rfl (lv_at hl 0 rfl) ?_
                refine wk_get hx hb hts hin_X7 hown hK hw.1 7 0 15 (.ref (a0 5)) rfl rfl (by decide) (mi 4 rfl) rfl rfl dX7_statement_137 ?_
                refine lv_aload_n hx hb dX7_statement_140 rfl (lv_at hl 0 rfl) ?_
                refine wk_get hx hb hts hin_X7 hown hK hw.1 7 0 27 (.ref (a0 17)) rfl rfl (by decide) (mi 2 rfl) rfl rfl dX7_statement_141 ?_
                refine lv_iconst (v := (0 : Int32)) hx hb dX7_statement_144 (by decide) ?_
                refine wk_iald hx hb hK hw.1 17 2 (q42.2 27) rfl (by decide) dX7_statement_145 ?_
                refine lv_dup2_11 hx hb dX7_statement_146 rfl rfl ?_
                obtain ⟨k44, hM⟩ := ck hM
                refine wk_iald hx hb hK hw.1 5 7 (U0 15) rfl k44 dX7_statement_147 ?_
                refine lv_iconst (v := (1 : Int32)) hx hb dX7_statement_148 (by decide) ?_
                refine lv_aload_n hx hb dX7_statement_149 rfl (lv_at hl 0 rfl) ?_
                refine wk_get hx hb hts hin_X7 hown hK hw.1 7 0 27 (.ref (a0 17)) rfl rfl (by decide) (mi 2 rfl) rfl rfl dX7_statement_150 ?_
                refine lv_iconst (v := (1 : Int32)) hx hb dX7_statement_153 (by decide) ?_
                refine wk_iald hx hb hK hw.1 17 2 (q42.2 27) rfl (by decide) dX7_statement_154 ?_
                refine lv_ishl hx hb dX7_statement_155 ?_
                refine lv_ior hx hb dX7_statement_156 ?_
                refine wk_iast (wq := (wXM g a0 (up U0 15 (upd (U0 15) (((q42.2 27) ((0 : Int32)).toNatClampNeg)).toNatClampNeg (((U0 15) (((q42.2 27) ((0 : Int32)).toNatClampNeg)).toNatClampNeg) ||| ((1 : Int32) <<< (((q42.2 27) ((1 : Int32)).toNatClampNeg) &&& 31))))) q42.2 M0 R0 kv tv)) hx hb hK hw 5 7 (U0 15) rfl k44 dX7_statement_157 rfl (fun H locs hw => ?_)
                refine lv_iconst (v := (1 : Int32)) hx hb dX7_statement_158 (by decide) ?_
                obtain rfl := Option.some.inj hM
                exact W.zret hx hb hr (nz (Or.inr rfl)) (fun t ht _ => ⟨rfl, by rw [ht]; exact hw.1, hw.2.2.F ht⟩) hw.2.2.2.2 dX7_statement_159
              · replace hM := itp c43 hM
                refine lv_iconst (v := (0 : Int32)) hx hb dX7_statement_134 (by decide) ?_
                obtain rfl := Option.some.inj hM
                exact W.zret hx hb hr (nz (Or.inl rfl)) (fun t ht _ => ⟨rfl, by rw [ht]; exact hw.1, hw.2.2.F ht⟩) hw.2.2.2.2 dX7_statement_135
        · replace hM := itn c12 hM
          refine lv_aload_n hx hb dX7_statement_90 rfl (lv_at hl 0 rfl) ?_
          refine lv_iconst (v := (1 : Int32)) hx hb dX7_statement_91 (by decide) ?_
          obtain ⟨q46, h45, hM⟩ := bd hM
          refine rVWp (wc := (wXM g a0 U0 V0 M0 R0 kv tv)) (wq := (wXM g a0 q46.2.1 q46.2.2 M0 R0 kv tv)) (As := [.int (1 : Int32)]) (rest := []) (q0 := 0) hS (c_X7_seenTold l g a0 kv tv U0 V0 M0 R0 (1 : Int32) h45) gX7_statement_X7_seenTold rfl hd_X7_seenTold ⟨Nat.le_of_ble_eq_true rfl, Nat.le_of_ble_eq_true rfl⟩ hK hw hA (pm_1_0 _) rfl (pm_1_0 _) rfl rfl rfl rfl hl.1 rfl (Nat.le_of_ble_eq_true rfl) dX7_statement_92 ⟨Nat.zero_le _, Nat.zero_le _⟩ (fun H locs hw => ?_)
          obtain rfl := Option.some.inj hM
          exact W.zret hx hb hr (nz (bz_X7_seenTold h45)) (fun t ht _ => ⟨rfl, by rw [ht]; exact hw.1, hw.2.2.F ht⟩) hw.2.2.2.2 dX7_statement_95
      · replace hM := itn c9 hM
        refine lv_aload_n hx hb dX7_statement_75 rfl (lv_at hl 0 rfl) ?_
        refine lv_iconst (v := (2 : Int32)) hx hb dX7_statement_76 (by decide) ?_
        obtain ⟨q48, h47, hM⟩ := bd hM
        refine rVWp (wc := (wXM g a0 U0 V0 M0 R0 kv tv)) (wq := (wXM g a0 q48.2.1 q48.2.2 M0 R0 kv tv)) (As := [.int (2 : Int32)]) (rest := []) (q0 := 0) hS (c_X7_seenTold l g a0 kv tv U0 V0 M0 R0 (2 : Int32) h47) gX7_statement_X7_seenTold rfl hd_X7_seenTold ⟨Nat.le_of_ble_eq_true rfl, Nat.le_of_ble_eq_true rfl⟩ hK hw hA (pm_1_0 _) rfl (pm_1_0 _) rfl rfl rfl rfl hl.1 rfl (Nat.le_of_ble_eq_true rfl) dX7_statement_77 ⟨Nat.zero_le _, Nat.zero_le _⟩ (fun H locs hw => ?_)
        obtain rfl := Option.some.inj hM
        exact W.zret hx hb hr (nz (bz_X7_seenTold h47)) (fun t ht _ => ⟨rfl, by rw [ht]; exact hw.1, hw.2.2.F ht⟩) hw.2.2.2.2 dX7_statement_80
    · replace hM := itn c6 hM
      refine lv_aload_n hx hb dX7_statement_52 rfl (lv_at hl 0 rfl) ?_
      refine wk_get hx hb hts hin_X7 hown hK hw.1 7 0 10 (.int (U0 10 0)) rfl rfl (by decide) (mi 3 rfl) rfl rfl dX7_statement_53 ?_
      refine lv_bipush (v := (7 : Int32)) hx hb dX7_statement_56 (by decide) ?_
      refine lv_icmp_ge (tgt := 66) hx hb dX7_statement_58 (by decide) (fun c49 => ?_) (fun c49 => ?_)
      · replace hM := itp c49 hM
        refine lv_aload_n hx hb dX7_statement_66 rfl (lv_at hl 0 rfl) ?_
        refine va_ldcS hx hb hown (hSg.2.2.2 2 (by decide)).2 dX7_statement_67 ?_
        obtain ⟨q51, h50, hM⟩ := bd hM
        refine rVRS (wc := (wXM g a0 U0 V0 M0 R0 kv tv)) (As := [.ref (k.1 2)]) (rest := []) (q0 := 0) hS (c_X7_isWord l g k a0 kv tv U0 V0 M0 R0 2 (by decide) h50) gX7_statement_X7_isWord rfl hd_X7_isWord ⟨Nat.le_of_ble_eq_true rfl, Nat.le_of_ble_eq_true rfl⟩ hK hSg hw.2.2 (va_P.pm hw.1 (pm_1_0 _)) rfl rfl rfl rfl hl.1 rfl (Nat.le_of_ble_eq_true rfl) dX7_statement_69 ⟨Nat.zero_le _, Nat.zero_le _⟩ ?_
        refine lv_if_eq (tgt := 81) hx hb dX7_statement_72 (by decide) (fun c52 => ?_) (fun c52 => ?_)
        · replace hM := itp c52 hM
          refine lv_aload_n hx hb dX7_statement_81 rfl (lv_at hl 0 rfl) ?_
          refine va_ldcS hx hb hown (hSg.2.2.2 3 (by decide)).2 dX7_statement_82 ?_
          obtain ⟨q54, h53, hM⟩ := bd hM
          refine rVRS (wc := (wXM g a0 U0 V0 M0 R0 kv tv)) (As := [.ref (k.1 3)]) (rest := []) (q0 := 0) hS (c_X7_isWord l g k a0 kv tv U0 V0 M0 R0 3 (by decide) h53) gX7_statement_X7_isWord rfl hd_X7_isWord ⟨Nat.le_of_ble_eq_true rfl, Nat.le_of_ble_eq_true rfl⟩ hK hSg hw.2.2 (va_P.pm hw.1 (pm_1_0 _)) rfl rfl rfl rfl hl.1 rfl (Nat.le_of_ble_eq_true rfl) dX7_statement_84 ⟨Nat.zero_le _, Nat.zero_le _⟩ ?_
          refine lv_if_eq (tgt := 96) hx hb dX7_statement_87 (by decide) (fun c55 => ?_) (fun c55 => ?_)
          · replace hM := itp c55 hM
            refine lv_aload_n hx hb dX7_statement_96 rfl (lv_at hl 0 rfl) ?_
            refine va_ldcS hx hb hown (hSg.2.2.2 4 (by decide)).2 dX7_statement_97 ?_
            obtain ⟨q57, h56, hM⟩ := bd hM
            refine rVRS (wc := (wXM g a0 U0 V0 M0 R0 kv tv)) (As := [.ref (k.1 4)]) (rest := []) (q0 := 0) hS (c_X7_isWord l g k a0 kv tv U0 V0 M0 R0 4 (by decide) h56) gX7_statement_X7_isWord rfl hd_X7_isWord ⟨Nat.le_of_ble_eq_true rfl, Nat.le_of_ble_eq_true rfl⟩ hK hSg hw.2.2 (va_P.pm hw.1 (pm_1_0 _)) rfl rfl rfl rfl hl.1 rfl (Nat.le_of_ble_eq_true rfl) dX7_statement_99 ⟨Nat.zero_le _, Nat.zero_le _⟩ ?_
            refine lv_if_eq (tgt := 160) hx hb dX7_statement_102 (by decide) (fun c58 => ?_) (fun c58 => ?_)
            · replace hM := itp c58 hM
              refine lv_aload_n hx hb dX7_statement_160 rfl (lv_at hl 0 rfl) ?_
              refine va_ldcS hx hb hown (hSg.2.2.2 5 (by decide)).2 dX7_statement_161 ?_
              obtain ⟨q60, h59, hM⟩ := bd hM
              refine rVRS (wc := (wXM g a0 U0 V0 M0 R0 kv tv)) (As := [.ref (k.1 5)]) (rest := []) (q0 := 0) hS (c_X7_isWord l g k a0 kv tv U0 V0 M0 R0 5 (by decide) h59) gX7_statement_X7_isWord rfl hd_X7_isWord ⟨Nat.le_of_ble_eq_true rfl, Nat.le_of_ble_eq_true rfl⟩ hK hSg hw.2.2 (va_P.pm hw.1 (pm_1_0 _)) rfl rfl rfl rfl hl.1 rfl (Nat.le_of_ble_eq_true rfl) dX7_statement_163 ⟨Nat.zero_le _, Nat.zero_le _⟩ ?_
              refine lv_if_eq (tgt := 174) hx hb dX7_statement_166 (by decide) (fun c61 => ?_) (fun c61 => ?_)
              · replace hM := itp c61 hM
                refine lv_aload_n hx hb dX7_statement_174 rfl (lv_at hl 0 rfl) ?_
                refine va_ldcS hx hb hown (hSg.2.2.2 6 (by decide)).2 dX7_statement_175 ?_
                obtain ⟨q63, h62, hM⟩ := bd hM
                refine rVRS (wc := (wXM g a0 U0 V0 M0 R0 kv tv)) (As := [.ref (k.1 6)]) (rest := []) (q0 := 0) hS (c_X7_isWord l g k a0 kv tv U0 V0 M0 R0 6 (by decide) h62) gX7_statement_X7_isWord rfl hd_X7_isWord ⟨Nat.le_of_ble_eq_true rfl, Nat.le_of_ble_eq_true rfl⟩ hK hSg hw.2.2 (va_P.pm hw.1 (pm_1_0 _)) rfl rfl rfl rfl hl.1 rfl (Nat.le_of_ble_eq_true rfl) dX7_statement_177 ⟨Nat.zero_le _, Nat.zero_le _⟩ ?_
                refine lv_if_eq (tgt := 189) hx hb dX7_statement_180 (by decide) (fun c64 => ?_) (fun c64 => ?_)
                · replace hM := itp c64 hM
                  refine lv_aload_n hx hb dX7_statement_189 rfl (lv_at hl 0 rfl) ?_
                  refine va_ldcS hx hb hown (hSg.2.2.2 7 (by decide)).2 dX7_statement_190 ?_
                  obtain ⟨q66, h65, hM⟩ := bd hM
                  refine rVRS (wc := (wXM g a0 U0 V0 M0 R0 kv tv)) (As := [.ref (k.1 7)]) (rest := []) (q0 := 0) hS (c_X7_isWord l g k a0 kv tv U0 V0 M0 R0 7 (by decide) h65) gX7_statement_X7_isWord rfl hd_X7_isWord ⟨Nat.le_of_ble_eq_true rfl, Nat.le_of_ble_eq_true rfl⟩ hK hSg hw.2.2 (va_P.pm hw.1 (pm_1_0 _)) rfl rfl rfl rfl hl.1 rfl (Nat.le_of_ble_eq_true rfl) dX7_statement_192 ⟨Nat.zero_le _, Nat.zero_le _⟩ ?_
                  refine lv_if_eq (tgt := 204) hx hb dX7_statement_195 (by decide) (fun c67 => ?_) (fun c67 => ?_)
                  · replace hM := itp c67 hM
                    refine lv_aload_n hx hb dX7_statement_204 rfl (lv_at hl 0 rfl) ?_
                    refine va_ldcS hx hb hown (hSg.2.2.2 8 (by decide)).2 dX7_statement_205 ?_
                    obtain ⟨q69, h68, hM⟩ := bd hM
                    refine rVRS (wc := (wXM g a0 U0 V0 M0 R0 kv tv)) (As := [.ref (k.1 8)]) (rest := []) (q0 := 0) hS (c_X7_isWord l g k a0 kv tv U0 V0 M0 R0 8 (by decide) h68) gX7_statement_X7_isWord rfl hd_X7_isWord ⟨Nat.le_of_ble_eq_true rfl, Nat.le_of_ble_eq_true rfl⟩ hK hSg hw.2.2 (va_P.pm hw.1 (pm_1_0 _)) rfl rfl rfl rfl hl.1 rfl (Nat.le_of_ble_eq_true rfl) dX7_statement_207 ⟨Nat.zero_le _, Nat.zero_le _⟩ ?_
                    refine lv_if_eq (tgt := 221) hx hb dX7_statement_210 (by decide) (fun c70 => ?_) (fun c70 => ?_)
                    · replace hM := itp c70 hM
                      refine lv_aload_n hx hb dX7_statement_221 rfl (lv_at hl 0 rfl) ?_
                      obtain ⟨q72, h71, hM⟩ := bd hM
                      refine rVWp (wc := (wXM g a0 U0 V0 M0 R0 kv tv)) (wq := (wXM g a0 U0 q72.2 M0 R0 kv tv)) (As := []) (rest := []) (q0 := 0) hS (c_X7_wrong l g a0 kv tv U0 V0 M0 R0 h71) gX7_statement_X7_wrong rfl hd_X7_wrong ⟨Nat.le_of_ble_eq_true rfl, Nat.le_of_ble_eq_true rfl⟩ hK hw hA (pm_1_0 _) rfl (pm_1_0 _) rfl rfl rfl rfl hl.1 rfl (Nat.le_of_ble_eq_true rfl) dX7_statement_222 ⟨Nat.zero_le _, Nat.zero_le _⟩ (fun H locs hw => ?_)
                      obtain rfl := Option.some.inj hM
                      exact W.zret hx hb hr (nz (bz_X7_wrong h71)) (fun t ht _ => ⟨rfl, by rw [ht]; exact hw.1, hw.2.2.F ht⟩) hw.2.2.2.2 dX7_statement_225
                    · replace hM := itn c70 hM
                      refine lv_aload_n hx hb dX7_statement_213 rfl (lv_at hl 0 rfl) ?_
                      refine lv_iconst (v := (2 : Int32)) hx hb dX7_statement_214 (by decide) ?_
                      obtain ⟨q74, h73, hM⟩ := bd hM
                      refine rVWp (wc := (wXM g a0 U0 V0 M0 R0 kv tv)) (wq := (wXM g a0 q74.2.1 q74.2.2 M0 R0 kv tv)) (As := [.int (2 : Int32)]) (rest := []) (q0 := 0) hS (c_X7_askedTold l g a0 kv tv U0 V0 M0 R0 (2 : Int32) h73) gX7_statement_X7_askedTold rfl hd_X7_askedTold ⟨Nat.le_of_ble_eq_true rfl, Nat.le_of_ble_eq_true rfl⟩ hK hw hA (pm_1_0 _) rfl (pm_1_0 _) rfl rfl rfl rfl hl.1 rfl (Nat.le_of_ble_eq_true rfl) dX7_statement_215 ⟨Nat.zero_le _, Nat.zero_le _⟩ (fun H locs hw => ?_)
                      refine lv_goto (tgt := 225) hx hb dX7_statement_218 (by decide) ?_
                      obtain rfl := Option.some.inj hM
                      exact W.zret hx hb hr (nz (bz_X7_askedTold h73)) (fun t ht _ => ⟨rfl, by rw [ht]; exact hw.1, hw.2.2.F ht⟩) hw.2.2.2.2 dX7_statement_225
                  · replace hM := itn c67 hM
                    refine lv_aload_n hx hb dX7_statement_198 rfl (lv_at hl 0 rfl) ?_
                    refine lv_iconst (v := (1 : Int32)) hx hb dX7_statement_199 (by decide) ?_
                    obtain ⟨q76, h75, hM⟩ := bd hM
                    refine rVWp (wc := (wXM g a0 U0 V0 M0 R0 kv tv)) (wq := (wXM g a0 q76.2.1 q76.2.2 M0 R0 kv tv)) (As := [.int (1 : Int32)]) (rest := []) (q0 := 0) hS (c_X7_askedTold l g a0 kv tv U0 V0 M0 R0 (1 : Int32) h75) gX7_statement_X7_askedTold rfl hd_X7_askedTold ⟨Nat.le_of_ble_eq_true rfl, Nat.le_of_ble_eq_true rfl⟩ hK hw hA (pm_1_0 _) rfl (pm_1_0 _) rfl rfl rfl rfl hl.1 rfl (Nat.le_of_ble_eq_true rfl) dX7_statement_200 ⟨Nat.zero_le _, Nat.zero_le _⟩ (fun H locs hw => ?_)
                    obtain rfl := Option.some.inj hM
                    exact W.zret hx hb hr (nz (bz_X7_askedTold h75)) (fun t ht _ => ⟨rfl, by rw [ht]; exact hw.1, hw.2.2.F ht⟩) hw.2.2.2.2 dX7_statement_203
                · replace hM := itn c64 hM
                  refine lv_aload_n hx hb dX7_statement_183 rfl (lv_at hl 0 rfl) ?_
                  refine lv_iconst (v := (0 : Int32)) hx hb dX7_statement_184 (by decide) ?_
                  obtain ⟨q78, h77, hM⟩ := bd hM
                  refine rVWp (wc := (wXM g a0 U0 V0 M0 R0 kv tv)) (wq := (wXM g a0 q78.2.1 q78.2.2 M0 R0 kv tv)) (As := [.int (0 : Int32)]) (rest := []) (q0 := 0) hS (c_X7_askedTold l g a0 kv tv U0 V0 M0 R0 (0 : Int32) h77) gX7_statement_X7_askedTold rfl hd_X7_askedTold ⟨Nat.le_of_ble_eq_true rfl, Nat.le_of_ble_eq_true rfl⟩ hK hw hA (pm_1_0 _) rfl (pm_1_0 _) rfl rfl rfl rfl hl.1 rfl (Nat.le_of_ble_eq_true rfl) dX7_statement_185 ⟨Nat.zero_le _, Nat.zero_le _⟩ (fun H locs hw => ?_)
                  obtain rfl := Option.some.inj hM
                  exact W.zret hx hb hr (nz (bz_X7_askedTold h77)) (fun t ht _ => ⟨rfl, by rw [ht]; exact hw.1, hw.2.2.F ht⟩) hw.2.2.2.2 dX7_statement_188
              · replace hM := itn c61 hM
                refine lv_aload_n hx hb dX7_statement_169 rfl (lv_at hl 0 rfl) ?_
                obtain ⟨q80, h79, hM⟩ := bd hM
                refine rVWp (wc := (wXM g a0 U0 V0 M0 R0 kv tv)) (wq := (wXM g a0 q80.2.1 q80.2.2 M0 R0 kv tv)) (As := []) (rest := []) (q0 := 0) hS (c_X7_nearTold l g a0 kv tv U0 V0 M0 R0 h79) gX7_statement_X7_nearTold rfl hd_X7_nearTold ⟨Nat.le_of_ble_eq_true rfl, Nat.le_of_ble_eq_true rfl⟩ hK hw hA (pm_1_0 _) rfl (pm_1_0 _) rfl rfl rfl rfl hl.1 rfl (Nat.le_of_ble_eq_true rfl) dX7_statement_170 ⟨Nat.zero_le _, Nat.zero_le _⟩ (fun H locs hw => ?_)
                obtain rfl := Option.some.inj hM
                exact W.zret hx hb hr (nz (bz_X7_nearTold h79)) (fun t ht _ => ⟨rfl, by rw [ht]; exact hw.1, hw.2.2.F ht⟩) hw.2.2.2.2 dX7_statement_173
            · replace hM := itn c58 hM
              refine lv_aload_n hx hb dX7_statement_105 rfl (lv_at hl 0 rfl) ?_
              refine lv_iconst (v := (0 : Int32)) hx hb dX7_statement_106 (by decide) ?_
              refine lv_aload_n hx hb dX7_statement_107 rfl (lv_at hl 0 rfl) ?_
              refine wk_get hx hb hts hin_X7 hown hK hw.1 7 0 10 (.int (U0 10 0)) rfl rfl (by decide) (mi 3 rfl) rfl rfl dX7_statement_108 ?_
              refine lv_iconst (v := (1 : Int32)) hx hb dX7_statement_111 (by decide) ?_
              refine lv_isub hx hb dX7_statement_112 ?_
              obtain ⟨q82, h81, hM⟩ := bd hM
              refine rVWp (wc := (wXM g a0 U0 V0 M0 R0 kv tv)) (wq := (wXM g a0 U0 q82.2 M0 R0 kv tv)) (As := [.int (0 : Int32), .int ((U0 10 0) - (1 : Int32))]) (rest := []) (q0 := 0) hS (c_X7_tells l g a0 kv tv U0 V0 M0 R0 (0 : Int32) ((U0 10 0) - (1 : Int32)) h81) gX7_statement_X7_tells rfl hd_X7_tells ⟨Nat.le_of_ble_eq_true rfl, Nat.le_of_ble_eq_true rfl⟩ hK hw hA (pm_1_0 _) rfl (pm_1_0 _) rfl rfl rfl rfl hl.1 rfl (Nat.le_of_ble_eq_true rfl) dX7_statement_113 ⟨Nat.zero_le _, Nat.zero_le _⟩ (fun H locs hw => ?_)
              refine lv_if_eq (tgt := 134) hx hb dX7_statement_116 (by decide) (fun c83 => ?_) (fun c83 => ?_)
              · replace hM := itp c83 hM
                refine lv_iconst (v := (0 : Int32)) hx hb dX7_statement_134 (by decide) ?_
                obtain rfl := Option.some.inj hM
                exact W.zret hx hb hr (nz (Or.inl rfl)) (fun t ht _ => ⟨rfl, by rw [ht]; exact hw.1, hw.2.2.F ht⟩) hw.2.2.2.2 dX7_statement_135
              · replace hM := itn c83 hM
                refine lv_aload_n hx hb dX7_statement_119 rfl (lv_at hl 0 rfl) ?_
                refine lv_iconst (v := (1 : Int32)) hx hb dX7_statement_120 (by decide) ?_
                refine lv_iconst (v := (0 : Int32)) hx hb dX7_statement_121 (by decide) ?_
                refine lv_aload_n hx hb dX7_statement_122 rfl (lv_at hl 0 rfl) ?_
                refine wk_get hx hb hts hin_X7 hown hK hw.1 7 0 9 (.int (U0 9 0)) rfl rfl (by decide) (mi 1 rfl) rfl rfl dX7_statement_123 ?_
                refine lv_iconst (v := (1 : Int32)) hx hb dX7_statement_126 (by decide) ?_
                refine lv_isub hx hb dX7_statement_127 ?_
                obtain ⟨q85, h84, hM⟩ := bd hM
                refine rVWp (wc := (wXM g a0 U0 q82.2 M0 R0 kv tv)) (wq := (wXM g a0 U0 q85.2 M0 R0 kv tv)) (As := [.int (1 : Int32), .int (0 : Int32), .int ((U0 9 0) - (1 : Int32))]) (rest := []) (q0 := 0) hS (c_X7_number l g a0 kv tv U0 q82.2 M0 R0 (1 : Int32) (0 : Int32) ((U0 9 0) - (1 : Int32)) h84) gX7_statement_X7_number rfl hd_X7_number ⟨Nat.le_of_ble_eq_true rfl, Nat.le_of_ble_eq_true rfl⟩ hK hw hA (pm_1_0 _) rfl (pm_1_0 _) rfl rfl rfl rfl hl.1 rfl (Nat.le_of_ble_eq_true rfl) dX7_statement_128 ⟨Nat.zero_le _, Nat.zero_le _⟩ (fun H locs hw => ?_)
                refine lv_if_ne (tgt := 136) hx hb dX7_statement_131 (by decide) (fun c86 => ?_) (fun c86 => ?_)
                · replace hM := itn c86 hM
                  refine lv_aload_n hx hb dX7_statement_136 rfl (lv_at hl 0 rfl) ?_
                  refine wk_get hx hb hts hin_X7 hown hK hw.1 7 0 15 (.ref (a0 5)) rfl rfl (by decide) (mi 4 rfl) rfl rfl dX7_statement_137 ?_
                  refine lv_aload_n hx hb dX7_statement_140 rfl (lv_at hl 0 rfl) ?_
                  refine wk_get hx hb hts hin_X7 hown hK hw.1 7 0 27 (.ref (a0 17)) rfl rfl (by decide) (mi 2 rfl) rfl rfl dX7_statement_141 ?_
                  refine lv_iconst (v := (0 : Int32)) hx hb dX7_statement_144 (by decide) ?_
                  refine wk_iald hx hb hK hw.1 17 2 (q85.2 27) rfl (by decide) dX7_statement_145 ?_
                  refine lv_dup2_11 hx hb dX7_statement_146 rfl rfl ?_
                  obtain ⟨k87, hM⟩ := ck hM
                  refine wk_iald hx hb hK hw.1 5 7 (U0 15) rfl k87 dX7_statement_147 ?_
                  refine lv_iconst (v := (1 : Int32)) hx hb dX7_statement_148 (by decide) ?_
                  refine lv_aload_n hx hb dX7_statement_149 rfl (lv_at hl 0 rfl) ?_
                  refine wk_get hx hb hts hin_X7 hown hK hw.1 7 0 27 (.ref (a0 17)) rfl rfl (by decide) (mi 2 rfl) rfl rfl dX7_statement_150 ?_
                  refine lv_iconst (v := (1 : Int32)) hx hb dX7_statement_153 (by decide) ?_
                  refine wk_iald hx hb hK hw.1 17 2 (q85.2 27) rfl (by decide) dX7_statement_154 ?_
                  refine lv_ishl hx hb dX7_statement_155 ?_
                  refine lv_ior hx hb dX7_statement_156 ?_
                  refine wk_iast (wq := (wXM g a0 (up U0 15 (upd (U0 15) (((q85.2 27) ((0 : Int32)).toNatClampNeg)).toNatClampNeg (((U0 15) (((q85.2 27) ((0 : Int32)).toNatClampNeg)).toNatClampNeg) ||| ((1 : Int32) <<< (((q85.2 27) ((1 : Int32)).toNatClampNeg) &&& 31))))) q85.2 M0 R0 kv tv)) hx hb hK hw 5 7 (U0 15) rfl k87 dX7_statement_157 rfl (fun H locs hw => ?_)
                  refine lv_iconst (v := (1 : Int32)) hx hb dX7_statement_158 (by decide) ?_
                  obtain rfl := Option.some.inj hM
                  exact W.zret hx hb hr (nz (Or.inr rfl)) (fun t ht _ => ⟨rfl, by rw [ht]; exact hw.1, hw.2.2.F ht⟩) hw.2.2.2.2 dX7_statement_159
                · replace hM := itp c86 hM
                  refine lv_iconst (v := (0 : Int32)) hx hb dX7_statement_134 (by decide) ?_
                  obtain rfl := Option.some.inj hM
                  exact W.zret hx hb hr (nz (Or.inl rfl)) (fun t ht _ => ⟨rfl, by rw [ht]; exact hw.1, hw.2.2.F ht⟩) hw.2.2.2.2 dX7_statement_135
          · replace hM := itn c55 hM
            refine lv_aload_n hx hb dX7_statement_90 rfl (lv_at hl 0 rfl) ?_
            refine lv_iconst (v := (1 : Int32)) hx hb dX7_statement_91 (by decide) ?_
            obtain ⟨q89, h88, hM⟩ := bd hM
            refine rVWp (wc := (wXM g a0 U0 V0 M0 R0 kv tv)) (wq := (wXM g a0 q89.2.1 q89.2.2 M0 R0 kv tv)) (As := [.int (1 : Int32)]) (rest := []) (q0 := 0) hS (c_X7_seenTold l g a0 kv tv U0 V0 M0 R0 (1 : Int32) h88) gX7_statement_X7_seenTold rfl hd_X7_seenTold ⟨Nat.le_of_ble_eq_true rfl, Nat.le_of_ble_eq_true rfl⟩ hK hw hA (pm_1_0 _) rfl (pm_1_0 _) rfl rfl rfl rfl hl.1 rfl (Nat.le_of_ble_eq_true rfl) dX7_statement_92 ⟨Nat.zero_le _, Nat.zero_le _⟩ (fun H locs hw => ?_)
            obtain rfl := Option.some.inj hM
            exact W.zret hx hb hr (nz (bz_X7_seenTold h88)) (fun t ht _ => ⟨rfl, by rw [ht]; exact hw.1, hw.2.2.F ht⟩) hw.2.2.2.2 dX7_statement_95
        · replace hM := itn c52 hM
          refine lv_aload_n hx hb dX7_statement_75 rfl (lv_at hl 0 rfl) ?_
          refine lv_iconst (v := (2 : Int32)) hx hb dX7_statement_76 (by decide) ?_
          obtain ⟨q91, h90, hM⟩ := bd hM
          refine rVWp (wc := (wXM g a0 U0 V0 M0 R0 kv tv)) (wq := (wXM g a0 q91.2.1 q91.2.2 M0 R0 kv tv)) (As := [.int (2 : Int32)]) (rest := []) (q0 := 0) hS (c_X7_seenTold l g a0 kv tv U0 V0 M0 R0 (2 : Int32) h90) gX7_statement_X7_seenTold rfl hd_X7_seenTold ⟨Nat.le_of_ble_eq_true rfl, Nat.le_of_ble_eq_true rfl⟩ hK hw hA (pm_1_0 _) rfl (pm_1_0 _) rfl rfl rfl rfl hl.1 rfl (Nat.le_of_ble_eq_true rfl) dX7_statement_77 ⟨Nat.zero_le _, Nat.zero_le _⟩ (fun H locs hw => ?_)
          obtain rfl := Option.some.inj hM
          exact W.zret hx hb hr (nz (bz_X7_seenTold h90)) (fun t ht _ => ⟨rfl, by rw [ht]; exact hw.1, hw.2.2.F ht⟩) hw.2.2.2.2 dX7_statement_80
      · replace hM := itn c49 hM
        refine lv_aload_n hx hb dX7_statement_61 rfl (lv_at hl 0 rfl) ?_
        obtain ⟨q93, h92, hM⟩ := bd hM
        refine rVWS (wc := (wXM g a0 U0 V0 M0 R0 kv tv)) (wq := (wXM g a0 q93.2.1 q93.2.2 M0 R0 kv tv)) (As := []) (rest := []) (q0 := 0) hS (c_X7_personTold l g k a0 kv tv U0 V0 M0 R0 h92) gX7_statement_X7_personTold rfl hd_X7_personTold ⟨Nat.le_of_ble_eq_true rfl, Nat.le_of_ble_eq_true rfl⟩ hK hSg hw hA (pm_1_0 _) rfl (pm_1_0 _) rfl rfl rfl rfl hl.1 rfl (Nat.le_of_ble_eq_true rfl) dX7_statement_62 ⟨Nat.zero_le _, Nat.zero_le _⟩ (fun H locs hw => ?_)
        obtain rfl := Option.some.inj hM
        exact W.zret hx hb hr (nz (bz_X7_personTold h92)) (fun t ht _ => ⟨rfl, by rw [ht]; exact hw.1, hw.2.2.F ht⟩) hw.2.2.2.2 dX7_statement_65
  · replace hM := itn c3 hM
    refine lv_aload_n hx hb dX7_statement_9 rfl (lv_at hl 0 rfl) ?_
    refine lv_aload_n hx hb dX7_statement_10 rfl (lv_at hl 0 rfl) ?_
    refine wk_get hx hb hts hin_X7 hown hK hw.1 7 0 9 (.int (U0 9 0)) rfl rfl (by decide) (mi 1 rfl) rfl rfl dX7_statement_11 ?_
    refine lv_bipush (v := (8 : Int32)) hx hb dX7_statement_14 (by decide) ?_
    obtain ⟨q95, h94, hM⟩ := bd hM
    refine rVWp (wc := (wXM g a0 U0 V0 M0 R0 kv tv)) (wq := (wXM g a0 U0 q95.2 M0 R0 kv tv)) (As := [.int (U0 9 0), .int (8 : Int32)]) (rest := []) (q0 := 0) hS (c_X7_tells l g a0 kv tv U0 V0 M0 R0 (U0 9 0) (8 : Int32) h94) gX7_statement_X7_tells rfl hd_X7_tells ⟨Nat.le_of_ble_eq_true rfl, Nat.le_of_ble_eq_true rfl⟩ hK hw hA (pm_1_0 _) rfl (pm_1_0 _) rfl rfl rfl rfl hl.1 rfl (Nat.le_of_ble_eq_true rfl) dX7_statement_16 ⟨Nat.zero_le _, Nat.zero_le _⟩ (fun H locs hw => ?_)
    refine lv_istore_n (lv' := [(1, .int q95.1), (0, .ref (a0 0))]) hx hb dX7_statement_19 rfl hl (by decide) rfl (fun ls hl => ?_)
    refine lv_aload_n hx hb dX7_statement_20 rfl (lv_at hl 1 rfl) ?_
    refine lv_iload_n hx hb dX7_statement_21 rfl (lv_at hl 0 rfl) ?_
    have hJ100 : ∀ (H : Heap) (locs : List Loc) (x99 : Int32) (ls : Array Slot), Wk g A s.heap H locs (wXM g a0 U0 q95.2 M0 R0 kv tv) → x99 = (if q95.1 = 0 then (U0 9 0) else ((q95.2 27) ((0 : Int32)).toNatClampNeg)) → lv_has ls 2 [(1, .int q95.1)] → W p l e (headSpec wsX7_statement ({ frames := 6, cells := 0, slots := 0, locals := 128 } : Room)).room s m ([.ref (a0 0)] : List Value).toArray below meth c H locs 0 0 (MQ below (QcW g (some (.int q.1)) (wXM g a0 q.2.1 q.2.2 M0 R0 kv tv) A) ([.ref (a0 0)] : List Value).toArray s 0 0 A) (F0 m 38 ls [.int x99, .ref (a0 0)]) := by
      intro H locs x99 ls hw hxx99 hl
      subst hxx99
      refine wk_put (wq := (wXM g a0 (up U0 9 (fun _ => (if q95.1 = 0 then (U0 9 0) else ((q95.2 27) ((0 : Int32)).toNatClampNeg)))) q95.2 M0 R0 kv tv)) hx hb hts hin_X7 tyX7 tyX7_ok nmX7 hown hK hw 7 0 9 rfl rfl (by decide) (mi 1 rfl) rfl rfl rfl rfl (Nat.le_of_ble_eq_true rfl) dX7_statement_38 rfl (fun H locs hw => ?_)
      refine lv_iload_n hx hb dX7_statement_41 rfl (lv_at hl 0 rfl) ?_
      obtain rfl := Option.some.inj hM
      exact W.zret hx hb hr (nz (bz_X7_tells h94)) (fun t ht _ => ⟨rfl, by rw [ht]; exact hw.1, hw.2.2.F ht⟩) hw.2.2.2.2 dX7_statement_42
    refine lv_if_eq (tgt := 34) hx hb dX7_statement_22 (by decide) (fun c96 => ?_) (fun c96 => ?_)
    · refine lv_aload_n hx hb dX7_statement_34 rfl (lv_at hl 1 rfl) ?_
      refine wk_get hx hb hts hin_X7 hown hK hw.1 7 0 9 (.int (U0 9 0)) rfl rfl (by decide) (mi 1 rfl) rfl rfl dX7_statement_35 ?_
      exact hJ100 _ _ _ _ hw (by first | with_reducible rfl | (simp only [if_pos c96]) | rfl) (lv_sub hl [0] rfl)
    · refine lv_aload_n hx hb dX7_statement_25 rfl (lv_at hl 1 rfl) ?_
      refine wk_get hx hb hts hin_X7 hown hK hw.1 7 0 27 (.ref (a0 17)) rfl rfl (by decide) (mi 2 rfl) rfl rfl dX7_statement_26 ?_
      refine lv_iconst (v := (0 : Int32)) hx hb dX7_statement_29 (by decide) ?_
      refine wk_iald hx hb hK hw.1 17 2 (q95.2 27) rfl (by decide) dX7_statement_30 ?_
      refine lv_goto (tgt := 38) hx hb dX7_statement_31 (by decide) ?_
      exact hJ100 _ _ _ _ hw (by first | with_reducible rfl | (simp only [if_neg c96]) | rfl) (lv_sub hl [0] rfl)
theorem hd_X7_readAll : yX7_readAll.cls = RX7 ∧ yX7_readAll.cls ≠ "java/lang/invoke/MethodHandle" ∧ yX7_readAll.cls ≠ "java/lang/invoke/VarHandle" ∧ (parseMethodDescriptor yX7_readAll.desc).map (fun d => d.parameters.length) = some 0 := by decide +kernel
set_option maxHeartbeats 4000000 in
set_option maxRecDepth 100000 in
theorem c_X7_readAll (l : Launch) (g : Gm) (k : SgT) (a0 : Nat → Nat) (kv : Value) (tv : Value) (U0 : TS) (V0 : TS) (M0 : LTS) (R0 : LTS) {q : (Int32 × TS × TS)} (hM : f_X7_readAll U0 V0 M0 R0 = some q) : MWS l yX7_readAll wsX7_readAll 7 149 k g [.ref (a0 0)] (wXM g a0 U0 V0 M0 R0 kv tv) (some (.int q.1)) (wXM g a0 q.2.1 q.2.2 M0 R0 kv tv) := by
  intro sz
  refine Met.ofW (cc := cX7_readAll) (maxL := 1) (ret := (some .boolean)) (by decide) rfl ?_
  intro p e s m args below meth c s₁ B hml hv
  obtain ⟨hv, hSg⟩ := hv
  obtain ⟨rfl, hsz, hP, hK, hD0⟩ := hv
  have hx := B.exec; have hb := B.bytes; have hr := B.returns
  have hts := atoms_spec (ws := wsX7_readAll) B.pre
  have hown : s.vm.findClass RX7 = some m.cls := findClass_of_methodNamed B.named
  have hlocks := B.notSynchronized
  have hS : CallFix p m c cX7_readAll 1 s _ wsX7_readAll RX7 := ⟨hx, hb, hml, hown, hts⟩
  have hin_X7 : ∀ w ∈ wsX70, w ∈ wsX7_readAll := fun w h => (List.mem_cons_of_mem _ (List.mem_append_right _ h))
  subst hsz
  have hw := wk_start hP hD0
  have hA : ∀ q : Nat, s.heap.size ≤ q → va_A (wXM g a0 U0 V0 M0 R0 kv tv) s.heap.size q := fun q h => Or.inr h
  generalize va_A (wXM g a0 U0 V0 M0 R0 kv tv) s.heap.size = A at hw hA hSg ⊢
  clear hP hD0
  have hl := lv_entry ([.ref (a0 0)]) (n := 1) (Nat.le_of_ble_eq_true rfl)
  rw [lg_entry_eq]
  generalize (lg_sl ([.ref (a0 0)]) ++ List.replicate (1 - (lg_sl ([.ref (a0 0)])).length) Slot.unset).toArray = ls at hl ⊢
  have hl : lv_has ls 1 [(0, .ref (a0 0))] := hl
  rw [f_X7_readAll] at hM
  refine lv_aload_n hx hb dX7_readAll_0 rfl (lv_at hl 0 rfl) ?_
  refine lv_iconst (v := (1 : Int32)) hx hb dX7_readAll_1 (by decide) ?_
  refine wk_put (wq := (wXM g a0 U0 (up V0 28 (fun _ => (1 : Int32))) M0 R0 kv tv)) hx hb hts hin_X7 tyX7 tyX7_ok nmX7 hown hK hw 7 0 28 rfl rfl (by decide) (mi 1 rfl) rfl rfl rfl rfl (Nat.le_of_ble_eq_true rfl) dX7_readAll_2 rfl (fun H locs hw => ?_)
  refine lv_aload_n hx hb dX7_readAll_5 rfl (lv_at hl 0 rfl) ?_
  refine lv_iconst (v := (0 : Int32)) hx hb dX7_readAll_6 (by decide) ?_
  refine wk_put (wq := (wXM g a0 U0 (up (up V0 28 (fun _ => (1 : Int32))) 22 (fun _ => (0 : Int32))) M0 R0 kv tv)) hx hb hts hin_X7 tyX7 tyX7_ok nmX7 hown hK hw 7 0 22 rfl rfl (by decide) (mi 2 rfl) rfl rfl rfl rfl (Nat.le_of_ble_eq_true rfl) dX7_readAll_7 rfl (fun H locs hw => ?_)
  refine lv_aload_n hx hb dX7_readAll_10 rfl (lv_at hl 0 rfl) ?_
  obtain ⟨q2, h1, hM⟩ := bd hM
  refine rVWp (wc := (wXM g a0 U0 (up (up V0 28 (fun _ => (1 : Int32))) 22 (fun _ => (0 : Int32))) M0 R0 kv tv)) (wq := (wXM g a0 U0 q2 M0 R0 kv tv)) (As := []) (rest := []) (q0 := 0) hS (c_X7_look l g a0 kv tv U0 (up (up V0 28 (fun _ => (1 : Int32))) 22 (fun _ => (0 : Int32))) M0 R0 h1) gX7_readAll_X7_look rfl hd_X7_look ⟨Nat.le_of_ble_eq_true rfl, Nat.le_of_ble_eq_true rfl⟩ hK hw hA (pm_1_0 _) rfl (pm_1_0 _) rfl rfl rfl rfl hl.1 rfl (Nat.le_of_ble_eq_true rfl) dX7_readAll_11 ⟨Nat.zero_le _, Nat.zero_le _⟩ (fun H locs hw => ?_)
  refine lv_aload_n hx hb dX7_readAll_14 rfl (lv_at hl 0 rfl) ?_
  obtain ⟨q4, h3, hM⟩ := bd hM
  refine rVWS (wc := (wXM g a0 U0 q2 M0 R0 kv tv)) (wq := (wXM g a0 q4.2.1 q4.2.2 M0 R0 kv tv)) (As := []) (rest := []) (q0 := 0) hS (c_X7_statement l g k a0 kv tv U0 q2 M0 R0 h3) gX7_readAll_X7_statement rfl hd_X7_statement ⟨Nat.le_of_ble_eq_true rfl, Nat.le_of_ble_eq_true rfl⟩ hK hSg hw hA (pm_1_0 _) rfl (pm_1_0 _) rfl rfl rfl rfl hl.1 rfl (Nat.le_of_ble_eq_true rfl) dX7_readAll_15 ⟨Nat.zero_le _, Nat.zero_le _⟩ (fun H locs hw => ?_)
  refine lv_if_ne (tgt := 23) hx hb dX7_readAll_18 (by decide) (fun c5 => ?_) (fun c5 => ?_)
  · replace hM := itn c5 hM
    obtain ⟨q8, hL23, hM23⟩ := bd hM
    have hJ23 : ∀ (q8x : (TS × TS)), q8 = .inr q8x → ∀ (H : Heap) (locs : List Loc), Wk g A s.heap H locs (wXM g a0 q8x.1 q8x.2 M0 R0 kv tv) → ∀ (ls : Array Slot), lv_has ls 1 [] → W p l e (headSpec wsX7_readAll ({ frames := 7, cells := 0, slots := 0, locals := 149 } : Room)).room s m ([.ref (a0 0)] : List Value).toArray below meth c H locs 0 0 (MQ below (QcW g (some (.int q.1)) (wXM g a0 q.2.1 q.2.2 M0 R0 kv tv) A) ([.ref (a0 0)] : List Value).toArray s 0 0 A) (F0 m 69 ls []) := by
      intro q8x hX23 H locs hw ls hl
      rw [hX23] at hM23
      have hM := eo_inr hM23
      refine lv_iconst (v := (1 : Int32)) hx hb dX7_readAll_69 (by decide) ?_
      obtain rfl := Option.some.inj hM
      exact W.zret hx hb hr (nz (Or.inr rfl)) (fun t ht _ => ⟨rfl, by rw [ht]; exact hw.1, hw.2.2.F ht⟩) hw.2.2.2.2 dX7_readAll_70
    have hW23 : ∀ (n : Nat) (UL6 : TS) (VL7 : TS), L_X7_readAll_23 M0 R0 n UL6 VL7 = some q8 → ∀ (H : Heap) (locs : List Loc), Wk g A s.heap H locs (wXM g a0 UL6 VL7 M0 R0 kv tv) → ∀ (ls : Array Slot), lv_has ls 1 [(0, .ref (a0 0))] → W p l e (headSpec wsX7_readAll ({ frames := 7, cells := 0, slots := 0, locals := 149 } : Room)).room s m ([.ref (a0 0)] : List Value).toArray below meth c H locs 0 0 (MQ below (QcW g (some (.int q.1)) (wXM g a0 q.2.1 q.2.2 M0 R0 kv tv) A) ([.ref (a0 0)] : List Value).toArray s 0 0 A) (F0 m 23 ls []) := by
      intro n
      induction n with
      | zero => intro UL6 VL7 hM; rw [L_X7_readAll_23] at hM; exact nn hM
      | succ n ih23 =>
        intro UL6 VL7 hM H locs hw ls hl
        rw [L_X7_readAll_23] at hM
        refine lv_aload_n hx hb dX7_readAll_23 rfl (lv_at hl 0 rfl) ?_
        refine wk_get hx hb hts hin_X7 hown hK hw.1 7 0 23 (.int (VL7 23 0)) rfl rfl (by decide) (mi 3 rfl) rfl rfl dX7_readAll_24 ?_
        refine lv_if_eq (tgt := 69) hx hb dX7_readAll_27 (by decide) (fun c9 => ?_) (fun c9 => ?_)
        · replace hM := itp c9 hM
          exact hJ23 _ (Option.some.inj hM).symm _ _ hw _ (lv_sub hl [] rfl)
        · replace hM := itn c9 hM
          refine lv_aload_n hx hb dX7_readAll_30 rfl (lv_at hl 0 rfl) ?_
          refine wk_get hx hb hts hin_X7 hown hK hw.1 7 0 23 (.int (VL7 23 0)) rfl rfl (by decide) (mi 3 rfl) rfl rfl dX7_readAll_31 ?_
          refine lv_iconst (v := (3 : Int32)) hx hb dX7_readAll_34 (by decide) ?_
          refine lv_icmp_eq (tgt := 43) hx hb dX7_readAll_35 (by decide) (fun c10 => ?_) (fun c10 => ?_)
          · replace hM := itp c10 hM
            refine lv_aload_n hx hb dX7_readAll_43 rfl (lv_at hl 0 rfl) ?_
            obtain ⟨q12, h11, hM⟩ := bd hM
            refine rVWp (wc := (wXM g a0 UL6 VL7 M0 R0 kv tv)) (wq := (wXM g a0 UL6 q12 M0 R0 kv tv)) (As := []) (rest := []) (q0 := 0) hS (c_X7_look l g a0 kv tv UL6 VL7 M0 R0 h11) gX7_readAll_X7_look rfl hd_X7_look ⟨Nat.le_of_ble_eq_true rfl, Nat.le_of_ble_eq_true rfl⟩ hK hw hA (pm_1_0 _) rfl (pm_1_0 _) rfl rfl rfl rfl hl.1 rfl (Nat.le_of_ble_eq_true rfl) dX7_readAll_44 ⟨Nat.zero_le _, Nat.zero_le _⟩ (fun H locs hw => ?_)
            refine lv_aload_n hx hb dX7_readAll_47 rfl (lv_at hl 0 rfl) ?_
            obtain ⟨q14, h13, hM⟩ := bd hM
            refine rVWS (wc := (wXM g a0 UL6 q12 M0 R0 kv tv)) (wq := (wXM g a0 q14.2.1 q14.2.2 M0 R0 kv tv)) (As := []) (rest := []) (q0 := 0) hS (c_X7_statement l g k a0 kv tv UL6 q12 M0 R0 h13) gX7_readAll_X7_statement rfl hd_X7_statement ⟨Nat.le_of_ble_eq_true rfl, Nat.le_of_ble_eq_true rfl⟩ hK hSg hw hA (pm_1_0 _) rfl (pm_1_0 _) rfl rfl rfl rfl hl.1 rfl (Nat.le_of_ble_eq_true rfl) dX7_readAll_48 ⟨Nat.zero_le _, Nat.zero_le _⟩ (fun H locs hw => ?_)
            refine lv_if_ne (tgt := 56) hx hb dX7_readAll_51 (by decide) (fun c15 => ?_) (fun c15 => ?_)
            · replace hM := itn c15 hM
              refine lv_aload_n hx hb dX7_readAll_56 rfl (lv_at hl 0 rfl) ?_
              refine lv_dup hx hb dX7_readAll_57 rfl ?_
              refine wk_get hx hb hts hin_X7 hown hK hw.1 7 0 28 (.int (q14.2.2 28 0)) rfl rfl (by decide) (mi 1 rfl) rfl rfl dX7_readAll_58 ?_
              refine lv_iconst (v := (1 : Int32)) hx hb dX7_readAll_61 (by decide) ?_
              refine lv_iadd hx hb dX7_readAll_62 ?_
              refine wk_put (wq := (wXM g a0 q14.2.1 (up q14.2.2 28 (fun _ => ((q14.2.2 28 0) + (1 : Int32)))) M0 R0 kv tv)) hx hb hts hin_X7 tyX7 tyX7_ok nmX7 hown hK hw 7 0 28 rfl rfl (by decide) (mi 1 rfl) rfl rfl rfl rfl (Nat.le_of_ble_eq_true rfl) dX7_readAll_63 rfl (fun H locs hw => ?_)
              refine lv_goto (tgt := 23) hx hb dX7_readAll_66 (by decide) ?_
              exact ih23 q14.2.1 (up q14.2.2 28 (fun _ => ((q14.2.2 28 0) + (1 : Int32)))) hM _ _ hw _ (lv_sub hl [0] rfl)
            · replace hM := itp c15 hM
              refine lv_iconst (v := (0 : Int32)) hx hb dX7_readAll_54 (by decide) ?_
              have hE := Option.some.inj hM
              have hM23' := hM23
              rw [← hE] at hM23'
              obtain rfl := eo_inl hM23'
              exact W.zret hx hb hr (nz (Or.inl rfl)) (fun t ht _ => ⟨rfl, by rw [ht]; exact hw.1, hw.2.2.F ht⟩) hw.2.2.2.2 dX7_readAll_55
          · replace hM := itn c10 hM
            refine lv_aload_n hx hb dX7_readAll_38 rfl (lv_at hl 0 rfl) ?_
            obtain ⟨q17, h16, hM⟩ := bd hM
            refine rVWp (wc := (wXM g a0 UL6 VL7 M0 R0 kv tv)) (wq := (wXM g a0 UL6 q17.2 M0 R0 kv tv)) (As := []) (rest := []) (q0 := 0) hS (c_X7_wrong l g a0 kv tv UL6 VL7 M0 R0 h16) gX7_readAll_X7_wrong rfl hd_X7_wrong ⟨Nat.le_of_ble_eq_true rfl, Nat.le_of_ble_eq_true rfl⟩ hK hw hA (pm_1_0 _) rfl (pm_1_0 _) rfl rfl rfl rfl hl.1 rfl (Nat.le_of_ble_eq_true rfl) dX7_readAll_39 ⟨Nat.zero_le _, Nat.zero_le _⟩ (fun H locs hw => ?_)
            have hE := Option.some.inj hM
            have hM23' := hM23
            rw [← hE] at hM23'
            obtain rfl := eo_inl hM23'
            exact W.zret hx hb hr (nz (bz_X7_wrong h16)) (fun t ht _ => ⟨rfl, by rw [ht]; exact hw.1, hw.2.2.F ht⟩) hw.2.2.2.2 dX7_readAll_42
    exact hW23 300 q4.2.1 q4.2.2 hL23 _ _ hw _ (lv_sub hl [0] rfl)
  · replace hM := itp c5 hM
    refine lv_iconst (v := (0 : Int32)) hx hb dX7_readAll_21 (by decide) ?_
    obtain rfl := Option.some.inj hM
    exact W.zret hx hb hr (nz (Or.inl rfl)) (fun t ht _ => ⟨rfl, by rw [ht]; exact hw.1, hw.2.2.F ht⟩) hw.2.2.2.2 dX7_readAll_22
theorem hd_X7_town : yX7_town.cls = RX7 ∧ yX7_town.cls ≠ "java/lang/invoke/MethodHandle" ∧ yX7_town.cls ≠ "java/lang/invoke/VarHandle" ∧ (parseMethodDescriptor yX7_town.desc).map (fun d => d.parameters.length) = some 0 := by decide +kernel
set_option maxHeartbeats 4000000 in
set_option maxRecDepth 100000 in
theorem c_X7_town (l : Launch) (g : Gm) (k : SgT) (a0 : Nat → Nat) (U0 : TS) (V0 : TS) (M0 : LTS) (R0 : LTS) (kv : Value) (t0 : Tr) (tp0 : Option (Nat → Int32)) (h0 : tpOf t0 = tp0) {q : (Int32 × TS × TS × (Option (Nat → Int32)))} (hM : f_X7_town U0 V0 M0 R0 tp0 = some q) : MBS l yX7_town wsX7_town 8 169 k g [.ref (a0 0)] (fun t => (wXM g a0 U0 V0 M0 R0 kv (tvOf t)) ++ wOT g t) t0 (some (.int q.1)) (fun t => (wXM g a0 q.2.1 q.2.2.1 M0 R0 kv (tvOf t)) ++ wOT g t) q.2.2.2 := by
  intro sz
  refine Met.ofW (cc := cX7_town) (maxL := 3) (ret := (some .int)) (by decide) rfl ?_
  intro p e s m args below meth c s₁ B hml hv
  obtain ⟨hv, hSg⟩ := hv
  obtain ⟨rfl, hsz, hP, hK, hD0⟩ := hv
  have hx := B.exec; have hb := B.bytes; have hr := B.returns
  have hts := atoms_spec (ws := wsX7_town) B.pre
  have hown : s.vm.findClass RX7 = some m.cls := findClass_of_methodNamed B.named
  have hlocks := B.notSynchronized
  have hS : CallFix p m c cX7_town 3 s _ wsX7_town RX7 := ⟨hx, hb, hml, hown, hts⟩
  have hin_X7 : ∀ w ∈ wsX70, w ∈ wsX7_town := fun w h => (List.mem_cons_of_mem _ (List.mem_append_right _ h))
  subst hsz
  have hw := wk_start hP hD0
  have hA : ∀ q : Nat, s.heap.size ≤ q → va_A ((wXM g a0 U0 V0 M0 R0 kv (tvOf t0)) ++ (wOT g t0)) s.heap.size q := fun q h => Or.inr h
  generalize va_A ((wXM g a0 U0 V0 M0 R0 kv (tvOf t0)) ++ (wOT g t0)) s.heap.size = A at hw hA hSg ⊢
  clear hP hD0
  have hl := lv_entry ([.ref (a0 0)]) (n := 3) (Nat.le_of_ble_eq_true rfl)
  rw [lg_entry_eq]
  generalize (lg_sl ([.ref (a0 0)]) ++ List.replicate (3 - (lg_sl ([.ref (a0 0)])).length) Slot.unset).toArray = ls at hl ⊢
  have hl : lv_has ls 3 [(0, .ref (a0 0))] := hl
  refine W_nl t0 ?_
  rw [f_X7_town] at hM
  refine lv_aload_n hx hb dX7_town_0 rfl (lv_at hl 0 rfl) ?_
  refine rVF (t0 := t0) (As := []) (rest := []) (hn := (Nat.le_refl _)) hS (c_X7_fresh l g a0 U0 V0 M0 R0 kv t0 tp0 h0) gX7_town_X7_fresh rfl hd_X7_fresh ⟨Nat.le_of_ble_eq_true rfl, Nat.le_of_ble_eq_true rfl⟩ hK hw hA rfl rfl rfl rfl hl.1 rfl (Nat.le_of_ble_eq_true rfl) dX7_town_1 (fun b2 G3 H locs hw => ?_)
  have hw : Wk g A s.heap H locs ((wXM g a0 U0 V0 M0 R0 kv (.ref (b2 0))) ++ (wXT g b2 G3 (fr0 U0 tp0))) := hw
  refine lv_astore_n (lv' := [(1, .ref (b2 0)), (0, .ref (a0 0))]) hx hb dX7_town_4 rfl hl (by decide) rfl (fun ls hl => ?_)
  refine lv_aload_n hx hb dX7_town_5 rfl (lv_at hl 1 rfl) ?_
  obtain ⟨q5, h4, hM⟩ := bd hM
  refine rVWS (wc := (wXM g a0 U0 V0 M0 R0 kv (.ref (b2 0)))) (wq := ((wXM g a0 q5.2.1 q5.2.2 M0 R0 kv (.ref (b2 0))) ++ (wXT g b2 G3 (fr0 U0 tp0)))) (As := []) (rest := []) (q0 := 0) hS (c_X7_readAll l g k a0 kv (.ref (b2 0)) U0 V0 M0 R0 h4) gX7_town_X7_readAll rfl hd_X7_readAll ⟨Nat.le_of_ble_eq_true rfl, Nat.le_of_ble_eq_true rfl⟩ hK hSg hw hA (pm_2_0 _ _) rfl (pm_2_0 _ _) rfl rfl rfl rfl hl.1 rfl (Nat.le_of_ble_eq_true rfl) dX7_town_6 ⟨Nat.le_refl _, Nat.le_refl _⟩ (fun H locs hw => ?_)
  refine lv_istore_n (lv' := [(2, .int q5.1), (1, .ref (b2 0)), (0, .ref (a0 0))]) hx hb dX7_town_9 rfl hl (by decide) rfl (fun ls hl => ?_)
  refine lv_aload_n hx hb dX7_town_10 rfl (lv_at hl 2 rfl) ?_
  refine lv_iconst (v := (0 : Int32)) hx hb dX7_town_11 (by decide) ?_
  refine wk_put (wq := ((wXM g a0 q5.2.1 (up q5.2.2 7 (fun _ => (0 : Int32))) M0 R0 kv (.ref (b2 0))) ++ (wXT g b2 G3 (fr0 U0 tp0)))) hx hb hts hin_X7 tyX7 tyX7_ok nmX7 hown hK hw 7 0 7 rfl rfl (by decide) (mi 1 rfl) rfl rfl rfl rfl (Nat.le_of_ble_eq_true rfl) dX7_town_12 rfl (fun H locs hw => ?_)
  refine lv_iload_n hx hb dX7_town_15 rfl (lv_at hl 0 rfl) ?_
  refine lv_if_ne (tgt := 39) hx hb dX7_town_16 (by decide) (fun c6 => ?_) (fun c6 => ?_)
  · replace hM := itn c6 hM
    refine lv_aload_n hx hb dX7_town_39 rfl (lv_at hl 2 rfl) ?_
    refine wk_get hx hb hts hin_X7 hown hK hw.1 7 0 28 (.int (q5.2.2 28 0)) rfl rfl (by decide) (mi 3 rfl) rfl rfl dX7_town_40 ?_
    obtain rfl := Option.some.inj hM
    exact W.iret hx hb hr (fun t ht _ => ⟨rfl, ⟨(some (b2, G3, (fr0 U0 tp0))), rfl, by rw [ht]; exact hw.1, hw.2.1⟩, hw.2.2.F ht⟩) hw.2.2.2.2 dX7_town_43
  · replace hM := itp c6 hM
    refine lv_aload_n hx hb dX7_town_19 rfl (lv_at hl 2 rfl) ?_
    refine lv_aload_n hx hb dX7_town_20 rfl (lv_at hl 1 rfl) ?_
    obtain ⟨q8, h7, hM⟩ := bd hM
    refine rVWp (wc := ((wXT g a0 (fm a0 (up q5.2.2 7 (fun _ => (0 : Int32))) kv (.ref (b2 0))) q5.2.1) ++ (wXT g b2 G3 (fr0 U0 tp0)))) (wq := ((wXM g a0 q8 (up q5.2.2 7 (fun _ => (0 : Int32))) M0 R0 kv (.ref (b2 0))) ++ (wXT g b2 G3 (fr0 U0 tp0)))) (As := [.ref (b2 0)]) (rest := []) (q0 := 0) hS (c_X7_takeFrom l g a0 b2 (fm a0 (up q5.2.2 7 (fun _ => (0 : Int32))) kv (.ref (b2 0))) G3 q5.2.1 (fr0 U0 tp0) h7) gX7_town_X7_takeFrom rfl hd_X7_takeFrom ⟨Nat.le_of_ble_eq_true rfl, Nat.le_of_ble_eq_true rfl⟩ hK hw hA (pmX3 _ _ _ _ _ _ _ _ _) rfl (pmX3 _ _ _ _ _ _ _ _ _) rfl rfl rfl rfl hl.1 rfl (Nat.le_of_ble_eq_true rfl) dX7_town_21 ⟨Nat.le_refl _, Nat.le_refl _⟩ (fun H locs hw => ?_)
    refine lv_aload_n hx hb dX7_town_24 rfl (lv_at hl 2 rfl) ?_
    refine lv_bipush (v := (-2 : Int32)) hx hb dX7_town_25 (by decide) ?_
    obtain ⟨q10, h9, hM⟩ := bd hM
    refine rVWp (wc := (wXM g a0 q8 (up q5.2.2 7 (fun _ => (0 : Int32))) M0 R0 kv (.ref (b2 0)))) (wq := ((wXM g a0 q8 q10.2 M0 R0 kv (.ref (b2 0))) ++ (wXT g b2 G3 (fr0 U0 tp0)))) (As := [.int (-2 : Int32)]) (rest := []) (q0 := 0) hS (c_X7_refuse l g a0 kv (.ref (b2 0)) q8 (up q5.2.2 7 (fun _ => (0 : Int32))) M0 R0 (-2 : Int32) h9) gX7_town_X7_refuse rfl hd_X7_refuse ⟨Nat.le_of_ble_eq_true rfl, Nat.le_of_ble_eq_true rfl⟩ hK hw hA (pm_2_0 _ _) rfl (pm_2_0 _ _) rfl rfl rfl rfl hl.1 rfl (Nat.le_of_ble_eq_true rfl) dX7_town_27 ⟨Nat.le_refl _, Nat.le_refl _⟩ (fun H locs hw => ?_)
    refine lv_pop hx hb dX7_town_30 rfl ?_
    refine lv_bipush (v := (-20 : Int32)) hx hb dX7_town_31 (by decide) ?_
    refine lv_aload_n hx hb dX7_town_33 rfl (lv_at hl 2 rfl) ?_
    refine wk_get hx hb hts hin_X7 hown hK hw.1 7 0 26 (.int (q10.2 26 0)) rfl rfl (by decide) (mi 2 rfl) rfl rfl dX7_town_34 ?_
    refine lv_isub hx hb dX7_town_37 ?_
    obtain rfl := Option.some.inj hM
    exact W.iret hx hb hr (fun t ht _ => ⟨rfl, ⟨(some (b2, G3, (fr0 U0 tp0))), rfl, by rw [ht]; exact hw.1, hw.2.1⟩, hw.2.2.F ht⟩) hw.2.2.2.2 dX7_town_38
theorem hd_X7_back : yX7_back.cls = RX7 ∧ yX7_back.cls ≠ "java/lang/invoke/MethodHandle" ∧ yX7_back.cls ≠ "java/lang/invoke/VarHandle" ∧ (parseMethodDescriptor yX7_back.desc).map (fun d => d.parameters.length) = some 0 := by decide +kernel
set_option maxHeartbeats 4000000 in
set_option maxRecDepth 100000 in
theorem c_X7_back (l : Launch) (g : Gm) (a0 : Nat → Nat) (a1 : Nat → Nat) (tv : Value) (Fw1 : Nat → Value) (U0 : TS) (V0 : TS) (M0 : LTS) (R0 : LTS) (U1 : TS) {q : (Int32 × TS × TS)} (hM : f_X7_back U0 V0 M0 R0 U1 = some q) : MW l yX7_back wsX7_back 2 43 g [.ref (a0 0)] ((wXM g a0 U0 V0 M0 R0 (.ref (a1 0)) tv) ++ (wXT g a1 Fw1 U1)) (some (.int q.1)) ((wXM g a0 q.2.1 q.2.2 M0 R0 (.ref (a1 0)) tv) ++ (wXT g a1 Fw1 U1)) := by
  intro sz
  refine Met.ofW (cc := cX7_back) (maxL := 2) (ret := (some .int)) (by decide) rfl ?_
  intro p e s m args below meth c s₁ B hml hv
  obtain ⟨rfl, hsz, hP, hK, hD0⟩ := hv
  have hx := B.exec; have hb := B.bytes; have hr := B.returns
  have hts := atoms_spec (ws := wsX7_back) B.pre
  have hown : s.vm.findClass RX7 = some m.cls := findClass_of_methodNamed B.named
  have hlocks := B.notSynchronized
  have hS : CallFix p m c cX7_back 2 s _ wsX7_back RX7 := ⟨hx, hb, hml, hown, hts⟩
  have hin_X7 : ∀ w ∈ wsX70, w ∈ wsX7_back := fun w h => (List.mem_cons_of_mem _ (List.mem_append_right _ h))
  subst hsz
  have hw := wk_start hP hD0
  have hA : ∀ q : Nat, s.heap.size ≤ q → va_A ((wXM g a0 U0 V0 M0 R0 (.ref (a1 0)) tv) ++ (wXT g a1 Fw1 U1)) s.heap.size q := fun q h => Or.inr h
  generalize va_A ((wXM g a0 U0 V0 M0 R0 (.ref (a1 0)) tv) ++ (wXT g a1 Fw1 U1)) s.heap.size = A at hw hA ⊢
  clear hP hD0
  have hl := lv_entry ([.ref (a0 0)]) (n := 2) (Nat.le_of_ble_eq_true rfl)
  rw [lg_entry_eq]
  generalize (lg_sl ([.ref (a0 0)]) ++ List.replicate (2 - (lg_sl ([.ref (a0 0)])).length) Slot.unset).toArray = ls at hl ⊢
  have hl : lv_has ls 2 [(0, .ref (a0 0))] := hl
  rw [f_X7_back] at hM
  refine lv_aload_n hx hb dX7_back_0 rfl (lv_at hl 0 rfl) ?_
  refine wk_get hx hb hts hin_X7 hown hK hw.1 7 0 20 (.ref (a1 0)) rfl rfl (by decide) (mi 1 rfl) rfl rfl dX7_back_1 ?_
  refine lv_ifnonnull (tgt := 14) hx hb dX7_back_4 (by decide) ?_
  refine lv_aload_n hx hb dX7_back_14 rfl (lv_at hl 0 rfl) ?_
  refine lv_aload_n hx hb dX7_back_15 rfl (lv_at hl 0 rfl) ?_
  refine wk_get hx hb hts hin_X7 hown hK hw.1 7 0 20 (.ref (a1 0)) rfl rfl (by decide) (mi 1 rfl) rfl rfl dX7_back_16 ?_
  obtain ⟨q2, h1, hM⟩ := bd hM
  refine rVWp (wc := ((wXT g a0 (fm a0 V0 (.ref (a1 0)) tv) U0) ++ (wXT g a1 Fw1 U1))) (wq := ((wXM g a0 q2 V0 M0 R0 (.ref (a1 0)) tv) ++ (wXT g a1 Fw1 U1))) (As := [.ref (a1 0)]) (rest := []) (q0 := 0) hS (c_X7_takeFrom l g a0 a1 (fm a0 V0 (.ref (a1 0)) tv) Fw1 U0 U1 h1) gX7_back_X7_takeFrom rfl hd_X7_takeFrom ⟨Nat.le_of_ble_eq_true rfl, Nat.le_of_ble_eq_true rfl⟩ hK hw hA (pmX3 _ _ _ _ _ _ _ _ _) rfl (pmX3 _ _ _ _ _ _ _ _ _) rfl rfl rfl rfl hl.1 rfl (Nat.le_of_ble_eq_true rfl) dX7_back_19 ⟨Nat.zero_le _, Nat.zero_le _⟩ (fun H locs hw => ?_)
  refine lv_iconst (v := (0 : Int32)) hx hb dX7_back_22 (by decide) ?_
  refine lv_istore_n (lv' := [(1, .int (0 : Int32)), (0, .ref (a0 0))]) hx hb dX7_back_23 rfl hl (by decide) rfl (fun ls hl => ?_)
  obtain ⟨q5, hL24, hM⟩ := bd hM
  have hJ24 : ∀ (H : Heap) (locs : List Loc), Wk g A s.heap H locs ((wXM g a0 q2 q5 M0 R0 (.ref (a1 0)) tv) ++ (wXT g a1 Fw1 U1)) → ∀ (ls : Array Slot), lv_has ls 2 [] → W p l e (headSpec wsX7_back ({ frames := 2, cells := 0, slots := 0, locals := 43 } : Room)).room s m ([.ref (a0 0)] : List Value).toArray below meth c H locs 0 0 (MQ below (QcW g (some (.int q.1)) ((wXM g a0 q.2.1 q.2.2 M0 R0 (.ref (a1 0)) tv) ++ (wXT g a1 Fw1 U1)) A) ([.ref (a0 0)] : List Value).toArray s 0 0 A) (F0 m 66 ls []) := by
    intro H locs hw ls hl
    refine lv_iconst (v := (1 : Int32)) hx hb dX7_back_66 (by decide) ?_
    obtain rfl := Option.some.inj hM
    exact W.iret hx hb hr (fun t ht _ => ⟨rfl, by rw [ht]; exact hw.1, hw.2.2.F ht⟩) hw.2.2.2.2 dX7_back_67
  have hW24 : ∀ (n : Nat) (v1_3 : Int32) (VL4 : TS), L_X7_back_24 q2 n v1_3 VL4 = some q5 → ∀ (H : Heap) (locs : List Loc), Wk g A s.heap H locs ((wXM g a0 q2 VL4 M0 R0 (.ref (a1 0)) tv) ++ (wXT g a1 Fw1 U1)) → ∀ (ls : Array Slot), lv_has ls 2 [(1, .int v1_3), (0, .ref (a0 0))] → W p l e (headSpec wsX7_back ({ frames := 2, cells := 0, slots := 0, locals := 43 } : Room)).room s m ([.ref (a0 0)] : List Value).toArray below meth c H locs 0 0 (MQ below (QcW g (some (.int q.1)) ((wXM g a0 q.2.1 q.2.2 M0 R0 (.ref (a1 0)) tv) ++ (wXT g a1 Fw1 U1)) A) ([.ref (a0 0)] : List Value).toArray s 0 0 A) (F0 m 24 ls []) := by
    intro n
    induction n with
    | zero => intro v1_3 VL4 hM; rw [L_X7_back_24] at hM; exact nn hM
    | succ n ih24 =>
      intro v1_3 VL4 hM H locs hw ls hl
      rw [L_X7_back_24] at hM
      refine lv_iload_n hx hb dX7_back_24 rfl (lv_at hl 0 rfl) ?_
      refine lv_bipush (v := (8 : Int32)) hx hb dX7_back_25 (by decide) ?_
      refine lv_icmp_ge (tgt := 66) hx hb dX7_back_27 (by decide) (fun c6 => ?_) (fun c6 => ?_)
      · replace hM := itp c6 hM
        obtain rfl := Option.some.inj hM
        exact hJ24 _ _ hw _ (lv_sub hl [] rfl)
      · replace hM := itn c6 hM
        refine lv_aload_n hx hb dX7_back_30 rfl (lv_at hl 1 rfl) ?_
        refine wk_get hx hb hts hin_X7 hown hK hw.1 7 0 0 (.ref (a0 9)) rfl rfl (by decide) (mi 2 rfl) rfl rfl dX7_back_31 ?_
        refine lv_iload_n hx hb dX7_back_34 rfl (lv_at hl 0 rfl) ?_
        obtain ⟨k7, hM⟩ := ck hM
        refine wk_iald hx hb hK hw.1 9 8 (VL4 0) rfl k7 dX7_back_35 ?_
        refine lv_iconst (v := (2 : Int32)) hx hb dX7_back_36 (by decide) ?_
        refine lv_icmp_ne (tgt := 60) hx hb dX7_back_37 (by decide) (fun c8 => ?_) (fun c8 => ?_)
        · replace hM := itn c8 hM
          refine lv_iinc (v := (v1_3 + (1 : Int32))) (lv' := [(1, .int (v1_3 + (1 : Int32))), (0, .ref (a0 0))]) hx hb dX7_back_60 hl (k := 0) rfl rfl (by decide) rfl (fun ls hl => ?_)
          refine lv_goto (tgt := 24) hx hb dX7_back_63 (by decide) ?_
          exact ih24 (v1_3 + (1 : Int32)) VL4 hM _ _ hw _ (lv_sub hl [0, 1] rfl)
        · replace hM := itp c8 hM
          refine lv_aload_n hx hb dX7_back_40 rfl (lv_at hl 1 rfl) ?_
          refine wk_get hx hb hts hin_X7 hown hK hw.1 7 0 5 (.ref (a0 14)) rfl rfl (by decide) (mi 3 rfl) rfl rfl dX7_back_41 ?_
          refine lv_iload_n hx hb dX7_back_44 rfl (lv_at hl 0 rfl) ?_
          refine wk_iald hx hb hK hw.1 14 8 (VL4 5) rfl k7 dX7_back_45 ?_
          refine lv_aload_n hx hb dX7_back_46 rfl (lv_at hl 1 rfl) ?_
          refine wk_get hx hb hts hin_X7 hown hK hw.1 7 0 10 (.int (q2 10 0)) rfl rfl (by decide) (mi 4 rfl) rfl rfl dX7_back_47 ?_
          refine lv_icmp_lt (tgt := 60) hx hb dX7_back_50 (by decide) (fun c9 => ?_) (fun c9 => ?_)
          · replace hM := itp c9 hM
            refine lv_iinc (v := (v1_3 + (1 : Int32))) (lv' := [(1, .int (v1_3 + (1 : Int32))), (0, .ref (a0 0))]) hx hb dX7_back_60 hl (k := 0) rfl rfl (by decide) rfl (fun ls hl => ?_)
            refine lv_goto (tgt := 24) hx hb dX7_back_63 (by decide) ?_
            exact ih24 (v1_3 + (1 : Int32)) VL4 hM _ _ hw _ (lv_sub hl [0, 1] rfl)
          · replace hM := itn c9 hM
            refine lv_aload_n hx hb dX7_back_53 rfl (lv_at hl 1 rfl) ?_
            refine wk_get hx hb hts hin_X7 hown hK hw.1 7 0 0 (.ref (a0 9)) rfl rfl (by decide) (mi 2 rfl) rfl rfl dX7_back_54 ?_
            refine lv_iload_n hx hb dX7_back_57 rfl (lv_at hl 0 rfl) ?_
            refine lv_iconst (v := (0 : Int32)) hx hb dX7_back_58 (by decide) ?_
            refine wk_iast (wq := ((wXM g a0 q2 (up VL4 0 (upd (VL4 0) (v1_3).toNatClampNeg (0 : Int32))) M0 R0 (.ref (a1 0)) tv) ++ (wXT g a1 Fw1 U1))) hx hb hK hw 9 8 (VL4 0) rfl k7 dX7_back_59 rfl (fun H locs hw => ?_)
            refine lv_iinc (v := (v1_3 + (1 : Int32))) (lv' := [(1, .int (v1_3 + (1 : Int32))), (0, .ref (a0 0))]) hx hb dX7_back_60 hl (k := 0) rfl rfl (by decide) rfl (fun ls hl => ?_)
            refine lv_goto (tgt := 24) hx hb dX7_back_63 (by decide) ?_
            exact ih24 (v1_3 + (1 : Int32)) (up VL4 0 (upd (VL4 0) (v1_3).toNatClampNeg (0 : Int32))) hM _ _ hw _ (lv_sub hl [0, 1] rfl)
  exact hW24 300 (0 : Int32) V0 hL24 _ _ hw _ (lv_sub hl [0, 1] rfl)
