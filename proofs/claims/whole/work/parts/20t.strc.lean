theorem hd_X4_isWord : yX4_isWord.cls = RX4 ∧ yX4_isWord.cls ≠ "java/lang/invoke/MethodHandle" ∧ yX4_isWord.cls ≠ "java/lang/invoke/VarHandle" ∧ (parseMethodDescriptor yX4_isWord.desc).map (fun d => d.parameters.length) = some 1 := by decide +kernel
set_option maxHeartbeats 4000000 in
set_option maxRecDepth 100000 in
theorem c_X4_isWord (l : Launch) (g : Gm) (k : SgT) (a0 : Nat → Nat) (P0 : TS) (i1 : Nat) (hi1 : i1 < 9) {q : Int32} (hM : f_X4_isWord P0 i1 = some q) : MRS l yX4_isWord wsX4_isWord 4 85 k g [.ref (a0 0), .ref (k.1 i1)] (wX4 g a0 P0) (some (.int q)) := by
  refine Met.ofW (cc := cX4_isWord) (maxL := 3) (ret := (some .boolean)) (by decide) rfl ?_
  intro p e s m args below meth c s₁ B hml hv
  obtain ⟨hv, hSg⟩ := hv
  obtain ⟨rfl, hP, hK⟩ := hv
  have hx := B.exec; have hb := B.bytes; have hr := B.returns
  have hts := atoms_spec (ws := wsX4_isWord) B.pre
  have hown : s.vm.findClass RX4 = some m.cls := findClass_of_methodNamed B.named
  have hlocks := B.notSynchronized
  have hS : CallFix p m c cX4_isWord 3 s _ wsX4_isWord RX4 := ⟨hx, hb, hml, hown, hts⟩
  have hin_X4 : ∀ w ∈ wsX40, w ∈ wsX4_isWord := fun w h => (List.mem_cons_of_mem _ (List.mem_append_right _ h))
  have hl := lv_entry ([.ref (a0 0), .ref (k.1 i1)]) (n := 3) (Nat.le_of_ble_eq_true rfl)
  rw [lg_entry_eq]
  generalize (lg_sl ([.ref (a0 0), .ref (k.1 i1)]) ++ List.replicate (3 - (lg_sl ([.ref (a0 0), .ref (k.1 i1)])).length) Slot.unset).toArray = ls at hl ⊢
  have hl : lv_has ls 3 [(0, .ref (a0 0)), (1, .ref (k.1 i1))] := hl
  rw [f_X4_isWord] at hM
  refine lv_aload_n hx hb dX4_isWord_0 rfl (lv_at hl 0 rfl) ?_
  refine wk_get hx hb hts hin_X4 hown hK hP 4 0 3 (.int (P0 3 0)) rfl rfl (by decide) (mi 1 rfl) rfl rfl dX4_isWord_1 ?_
  refine lv_iconst (v := (1 : Int32)) hx hb dX4_isWord_4 (by decide) ?_
  refine lv_icmp_ne (tgt := 24) hx hb dX4_isWord_5 (by decide) (fun c1 => ?_) (fun c1 => ?_)
  · replace hM := itn c1 hM
    refine lv_iconst (v := (0 : Int32)) hx hb dX4_isWord_24 (by decide) ?_
    obtain rfl := Option.some.inj hM
    exact W.zret hx hb hr (nz (Or.inl rfl)) (fun t ht _ => ⟨rfl, ht⟩) (fun q hq => by cases hq) dX4_isWord_25
  · replace hM := itp c1 hM
    refine lv_aload_n hx hb dX4_isWord_8 rfl (lv_at hl 0 rfl) ?_
    refine wk_get hx hb hts hin_X4 hown hK hP 4 0 5 (.int (P0 5 0)) rfl rfl (by decide) (mi 2 rfl) rfl rfl dX4_isWord_9 ?_
    refine lv_aload_n hx hb dX4_isWord_12 rfl (lv_at hl 0 rfl) ?_
    refine wk_get hx hb hts hin_X4 hown hK hP 4 0 4 (.int (P0 4 0)) rfl rfl (by decide) (mi 3 rfl) rfl rfl dX4_isWord_13 ?_
    refine lv_isub hx hb dX4_isWord_16 ?_
    refine lv_aload_n hx hb dX4_isWord_17 rfl (lv_at hl 1 rfl) ?_
    refine rVRstr (As := []) (rest := [.int ((P0 5 0) - (P0 4 0))]) (i := i1) hS (c_J0_length_8abf5 l g k i1 hi1) gX4_isWord_J0_length_8abf5 rfl hd_J0_length_8abf5 ⟨Nat.le_of_ble_eq_true rfl, Nat.le_of_ble_eq_true rfl⟩ hK hSg va_S.rf hi1 rfl hl.1 rfl (Nat.le_of_ble_eq_true rfl) dX4_isWord_18 ⟨Nat.zero_le _, Nat.zero_le _⟩ ?_
    refine lv_icmp_eq (tgt := 26) hx hb dX4_isWord_21 (by decide) (fun c2 => ?_) (fun c2 => ?_)
    · replace hM := itp c2 hM
      refine lv_iconst (v := (0 : Int32)) hx hb dX4_isWord_26 (by decide) ?_
      refine lv_istore_n (lv' := [(2, .int (0 : Int32)), (0, .ref (a0 0)), (1, .ref (k.1 i1))]) hx hb dX4_isWord_27 rfl hl (by decide) rfl (fun ls hl => ?_)
      obtain ⟨q4, hL28, hM28⟩ := bd hM
      have hJ28 : ∀ (q4x : Unit), q4 = .inr q4x → ∀ (ls : Array Slot), lv_has ls 3 [] → W p l e (headSpec wsX4_isWord ({ frames := 4, cells := 0, slots := 0, locals := 85 } : Room)).room s m ([.ref (a0 0), .ref (k.1 i1)] : List Value).toArray below meth c s.heap [] 0 0 (MQ below (QcR (some (.int q))) ([.ref (a0 0), .ref (k.1 i1)] : List Value).toArray s 0 0 (fun _ => False)) (F0 m 62 ls []) := by
        intro q4x hX28 ls hl
        rw [hX28] at hM28
        have hM := eo_inr hM28
        refine lv_iconst (v := (1 : Int32)) hx hb dX4_isWord_62 (by decide) ?_
        obtain rfl := Option.some.inj hM
        exact W.zret hx hb hr (nz (Or.inr rfl)) (fun t ht _ => ⟨rfl, ht⟩) (fun q hq => by cases hq) dX4_isWord_63
      have hW28 : ∀ (n : Nat) (v2_3 : Int32), L_X4_isWord_28 P0 i1 n v2_3 = some q4 → ∀ (ls : Array Slot), lv_has ls 3 [(2, .int v2_3), (0, .ref (a0 0)), (1, .ref (k.1 i1))] → W p l e (headSpec wsX4_isWord ({ frames := 4, cells := 0, slots := 0, locals := 85 } : Room)).room s m ([.ref (a0 0), .ref (k.1 i1)] : List Value).toArray below meth c s.heap [] 0 0 (MQ below (QcR (some (.int q))) ([.ref (a0 0), .ref (k.1 i1)] : List Value).toArray s 0 0 (fun _ => False)) (F0 m 28 ls []) := by
        intro n
        induction n with
        | zero => intro v2_3 hM; rw [L_X4_isWord_28] at hM; exact nn hM
        | succ n ih28 =>
          intro v2_3 hM ls hl
          rw [L_X4_isWord_28] at hM
          refine lv_iload_n hx hb dX4_isWord_28 rfl (lv_at hl 0 rfl) ?_
          refine lv_aload_n hx hb dX4_isWord_29 rfl (lv_at hl 2 rfl) ?_
          refine rVRstr (As := []) (rest := [.int v2_3]) (i := i1) hS (c_J0_length_8abf5 l g k i1 hi1) gX4_isWord_J0_length_8abf5 rfl hd_J0_length_8abf5 ⟨Nat.le_of_ble_eq_true rfl, Nat.le_of_ble_eq_true rfl⟩ hK hSg va_S.rf hi1 rfl hl.1 rfl (Nat.le_of_ble_eq_true rfl) dX4_isWord_30 ⟨Nat.zero_le _, Nat.zero_le _⟩ ?_
          refine lv_icmp_ge (tgt := 62) hx hb dX4_isWord_33 (by decide) (fun c5 => ?_) (fun c5 => ?_)
          · replace hM := itp c5 hM
            exact hJ28 _ (Option.some.inj hM).symm _ (lv_sub hl [] rfl)
          · replace hM := itn c5 hM
            refine lv_aload_n hx hb dX4_isWord_36 rfl (lv_at hl 1 rfl) ?_
            refine lv_aload_n hx hb dX4_isWord_37 rfl (lv_at hl 1 rfl) ?_
            refine wk_get hx hb hts hin_X4 hown hK hP 4 0 4 (.int (P0 4 0)) rfl rfl (by decide) (mi 3 rfl) rfl rfl dX4_isWord_38 ?_
            refine lv_iload_n hx hb dX4_isWord_41 rfl (lv_at hl 0 rfl) ?_
            refine lv_iadd hx hb dX4_isWord_42 ?_
            obtain ⟨q7, h6, hM⟩ := bd hM
            refine rVR (wc := (wX4 g a0 P0)) (As := [.int ((P0 4 0) + v2_3)]) (rest := []) (q0 := 0) hS (c_X4_letterAt l g a0 P0 ((P0 4 0) + v2_3) h6) gX4_isWord_X4_letterAt rfl hd_X4_letterAt ⟨Nat.le_of_ble_eq_true rfl, Nat.le_of_ble_eq_true rfl⟩ hK (va_P.pm hP (pm_1_0 _)) rfl rfl rfl rfl hl.1 rfl (Nat.le_of_ble_eq_true rfl) dX4_isWord_43 ⟨Nat.zero_le _, Nat.zero_le _⟩ ?_
            refine lv_aload_n hx hb dX4_isWord_46 rfl (lv_at hl 2 rfl) ?_
            refine lv_iload_n hx hb dX4_isWord_47 rfl (lv_at hl 0 rfl) ?_
            obtain ⟨k8, hM⟩ := ck hM
            refine rVRstr (As := [.int v2_3]) (rest := [.int q7]) (i := i1) hS (c_J0_charAt_5068e l g k i1 hi1 v2_3 k8) gX4_isWord_J0_charAt_5068e rfl hd_J0_charAt_5068e ⟨Nat.le_of_ble_eq_true rfl, Nat.le_of_ble_eq_true rfl⟩ hK hSg va_S.rf hi1 rfl hl.1 rfl (Nat.le_of_ble_eq_true rfl) dX4_isWord_48 ⟨Nat.zero_le _, Nat.zero_le _⟩ ?_
            refine lv_icmp_eq (tgt := 56) hx hb dX4_isWord_51 (by decide) (fun c9 => ?_) (fun c9 => ?_)
            · replace hM := itp c9 hM
              refine lv_iinc (v := (v2_3 + (1 : Int32))) (lv' := [(2, .int (v2_3 + (1 : Int32))), (0, .ref (a0 0)), (1, .ref (k.1 i1))]) hx hb dX4_isWord_56 hl (k := 0) rfl rfl (by decide) rfl (fun ls hl => ?_)
              refine lv_goto (tgt := 28) hx hb dX4_isWord_59 (by decide) ?_
              exact ih28 (v2_3 + (1 : Int32)) hM _ (lv_sub hl [0, 1, 2] rfl)
            · replace hM := itn c9 hM
              refine lv_iconst (v := (0 : Int32)) hx hb dX4_isWord_54 (by decide) ?_
              have hE := Option.some.inj hM
              have hM28' := hM28
              rw [← hE] at hM28'
              obtain rfl := eo_inl hM28'
              exact W.zret hx hb hr (nz (Or.inl rfl)) (fun t ht _ => ⟨rfl, ht⟩) (fun q hq => by cases hq) dX4_isWord_55
      exact hW28 300 (0 : Int32) hL28 _ (lv_sub hl [0, 1, 2] rfl)
    · replace hM := itn c2 hM
      refine lv_iconst (v := (0 : Int32)) hx hb dX4_isWord_24 (by decide) ?_
      obtain rfl := Option.some.inj hM
      exact W.zret hx hb hr (nz (Or.inl rfl)) (fun t ht _ => ⟨rfl, ht⟩) (fun q hq => by cases hq) dX4_isWord_25
theorem hd_X4_readPerson : yX4_readPerson.cls = RX4 ∧ yX4_readPerson.cls ≠ "java/lang/invoke/MethodHandle" ∧ yX4_readPerson.cls ≠ "java/lang/invoke/VarHandle" ∧ (parseMethodDescriptor yX4_readPerson.desc).map (fun d => d.parameters.length) = some 1 := by decide +kernel
set_option maxHeartbeats 4000000 in
set_option maxRecDepth 100000 in
theorem c_X4_readPerson (l : Launch) (g : Gm) (k : SgT) (a0 : Nat → Nat) (a1 : Nat → Nat) (P0 : TS) (T1 : TS) {q : (Int32 × TS × TS)} (hM : f_X4_readPerson P0 T1 = some q) : MWS l yX4_readPerson wsX4_readPerson 5 107 k g [.ref (a0 0), .ref (a1 0)] ((wX4 g a0 P0) ++ (wX5 g a1 T1)) (some (.int q.1)) ((wX4 g a0 q.2.1) ++ (wX5 g a1 q.2.2)) := by
  intro sz
  refine Met.ofW (cc := cX4_readPerson) (maxL := 5) (ret := (some .boolean)) (by decide) rfl ?_
  intro p e s m args below meth c s₁ B hml hv
  obtain ⟨hv, hSg⟩ := hv
  obtain ⟨rfl, hsz, hP, hK, hD0⟩ := hv
  have hx := B.exec; have hb := B.bytes; have hr := B.returns
  have hts := atoms_spec (ws := wsX4_readPerson) B.pre
  have hown : s.vm.findClass RX4 = some m.cls := findClass_of_methodNamed B.named
  have hlocks := B.notSynchronized
  have hS : CallFix p m c cX4_readPerson 5 s _ wsX4_readPerson RX4 := ⟨hx, hb, hml, hown, hts⟩
  subst hsz
  have hw := wk_start hP hD0
  have hA : ∀ q : Nat, s.heap.size ≤ q → va_A ((wX4 g a0 P0) ++ (wX5 g a1 T1)) s.heap.size q := fun q h => Or.inr h
  generalize va_A ((wX4 g a0 P0) ++ (wX5 g a1 T1)) s.heap.size = A at hw hA hSg ⊢
  clear hP hD0
  have hl := lv_entry ([.ref (a0 0), .ref (a1 0)]) (n := 5) (Nat.le_of_ble_eq_true rfl)
  rw [lg_entry_eq]
  generalize (lg_sl ([.ref (a0 0), .ref (a1 0)]) ++ List.replicate (5 - (lg_sl ([.ref (a0 0), .ref (a1 0)])).length) Slot.unset).toArray = ls at hl ⊢
  have hl : lv_has ls 5 [(0, .ref (a0 0)), (1, .ref (a1 0))] := hl
  rw [f_X4_readPerson] at hM
  refine lv_aload_n hx hb dX4_readPerson_0 rfl (lv_at hl 0 rfl) ?_
  obtain ⟨q2, h1, hM⟩ := bd hM
  refine rVWp (wc := (wX4 g a0 P0)) (wq := ((wX4 g a0 q2) ++ (wX5 g a1 T1))) (As := []) (rest := []) (q0 := 0) hS (c_X4_advance l g a0 P0 h1) gX4_readPerson_X4_advance rfl hd_X4_advance ⟨Nat.le_of_ble_eq_true rfl, Nat.le_of_ble_eq_true rfl⟩ hK hw hA (pm_2_0 _ _) rfl (pm_2_0 _ _) rfl rfl rfl rfl hl.1 rfl (Nat.le_of_ble_eq_true rfl) dX4_readPerson_1 ⟨Nat.zero_le _, Nat.zero_le _⟩ (fun H locs hw => ?_)
  refine lv_aload_n hx hb dX4_readPerson_4 rfl (lv_at hl 0 rfl) ?_
  refine lv_iconst (v := (0 : Int32)) hx hb dX4_readPerson_5 (by decide) ?_
  refine lv_iconst (v := (5 : Int32)) hx hb dX4_readPerson_6 (by decide) ?_
  refine lv_iconst (v := (0 : Int32)) hx hb dX4_readPerson_7 (by decide) ?_
  obtain ⟨q4, h3, hM⟩ := bd hM
  refine rVWp (wc := (wX4 g a0 q2)) (wq := ((wX4 g a0 q4.2) ++ (wX5 g a1 T1))) (As := [.int (0 : Int32), .int (5 : Int32), .int (0 : Int32)]) (rest := []) (q0 := 0) hS (c_X4_takeNumber l g a0 q2 (0 : Int32) (5 : Int32) (0 : Int32) h3) gX4_readPerson_X4_takeNumber rfl hd_X4_takeNumber ⟨Nat.le_of_ble_eq_true rfl, Nat.le_of_ble_eq_true rfl⟩ hK hw hA (pm_2_0 _ _) rfl (pm_2_0 _ _) rfl rfl rfl rfl hl.1 rfl (Nat.le_of_ble_eq_true rfl) dX4_readPerson_8 ⟨Nat.zero_le _, Nat.zero_le _⟩ (fun H locs hw => ?_)
  refine lv_istore_n (lv' := [(2, .int q4.1), (0, .ref (a0 0)), (1, .ref (a1 0))]) hx hb dX4_readPerson_11 rfl hl (by decide) rfl (fun ls hl => ?_)
  refine lv_iload_n hx hb dX4_readPerson_12 rfl (lv_at hl 0 rfl) ?_
  refine lv_iconst (v := (-1 : Int32)) hx hb dX4_readPerson_13 (by decide) ?_
  refine lv_icmp_ne (tgt := 21) hx hb dX4_readPerson_14 (by decide) (fun c5 => ?_) (fun c5 => ?_)
  · replace hM := itn c5 hM
    refine lv_aload_n hx hb dX4_readPerson_21 rfl (lv_at hl 1 rfl) ?_
    refine lv_iconst (v := (0 : Int32)) hx hb dX4_readPerson_22 (by decide) ?_
    refine lv_bipush (v := (9 : Int32)) hx hb dX4_readPerson_23 (by decide) ?_
    refine lv_iconst (v := (0 : Int32)) hx hb dX4_readPerson_25 (by decide) ?_
    obtain ⟨q35, h34, hM⟩ := bd hM
    refine rVWp (wc := (wX4 g a0 q4.2)) (wq := ((wX4 g a0 q35.2) ++ (wX5 g a1 T1))) (As := [.int (0 : Int32), .int (9 : Int32), .int (0 : Int32)]) (rest := []) (q0 := 0) hS (c_X4_takeNumber l g a0 q4.2 (0 : Int32) (9 : Int32) (0 : Int32) h34) gX4_readPerson_X4_takeNumber rfl hd_X4_takeNumber ⟨Nat.le_of_ble_eq_true rfl, Nat.le_of_ble_eq_true rfl⟩ hK hw hA (pm_2_0 _ _) rfl (pm_2_0 _ _) rfl rfl rfl rfl hl.1 rfl (Nat.le_of_ble_eq_true rfl) dX4_readPerson_26 ⟨Nat.zero_le _, Nat.zero_le _⟩ (fun H locs hw => ?_)
    refine lv_istore_n (lv' := [(3, .int q35.1), (2, .int q4.1), (0, .ref (a0 0)), (1, .ref (a1 0))]) hx hb dX4_readPerson_29 rfl hl (by decide) rfl (fun ls hl => ?_)
    refine lv_iload_n hx hb dX4_readPerson_30 rfl (lv_at hl 0 rfl) ?_
    refine lv_iconst (v := (-1 : Int32)) hx hb dX4_readPerson_31 (by decide) ?_
    refine lv_icmp_ne (tgt := 37) hx hb dX4_readPerson_32 (by decide) (fun c36 => ?_) (fun c36 => ?_)
    · replace hM := itn c36 hM
      refine lv_aload_n hx hb dX4_readPerson_37 rfl (lv_at hl 3 rfl) ?_
      refine lv_iload_n hx hb dX4_readPerson_38 rfl (lv_at hl 1 rfl) ?_
      refine lv_iload_n hx hb dX4_readPerson_39 rfl (lv_at hl 0 rfl) ?_
      obtain ⟨q38, h37, hM⟩ := bd hM
      refine rVWp (wc := (wX5 g a1 T1)) (wq := ((wX4 g a0 q35.2) ++ (wX5 g a1 q38.2))) (As := [.int q4.1, .int q35.1]) (rest := []) (q0 := 0) hS (c_X5_join l g a1 T1 q4.1 q35.1 h37) gX4_readPerson_X5_join rfl hd_X5_join ⟨Nat.le_of_ble_eq_true rfl, Nat.le_of_ble_eq_true rfl⟩ hK hw hA (pm_2_1 _ _) rfl (pm_2_1 _ _) rfl rfl rfl rfl hl.1 rfl (Nat.le_of_ble_eq_true rfl) dX4_readPerson_40 ⟨Nat.zero_le _, Nat.zero_le _⟩ (fun H locs hw => ?_)
      refine lv_istore (lv' := [(4, .int q38.1), (3, .int q35.1), (2, .int q4.1), (0, .ref (a0 0)), (1, .ref (a1 0))]) hx hb dX4_readPerson_43 hl (by decide) rfl (fun ls hl => ?_)
      refine lv_aload_n hx hb dX4_readPerson_45 rfl (lv_at hl 3 rfl) ?_
      refine va_ldcS hx hb hown (hSg.2.2.2 2 (by decide)).1 dX4_readPerson_46 ?_
      obtain ⟨q40, h39, hM⟩ := bd hM
      refine rVRS (wc := (wX4 g a0 q35.2)) (As := [.ref (k.1 2)]) (rest := []) (q0 := 0) hS (c_X4_isWord l g k a0 q35.2 2 (by decide) h39) gX4_readPerson_X4_isWord rfl hd_X4_isWord ⟨Nat.le_of_ble_eq_true rfl, Nat.le_of_ble_eq_true rfl⟩ hK hSg hw.2.2 (va_P.pm hw.1 (pm_2_0 _ _)) rfl rfl rfl rfl hl.1 rfl (Nat.le_of_ble_eq_true rfl) dX4_readPerson_48 ⟨Nat.zero_le _, Nat.zero_le _⟩ ?_
      refine lv_if_eq (tgt := 81) hx hb dX4_readPerson_51 (by decide) (fun c41 => ?_) (fun c41 => ?_)
      · replace hM := itp c41 hM
        refine lv_aload_n hx hb dX4_readPerson_81 rfl (lv_at hl 3 rfl) ?_
        refine va_ldcS hx hb hown (hSg.2.2.2 4 (by decide)).1 dX4_readPerson_82 ?_
        obtain ⟨q43, h42, hM⟩ := bd hM
        refine rVRS (wc := (wX4 g a0 q35.2)) (As := [.ref (k.1 4)]) (rest := []) (q0 := 0) hS (c_X4_isWord l g k a0 q35.2 4 (by decide) h42) gX4_readPerson_X4_isWord rfl hd_X4_isWord ⟨Nat.le_of_ble_eq_true rfl, Nat.le_of_ble_eq_true rfl⟩ hK hSg hw.2.2 (va_P.pm hw.1 (pm_2_0 _ _)) rfl rfl rfl rfl hl.1 rfl (Nat.le_of_ble_eq_true rfl) dX4_readPerson_84 ⟨Nat.zero_le _, Nat.zero_le _⟩ ?_
        refine lv_if_eq (tgt := 102) hx hb dX4_readPerson_87 (by decide) (fun c44 => ?_) (fun c44 => ?_)
        · replace hM := itp c44 hM
          refine lv_iconst (v := (1 : Int32)) hx hb dX4_readPerson_102 (by decide) ?_
          obtain rfl := Option.some.inj hM
          exact W.zret hx hb hr (nz (Or.inr rfl)) (fun t ht _ => ⟨rfl, by rw [ht]; exact hw.1, hw.2.2.F ht⟩) hw.2.2.2.2 dX4_readPerson_103
        · replace hM := itn c44 hM
          refine lv_aload_n hx hb dX4_readPerson_90 rfl (lv_at hl 3 rfl) ?_
          obtain ⟨q46, h45, hM⟩ := bd hM
          refine rVWp (wc := (wX4 g a0 q35.2)) (wq := ((wX4 g a0 q46) ++ (wX5 g a1 q38.2))) (As := []) (rest := []) (q0 := 0) hS (c_X4_advance l g a0 q35.2 h45) gX4_readPerson_X4_advance rfl hd_X4_advance ⟨Nat.le_of_ble_eq_true rfl, Nat.le_of_ble_eq_true rfl⟩ hK hw hA (pm_2_0 _ _) rfl (pm_2_0 _ _) rfl rfl rfl rfl hl.1 rfl (Nat.le_of_ble_eq_true rfl) dX4_readPerson_91 ⟨Nat.zero_le _, Nat.zero_le _⟩ (fun H locs hw => ?_)
          refine lv_aload_n hx hb dX4_readPerson_94 rfl (lv_at hl 3 rfl) ?_
          refine lv_aload_n hx hb dX4_readPerson_95 rfl (lv_at hl 4 rfl) ?_
          refine lv_iload hx hb dX4_readPerson_96 (lv_at hl 0 rfl) ?_
          obtain ⟨q48, h47, hM⟩ := bd hM
          refine rVWp (wc := ((wX4 g a0 q46) ++ (wX5 g a1 q38.2))) (wq := ((wX4 g a0 q48.2.1) ++ (wX5 g a1 q48.2.2))) (As := [.ref (a1 0), .int q38.1]) (rest := []) (q0 := 0) hS (c_X4_readSightHeard l g a0 a1 q46 q38.2 q38.1 h47) gX4_readPerson_X4_readSightHeard rfl hd_X4_readSightHeard ⟨Nat.le_of_ble_eq_true rfl, Nat.le_of_ble_eq_true rfl⟩ hK hw hA (pm_2_0_1 _ _) rfl (pm_2_0_1 _ _) rfl rfl rfl rfl hl.1 rfl (Nat.le_of_ble_eq_true rfl) dX4_readPerson_98 ⟨Nat.zero_le _, Nat.zero_le _⟩ (fun H locs hw => ?_)
          obtain rfl := Option.some.inj hM
          exact W.zret hx hb hr (nz (bz_X4_readSightHeard h47)) (fun t ht _ => ⟨rfl, by rw [ht]; exact hw.1, hw.2.2.F ht⟩) hw.2.2.2.2 dX4_readPerson_101
      · replace hM := itn c41 hM
        refine lv_iload_n hx hb dX4_readPerson_54 rfl (lv_at hl 2 rfl) ?_
        refine lv_iconst (v := (4 : Int32)) hx hb dX4_readPerson_55 (by decide) ?_
        refine lv_icmp_ne (tgt := 64) hx hb dX4_readPerson_56 (by decide) (fun c49 => ?_) (fun c49 => ?_)
        · replace hM := itn c49 hM
          refine lv_aload_n hx hb dX4_readPerson_64 rfl (lv_at hl 3 rfl) ?_
          obtain ⟨q53, h52, hM⟩ := bd hM
          refine rVWp (wc := (wX4 g a0 q35.2)) (wq := ((wX4 g a0 q53) ++ (wX5 g a1 q38.2))) (As := []) (rest := []) (q0 := 0) hS (c_X4_advance l g a0 q35.2 h52) gX4_readPerson_X4_advance rfl hd_X4_advance ⟨Nat.le_of_ble_eq_true rfl, Nat.le_of_ble_eq_true rfl⟩ hK hw hA (pm_2_0 _ _) rfl (pm_2_0 _ _) rfl rfl rfl rfl hl.1 rfl (Nat.le_of_ble_eq_true rfl) dX4_readPerson_65 ⟨Nat.zero_le _, Nat.zero_le _⟩ (fun H locs hw => ?_)
          refine lv_aload_n hx hb dX4_readPerson_68 rfl (lv_at hl 3 rfl) ?_
          refine lv_aload_n hx hb dX4_readPerson_69 rfl (lv_at hl 4 rfl) ?_
          refine lv_iload hx hb dX4_readPerson_70 (lv_at hl 0 rfl) ?_
          refine lv_iconst (v := (2 : Int32)) hx hb dX4_readPerson_72 (by decide) ?_
          obtain ⟨q55, h54, hM⟩ := bd hM
          refine rVWp (wc := ((wX4 g a0 q53) ++ (wX5 g a1 q38.2))) (wq := ((wX4 g a0 q55.2.1) ++ (wX5 g a1 q55.2.2))) (As := [.ref (a1 0), .int q38.1, .int (2 : Int32)]) (rest := []) (q0 := 0) hS (c_X4_readSightSeen l g a0 a1 q53 q38.2 q38.1 (2 : Int32) h54) gX4_readPerson_X4_readSightSeen rfl hd_X4_readSightSeen ⟨Nat.le_of_ble_eq_true rfl, Nat.le_of_ble_eq_true rfl⟩ hK hw hA (pm_2_0_1 _ _) rfl (pm_2_0_1 _ _) rfl rfl rfl rfl hl.1 rfl (Nat.le_of_ble_eq_true rfl) dX4_readPerson_73 ⟨Nat.zero_le _, Nat.zero_le _⟩ (fun H locs hw => ?_)
          refine lv_if_ne (tgt := 81) hx hb dX4_readPerson_76 (by decide) (fun c56 => ?_) (fun c56 => ?_)
          · replace hM := itn c56 hM
            refine lv_aload_n hx hb dX4_readPerson_81 rfl (lv_at hl 3 rfl) ?_
            refine va_ldcS hx hb hown (hSg.2.2.2 4 (by decide)).1 dX4_readPerson_82 ?_
            obtain ⟨q58, h57, hM⟩ := bd hM
            refine rVRS (wc := (wX4 g a0 q55.2.1)) (As := [.ref (k.1 4)]) (rest := []) (q0 := 0) hS (c_X4_isWord l g k a0 q55.2.1 4 (by decide) h57) gX4_readPerson_X4_isWord rfl hd_X4_isWord ⟨Nat.le_of_ble_eq_true rfl, Nat.le_of_ble_eq_true rfl⟩ hK hSg hw.2.2 (va_P.pm hw.1 (pm_2_0 _ _)) rfl rfl rfl rfl hl.1 rfl (Nat.le_of_ble_eq_true rfl) dX4_readPerson_84 ⟨Nat.zero_le _, Nat.zero_le _⟩ ?_
            refine lv_if_eq (tgt := 102) hx hb dX4_readPerson_87 (by decide) (fun c59 => ?_) (fun c59 => ?_)
            · replace hM := itp c59 hM
              refine lv_iconst (v := (1 : Int32)) hx hb dX4_readPerson_102 (by decide) ?_
              obtain rfl := Option.some.inj hM
              exact W.zret hx hb hr (nz (Or.inr rfl)) (fun t ht _ => ⟨rfl, by rw [ht]; exact hw.1, hw.2.2.F ht⟩) hw.2.2.2.2 dX4_readPerson_103
            · replace hM := itn c59 hM
              refine lv_aload_n hx hb dX4_readPerson_90 rfl (lv_at hl 3 rfl) ?_
              obtain ⟨q61, h60, hM⟩ := bd hM
              refine rVWp (wc := (wX4 g a0 q55.2.1)) (wq := ((wX4 g a0 q61) ++ (wX5 g a1 q55.2.2))) (As := []) (rest := []) (q0 := 0) hS (c_X4_advance l g a0 q55.2.1 h60) gX4_readPerson_X4_advance rfl hd_X4_advance ⟨Nat.le_of_ble_eq_true rfl, Nat.le_of_ble_eq_true rfl⟩ hK hw hA (pm_2_0 _ _) rfl (pm_2_0 _ _) rfl rfl rfl rfl hl.1 rfl (Nat.le_of_ble_eq_true rfl) dX4_readPerson_91 ⟨Nat.zero_le _, Nat.zero_le _⟩ (fun H locs hw => ?_)
              refine lv_aload_n hx hb dX4_readPerson_94 rfl (lv_at hl 3 rfl) ?_
              refine lv_aload_n hx hb dX4_readPerson_95 rfl (lv_at hl 4 rfl) ?_
              refine lv_iload hx hb dX4_readPerson_96 (lv_at hl 0 rfl) ?_
              obtain ⟨q63, h62, hM⟩ := bd hM
              refine rVWp (wc := ((wX4 g a0 q61) ++ (wX5 g a1 q55.2.2))) (wq := ((wX4 g a0 q63.2.1) ++ (wX5 g a1 q63.2.2))) (As := [.ref (a1 0), .int q38.1]) (rest := []) (q0 := 0) hS (c_X4_readSightHeard l g a0 a1 q61 q55.2.2 q38.1 h62) gX4_readPerson_X4_readSightHeard rfl hd_X4_readSightHeard ⟨Nat.le_of_ble_eq_true rfl, Nat.le_of_ble_eq_true rfl⟩ hK hw hA (pm_2_0_1 _ _) rfl (pm_2_0_1 _ _) rfl rfl rfl rfl hl.1 rfl (Nat.le_of_ble_eq_true rfl) dX4_readPerson_98 ⟨Nat.zero_le _, Nat.zero_le _⟩ (fun H locs hw => ?_)
              obtain rfl := Option.some.inj hM
              exact W.zret hx hb hr (nz (bz_X4_readSightHeard h62)) (fun t ht _ => ⟨rfl, by rw [ht]; exact hw.1, hw.2.2.F ht⟩) hw.2.2.2.2 dX4_readPerson_101
          · replace hM := itp c56 hM
            refine lv_iconst (v := (0 : Int32)) hx hb dX4_readPerson_79 (by decide) ?_
            obtain rfl := Option.some.inj hM
            exact W.zret hx hb hr (nz (Or.inl rfl)) (fun t ht _ => ⟨rfl, by rw [ht]; exact hw.1, hw.2.2.F ht⟩) hw.2.2.2.2 dX4_readPerson_80
        · replace hM := itp c49 hM
          refine lv_aload_n hx hb dX4_readPerson_59 rfl (lv_at hl 3 rfl) ?_
          obtain ⟨q51, h50, hM⟩ := bd hM
          refine rVWp (wc := (wX4 g a0 q35.2)) (wq := ((wX4 g a0 q51.2) ++ (wX5 g a1 q38.2))) (As := []) (rest := []) (q0 := 0) hS (c_X4_isFault l g a0 q35.2 h50) gX4_readPerson_X4_isFault rfl hd_X4_isFault ⟨Nat.le_of_ble_eq_true rfl, Nat.le_of_ble_eq_true rfl⟩ hK hw hA (pm_2_0 _ _) rfl (pm_2_0 _ _) rfl rfl rfl rfl hl.1 rfl (Nat.le_of_ble_eq_true rfl) dX4_readPerson_60 ⟨Nat.zero_le _, Nat.zero_le _⟩ (fun H locs hw => ?_)
          obtain rfl := Option.some.inj hM
          exact W.zret hx hb hr (nz (bz_X4_isFault h50)) (fun t ht _ => ⟨rfl, by rw [ht]; exact hw.1, hw.2.2.F ht⟩) hw.2.2.2.2 dX4_readPerson_63
    · replace hM := itp c36 hM
      refine lv_iconst (v := (0 : Int32)) hx hb dX4_readPerson_35 (by decide) ?_
      obtain rfl := Option.some.inj hM
      exact W.zret hx hb hr (nz (Or.inl rfl)) (fun t ht _ => ⟨rfl, by rw [ht]; exact hw.1, hw.2.2.F ht⟩) hw.2.2.2.2 dX4_readPerson_36
  · replace hM := itp c5 hM
    refine lv_iconst (v := (-1 : Int32)) hx hb dX4_readPerson_17 (by decide) ?_
    refine lv_goto (tgt := 29) hx hb dX4_readPerson_18 (by decide) ?_
    refine lv_istore_n (lv' := [(3, .int (-1 : Int32)), (2, .int q4.1), (0, .ref (a0 0)), (1, .ref (a1 0))]) hx hb dX4_readPerson_29 rfl hl (by decide) rfl (fun ls hl => ?_)
    refine lv_iload_n hx hb dX4_readPerson_30 rfl (lv_at hl 0 rfl) ?_
    refine lv_iconst (v := (-1 : Int32)) hx hb dX4_readPerson_31 (by decide) ?_
    refine lv_icmp_ne (tgt := 37) hx hb dX4_readPerson_32 (by decide) (fun c6 => ?_) (fun c6 => ?_)
    · replace hM := itn c6 hM
      refine lv_aload_n hx hb dX4_readPerson_37 rfl (lv_at hl 3 rfl) ?_
      refine lv_iload_n hx hb dX4_readPerson_38 rfl (lv_at hl 1 rfl) ?_
      refine lv_iload_n hx hb dX4_readPerson_39 rfl (lv_at hl 0 rfl) ?_
      obtain ⟨q8, h7, hM⟩ := bd hM
      refine rVWp (wc := (wX5 g a1 T1)) (wq := ((wX4 g a0 q4.2) ++ (wX5 g a1 q8.2))) (As := [.int q4.1, .int (-1 : Int32)]) (rest := []) (q0 := 0) hS (c_X5_join l g a1 T1 q4.1 (-1 : Int32) h7) gX4_readPerson_X5_join rfl hd_X5_join ⟨Nat.le_of_ble_eq_true rfl, Nat.le_of_ble_eq_true rfl⟩ hK hw hA (pm_2_1 _ _) rfl (pm_2_1 _ _) rfl rfl rfl rfl hl.1 rfl (Nat.le_of_ble_eq_true rfl) dX4_readPerson_40 ⟨Nat.zero_le _, Nat.zero_le _⟩ (fun H locs hw => ?_)
      refine lv_istore (lv' := [(4, .int q8.1), (3, .int (-1 : Int32)), (2, .int q4.1), (0, .ref (a0 0)), (1, .ref (a1 0))]) hx hb dX4_readPerson_43 hl (by decide) rfl (fun ls hl => ?_)
      refine lv_aload_n hx hb dX4_readPerson_45 rfl (lv_at hl 3 rfl) ?_
      refine va_ldcS hx hb hown (hSg.2.2.2 2 (by decide)).1 dX4_readPerson_46 ?_
      obtain ⟨q10, h9, hM⟩ := bd hM
      refine rVRS (wc := (wX4 g a0 q4.2)) (As := [.ref (k.1 2)]) (rest := []) (q0 := 0) hS (c_X4_isWord l g k a0 q4.2 2 (by decide) h9) gX4_readPerson_X4_isWord rfl hd_X4_isWord ⟨Nat.le_of_ble_eq_true rfl, Nat.le_of_ble_eq_true rfl⟩ hK hSg hw.2.2 (va_P.pm hw.1 (pm_2_0 _ _)) rfl rfl rfl rfl hl.1 rfl (Nat.le_of_ble_eq_true rfl) dX4_readPerson_48 ⟨Nat.zero_le _, Nat.zero_le _⟩ ?_
      refine lv_if_eq (tgt := 81) hx hb dX4_readPerson_51 (by decide) (fun c11 => ?_) (fun c11 => ?_)
      · replace hM := itp c11 hM
        refine lv_aload_n hx hb dX4_readPerson_81 rfl (lv_at hl 3 rfl) ?_
        refine va_ldcS hx hb hown (hSg.2.2.2 4 (by decide)).1 dX4_readPerson_82 ?_
        obtain ⟨q13, h12, hM⟩ := bd hM
        refine rVRS (wc := (wX4 g a0 q4.2)) (As := [.ref (k.1 4)]) (rest := []) (q0 := 0) hS (c_X4_isWord l g k a0 q4.2 4 (by decide) h12) gX4_readPerson_X4_isWord rfl hd_X4_isWord ⟨Nat.le_of_ble_eq_true rfl, Nat.le_of_ble_eq_true rfl⟩ hK hSg hw.2.2 (va_P.pm hw.1 (pm_2_0 _ _)) rfl rfl rfl rfl hl.1 rfl (Nat.le_of_ble_eq_true rfl) dX4_readPerson_84 ⟨Nat.zero_le _, Nat.zero_le _⟩ ?_
        refine lv_if_eq (tgt := 102) hx hb dX4_readPerson_87 (by decide) (fun c14 => ?_) (fun c14 => ?_)
        · replace hM := itp c14 hM
          refine lv_iconst (v := (1 : Int32)) hx hb dX4_readPerson_102 (by decide) ?_
          obtain rfl := Option.some.inj hM
          exact W.zret hx hb hr (nz (Or.inr rfl)) (fun t ht _ => ⟨rfl, by rw [ht]; exact hw.1, hw.2.2.F ht⟩) hw.2.2.2.2 dX4_readPerson_103
        · replace hM := itn c14 hM
          refine lv_aload_n hx hb dX4_readPerson_90 rfl (lv_at hl 3 rfl) ?_
          obtain ⟨q16, h15, hM⟩ := bd hM
          refine rVWp (wc := (wX4 g a0 q4.2)) (wq := ((wX4 g a0 q16) ++ (wX5 g a1 q8.2))) (As := []) (rest := []) (q0 := 0) hS (c_X4_advance l g a0 q4.2 h15) gX4_readPerson_X4_advance rfl hd_X4_advance ⟨Nat.le_of_ble_eq_true rfl, Nat.le_of_ble_eq_true rfl⟩ hK hw hA (pm_2_0 _ _) rfl (pm_2_0 _ _) rfl rfl rfl rfl hl.1 rfl (Nat.le_of_ble_eq_true rfl) dX4_readPerson_91 ⟨Nat.zero_le _, Nat.zero_le _⟩ (fun H locs hw => ?_)
          refine lv_aload_n hx hb dX4_readPerson_94 rfl (lv_at hl 3 rfl) ?_
          refine lv_aload_n hx hb dX4_readPerson_95 rfl (lv_at hl 4 rfl) ?_
          refine lv_iload hx hb dX4_readPerson_96 (lv_at hl 0 rfl) ?_
          obtain ⟨q18, h17, hM⟩ := bd hM
          refine rVWp (wc := ((wX4 g a0 q16) ++ (wX5 g a1 q8.2))) (wq := ((wX4 g a0 q18.2.1) ++ (wX5 g a1 q18.2.2))) (As := [.ref (a1 0), .int q8.1]) (rest := []) (q0 := 0) hS (c_X4_readSightHeard l g a0 a1 q16 q8.2 q8.1 h17) gX4_readPerson_X4_readSightHeard rfl hd_X4_readSightHeard ⟨Nat.le_of_ble_eq_true rfl, Nat.le_of_ble_eq_true rfl⟩ hK hw hA (pm_2_0_1 _ _) rfl (pm_2_0_1 _ _) rfl rfl rfl rfl hl.1 rfl (Nat.le_of_ble_eq_true rfl) dX4_readPerson_98 ⟨Nat.zero_le _, Nat.zero_le _⟩ (fun H locs hw => ?_)
          obtain rfl := Option.some.inj hM
          exact W.zret hx hb hr (nz (bz_X4_readSightHeard h17)) (fun t ht _ => ⟨rfl, by rw [ht]; exact hw.1, hw.2.2.F ht⟩) hw.2.2.2.2 dX4_readPerson_101
      · replace hM := itn c11 hM
        refine lv_iload_n hx hb dX4_readPerson_54 rfl (lv_at hl 2 rfl) ?_
        refine lv_iconst (v := (4 : Int32)) hx hb dX4_readPerson_55 (by decide) ?_
        refine lv_icmp_ne (tgt := 64) hx hb dX4_readPerson_56 (by decide) (fun c19 => ?_) (fun c19 => ?_)
        · replace hM := itn c19 hM
          refine lv_aload_n hx hb dX4_readPerson_64 rfl (lv_at hl 3 rfl) ?_
          obtain ⟨q23, h22, hM⟩ := bd hM
          refine rVWp (wc := (wX4 g a0 q4.2)) (wq := ((wX4 g a0 q23) ++ (wX5 g a1 q8.2))) (As := []) (rest := []) (q0 := 0) hS (c_X4_advance l g a0 q4.2 h22) gX4_readPerson_X4_advance rfl hd_X4_advance ⟨Nat.le_of_ble_eq_true rfl, Nat.le_of_ble_eq_true rfl⟩ hK hw hA (pm_2_0 _ _) rfl (pm_2_0 _ _) rfl rfl rfl rfl hl.1 rfl (Nat.le_of_ble_eq_true rfl) dX4_readPerson_65 ⟨Nat.zero_le _, Nat.zero_le _⟩ (fun H locs hw => ?_)
          refine lv_aload_n hx hb dX4_readPerson_68 rfl (lv_at hl 3 rfl) ?_
          refine lv_aload_n hx hb dX4_readPerson_69 rfl (lv_at hl 4 rfl) ?_
          refine lv_iload hx hb dX4_readPerson_70 (lv_at hl 0 rfl) ?_
          refine lv_iconst (v := (2 : Int32)) hx hb dX4_readPerson_72 (by decide) ?_
          obtain ⟨q25, h24, hM⟩ := bd hM
          refine rVWp (wc := ((wX4 g a0 q23) ++ (wX5 g a1 q8.2))) (wq := ((wX4 g a0 q25.2.1) ++ (wX5 g a1 q25.2.2))) (As := [.ref (a1 0), .int q8.1, .int (2 : Int32)]) (rest := []) (q0 := 0) hS (c_X4_readSightSeen l g a0 a1 q23 q8.2 q8.1 (2 : Int32) h24) gX4_readPerson_X4_readSightSeen rfl hd_X4_readSightSeen ⟨Nat.le_of_ble_eq_true rfl, Nat.le_of_ble_eq_true rfl⟩ hK hw hA (pm_2_0_1 _ _) rfl (pm_2_0_1 _ _) rfl rfl rfl rfl hl.1 rfl (Nat.le_of_ble_eq_true rfl) dX4_readPerson_73 ⟨Nat.zero_le _, Nat.zero_le _⟩ (fun H locs hw => ?_)
          refine lv_if_ne (tgt := 81) hx hb dX4_readPerson_76 (by decide) (fun c26 => ?_) (fun c26 => ?_)
          · replace hM := itn c26 hM
            refine lv_aload_n hx hb dX4_readPerson_81 rfl (lv_at hl 3 rfl) ?_
            refine va_ldcS hx hb hown (hSg.2.2.2 4 (by decide)).1 dX4_readPerson_82 ?_
            obtain ⟨q28, h27, hM⟩ := bd hM
            refine rVRS (wc := (wX4 g a0 q25.2.1)) (As := [.ref (k.1 4)]) (rest := []) (q0 := 0) hS (c_X4_isWord l g k a0 q25.2.1 4 (by decide) h27) gX4_readPerson_X4_isWord rfl hd_X4_isWord ⟨Nat.le_of_ble_eq_true rfl, Nat.le_of_ble_eq_true rfl⟩ hK hSg hw.2.2 (va_P.pm hw.1 (pm_2_0 _ _)) rfl rfl rfl rfl hl.1 rfl (Nat.le_of_ble_eq_true rfl) dX4_readPerson_84 ⟨Nat.zero_le _, Nat.zero_le _⟩ ?_
            refine lv_if_eq (tgt := 102) hx hb dX4_readPerson_87 (by decide) (fun c29 => ?_) (fun c29 => ?_)
            · replace hM := itp c29 hM
              refine lv_iconst (v := (1 : Int32)) hx hb dX4_readPerson_102 (by decide) ?_
              obtain rfl := Option.some.inj hM
              exact W.zret hx hb hr (nz (Or.inr rfl)) (fun t ht _ => ⟨rfl, by rw [ht]; exact hw.1, hw.2.2.F ht⟩) hw.2.2.2.2 dX4_readPerson_103
            · replace hM := itn c29 hM
              refine lv_aload_n hx hb dX4_readPerson_90 rfl (lv_at hl 3 rfl) ?_
              obtain ⟨q31, h30, hM⟩ := bd hM
              refine rVWp (wc := (wX4 g a0 q25.2.1)) (wq := ((wX4 g a0 q31) ++ (wX5 g a1 q25.2.2))) (As := []) (rest := []) (q0 := 0) hS (c_X4_advance l g a0 q25.2.1 h30) gX4_readPerson_X4_advance rfl hd_X4_advance ⟨Nat.le_of_ble_eq_true rfl, Nat.le_of_ble_eq_true rfl⟩ hK hw hA (pm_2_0 _ _) rfl (pm_2_0 _ _) rfl rfl rfl rfl hl.1 rfl (Nat.le_of_ble_eq_true rfl) dX4_readPerson_91 ⟨Nat.zero_le _, Nat.zero_le _⟩ (fun H locs hw => ?_)
              refine lv_aload_n hx hb dX4_readPerson_94 rfl (lv_at hl 3 rfl) ?_
              refine lv_aload_n hx hb dX4_readPerson_95 rfl (lv_at hl 4 rfl) ?_
              refine lv_iload hx hb dX4_readPerson_96 (lv_at hl 0 rfl) ?_
              obtain ⟨q33, h32, hM⟩ := bd hM
              refine rVWp (wc := ((wX4 g a0 q31) ++ (wX5 g a1 q25.2.2))) (wq := ((wX4 g a0 q33.2.1) ++ (wX5 g a1 q33.2.2))) (As := [.ref (a1 0), .int q8.1]) (rest := []) (q0 := 0) hS (c_X4_readSightHeard l g a0 a1 q31 q25.2.2 q8.1 h32) gX4_readPerson_X4_readSightHeard rfl hd_X4_readSightHeard ⟨Nat.le_of_ble_eq_true rfl, Nat.le_of_ble_eq_true rfl⟩ hK hw hA (pm_2_0_1 _ _) rfl (pm_2_0_1 _ _) rfl rfl rfl rfl hl.1 rfl (Nat.le_of_ble_eq_true rfl) dX4_readPerson_98 ⟨Nat.zero_le _, Nat.zero_le _⟩ (fun H locs hw => ?_)
              obtain rfl := Option.some.inj hM
              exact W.zret hx hb hr (nz (bz_X4_readSightHeard h32)) (fun t ht _ => ⟨rfl, by rw [ht]; exact hw.1, hw.2.2.F ht⟩) hw.2.2.2.2 dX4_readPerson_101
          · replace hM := itp c26 hM
            refine lv_iconst (v := (0 : Int32)) hx hb dX4_readPerson_79 (by decide) ?_
            obtain rfl := Option.some.inj hM
            exact W.zret hx hb hr (nz (Or.inl rfl)) (fun t ht _ => ⟨rfl, by rw [ht]; exact hw.1, hw.2.2.F ht⟩) hw.2.2.2.2 dX4_readPerson_80
        · replace hM := itp c19 hM
          refine lv_aload_n hx hb dX4_readPerson_59 rfl (lv_at hl 3 rfl) ?_
          obtain ⟨q21, h20, hM⟩ := bd hM
          refine rVWp (wc := (wX4 g a0 q4.2)) (wq := ((wX4 g a0 q21.2) ++ (wX5 g a1 q8.2))) (As := []) (rest := []) (q0 := 0) hS (c_X4_isFault l g a0 q4.2 h20) gX4_readPerson_X4_isFault rfl hd_X4_isFault ⟨Nat.le_of_ble_eq_true rfl, Nat.le_of_ble_eq_true rfl⟩ hK hw hA (pm_2_0 _ _) rfl (pm_2_0 _ _) rfl rfl rfl rfl hl.1 rfl (Nat.le_of_ble_eq_true rfl) dX4_readPerson_60 ⟨Nat.zero_le _, Nat.zero_le _⟩ (fun H locs hw => ?_)
          obtain rfl := Option.some.inj hM
          exact W.zret hx hb hr (nz (bz_X4_isFault h20)) (fun t ht _ => ⟨rfl, by rw [ht]; exact hw.1, hw.2.2.F ht⟩) hw.2.2.2.2 dX4_readPerson_63
    · replace hM := itp c6 hM
      refine lv_iconst (v := (0 : Int32)) hx hb dX4_readPerson_35 (by decide) ?_
      obtain rfl := Option.some.inj hM
      exact W.zret hx hb hr (nz (Or.inl rfl)) (fun t ht _ => ⟨rfl, by rw [ht]; exact hw.1, hw.2.2.F ht⟩) hw.2.2.2.2 dX4_readPerson_36
theorem hd_X4_readStatement : yX4_readStatement.cls = RX4 ∧ yX4_readStatement.cls ≠ "java/lang/invoke/MethodHandle" ∧ yX4_readStatement.cls ≠ "java/lang/invoke/VarHandle" ∧ (parseMethodDescriptor yX4_readStatement.desc).map (fun d => d.parameters.length) = some 1 := by decide +kernel
set_option maxHeartbeats 4000000 in
set_option maxRecDepth 100000 in
theorem c_X4_readStatement (l : Launch) (g : Gm) (k : SgT) (a0 : Nat → Nat) (a1 : Nat → Nat) (P0 : TS) (T1 : TS) {q : (Int32 × TS × TS)} (hM : f_X4_readStatement P0 T1 = some q) : MWS l yX4_readStatement wsX4_readStatement 6 131 k g [.ref (a0 0), .ref (a1 0)] ((wX4 g a0 P0) ++ (wX5 g a1 T1)) (some (.int q.1)) ((wX4 g a0 q.2.1) ++ (wX5 g a1 q.2.2)) := by
  intro sz
  refine Met.ofW (cc := cX4_readStatement) (maxL := 2) (ret := (some .boolean)) (by decide) rfl ?_
  intro p e s m args below meth c s₁ B hml hv
  obtain ⟨hv, hSg⟩ := hv
  obtain ⟨rfl, hsz, hP, hK, hD0⟩ := hv
  have hx := B.exec; have hb := B.bytes; have hr := B.returns
  have hts := atoms_spec (ws := wsX4_readStatement) B.pre
  have hown : s.vm.findClass RX4 = some m.cls := findClass_of_methodNamed B.named
  have hlocks := B.notSynchronized
  have hS : CallFix p m c cX4_readStatement 2 s _ wsX4_readStatement RX4 := ⟨hx, hb, hml, hown, hts⟩
  subst hsz
  have hw := wk_start hP hD0
  have hA : ∀ q : Nat, s.heap.size ≤ q → va_A ((wX4 g a0 P0) ++ (wX5 g a1 T1)) s.heap.size q := fun q h => Or.inr h
  generalize va_A ((wX4 g a0 P0) ++ (wX5 g a1 T1)) s.heap.size = A at hw hA hSg ⊢
  clear hP hD0
  have hl := lv_entry ([.ref (a0 0), .ref (a1 0)]) (n := 2) (Nat.le_of_ble_eq_true rfl)
  rw [lg_entry_eq]
  generalize (lg_sl ([.ref (a0 0), .ref (a1 0)]) ++ List.replicate (2 - (lg_sl ([.ref (a0 0), .ref (a1 0)])).length) Slot.unset).toArray = ls at hl ⊢
  have hl : lv_has ls 2 [(0, .ref (a0 0)), (1, .ref (a1 0))] := hl
  rw [f_X4_readStatement] at hM
  refine lv_aload_n hx hb dX4_readStatement_0 rfl (lv_at hl 0 rfl) ?_
  refine va_ldcS hx hb hown (hSg.2.2.2 0 (by decide)).1 dX4_readStatement_1 ?_
  obtain ⟨q2, h1, hM⟩ := bd hM
  refine rVRS (wc := (wX4 g a0 P0)) (As := [.ref (k.1 0)]) (rest := []) (q0 := 0) hS (c_X4_isWord l g k a0 P0 0 (by decide) h1) gX4_readStatement_X4_isWord rfl hd_X4_isWord ⟨Nat.le_of_ble_eq_true rfl, Nat.le_of_ble_eq_true rfl⟩ hK hSg hw.2.2 (va_P.pm hw.1 (pm_2_0 _ _)) rfl rfl rfl rfl hl.1 rfl (Nat.le_of_ble_eq_true rfl) dX4_readStatement_3 ⟨Nat.zero_le _, Nat.zero_le _⟩ ?_
  refine lv_if_eq (tgt := 15) hx hb dX4_readStatement_6 (by decide) (fun c3 => ?_) (fun c3 => ?_)
  · replace hM := itp c3 hM
    refine lv_aload_n hx hb dX4_readStatement_15 rfl (lv_at hl 0 rfl) ?_
    refine va_ldcS hx hb hown (hSg.2.2.2 1 (by decide)).1 dX4_readStatement_16 ?_
    obtain ⟨q5, h4, hM⟩ := bd hM
    refine rVRS (wc := (wX4 g a0 P0)) (As := [.ref (k.1 1)]) (rest := []) (q0 := 0) hS (c_X4_isWord l g k a0 P0 1 (by decide) h4) gX4_readStatement_X4_isWord rfl hd_X4_isWord ⟨Nat.le_of_ble_eq_true rfl, Nat.le_of_ble_eq_true rfl⟩ hK hSg hw.2.2 (va_P.pm hw.1 (pm_2_0 _ _)) rfl rfl rfl rfl hl.1 rfl (Nat.le_of_ble_eq_true rfl) dX4_readStatement_18 ⟨Nat.zero_le _, Nat.zero_le _⟩ ?_
    refine lv_if_eq (tgt := 44) hx hb dX4_readStatement_21 (by decide) (fun c6 => ?_) (fun c6 => ?_)
    · replace hM := itp c6 hM
      refine lv_aload_n hx hb dX4_readStatement_44 rfl (lv_at hl 0 rfl) ?_
      refine va_ldcS hx hb hown (hSg.2.2.2 2 (by decide)).1 dX4_readStatement_45 ?_
      obtain ⟨q8, h7, hM⟩ := bd hM
      refine rVRS (wc := (wX4 g a0 P0)) (As := [.ref (k.1 2)]) (rest := []) (q0 := 0) hS (c_X4_isWord l g k a0 P0 2 (by decide) h7) gX4_readStatement_X4_isWord rfl hd_X4_isWord ⟨Nat.le_of_ble_eq_true rfl, Nat.le_of_ble_eq_true rfl⟩ hK hSg hw.2.2 (va_P.pm hw.1 (pm_2_0 _ _)) rfl rfl rfl rfl hl.1 rfl (Nat.le_of_ble_eq_true rfl) dX4_readStatement_47 ⟨Nat.zero_le _, Nat.zero_le _⟩ ?_
      refine lv_if_eq (tgt := 60) hx hb dX4_readStatement_50 (by decide) (fun c9 => ?_) (fun c9 => ?_)
      · replace hM := itp c9 hM
        refine lv_aload_n hx hb dX4_readStatement_60 rfl (lv_at hl 0 rfl) ?_
        refine va_ldcS hx hb hown (hSg.2.2.2 3 (by decide)).1 dX4_readStatement_61 ?_
        obtain ⟨q11, h10, hM⟩ := bd hM
        refine rVRS (wc := (wX4 g a0 P0)) (As := [.ref (k.1 3)]) (rest := []) (q0 := 0) hS (c_X4_isWord l g k a0 P0 3 (by decide) h10) gX4_readStatement_X4_isWord rfl hd_X4_isWord ⟨Nat.le_of_ble_eq_true rfl, Nat.le_of_ble_eq_true rfl⟩ hK hSg hw.2.2 (va_P.pm hw.1 (pm_2_0 _ _)) rfl rfl rfl rfl hl.1 rfl (Nat.le_of_ble_eq_true rfl) dX4_readStatement_63 ⟨Nat.zero_le _, Nat.zero_le _⟩ ?_
        refine lv_if_eq (tgt := 76) hx hb dX4_readStatement_66 (by decide) (fun c12 => ?_) (fun c12 => ?_)
        · replace hM := itp c12 hM
          refine lv_aload_n hx hb dX4_readStatement_76 rfl (lv_at hl 0 rfl) ?_
          refine va_ldcS hx hb hown (hSg.2.2.2 4 (by decide)).1 dX4_readStatement_77 ?_
          obtain ⟨q14, h13, hM⟩ := bd hM
          refine rVRS (wc := (wX4 g a0 P0)) (As := [.ref (k.1 4)]) (rest := []) (q0 := 0) hS (c_X4_isWord l g k a0 P0 4 (by decide) h13) gX4_readStatement_X4_isWord rfl hd_X4_isWord ⟨Nat.le_of_ble_eq_true rfl, Nat.le_of_ble_eq_true rfl⟩ hK hSg hw.2.2 (va_P.pm hw.1 (pm_2_0 _ _)) rfl rfl rfl rfl hl.1 rfl (Nat.le_of_ble_eq_true rfl) dX4_readStatement_79 ⟨Nat.zero_le _, Nat.zero_le _⟩ ?_
          refine lv_if_eq (tgt := 91) hx hb dX4_readStatement_82 (by decide) (fun c15 => ?_) (fun c15 => ?_)
          · replace hM := itp c15 hM
            refine lv_aload_n hx hb dX4_readStatement_91 rfl (lv_at hl 0 rfl) ?_
            refine va_ldcS hx hb hown (hSg.2.2.2 5 (by decide)).1 dX4_readStatement_92 ?_
            obtain ⟨q17, h16, hM⟩ := bd hM
            refine rVRS (wc := (wX4 g a0 P0)) (As := [.ref (k.1 5)]) (rest := []) (q0 := 0) hS (c_X4_isWord l g k a0 P0 5 (by decide) h16) gX4_readStatement_X4_isWord rfl hd_X4_isWord ⟨Nat.le_of_ble_eq_true rfl, Nat.le_of_ble_eq_true rfl⟩ hK hSg hw.2.2 (va_P.pm hw.1 (pm_2_0 _ _)) rfl rfl rfl rfl hl.1 rfl (Nat.le_of_ble_eq_true rfl) dX4_readStatement_94 ⟨Nat.zero_le _, Nat.zero_le _⟩ ?_
            refine lv_if_eq (tgt := 106) hx hb dX4_readStatement_97 (by decide) (fun c18 => ?_) (fun c18 => ?_)
            · replace hM := itp c18 hM
              refine lv_aload_n hx hb dX4_readStatement_106 rfl (lv_at hl 0 rfl) ?_
              refine va_ldcS hx hb hown (hSg.2.2.2 6 (by decide)).1 dX4_readStatement_107 ?_
              obtain ⟨q20, h19, hM⟩ := bd hM
              refine rVRS (wc := (wX4 g a0 P0)) (As := [.ref (k.1 6)]) (rest := []) (q0 := 0) hS (c_X4_isWord l g k a0 P0 6 (by decide) h19) gX4_readStatement_X4_isWord rfl hd_X4_isWord ⟨Nat.le_of_ble_eq_true rfl, Nat.le_of_ble_eq_true rfl⟩ hK hSg hw.2.2 (va_P.pm hw.1 (pm_2_0 _ _)) rfl rfl rfl rfl hl.1 rfl (Nat.le_of_ble_eq_true rfl) dX4_readStatement_109 ⟨Nat.zero_le _, Nat.zero_le _⟩ ?_
              refine lv_if_eq (tgt := 122) hx hb dX4_readStatement_112 (by decide) (fun c21 => ?_) (fun c21 => ?_)
              · replace hM := itp c21 hM
                refine lv_aload_n hx hb dX4_readStatement_122 rfl (lv_at hl 0 rfl) ?_
                refine va_ldcS hx hb hown (hSg.2.2.2 7 (by decide)).1 dX4_readStatement_123 ?_
                obtain ⟨q23, h22, hM⟩ := bd hM
                refine rVRS (wc := (wX4 g a0 P0)) (As := [.ref (k.1 7)]) (rest := []) (q0 := 0) hS (c_X4_isWord l g k a0 P0 7 (by decide) h22) gX4_readStatement_X4_isWord rfl hd_X4_isWord ⟨Nat.le_of_ble_eq_true rfl, Nat.le_of_ble_eq_true rfl⟩ hK hSg hw.2.2 (va_P.pm hw.1 (pm_2_0 _ _)) rfl rfl rfl rfl hl.1 rfl (Nat.le_of_ble_eq_true rfl) dX4_readStatement_125 ⟨Nat.zero_le _, Nat.zero_le _⟩ ?_
                refine lv_if_eq (tgt := 138) hx hb dX4_readStatement_128 (by decide) (fun c24 => ?_) (fun c24 => ?_)
                · replace hM := itp c24 hM
                  refine lv_aload_n hx hb dX4_readStatement_138 rfl (lv_at hl 0 rfl) ?_
                  refine va_ldcS hx hb hown (hSg.2.2.2 8 (by decide)).1 dX4_readStatement_139 ?_
                  obtain ⟨q26, h25, hM⟩ := bd hM
                  refine rVRS (wc := (wX4 g a0 P0)) (As := [.ref (k.1 8)]) (rest := []) (q0 := 0) hS (c_X4_isWord l g k a0 P0 8 (by decide) h25) gX4_readStatement_X4_isWord rfl hd_X4_isWord ⟨Nat.le_of_ble_eq_true rfl, Nat.le_of_ble_eq_true rfl⟩ hK hSg hw.2.2 (va_P.pm hw.1 (pm_2_0 _ _)) rfl rfl rfl rfl hl.1 rfl (Nat.le_of_ble_eq_true rfl) dX4_readStatement_141 ⟨Nat.zero_le _, Nat.zero_le _⟩ ?_
                  refine lv_if_eq (tgt := 156) hx hb dX4_readStatement_144 (by decide) (fun c27 => ?_) (fun c27 => ?_)
                  · replace hM := itp c27 hM
                    refine lv_aload_n hx hb dX4_readStatement_156 rfl (lv_at hl 0 rfl) ?_
                    obtain ⟨q29, h28, hM⟩ := bd hM
                    refine rVWp (wc := (wX4 g a0 P0)) (wq := ((wX4 g a0 q29.2) ++ (wX5 g a1 T1))) (As := []) (rest := []) (q0 := 0) hS (c_X4_isFault l g a0 P0 h28) gX4_readStatement_X4_isFault rfl hd_X4_isFault ⟨Nat.le_of_ble_eq_true rfl, Nat.le_of_ble_eq_true rfl⟩ hK hw hA (pm_2_0 _ _) rfl (pm_2_0 _ _) rfl rfl rfl rfl hl.1 rfl (Nat.le_of_ble_eq_true rfl) dX4_readStatement_157 ⟨Nat.zero_le _, Nat.zero_le _⟩ (fun H locs hw => ?_)
                    obtain rfl := Option.some.inj hM
                    exact W.zret hx hb hr (nz (bz_X4_isFault h28)) (fun t ht _ => ⟨rfl, by rw [ht]; exact hw.1, hw.2.2.F ht⟩) hw.2.2.2.2 dX4_readStatement_160
                  · replace hM := itn c27 hM
                    refine lv_aload_n hx hb dX4_readStatement_147 rfl (lv_at hl 0 rfl) ?_
                    refine lv_aload_n hx hb dX4_readStatement_148 rfl (lv_at hl 1 rfl) ?_
                    refine lv_iconst (v := (2 : Int32)) hx hb dX4_readStatement_149 (by decide) ?_
                    obtain ⟨q31, h30, hM⟩ := bd hM
                    refine rVWp (wc := ((wX4 g a0 P0) ++ (wX5 g a1 T1))) (wq := ((wX4 g a0 q31.2.1) ++ (wX5 g a1 q31.2.2))) (As := [.ref (a1 0), .int (2 : Int32)]) (rest := []) (q0 := 0) hS (c_X4_readSetting l g a0 a1 P0 T1 (2 : Int32) h30) gX4_readStatement_X4_readSetting rfl hd_X4_readSetting ⟨Nat.le_of_ble_eq_true rfl, Nat.le_of_ble_eq_true rfl⟩ hK hw hA (pm_2_0_1 _ _) rfl (pm_2_0_1 _ _) rfl rfl rfl rfl hl.1 rfl (Nat.le_of_ble_eq_true rfl) dX4_readStatement_150 ⟨Nat.zero_le _, Nat.zero_le _⟩ (fun H locs hw => ?_)
                    refine lv_goto (tgt := 160) hx hb dX4_readStatement_153 (by decide) ?_
                    obtain rfl := Option.some.inj hM
                    exact W.zret hx hb hr (nz (bz_X4_readSetting h30)) (fun t ht _ => ⟨rfl, by rw [ht]; exact hw.1, hw.2.2.F ht⟩) hw.2.2.2.2 dX4_readStatement_160
                · replace hM := itn c24 hM
                  refine lv_aload_n hx hb dX4_readStatement_131 rfl (lv_at hl 0 rfl) ?_
                  refine lv_aload_n hx hb dX4_readStatement_132 rfl (lv_at hl 1 rfl) ?_
                  refine lv_iconst (v := (1 : Int32)) hx hb dX4_readStatement_133 (by decide) ?_
                  obtain ⟨q33, h32, hM⟩ := bd hM
                  refine rVWp (wc := ((wX4 g a0 P0) ++ (wX5 g a1 T1))) (wq := ((wX4 g a0 q33.2.1) ++ (wX5 g a1 q33.2.2))) (As := [.ref (a1 0), .int (1 : Int32)]) (rest := []) (q0 := 0) hS (c_X4_readSetting l g a0 a1 P0 T1 (1 : Int32) h32) gX4_readStatement_X4_readSetting rfl hd_X4_readSetting ⟨Nat.le_of_ble_eq_true rfl, Nat.le_of_ble_eq_true rfl⟩ hK hw hA (pm_2_0_1 _ _) rfl (pm_2_0_1 _ _) rfl rfl rfl rfl hl.1 rfl (Nat.le_of_ble_eq_true rfl) dX4_readStatement_134 ⟨Nat.zero_le _, Nat.zero_le _⟩ (fun H locs hw => ?_)
                  obtain rfl := Option.some.inj hM
                  exact W.zret hx hb hr (nz (bz_X4_readSetting h32)) (fun t ht _ => ⟨rfl, by rw [ht]; exact hw.1, hw.2.2.F ht⟩) hw.2.2.2.2 dX4_readStatement_137
              · replace hM := itn c21 hM
                refine lv_aload_n hx hb dX4_readStatement_115 rfl (lv_at hl 0 rfl) ?_
                refine lv_aload_n hx hb dX4_readStatement_116 rfl (lv_at hl 1 rfl) ?_
                refine lv_iconst (v := (0 : Int32)) hx hb dX4_readStatement_117 (by decide) ?_
                obtain ⟨q35, h34, hM⟩ := bd hM
                refine rVWp (wc := ((wX4 g a0 P0) ++ (wX5 g a1 T1))) (wq := ((wX4 g a0 q35.2.1) ++ (wX5 g a1 q35.2.2))) (As := [.ref (a1 0), .int (0 : Int32)]) (rest := []) (q0 := 0) hS (c_X4_readSetting l g a0 a1 P0 T1 (0 : Int32) h34) gX4_readStatement_X4_readSetting rfl hd_X4_readSetting ⟨Nat.le_of_ble_eq_true rfl, Nat.le_of_ble_eq_true rfl⟩ hK hw hA (pm_2_0_1 _ _) rfl (pm_2_0_1 _ _) rfl rfl rfl rfl hl.1 rfl (Nat.le_of_ble_eq_true rfl) dX4_readStatement_118 ⟨Nat.zero_le _, Nat.zero_le _⟩ (fun H locs hw => ?_)
                obtain rfl := Option.some.inj hM
                exact W.zret hx hb hr (nz (bz_X4_readSetting h34)) (fun t ht _ => ⟨rfl, by rw [ht]; exact hw.1, hw.2.2.F ht⟩) hw.2.2.2.2 dX4_readStatement_121
            · replace hM := itn c18 hM
              refine lv_aload_n hx hb dX4_readStatement_100 rfl (lv_at hl 0 rfl) ?_
              refine lv_aload_n hx hb dX4_readStatement_101 rfl (lv_at hl 1 rfl) ?_
              obtain ⟨q37, h36, hM⟩ := bd hM
              refine rVWp (wc := ((wX4 g a0 P0) ++ (wX5 g a1 T1))) (wq := ((wX4 g a0 q37.2.1) ++ (wX5 g a1 q37.2.2))) (As := [.ref (a1 0)]) (rest := []) (q0 := 0) hS (c_X4_readHears l g a0 a1 P0 T1 h36) gX4_readStatement_X4_readHears rfl hd_X4_readHears ⟨Nat.le_of_ble_eq_true rfl, Nat.le_of_ble_eq_true rfl⟩ hK hw hA (pm_2_0_1 _ _) rfl (pm_2_0_1 _ _) rfl rfl rfl rfl hl.1 rfl (Nat.le_of_ble_eq_true rfl) dX4_readStatement_102 ⟨Nat.zero_le _, Nat.zero_le _⟩ (fun H locs hw => ?_)
              obtain rfl := Option.some.inj hM
              exact W.zret hx hb hr (nz (bz_X4_readHears h36)) (fun t ht _ => ⟨rfl, by rw [ht]; exact hw.1, hw.2.2.F ht⟩) hw.2.2.2.2 dX4_readStatement_105
          · replace hM := itn c15 hM
            refine lv_aload_n hx hb dX4_readStatement_85 rfl (lv_at hl 0 rfl) ?_
            refine lv_aload_n hx hb dX4_readStatement_86 rfl (lv_at hl 1 rfl) ?_
            obtain ⟨q39, h38, hM⟩ := bd hM
            refine rVWp (wc := ((wX4 g a0 P0) ++ (wX5 g a1 T1))) (wq := ((wX4 g a0 q39.2.1) ++ (wX5 g a1 q39.2.2))) (As := [.ref (a1 0)]) (rest := []) (q0 := 0) hS (c_X4_readHeard l g a0 a1 P0 T1 h38) gX4_readStatement_X4_readHeard rfl hd_X4_readHeard ⟨Nat.le_of_ble_eq_true rfl, Nat.le_of_ble_eq_true rfl⟩ hK hw hA (pm_2_0_1 _ _) rfl (pm_2_0_1 _ _) rfl rfl rfl rfl hl.1 rfl (Nat.le_of_ble_eq_true rfl) dX4_readStatement_87 ⟨Nat.zero_le _, Nat.zero_le _⟩ (fun H locs hw => ?_)
            obtain rfl := Option.some.inj hM
            exact W.zret hx hb hr (nz (bz_X4_readHeard h38)) (fun t ht _ => ⟨rfl, by rw [ht]; exact hw.1, hw.2.2.F ht⟩) hw.2.2.2.2 dX4_readStatement_90
        · replace hM := itn c12 hM
          refine lv_aload_n hx hb dX4_readStatement_69 rfl (lv_at hl 0 rfl) ?_
          refine lv_aload_n hx hb dX4_readStatement_70 rfl (lv_at hl 1 rfl) ?_
          refine lv_iconst (v := (1 : Int32)) hx hb dX4_readStatement_71 (by decide) ?_
          obtain ⟨q41, h40, hM⟩ := bd hM
          refine rVWp (wc := ((wX4 g a0 P0) ++ (wX5 g a1 T1))) (wq := ((wX4 g a0 q41.2.1) ++ (wX5 g a1 q41.2.2))) (As := [.ref (a1 0), .int (1 : Int32)]) (rest := []) (q0 := 0) hS (c_X4_readSeen l g a0 a1 P0 T1 (1 : Int32) h40) gX4_readStatement_X4_readSeen rfl hd_X4_readSeen ⟨Nat.le_of_ble_eq_true rfl, Nat.le_of_ble_eq_true rfl⟩ hK hw hA (pm_2_0_1 _ _) rfl (pm_2_0_1 _ _) rfl rfl rfl rfl hl.1 rfl (Nat.le_of_ble_eq_true rfl) dX4_readStatement_72 ⟨Nat.zero_le _, Nat.zero_le _⟩ (fun H locs hw => ?_)
          obtain rfl := Option.some.inj hM
          exact W.zret hx hb hr (nz (bz_X4_readSeen h40)) (fun t ht _ => ⟨rfl, by rw [ht]; exact hw.1, hw.2.2.F ht⟩) hw.2.2.2.2 dX4_readStatement_75
      · replace hM := itn c9 hM
        refine lv_aload_n hx hb dX4_readStatement_53 rfl (lv_at hl 0 rfl) ?_
        refine lv_aload_n hx hb dX4_readStatement_54 rfl (lv_at hl 1 rfl) ?_
        refine lv_iconst (v := (2 : Int32)) hx hb dX4_readStatement_55 (by decide) ?_
        obtain ⟨q43, h42, hM⟩ := bd hM
        refine rVWp (wc := ((wX4 g a0 P0) ++ (wX5 g a1 T1))) (wq := ((wX4 g a0 q43.2.1) ++ (wX5 g a1 q43.2.2))) (As := [.ref (a1 0), .int (2 : Int32)]) (rest := []) (q0 := 0) hS (c_X4_readSeen l g a0 a1 P0 T1 (2 : Int32) h42) gX4_readStatement_X4_readSeen rfl hd_X4_readSeen ⟨Nat.le_of_ble_eq_true rfl, Nat.le_of_ble_eq_true rfl⟩ hK hw hA (pm_2_0_1 _ _) rfl (pm_2_0_1 _ _) rfl rfl rfl rfl hl.1 rfl (Nat.le_of_ble_eq_true rfl) dX4_readStatement_56 ⟨Nat.zero_le _, Nat.zero_le _⟩ (fun H locs hw => ?_)
        obtain rfl := Option.some.inj hM
        exact W.zret hx hb hr (nz (bz_X4_readSeen h42)) (fun t ht _ => ⟨rfl, by rw [ht]; exact hw.1, hw.2.2.F ht⟩) hw.2.2.2.2 dX4_readStatement_59
    · replace hM := itn c6 hM
      refine lv_aload_n hx hb dX4_readStatement_24 rfl (lv_at hl 1 rfl) ?_
      refine rVR (wc := (wX5 g a1 T1)) (As := []) (rest := []) (q0 := 0) hS (c_X5_isFull l g a1 T1) gX4_readStatement_X5_isFull rfl hd_X5_isFull ⟨Nat.le_of_ble_eq_true rfl, Nat.le_of_ble_eq_true rfl⟩ hK (va_P.pm hw.1 (pm_2_1 _ _)) rfl rfl rfl rfl hl.1 rfl (Nat.le_of_ble_eq_true rfl) dX4_readStatement_25 ⟨Nat.zero_le _, Nat.zero_le _⟩ ?_
      refine lv_if_eq (tgt := 38) hx hb dX4_readStatement_28 (by decide) (fun c45 => ?_) (fun c45 => ?_)
      · replace hM := itp c45 hM
        refine lv_aload_n hx hb dX4_readStatement_38 rfl (lv_at hl 0 rfl) ?_
        refine lv_aload_n hx hb dX4_readStatement_39 rfl (lv_at hl 1 rfl) ?_
        obtain ⟨q47, h46, hM⟩ := bd hM
        refine rVWS (wc := ((wX4 g a0 P0) ++ (wX5 g a1 T1))) (wq := ((wX4 g a0 q47.2.1) ++ (wX5 g a1 q47.2.2))) (As := [.ref (a1 0)]) (rest := []) (q0 := 0) hS (c_X4_readPerson l g k a0 a1 P0 T1 h46) gX4_readStatement_X4_readPerson rfl hd_X4_readPerson ⟨Nat.le_of_ble_eq_true rfl, Nat.le_of_ble_eq_true rfl⟩ hK hSg hw hA (pm_2_0_1 _ _) rfl (pm_2_0_1 _ _) rfl rfl rfl rfl hl.1 rfl (Nat.le_of_ble_eq_true rfl) dX4_readStatement_40 ⟨Nat.zero_le _, Nat.zero_le _⟩ (fun H locs hw => ?_)
        obtain rfl := Option.some.inj hM
        exact W.zret hx hb hr (nz (bz_X4_readPerson h46)) (fun t ht _ => ⟨rfl, by rw [ht]; exact hw.1, hw.2.2.F ht⟩) hw.2.2.2.2 dX4_readStatement_43
      · replace hM := itn c45 hM
        refine lv_aload_n hx hb dX4_readStatement_31 rfl (lv_at hl 0 rfl) ?_
        obtain ⟨q49, h48, hM⟩ := bd hM
        refine rVWp (wc := (wX4 g a0 P0)) (wq := ((wX4 g a0 q49.2) ++ (wX5 g a1 T1))) (As := []) (rest := []) (q0 := 0) hS (c_X4_isFault l g a0 P0 h48) gX4_readStatement_X4_isFault rfl hd_X4_isFault ⟨Nat.le_of_ble_eq_true rfl, Nat.le_of_ble_eq_true rfl⟩ hK hw hA (pm_2_0 _ _) rfl (pm_2_0 _ _) rfl rfl rfl rfl hl.1 rfl (Nat.le_of_ble_eq_true rfl) dX4_readStatement_32 ⟨Nat.zero_le _, Nat.zero_le _⟩ (fun H locs hw => ?_)
        refine lv_goto (tgt := 43) hx hb dX4_readStatement_35 (by decide) ?_
        obtain rfl := Option.some.inj hM
        exact W.zret hx hb hr (nz (bz_X4_isFault h48)) (fun t ht _ => ⟨rfl, by rw [ht]; exact hw.1, hw.2.2.F ht⟩) hw.2.2.2.2 dX4_readStatement_43
  · replace hM := itn c3 hM
    refine lv_aload_n hx hb dX4_readStatement_9 rfl (lv_at hl 0 rfl) ?_
    refine lv_aload_n hx hb dX4_readStatement_10 rfl (lv_at hl 1 rfl) ?_
    obtain ⟨q51, h50, hM⟩ := bd hM
    refine rVWp (wc := ((wX4 g a0 P0) ++ (wX5 g a1 T1))) (wq := ((wX4 g a0 q51.2.1) ++ (wX5 g a1 q51.2.2))) (As := [.ref (a1 0)]) (rest := []) (q0 := 0) hS (c_X4_readSights l g a0 a1 P0 T1 h50) gX4_readStatement_X4_readSights rfl hd_X4_readSights ⟨Nat.le_of_ble_eq_true rfl, Nat.le_of_ble_eq_true rfl⟩ hK hw hA (pm_2_0_1 _ _) rfl (pm_2_0_1 _ _) rfl rfl rfl rfl hl.1 rfl (Nat.le_of_ble_eq_true rfl) dX4_readStatement_11 ⟨Nat.zero_le _, Nat.zero_le _⟩ (fun H locs hw => ?_)
    obtain rfl := Option.some.inj hM
    exact W.zret hx hb hr (nz (bz_X4_readSights h50)) (fun t ht _ => ⟨rfl, by rw [ht]; exact hw.1, hw.2.2.F ht⟩) hw.2.2.2.2 dX4_readStatement_14
theorem hd_X4_readInto : yX4_readInto.cls = RX4 ∧ yX4_readInto.cls ≠ "java/lang/invoke/MethodHandle" ∧ yX4_readInto.cls ≠ "java/lang/invoke/VarHandle" ∧ (parseMethodDescriptor yX4_readInto.desc).map (fun d => d.parameters.length) = some 1 := by decide +kernel
set_option maxHeartbeats 4000000 in
set_option maxRecDepth 100000 in
theorem c_X4_readInto (l : Launch) (g : Gm) (k : SgT) (a0 : Nat → Nat) (a1 : Nat → Nat) (P0 : TS) (T1 : TS) {q : (Int32 × TS × TS)} (hM : f_X4_readInto P0 T1 = some q) : MWS l yX4_readInto wsX4_readInto 7 152 k g [.ref (a0 0), .ref (a1 0)] ((wX4 g a0 P0) ++ (wX5 g a1 T1)) (some (.int q.1)) ((wX4 g a0 q.2.1) ++ (wX5 g a1 q.2.2)) := by
  intro sz
  refine Met.ofW (cc := cX4_readInto) (maxL := 3) (ret := (some .int)) (by decide) rfl ?_
  intro p e s m args below meth c s₁ B hml hv
  obtain ⟨hv, hSg⟩ := hv
  obtain ⟨rfl, hsz, hP, hK, hD0⟩ := hv
  have hx := B.exec; have hb := B.bytes; have hr := B.returns
  have hts := atoms_spec (ws := wsX4_readInto) B.pre
  have hown : s.vm.findClass RX4 = some m.cls := findClass_of_methodNamed B.named
  have hlocks := B.notSynchronized
  have hS : CallFix p m c cX4_readInto 3 s _ wsX4_readInto RX4 := ⟨hx, hb, hml, hown, hts⟩
  have hin_X4 : ∀ w ∈ wsX40, w ∈ wsX4_readInto := fun w h => (List.mem_cons_of_mem _ (List.mem_append_left _ (List.mem_append_right _ h)))
  subst hsz
  have hw := wk_start hP hD0
  have hA : ∀ q : Nat, s.heap.size ≤ q → va_A ((wX4 g a0 P0) ++ (wX5 g a1 T1)) s.heap.size q := fun q h => Or.inr h
  generalize va_A ((wX4 g a0 P0) ++ (wX5 g a1 T1)) s.heap.size = A at hw hA hSg ⊢
  clear hP hD0
  have hl := lv_entry ([.ref (a0 0), .ref (a1 0)]) (n := 3) (Nat.le_of_ble_eq_true rfl)
  rw [lg_entry_eq]
  generalize (lg_sl ([.ref (a0 0), .ref (a1 0)]) ++ List.replicate (3 - (lg_sl ([.ref (a0 0), .ref (a1 0)])).length) Slot.unset).toArray = ls at hl ⊢
  have hl : lv_has ls 3 [(0, .ref (a0 0)), (1, .ref (a1 0))] := hl
  rw [f_X4_readInto] at hM
  refine lv_aload_n hx hb dX4_readInto_0 rfl (lv_at hl 0 rfl) ?_
  refine lv_iconst (v := (0 : Int32)) hx hb dX4_readInto_1 (by decide) ?_
  refine wk_put (wq := ((wX4 g a0 (up P0 5 (fun _ => (0 : Int32)))) ++ (wX5 g a1 T1))) hx hb hts hin_X4 tyX4 tyX4_ok nmX4 hown hK hw 4 0 5 rfl rfl (by decide) (mi 1 rfl) rfl rfl rfl rfl (Nat.le_of_ble_eq_true rfl) dX4_readInto_2 rfl (fun H locs hw => ?_)
  refine lv_aload_n hx hb dX4_readInto_5 rfl (lv_at hl 0 rfl) ?_
  obtain ⟨q2, h1, hM⟩ := bd hM
  refine rVWp (wc := (wX4 g a0 (up P0 5 (fun _ => (0 : Int32))))) (wq := ((wX4 g a0 q2) ++ (wX5 g a1 T1))) (As := []) (rest := []) (q0 := 0) hS (c_X4_advance l g a0 (up P0 5 (fun _ => (0 : Int32))) h1) gX4_readInto_X4_advance rfl hd_X4_advance ⟨Nat.le_of_ble_eq_true rfl, Nat.le_of_ble_eq_true rfl⟩ hK hw hA (pm_2_0 _ _) rfl (pm_2_0 _ _) rfl rfl rfl rfl hl.1 rfl (Nat.le_of_ble_eq_true rfl) dX4_readInto_6 ⟨Nat.zero_le _, Nat.zero_le _⟩ (fun H locs hw => ?_)
  refine lv_iconst (v := (1 : Int32)) hx hb dX4_readInto_9 (by decide) ?_
  refine lv_istore_n (lv' := [(2, .int (1 : Int32)), (0, .ref (a0 0)), (1, .ref (a1 0))]) hx hb dX4_readInto_10 rfl hl (by decide) rfl (fun ls hl => ?_)
  obtain ⟨q6, hL11, hM11⟩ := bd hM
  have hJ11 : ∀ (q6x : (TS × TS)), q6 = .inr q6x → ∀ (H : Heap) (locs : List Loc), Wk g A s.heap H locs ((wX4 g a0 q6x.1) ++ (wX5 g a1 q6x.2)) → ∀ (ls : Array Slot), lv_has ls 3 [(0, .ref (a0 0))] → W p l e (headSpec wsX4_readInto ({ frames := 7, cells := 0, slots := 0, locals := 152 } : Room)).room s m ([.ref (a0 0), .ref (a1 0)] : List Value).toArray below meth c H locs 0 0 (MQ below (QcW g (some (.int q.1)) ((wX4 g a0 q.2.1) ++ (wX5 g a1 q.2.2)) A) ([.ref (a0 0), .ref (a1 0)] : List Value).toArray s 0 0 A) (F0 m 65 ls []) := by
    intro q6x hX11 H locs hw ls hl
    rw [hX11] at hM11
    have hM := eo_inr hM11
    refine lv_aload_n hx hb dX4_readInto_65 rfl (lv_at hl 0 rfl) ?_
    refine lv_aload_n hx hb dX4_readInto_66 rfl (lv_at hl 0 rfl) ?_
    refine wk_get hx hb hts hin_X4 hown hK hw.1 4 0 4 (.int (q6x.1 4 0)) rfl rfl (by decide) (mi 3 rfl) rfl rfl dX4_readInto_67 ?_
    refine wk_put (wq := ((wX4 g a0 (up q6x.1 1 (fun _ => (q6x.1 4 0)))) ++ (wX5 g a1 q6x.2))) hx hb hts hin_X4 tyX4 tyX4_ok nmX4 hown hK hw 4 0 1 rfl rfl (by decide) (mi 4 rfl) rfl rfl rfl rfl (Nat.le_of_ble_eq_true rfl) dX4_readInto_70 rfl (fun H locs hw => ?_)
    refine lv_iconst (v := (-1 : Int32)) hx hb dX4_readInto_73 (by decide) ?_
    obtain rfl := Option.some.inj hM
    exact W.iret hx hb hr (fun t ht _ => ⟨rfl, by rw [ht]; exact hw.1, hw.2.2.F ht⟩) hw.2.2.2.2 dX4_readInto_74
  have hW11 : ∀ (n : Nat) (v2_3 : Int32) (PL4 : TS) (TL5 : TS), L_X4_readInto_11 n v2_3 PL4 TL5 = some q6 → ∀ (H : Heap) (locs : List Loc), Wk g A s.heap H locs ((wX4 g a0 PL4) ++ (wX5 g a1 TL5)) → ∀ (ls : Array Slot), lv_has ls 3 [(2, .int v2_3), (0, .ref (a0 0)), (1, .ref (a1 0))] → W p l e (headSpec wsX4_readInto ({ frames := 7, cells := 0, slots := 0, locals := 152 } : Room)).room s m ([.ref (a0 0), .ref (a1 0)] : List Value).toArray below meth c H locs 0 0 (MQ below (QcW g (some (.int q.1)) ((wX4 g a0 q.2.1) ++ (wX5 g a1 q.2.2)) A) ([.ref (a0 0), .ref (a1 0)] : List Value).toArray s 0 0 A) (F0 m 11 ls []) := by
    intro n
    induction n with
    | zero => intro v2_3 PL4 TL5 hM; rw [L_X4_readInto_11] at hM; exact nn hM
    | succ n ih11 =>
      intro v2_3 PL4 TL5 hM H locs hw ls hl
      rw [L_X4_readInto_11] at hM
      refine lv_iload_n hx hb dX4_readInto_11 rfl (lv_at hl 0 rfl) ?_
      refine lv_sipush (v := (250 : Int32)) hx hb dX4_readInto_12 (by decide) ?_
      refine lv_icmp_gt (tgt := 65) hx hb dX4_readInto_15 (by decide) (fun c7 => ?_) (fun c7 => ?_)
      · replace hM := itp c7 hM
        exact hJ11 _ (Option.some.inj hM).symm _ _ hw _ (lv_sub hl [1] rfl)
      · replace hM := itn c7 hM
        refine lv_aload_n hx hb dX4_readInto_18 rfl (lv_at hl 1 rfl) ?_
        refine lv_aload_n hx hb dX4_readInto_19 rfl (lv_at hl 2 rfl) ?_
        obtain ⟨q9, h8, hM⟩ := bd hM
        refine rVWS (wc := ((wX4 g a0 PL4) ++ (wX5 g a1 TL5))) (wq := ((wX4 g a0 q9.2.1) ++ (wX5 g a1 q9.2.2))) (As := [.ref (a1 0)]) (rest := []) (q0 := 0) hS (c_X4_readStatement l g k a0 a1 PL4 TL5 h8) gX4_readInto_X4_readStatement rfl hd_X4_readStatement ⟨Nat.le_of_ble_eq_true rfl, Nat.le_of_ble_eq_true rfl⟩ hK hSg hw hA (pm_2_0_1 _ _) rfl (pm_2_0_1 _ _) rfl rfl rfl rfl hl.1 rfl (Nat.le_of_ble_eq_true rfl) dX4_readInto_20 ⟨Nat.zero_le _, Nat.zero_le _⟩ (fun H locs hw => ?_)
        refine lv_if_ne (tgt := 28) hx hb dX4_readInto_23 (by decide) (fun c10 => ?_) (fun c10 => ?_)
        · replace hM := itn c10 hM
          refine lv_aload_n hx hb dX4_readInto_28 rfl (lv_at hl 1 rfl) ?_
          refine wk_get hx hb hts hin_X4 hown hK hw.1 4 0 3 (.int (q9.2.1 3 0)) rfl rfl (by decide) (mi 2 rfl) rfl rfl dX4_readInto_29 ?_
          refine lv_if_ne (tgt := 37) hx hb dX4_readInto_32 (by decide) (fun c11 => ?_) (fun c11 => ?_)
          · replace hM := itn c11 hM
            refine lv_aload_n hx hb dX4_readInto_37 rfl (lv_at hl 1 rfl) ?_
            refine wk_get hx hb hts hin_X4 hown hK hw.1 4 0 3 (.int (q9.2.1 3 0)) rfl rfl (by decide) (mi 2 rfl) rfl rfl dX4_readInto_38 ?_
            refine lv_iconst (v := (3 : Int32)) hx hb dX4_readInto_41 (by decide) ?_
            refine lv_icmp_eq (tgt := 55) hx hb dX4_readInto_42 (by decide) (fun c12 => ?_) (fun c12 => ?_)
            · replace hM := itp c12 hM
              refine lv_aload_n hx hb dX4_readInto_55 rfl (lv_at hl 1 rfl) ?_
              obtain ⟨q14, h13, hM⟩ := bd hM
              refine rVWp (wc := (wX4 g a0 q9.2.1)) (wq := ((wX4 g a0 q14) ++ (wX5 g a1 q9.2.2))) (As := []) (rest := []) (q0 := 0) hS (c_X4_advance l g a0 q9.2.1 h13) gX4_readInto_X4_advance rfl hd_X4_advance ⟨Nat.le_of_ble_eq_true rfl, Nat.le_of_ble_eq_true rfl⟩ hK hw hA (pm_2_0 _ _) rfl (pm_2_0 _ _) rfl rfl rfl rfl hl.1 rfl (Nat.le_of_ble_eq_true rfl) dX4_readInto_56 ⟨Nat.zero_le _, Nat.zero_le _⟩ (fun H locs hw => ?_)
              refine lv_iinc (v := (v2_3 + (1 : Int32))) (lv' := [(2, .int (v2_3 + (1 : Int32))), (0, .ref (a0 0)), (1, .ref (a1 0))]) hx hb dX4_readInto_59 hl (k := 0) rfl rfl (by decide) rfl (fun ls hl => ?_)
              refine lv_goto (tgt := 11) hx hb dX4_readInto_62 (by decide) ?_
              exact ih11 (v2_3 + (1 : Int32)) q14 q9.2.2 hM _ _ hw _ (lv_sub hl [0, 1, 2] rfl)
            · replace hM := itn c12 hM
              refine lv_aload_n hx hb dX4_readInto_45 rfl (lv_at hl 1 rfl) ?_
              refine lv_aload_n hx hb dX4_readInto_46 rfl (lv_at hl 1 rfl) ?_
              refine wk_get hx hb hts hin_X4 hown hK hw.1 4 0 4 (.int (q9.2.1 4 0)) rfl rfl (by decide) (mi 3 rfl) rfl rfl dX4_readInto_47 ?_
              refine wk_put (wq := ((wX4 g a0 (up q9.2.1 1 (fun _ => (q9.2.1 4 0)))) ++ (wX5 g a1 q9.2.2))) hx hb hts hin_X4 tyX4 tyX4_ok nmX4 hown hK hw 4 0 1 rfl rfl (by decide) (mi 4 rfl) rfl rfl rfl rfl (Nat.le_of_ble_eq_true rfl) dX4_readInto_50 rfl (fun H locs hw => ?_)
              refine lv_iconst (v := (-1 : Int32)) hx hb dX4_readInto_53 (by decide) ?_
              have hE := Option.some.inj hM
              have hM11' := hM11
              rw [← hE] at hM11'
              obtain rfl := eo_inl hM11'
              exact W.iret hx hb hr (fun t ht _ => ⟨rfl, by rw [ht]; exact hw.1, hw.2.2.F ht⟩) hw.2.2.2.2 dX4_readInto_54
          · replace hM := itp c11 hM
            refine lv_iload_n hx hb dX4_readInto_35 rfl (lv_at hl 0 rfl) ?_
            have hE := Option.some.inj hM
            have hM11' := hM11
            rw [← hE] at hM11'
            obtain rfl := eo_inl hM11'
            exact W.iret hx hb hr (fun t ht _ => ⟨rfl, by rw [ht]; exact hw.1, hw.2.2.F ht⟩) hw.2.2.2.2 dX4_readInto_36
        · replace hM := itp c10 hM
          refine lv_iconst (v := (-1 : Int32)) hx hb dX4_readInto_26 (by decide) ?_
          have hE := Option.some.inj hM
          have hM11' := hM11
          rw [← hE] at hM11'
          obtain rfl := eo_inl hM11'
          exact W.iret hx hb hr (fun t ht _ => ⟨rfl, by rw [ht]; exact hw.1, hw.2.2.F ht⟩) hw.2.2.2.2 dX4_readInto_27
  exact hW11 300 (1 : Int32) q2 T1 hL11 _ _ hw _ (lv_sub hl [0, 1, 2] rfl)
theorem hd_X6_town : yX6_town.cls = RX6 ∧ yX6_town.cls ≠ "java/lang/invoke/MethodHandle" ∧ yX6_town.cls ≠ "java/lang/invoke/VarHandle" ∧ (parseMethodDescriptor yX6_town.desc).map (fun d => d.parameters.length) = some 0 := by decide +kernel
set_option maxHeartbeats 4000000 in
set_option maxRecDepth 100000 in
theorem c_X6_town (l : Launch) (g : Gm) (k : SgT) (a0 : Nat → Nat) (a1 : Nat → Nat) (a2 : Nat → Nat) (a3 : Nat → Nat) (a4 : Nat → Nat) (a5 : Nat → Nat) (a6 : Nat → Nat) (a7 : Nat → Nat) (a8 : Nat → Nat) (Z0 : TS) (T1 : TS) (T2 : TS) (T3 : TS) (G4 : TS) (R4 : LTS) (P5 : TS) (O7 : TS) (B7 : TS) {q : (Int32 × TS × TS × TS × TS)} (hM : f_X6_town Z0 T1 T2 T3 G4 R4 P5 O7 B7 = some q) : MWS l yX6_town wsX6_town 8 174 k g [.ref (a0 0)] ((wX6 g a0 (a1 0) (a2 0) (a3 0) (a4 0) (a5 0) (a6 0) (a7 0) (a8 0) Z0) ++ ((wX5 g a1 T1) ++ ((wX5 g a2 T2) ++ ((wX5 g a3 T3) ++ ((wX3 g a4 G4 R4) ++ ((wX4 g a5 P5) ++ ((wX2 g a6 (a1 0) (a3 0)) ++ ((wX1 g a7 (a1 0) (a3 0) O7 B7) ++ (wX0 g a8 (a1 0) (a3 0) (a4 0)))))))))) (some (.int q.1)) ((wX6 g a0 (a1 0) (a2 0) (a3 0) (a4 0) (a5 0) (a6 0) (a7 0) (a8 0) q.2.1) ++ ((wX5 g a1 q.2.2.1) ++ ((wX5 g a2 T2) ++ ((wX5 g a3 q.2.2.2.1) ++ ((wX3 g a4 G4 R4) ++ ((wX4 g a5 q.2.2.2.2) ++ ((wX2 g a6 (a1 0) (a3 0)) ++ ((wX1 g a7 (a1 0) (a3 0) O7 B7) ++ (wX0 g a8 (a1 0) (a3 0) (a4 0)))))))))) := by
  intro sz
  refine Met.ofW (cc := cX6_town) (maxL := 2) (ret := (some .int)) (by decide) rfl ?_
  intro p e s m args below meth c s₁ B hml hv
  obtain ⟨hv, hSg⟩ := hv
  obtain ⟨rfl, hsz, hP, hK, hD0⟩ := hv
  have hx := B.exec; have hb := B.bytes; have hr := B.returns
  have hts := atoms_spec (ws := wsX6_town) B.pre
  have hown : s.vm.findClass RX6 = some m.cls := findClass_of_methodNamed B.named
  have hlocks := B.notSynchronized
  have hS : CallFix p m c cX6_town 2 s _ wsX6_town RX6 := ⟨hx, hb, hml, hown, hts⟩
  have hin_X4 : ∀ w ∈ wsX40, w ∈ wsX6_town := fun w h => (List.mem_cons_of_mem _ (List.mem_append_left _ (List.mem_append_right _ h)))
  have hin_X6 : ∀ w ∈ wsX60, w ∈ wsX6_town := fun w h => (List.mem_cons_of_mem _ (List.mem_append_left _ (List.mem_append_left _ (List.mem_append_right _ h))))
  subst hsz
  have hw := wk_start hP hD0
  have hA : ∀ q : Nat, s.heap.size ≤ q → va_A ((wX6 g a0 (a1 0) (a2 0) (a3 0) (a4 0) (a5 0) (a6 0) (a7 0) (a8 0) Z0) ++ ((wX5 g a1 T1) ++ ((wX5 g a2 T2) ++ ((wX5 g a3 T3) ++ ((wX3 g a4 G4 R4) ++ ((wX4 g a5 P5) ++ ((wX2 g a6 (a1 0) (a3 0)) ++ ((wX1 g a7 (a1 0) (a3 0) O7 B7) ++ (wX0 g a8 (a1 0) (a3 0) (a4 0)))))))))) s.heap.size q := fun q h => Or.inr h
  generalize va_A ((wX6 g a0 (a1 0) (a2 0) (a3 0) (a4 0) (a5 0) (a6 0) (a7 0) (a8 0) Z0) ++ ((wX5 g a1 T1) ++ ((wX5 g a2 T2) ++ ((wX5 g a3 T3) ++ ((wX3 g a4 G4 R4) ++ ((wX4 g a5 P5) ++ ((wX2 g a6 (a1 0) (a3 0)) ++ ((wX1 g a7 (a1 0) (a3 0) O7 B7) ++ (wX0 g a8 (a1 0) (a3 0) (a4 0)))))))))) s.heap.size = A at hw hA hSg ⊢
  clear hP hD0
  have hl := lv_entry ([.ref (a0 0)]) (n := 2) (Nat.le_of_ble_eq_true rfl)
  rw [lg_entry_eq]
  generalize (lg_sl ([.ref (a0 0)]) ++ List.replicate (2 - (lg_sl ([.ref (a0 0)])).length) Slot.unset).toArray = ls at hl ⊢
  have hl : lv_has ls 2 [(0, .ref (a0 0))] := hl
  rw [f_X6_town] at hM
  refine lv_aload_n hx hb dX6_town_0 rfl (lv_at hl 0 rfl) ?_
  refine wk_get hx hb hts hin_X6 hown hK hw.1 6 0 2 (.ref (a3 0)) rfl rfl (by decide) (mi 1 rfl) rfl rfl dX6_town_1 ?_
  refine lv_aload_n hx hb dX6_town_4 rfl (lv_at hl 0 rfl) ?_
  refine wk_get hx hb hts hin_X6 hown hK hw.1 6 0 0 (.ref (a1 0)) rfl rfl (by decide) (mi 2 rfl) rfl rfl dX6_town_5 ?_
  obtain ⟨q2, h1, hM⟩ := bd hM
  refine rVWp (wc := ((wX5 g a3 T3) ++ (wX5 g a1 T1))) (wq := ((wX6 g a0 (a1 0) (a2 0) (a3 0) (a4 0) (a5 0) (a6 0) (a7 0) (a8 0) Z0) ++ ((wX5 g a1 T1) ++ ((wX5 g a2 T2) ++ ((wX5 g a3 q2) ++ ((wX3 g a4 G4 R4) ++ ((wX4 g a5 P5) ++ ((wX2 g a6 (a1 0) (a3 0)) ++ ((wX1 g a7 (a1 0) (a3 0) O7 B7) ++ (wX0 g a8 (a1 0) (a3 0) (a4 0))))))))))) (As := [.ref (a1 0)]) (rest := []) (q0 := 0) hS (c_X5_become l g a3 a1 T3 T1 h1) gX6_town_X5_become rfl hd_X5_become ⟨Nat.le_of_ble_eq_true rfl, Nat.le_of_ble_eq_true rfl⟩ hK hw hA (pm_9_3_1 _ _ _ _ _ _ _ _ _) rfl (pm_9_3_1 _ _ _ _ _ _ _ _ _) rfl rfl rfl rfl hl.1 rfl (Nat.le_of_ble_eq_true rfl) dX6_town_8 ⟨Nat.zero_le _, Nat.zero_le _⟩ (fun H locs hw => ?_)
  refine lv_aload_n hx hb dX6_town_11 rfl (lv_at hl 0 rfl) ?_
  refine wk_get hx hb hts hin_X6 hown hK hw.1 6 0 4 (.ref (a5 0)) rfl rfl (by decide) (mi 3 rfl) rfl rfl dX6_town_12 ?_
  refine lv_aload_n hx hb dX6_town_15 rfl (lv_at hl 0 rfl) ?_
  refine wk_get hx hb hts hin_X6 hown hK hw.1 6 0 2 (.ref (a3 0)) rfl rfl (by decide) (mi 1 rfl) rfl rfl dX6_town_16 ?_
  obtain ⟨q4, h3, hM⟩ := bd hM
  refine rVWS (wc := ((wX4 g a5 P5) ++ (wX5 g a3 q2))) (wq := ((wX6 g a0 (a1 0) (a2 0) (a3 0) (a4 0) (a5 0) (a6 0) (a7 0) (a8 0) Z0) ++ ((wX5 g a1 T1) ++ ((wX5 g a2 T2) ++ ((wX5 g a3 q4.2.2) ++ ((wX3 g a4 G4 R4) ++ ((wX4 g a5 q4.2.1) ++ ((wX2 g a6 (a1 0) (a3 0)) ++ ((wX1 g a7 (a1 0) (a3 0) O7 B7) ++ (wX0 g a8 (a1 0) (a3 0) (a4 0))))))))))) (As := [.ref (a3 0)]) (rest := []) (q0 := 0) hS (c_X4_readInto l g k a5 a3 P5 q2 h3) gX6_town_X4_readInto rfl hd_X4_readInto ⟨Nat.le_of_ble_eq_true rfl, Nat.le_of_ble_eq_true rfl⟩ hK hSg hw hA (pm_9_5_3 _ _ _ _ _ _ _ _ _) rfl (pm_9_5_3 _ _ _ _ _ _ _ _ _) rfl rfl rfl rfl hl.1 rfl (Nat.le_of_ble_eq_true rfl) dX6_town_19 ⟨Nat.zero_le _, Nat.zero_le _⟩ (fun H locs hw => ?_)
  refine lv_istore_n (lv' := [(1, .int q4.1), (0, .ref (a0 0))]) hx hb dX6_town_22 rfl hl (by decide) rfl (fun ls hl => ?_)
  refine lv_aload_n hx hb dX6_town_23 rfl (lv_at hl 1 rfl) ?_
  refine wk_get hx hb hts hin_X6 hown hK hw.1 6 0 4 (.ref (a5 0)) rfl rfl (by decide) (mi 3 rfl) rfl rfl dX6_town_24 ?_
  refine lv_iconst (v := (0 : Int32)) hx hb dX6_town_27 (by decide) ?_
  refine wk_put (wq := ((wX6 g a0 (a1 0) (a2 0) (a3 0) (a4 0) (a5 0) (a6 0) (a7 0) (a8 0) Z0) ++ ((wX5 g a1 T1) ++ ((wX5 g a2 T2) ++ ((wX5 g a3 q4.2.2) ++ ((wX3 g a4 G4 R4) ++ ((wX4 g a5 (up q4.2.1 0 (fun _ => (0 : Int32)))) ++ ((wX2 g a6 (a1 0) (a3 0)) ++ ((wX1 g a7 (a1 0) (a3 0) O7 B7) ++ (wX0 g a8 (a1 0) (a3 0) (a4 0))))))))))) hx hb hts hin_X4 tyX4 tyX4_ok nmX4 hown hK hw 4 38 0 rfl rfl (by decide) (mi 4 rfl) rfl rfl rfl rfl (Nat.le_of_ble_eq_true rfl) dX6_town_28 rfl (fun H locs hw => ?_)
  refine lv_iload_n hx hb dX6_town_31 rfl (lv_at hl 0 rfl) ?_
  refine lv_iconst (v := (-1 : Int32)) hx hb dX6_town_32 (by decide) ?_
  refine lv_icmp_ne (tgt := 54) hx hb dX6_town_33 (by decide) (fun c5 => ?_) (fun c5 => ?_)
  · replace hM := itn c5 hM
    refine lv_aload_n hx hb dX6_town_54 rfl (lv_at hl 1 rfl) ?_
    refine wk_get hx hb hts hin_X6 hown hK hw.1 6 0 0 (.ref (a1 0)) rfl rfl (by decide) (mi 2 rfl) rfl rfl dX6_town_55 ?_
    refine lv_aload_n hx hb dX6_town_58 rfl (lv_at hl 1 rfl) ?_
    refine wk_get hx hb hts hin_X6 hown hK hw.1 6 0 2 (.ref (a3 0)) rfl rfl (by decide) (mi 1 rfl) rfl rfl dX6_town_59 ?_
    obtain ⟨q9, h8, hM⟩ := bd hM
    refine rVWp (wc := ((wX5 g a1 T1) ++ (wX5 g a3 q4.2.2))) (wq := ((wX6 g a0 (a1 0) (a2 0) (a3 0) (a4 0) (a5 0) (a6 0) (a7 0) (a8 0) Z0) ++ ((wX5 g a1 q9) ++ ((wX5 g a2 T2) ++ ((wX5 g a3 q4.2.2) ++ ((wX3 g a4 G4 R4) ++ ((wX4 g a5 (up q4.2.1 0 (fun _ => (0 : Int32)))) ++ ((wX2 g a6 (a1 0) (a3 0)) ++ ((wX1 g a7 (a1 0) (a3 0) O7 B7) ++ (wX0 g a8 (a1 0) (a3 0) (a4 0))))))))))) (As := [.ref (a3 0)]) (rest := []) (q0 := 0) hS (c_X5_become l g a1 a3 T1 q4.2.2 h8) gX6_town_X5_become rfl hd_X5_become ⟨Nat.le_of_ble_eq_true rfl, Nat.le_of_ble_eq_true rfl⟩ hK hw hA (pm_9_1_3 _ _ _ _ _ _ _ _ _) rfl (pm_9_1_3 _ _ _ _ _ _ _ _ _) rfl rfl rfl rfl hl.1 rfl (Nat.le_of_ble_eq_true rfl) dX6_town_62 ⟨Nat.zero_le _, Nat.zero_le _⟩ (fun H locs hw => ?_)
    refine lv_iload_n hx hb dX6_town_65 rfl (lv_at hl 0 rfl) ?_
    obtain rfl := Option.some.inj hM
    exact W.iret hx hb hr (fun t ht _ => ⟨rfl, by rw [ht]; exact hw.1, hw.2.2.F ht⟩) hw.2.2.2.2 dX6_town_66
  · replace hM := itp c5 hM
    refine lv_aload_n hx hb dX6_town_36 rfl (lv_at hl 1 rfl) ?_
    refine lv_bipush (v := (-2 : Int32)) hx hb dX6_town_37 (by decide) ?_
    obtain ⟨q7, h6, hM⟩ := bd hM
    refine rVWp (wc := ((wX6 g a0 (a1 0) (a2 0) (a3 0) (a4 0) (a5 0) (a6 0) (a7 0) (a8 0) Z0) ++ ((wX5 g a1 T1) ++ ((wX5 g a2 T2) ++ ((wX5 g a3 q4.2.2) ++ ((wX3 g a4 G4 R4) ++ ((wX4 g a5 (up q4.2.1 0 (fun _ => (0 : Int32)))) ++ ((wX2 g a6 (a1 0) (a3 0)) ++ ((wX1 g a7 (a1 0) (a3 0) O7 B7) ++ (wX0 g a8 (a1 0) (a3 0) (a4 0))))))))))) (wq := ((wX6 g a0 (a1 0) (a2 0) (a3 0) (a4 0) (a5 0) (a6 0) (a7 0) (a8 0) q7.2) ++ ((wX5 g a1 T1) ++ ((wX5 g a2 T2) ++ ((wX5 g a3 q4.2.2) ++ ((wX3 g a4 G4 R4) ++ ((wX4 g a5 (up q4.2.1 0 (fun _ => (0 : Int32)))) ++ ((wX2 g a6 (a1 0) (a3 0)) ++ ((wX1 g a7 (a1 0) (a3 0) O7 B7) ++ (wX0 g a8 (a1 0) (a3 0) (a4 0))))))))))) (As := [.int (-2 : Int32)]) (rest := []) (q0 := 0) hS (c_X6_refuse l g a0 a1 a2 a3 a4 a5 a6 a7 a8 Z0 T1 T2 q4.2.2 G4 R4 (up q4.2.1 0 (fun _ => (0 : Int32))) O7 B7 (-2 : Int32) h6) gX6_town_X6_refuse rfl hd_X6_refuse ⟨Nat.le_of_ble_eq_true rfl, Nat.le_of_ble_eq_true rfl⟩ hK hw hA (pm_9_0_1_2_3_4_5_6_7_8 _ _ _ _ _ _ _ _ _) rfl (pm_9_0_1_2_3_4_5_6_7_8 _ _ _ _ _ _ _ _ _) rfl rfl rfl rfl hl.1 rfl (Nat.le_of_ble_eq_true rfl) dX6_town_39 ⟨Nat.zero_le _, Nat.zero_le _⟩ (fun H locs hw => ?_)
    refine lv_pop hx hb dX6_town_42 rfl ?_
    refine lv_bipush (v := (-20 : Int32)) hx hb dX6_town_43 (by decide) ?_
    refine lv_aload_n hx hb dX6_town_45 rfl (lv_at hl 1 rfl) ?_
    refine wk_get hx hb hts hin_X6 hown hK hw.1 6 0 4 (.ref (a5 0)) rfl rfl (by decide) (mi 3 rfl) rfl rfl dX6_town_46 ?_
    refine wk_get hx hb hts hin_X4 hown hK hw.1 4 38 1 (.int (q4.2.1 1 0)) rfl rfl (by decide) (mi 5 rfl) rfl rfl dX6_town_49 ?_
    refine lv_isub hx hb dX6_town_52 ?_
    obtain rfl := Option.some.inj hM
    exact W.iret hx hb hr (fun t ht _ => ⟨rfl, by rw [ht]; exact hw.1, hw.2.2.F ht⟩) hw.2.2.2.2 dX6_town_53
