theorem hd_X7_sights : yX7_sights.cls = RX7 ∧ yX7_sights.cls ≠ "java/lang/invoke/MethodHandle" ∧ yX7_sights.cls ≠ "java/lang/invoke/VarHandle" ∧ (parseMethodDescriptor yX7_sights.desc).map (fun d => d.parameters.length) = some 1 := by decide +kernel
set_option maxHeartbeats 4000000 in
set_option maxRecDepth 100000 in
theorem c_X7_sights (l : Launch) (g : Gm) (a0 : Nat → Nat) (kv : Value) (tv : Value) (U0 : TS) (V0 : TS) (M0 : LTS) (R0 : LTS) (p1 : Int32) {q : (Int32 × TS × TS)} (hM : f_X7_sights U0 V0 M0 R0 p1 = some q) : MW l yX7_sights wsX7_sights 1 25 g [.ref (a0 0), .int p1] (wXM g a0 U0 V0 M0 R0 kv tv) (some (.int q.1)) (wXM g a0 q.2.1 q.2.2 M0 R0 kv tv) := by
  intro sz
  refine Met.ofW (cc := cX7_sights) (maxL := 3) (ret := (some .int)) (by decide) rfl ?_
  intro p e s m args below meth c s₁ B hml hv
  obtain ⟨rfl, hsz, hP, hK, hD0⟩ := hv
  have hx := B.exec; have hb := B.bytes; have hr := B.returns
  have hts := atoms_spec (ws := wsX7_sights) B.pre
  have hown : s.vm.findClass RX7 = some m.cls := findClass_of_methodNamed B.named
  have hlocks := B.notSynchronized
  have hS : CallFix p m c cX7_sights 3 s _ wsX7_sights RX7 := ⟨hx, hb, hml, hown, hts⟩
  have hin_X7 : ∀ w ∈ wsX70, w ∈ wsX7_sights := fun w h => (List.mem_cons_of_mem _ (List.mem_append_right _ h))
  subst hsz
  have hw := wk_start hP hD0
  have hA : ∀ q : Nat, s.heap.size ≤ q → va_A (wXM g a0 U0 V0 M0 R0 kv tv) s.heap.size q := fun q h => Or.inr h
  generalize va_A (wXM g a0 U0 V0 M0 R0 kv tv) s.heap.size = A at hw hA ⊢
  clear hP hD0
  have hl := lv_entry ([.ref (a0 0), .int p1]) (n := 3) (Nat.le_of_ble_eq_true rfl)
  rw [lg_entry_eq]
  generalize (lg_sl ([.ref (a0 0), .int p1]) ++ List.replicate (3 - (lg_sl ([.ref (a0 0), .int p1])).length) Slot.unset).toArray = ls at hl ⊢
  have hl : lv_has ls 3 [(0, .ref (a0 0)), (1, .int p1)] := hl
  rw [f_X7_sights] at hM
  refine lv_iload_n hx hb dX7_sights_0 rfl (lv_at hl 1 rfl) ?_
  refine lv_i2l (v := ((p1).toInt64)) hx hb dX7_sights_1 rfl ?_
  refine lv_aload_n hx hb dX7_sights_2 rfl (lv_at hl 0 rfl) ?_
  refine wk_get hx hb hts hin_X7 hown hK hw.1 7 0 9 (.int (U0 9 0)) rfl rfl (by decide) (mi 1 rfl) rfl rfl dX7_sights_3 ?_
  refine lv_i2l (v := (((U0 9 0)).toInt64)) hx hb dX7_sights_6 rfl ?_
  refine lv_ldc2 (v := (8 : Int64)) hx hb hown (hts _ (mi 2 rfl)) dX7_sights_7 ?_
  refine rSR (wc := ([] : va_W)) (As := [.long ((p1).toInt64), .long (((U0 9 0)).toInt64), .long (8 : Int64)]) (rest := []) hS (c_X7_in l g ((p1).toInt64) (((U0 9 0)).toInt64) (8 : Int64)) gX7_sights_X7_in rfl hd_X7_in ⟨Nat.le_of_ble_eq_true rfl, Nat.le_of_ble_eq_true rfl⟩ hK (hP_nil) rfl hl.1 rfl (Nat.le_of_ble_eq_true rfl) dX7_sights_10 ⟨Nat.zero_le _, Nat.zero_le _⟩ ?_
  refine lv_if_ne (tgt := 23) hx hb dX7_sights_13 (by decide) (fun c2 => ?_) (fun c2 => ?_)
  · replace hM := itn c2 hM
    refine lv_aload_n hx hb dX7_sights_23 rfl (lv_at hl 0 rfl) ?_
    refine wk_get hx hb hts hin_X7 hown hK hw.1 7 0 9 (.int (U0 9 0)) rfl rfl (by decide) (mi 1 rfl) rfl rfl dX7_sights_24 ?_
    refine lv_istore_n (lv' := [(2, .int (U0 9 0)), (0, .ref (a0 0)), (1, .int p1)]) hx hb dX7_sights_27 rfl hl (by decide) rfl (fun ls hl => ?_)
    refine lv_aload_n hx hb dX7_sights_28 rfl (lv_at hl 1 rfl) ?_
    refine lv_iload_n hx hb dX7_sights_29 rfl (lv_at hl 2 rfl) ?_
    refine wk_put (wq := (wXM g a0 (up U0 9 (fun _ => p1)) V0 M0 R0 kv tv)) hx hb hts hin_X7 tyX7 tyX7_ok nmX7 hown hK hw 7 0 9 rfl rfl (by decide) (mi 1 rfl) rfl rfl rfl rfl (Nat.le_of_ble_eq_true rfl) dX7_sights_30 rfl (fun H locs hw => ?_)
    refine lv_iload_n hx hb dX7_sights_33 rfl (lv_at hl 0 rfl) ?_
    obtain rfl := Option.some.inj hM
    exact W.iret hx hb hr (fun t ht _ => ⟨rfl, by rw [ht]; exact hw.1, hw.2.2.F ht⟩) hw.2.2.2.2 dX7_sights_34
  · replace hM := itp c2 hM
    refine lv_aload_n hx hb dX7_sights_16 rfl (lv_at hl 0 rfl) ?_
    refine lv_bipush (v := (-2 : Int32)) hx hb dX7_sights_17 (by decide) ?_
    obtain ⟨q4, h3, hM⟩ := bd hM
    refine rVWp (wc := (wXM g a0 U0 V0 M0 R0 kv tv)) (wq := (wXM g a0 U0 q4.2 M0 R0 kv tv)) (As := [.int (-2 : Int32)]) (rest := []) (q0 := 0) hS (c_X7_refuse l g a0 kv tv U0 V0 M0 R0 (-2 : Int32) h3) gX7_sights_X7_refuse rfl hd_X7_refuse ⟨Nat.le_of_ble_eq_true rfl, Nat.le_of_ble_eq_true rfl⟩ hK hw hA (pm_1_0 _) rfl (pm_1_0 _) rfl rfl rfl rfl hl.1 rfl (Nat.le_of_ble_eq_true rfl) dX7_sights_19 ⟨Nat.zero_le _, Nat.zero_le _⟩ (fun H locs hw => ?_)
    obtain rfl := Option.some.inj hM
    exact W.iret hx hb hr (fun t ht _ => ⟨rfl, by rw [ht]; exact hw.1, hw.2.2.F ht⟩) hw.2.2.2.2 dX7_sights_22
theorem hd_X7_sign : yX7_sign.cls = RX7 ∧ yX7_sign.cls ≠ "java/lang/invoke/MethodHandle" ∧ yX7_sign.cls ≠ "java/lang/invoke/VarHandle" ∧ (parseMethodDescriptor yX7_sign.desc).map (fun d => d.parameters.length) = some 3 := by decide +kernel
set_option maxHeartbeats 4000000 in
set_option maxRecDepth 100000 in
theorem c_X7_sign (l : Launch) (g : Gm) (a0 : Nat → Nat) (kv : Value) (tv : Value) (U0 : TS) (V0 : TS) (M0 : LTS) (R0 : LTS) (p1 : Int32) (p2 : Int32) (p3 : Int32) {q : (Int32 × TS × TS)} (hM : f_X7_sign U0 V0 M0 R0 p1 p2 p3 = some q) : MW l yX7_sign wsX7_sign 2 46 g [.ref (a0 0), .int p1, .int p2, .int p3] (wXM g a0 U0 V0 M0 R0 kv tv) (some (.int q.1)) (wXM g a0 q.2.1 q.2.2 M0 R0 kv tv) := by
  intro sz
  refine Met.ofW (cc := cX7_sign) (maxL := 5) (ret := (some .int)) (by decide) rfl ?_
  intro p e s m args below meth c s₁ B hml hv
  obtain ⟨rfl, hsz, hP, hK, hD0⟩ := hv
  have hx := B.exec; have hb := B.bytes; have hr := B.returns
  have hts := atoms_spec (ws := wsX7_sign) B.pre
  have hown : s.vm.findClass RX7 = some m.cls := findClass_of_methodNamed B.named
  have hlocks := B.notSynchronized
  have hS : CallFix p m c cX7_sign 5 s _ wsX7_sign RX7 := ⟨hx, hb, hml, hown, hts⟩
  have hin_X7 : ∀ w ∈ wsX70, w ∈ wsX7_sign := fun w h => (List.mem_cons_of_mem _ (List.mem_append_right _ h))
  subst hsz
  have hw := wk_start hP hD0
  have hA : ∀ q : Nat, s.heap.size ≤ q → va_A (wXM g a0 U0 V0 M0 R0 kv tv) s.heap.size q := fun q h => Or.inr h
  generalize va_A (wXM g a0 U0 V0 M0 R0 kv tv) s.heap.size = A at hw hA ⊢
  clear hP hD0
  have hl := lv_entry ([.ref (a0 0), .int p1, .int p2, .int p3]) (n := 5) (Nat.le_of_ble_eq_true rfl)
  rw [lg_entry_eq]
  generalize (lg_sl ([.ref (a0 0), .int p1, .int p2, .int p3]) ++ List.replicate (5 - (lg_sl ([.ref (a0 0), .int p1, .int p2, .int p3])).length) Slot.unset).toArray = ls at hl ⊢
  have hl : lv_has ls 5 [(0, .ref (a0 0)), (1, .int p1), (2, .int p2), (3, .int p3)] := hl
  rw [f_X7_sign] at hM
  refine lv_aload_n hx hb dX7_sign_0 rfl (lv_at hl 0 rfl) ?_
  refine lv_iload_n hx hb dX7_sign_1 rfl (lv_at hl 1 rfl) ?_
  refine rVR (wc := (wXT g a0 (fm a0 V0 kv tv) U0)) (As := [.int p1]) (rest := []) (q0 := 0) hS (c_X7_isOne l g a0 (fm a0 V0 kv tv) U0 p1) gX7_sign_X7_isOne rfl hd_X7_isOne ⟨Nat.le_of_ble_eq_true rfl, Nat.le_of_ble_eq_true rfl⟩ hK (va_P.pm hw.1 (pmX1 _ _ _ _ _ _ _ _)) rfl rfl rfl rfl hl.1 rfl (Nat.le_of_ble_eq_true rfl) dX7_sign_2 ⟨Nat.zero_le _, Nat.zero_le _⟩ ?_
  refine lv_if_eq (tgt := 24) hx hb dX7_sign_5 (by decide) (fun c2 => ?_) (fun c2 => ?_)
  · replace hM := itp c2 hM
    refine lv_aload_n hx hb dX7_sign_24 rfl (lv_at hl 0 rfl) ?_
    refine lv_bipush (v := (-2 : Int32)) hx hb dX7_sign_25 (by decide) ?_
    obtain ⟨q4, h3, hM⟩ := bd hM
    refine rVWp (wc := (wXM g a0 U0 V0 M0 R0 kv tv)) (wq := (wXM g a0 U0 q4.2 M0 R0 kv tv)) (As := [.int (-2 : Int32)]) (rest := []) (q0 := 0) hS (c_X7_refuse l g a0 kv tv U0 V0 M0 R0 (-2 : Int32) h3) gX7_sign_X7_refuse rfl hd_X7_refuse ⟨Nat.le_of_ble_eq_true rfl, Nat.le_of_ble_eq_true rfl⟩ hK hw hA (pm_1_0 _) rfl (pm_1_0 _) rfl rfl rfl rfl hl.1 rfl (Nat.le_of_ble_eq_true rfl) dX7_sign_27 ⟨Nat.zero_le _, Nat.zero_le _⟩ (fun H locs hw => ?_)
    obtain rfl := Option.some.inj hM
    exact W.iret hx hb hr (fun t ht _ => ⟨rfl, by rw [ht]; exact hw.1, hw.2.2.F ht⟩) hw.2.2.2.2 dX7_sign_30
  · replace hM := itn c2 hM
    refine lv_aload_n hx hb dX7_sign_8 rfl (lv_at hl 0 rfl) ?_
    refine lv_iload_n hx hb dX7_sign_9 rfl (lv_at hl 2 rfl) ?_
    refine rVR (wc := (wXT g a0 (fm a0 V0 kv tv) U0)) (As := [.int p2]) (rest := []) (q0 := 0) hS (c_X7_isOne l g a0 (fm a0 V0 kv tv) U0 p2) gX7_sign_X7_isOne rfl hd_X7_isOne ⟨Nat.le_of_ble_eq_true rfl, Nat.le_of_ble_eq_true rfl⟩ hK (va_P.pm hw.1 (pmX1 _ _ _ _ _ _ _ _)) rfl rfl rfl rfl hl.1 rfl (Nat.le_of_ble_eq_true rfl) dX7_sign_10 ⟨Nat.zero_le _, Nat.zero_le _⟩ ?_
    refine lv_if_eq (tgt := 24) hx hb dX7_sign_13 (by decide) (fun c6 => ?_) (fun c6 => ?_)
    · replace hM := itp c6 hM
      refine lv_aload_n hx hb dX7_sign_24 rfl (lv_at hl 0 rfl) ?_
      refine lv_bipush (v := (-2 : Int32)) hx hb dX7_sign_25 (by decide) ?_
      obtain ⟨q8, h7, hM⟩ := bd hM
      refine rVWp (wc := (wXM g a0 U0 V0 M0 R0 kv tv)) (wq := (wXM g a0 U0 q8.2 M0 R0 kv tv)) (As := [.int (-2 : Int32)]) (rest := []) (q0 := 0) hS (c_X7_refuse l g a0 kv tv U0 V0 M0 R0 (-2 : Int32) h7) gX7_sign_X7_refuse rfl hd_X7_refuse ⟨Nat.le_of_ble_eq_true rfl, Nat.le_of_ble_eq_true rfl⟩ hK hw hA (pm_1_0 _) rfl (pm_1_0 _) rfl rfl rfl rfl hl.1 rfl (Nat.le_of_ble_eq_true rfl) dX7_sign_27 ⟨Nat.zero_le _, Nat.zero_le _⟩ (fun H locs hw => ?_)
      obtain rfl := Option.some.inj hM
      exact W.iret hx hb hr (fun t ht _ => ⟨rfl, by rw [ht]; exact hw.1, hw.2.2.F ht⟩) hw.2.2.2.2 dX7_sign_30
    · replace hM := itn c6 hM
      refine lv_aload_n hx hb dX7_sign_16 rfl (lv_at hl 0 rfl) ?_
      refine lv_iload_n hx hb dX7_sign_17 rfl (lv_at hl 3 rfl) ?_
      refine rVR (wc := (wXT g a0 (fm a0 V0 kv tv) U0)) (As := [.int p3]) (rest := []) (q0 := 0) hS (c_X7_isSight l g a0 (fm a0 V0 kv tv) U0 p3) gX7_sign_X7_isSight rfl hd_X7_isSight ⟨Nat.le_of_ble_eq_true rfl, Nat.le_of_ble_eq_true rfl⟩ hK (va_P.pm hw.1 (pmX1 _ _ _ _ _ _ _ _)) rfl rfl rfl rfl hl.1 rfl (Nat.le_of_ble_eq_true rfl) dX7_sign_18 ⟨Nat.zero_le _, Nat.zero_le _⟩ ?_
      refine lv_if_ne (tgt := 31) hx hb dX7_sign_21 (by decide) (fun c10 => ?_) (fun c10 => ?_)
      · replace hM := itn c10 hM
        refine lv_aload_n hx hb dX7_sign_31 rfl (lv_at hl 0 rfl) ?_
        refine wk_get hx hb hts hin_X7 hown hK hw.1 7 0 13 (.ref (a0 3)) rfl rfl (by decide) (mi 1 rfl) rfl rfl dX7_sign_32 ?_
        refine lv_iload_n hx hb dX7_sign_35 rfl (lv_at hl 1 rfl) ?_
        obtain ⟨k13, hM⟩ := ck hM
        refine wk_iald hx hb hK hw.1 3 7 (U0 13) rfl k13 dX7_sign_36 ?_
        refine lv_iload_n hx hb dX7_sign_37 rfl (lv_at hl 3 rfl) ?_
        refine rSR (wc := ([] : va_W)) (As := [.int ((U0 13) (p1).toNatClampNeg), .int p3]) (rest := []) hS (c_X7_has l g ((U0 13) (p1).toNatClampNeg) p3) gX7_sign_X7_has rfl hd_X7_has ⟨Nat.le_of_ble_eq_true rfl, Nat.le_of_ble_eq_true rfl⟩ hK (hP_nil) rfl hl.1 rfl (Nat.le_of_ble_eq_true rfl) dX7_sign_38 ⟨Nat.zero_le _, Nat.zero_le _⟩ ?_
        refine lv_if_eq (tgt := 57) hx hb dX7_sign_41 (by decide) (fun c15 => ?_) (fun c15 => ?_)
        · replace hM := itp c15 hM
          refine lv_aload_n hx hb dX7_sign_57 rfl (lv_at hl 0 rfl) ?_
          refine lv_bipush (v := (-5 : Int32)) hx hb dX7_sign_58 (by decide) ?_
          obtain ⟨q17, h16, hM⟩ := bd hM
          refine rVWp (wc := (wXM g a0 U0 V0 M0 R0 kv tv)) (wq := (wXM g a0 U0 q17.2 M0 R0 kv tv)) (As := [.int (-5 : Int32)]) (rest := []) (q0 := 0) hS (c_X7_refuse l g a0 kv tv U0 V0 M0 R0 (-5 : Int32) h16) gX7_sign_X7_refuse rfl hd_X7_refuse ⟨Nat.le_of_ble_eq_true rfl, Nat.le_of_ble_eq_true rfl⟩ hK hw hA (pm_1_0 _) rfl (pm_1_0 _) rfl rfl rfl rfl hl.1 rfl (Nat.le_of_ble_eq_true rfl) dX7_sign_60 ⟨Nat.zero_le _, Nat.zero_le _⟩ (fun H locs hw => ?_)
          obtain rfl := Option.some.inj hM
          exact W.iret hx hb hr (fun t ht _ => ⟨rfl, by rw [ht]; exact hw.1, hw.2.2.F ht⟩) hw.2.2.2.2 dX7_sign_63
        · replace hM := itn c15 hM
          refine lv_aload_n hx hb dX7_sign_44 rfl (lv_at hl 0 rfl) ?_
          refine wk_get hx hb hts hin_X7 hown hK hw.1 7 0 16 (.ref (a0 6)) rfl rfl (by decide) (mi 2 rfl) rfl rfl dX7_sign_45 ?_
          refine lv_iload_n hx hb dX7_sign_48 rfl (lv_at hl 2 rfl) ?_
          obtain ⟨k18, hM⟩ := ck hM
          refine wk_iald hx hb hK hw.1 6 7 (U0 16) rfl k18 dX7_sign_49 ?_
          refine lv_iload_n hx hb dX7_sign_50 rfl (lv_at hl 1 rfl) ?_
          refine rSR (wc := ([] : va_W)) (As := [.int ((U0 16) (p2).toNatClampNeg), .int p1]) (rest := []) hS (c_X7_has l g ((U0 16) (p2).toNatClampNeg) p1) gX7_sign_X7_has rfl hd_X7_has ⟨Nat.le_of_ble_eq_true rfl, Nat.le_of_ble_eq_true rfl⟩ hK (hP_nil) rfl hl.1 rfl (Nat.le_of_ble_eq_true rfl) dX7_sign_51 ⟨Nat.zero_le _, Nat.zero_le _⟩ ?_
          refine lv_if_ne (tgt := 64) hx hb dX7_sign_54 (by decide) (fun c20 => ?_) (fun c20 => ?_)
          · replace hM := itn c20 hM
            refine lv_aload_n hx hb dX7_sign_64 rfl (lv_at hl 0 rfl) ?_
            refine wk_get hx hb hts hin_X7 hown hK hw.1 7 0 15 (.ref (a0 5)) rfl rfl (by decide) (mi 3 rfl) rfl rfl dX7_sign_65 ?_
            refine lv_iload_n hx hb dX7_sign_68 rfl (lv_at hl 2 rfl) ?_
            refine wk_iald hx hb hK hw.1 5 7 (U0 15) rfl k18 dX7_sign_69 ?_
            refine lv_iload_n hx hb dX7_sign_70 rfl (lv_at hl 3 rfl) ?_
            refine rSR (wc := ([] : va_W)) (As := [.int ((U0 15) (p2).toNatClampNeg), .int p3]) (rest := []) hS (c_X7_has l g ((U0 15) (p2).toNatClampNeg) p3) gX7_sign_X7_has rfl hd_X7_has ⟨Nat.le_of_ble_eq_true rfl, Nat.le_of_ble_eq_true rfl⟩ hK (hP_nil) rfl hl.1 rfl (Nat.le_of_ble_eq_true rfl) dX7_sign_71 ⟨Nat.zero_le _, Nat.zero_le _⟩ ?_
            have hJ30 : ∀ (H : Heap) (locs : List Loc) (x29 : Int32) (ls : Array Slot), Wk g A s.heap H locs (wXM g a0 U0 V0 M0 R0 kv tv) → x29 = (if (f_X7_has ((U0 15) (p2).toNatClampNeg) p3) = 0 then (0 : Int32) else (1 : Int32)) → lv_has ls 5 [(0, .ref (a0 0)), (2, .int p2), (3, .int p3)] → W p l e (headSpec wsX7_sign ({ frames := 2, cells := 0, slots := 0, locals := 46 } : Room)).room s m ([.ref (a0 0), .int p1, .int p2, .int p3] : List Value).toArray below meth c H locs 0 0 (MQ below (QcW g (some (.int q.1)) (wXM g a0 q.2.1 q.2.2 M0 R0 kv tv) A) ([.ref (a0 0), .int p1, .int p2, .int p3] : List Value).toArray s 0 0 A) (F0 m 82 ls [.int x29]) := by
              intro H locs x29 ls hw hxx29 hl
              subst hxx29
              refine lv_istore (lv' := [(4, .int (if (f_X7_has ((U0 15) (p2).toNatClampNeg) p3) = 0 then (0 : Int32) else (1 : Int32))), (0, .ref (a0 0)), (2, .int p2), (3, .int p3)]) hx hb dX7_sign_82 hl (by decide) rfl (fun ls hl => ?_)
              refine lv_aload_n hx hb dX7_sign_84 rfl (lv_at hl 1 rfl) ?_
              refine wk_get hx hb hts hin_X7 hown hK hw.1 7 0 15 (.ref (a0 5)) rfl rfl (by decide) (mi 3 rfl) rfl rfl dX7_sign_85 ?_
              refine lv_iload_n hx hb dX7_sign_88 rfl (lv_at hl 2 rfl) ?_
              refine lv_dup2_11 hx hb dX7_sign_89 rfl rfl ?_
              refine wk_iald hx hb hK hw.1 5 7 (U0 15) rfl k18 dX7_sign_90 ?_
              refine lv_iconst (v := (1 : Int32)) hx hb dX7_sign_91 (by decide) ?_
              refine lv_iload_n hx hb dX7_sign_92 rfl (lv_at hl 3 rfl) ?_
              refine lv_ishl hx hb dX7_sign_93 ?_
              refine lv_ior hx hb dX7_sign_94 ?_
              refine wk_iast (wq := (wXM g a0 (up U0 15 (upd (U0 15) (p2).toNatClampNeg (((U0 15) (p2).toNatClampNeg) ||| ((1 : Int32) <<< (p3 &&& 31))))) V0 M0 R0 kv tv)) hx hb hK hw 5 7 (U0 15) rfl k18 dX7_sign_95 rfl (fun H locs hw => ?_)
              refine lv_iconst (v := (1 : Int32)) hx hb dX7_sign_96 (by decide) ?_
              refine lv_iload hx hb dX7_sign_97 (lv_at hl 0 rfl) ?_
              refine lv_isub hx hb dX7_sign_99 ?_
              obtain rfl := Option.some.inj hM
              exact W.iret hx hb hr (fun t ht _ => ⟨rfl, by rw [ht]; exact hw.1, hw.2.2.F ht⟩) hw.2.2.2.2 dX7_sign_100
            refine lv_if_eq (tgt := 81) hx hb dX7_sign_74 (by decide) (fun c24 => ?_) (fun c24 => ?_)
            · refine lv_iconst (v := (0 : Int32)) hx hb dX7_sign_81 (by decide) ?_
              exact hJ30 _ _ _ _ hw (by first | with_reducible rfl | (simp only [if_pos c24]) | rfl) (lv_sub hl [0, 2, 3] rfl)
            · refine lv_iconst (v := (1 : Int32)) hx hb dX7_sign_77 (by decide) ?_
              refine lv_goto (tgt := 82) hx hb dX7_sign_78 (by decide) ?_
              exact hJ30 _ _ _ _ hw (by first | with_reducible rfl | (simp only [if_neg c24]) | rfl) (lv_sub hl [0, 2, 3] rfl)
          · replace hM := itp c20 hM
            refine lv_aload_n hx hb dX7_sign_57 rfl (lv_at hl 0 rfl) ?_
            refine lv_bipush (v := (-5 : Int32)) hx hb dX7_sign_58 (by decide) ?_
            obtain ⟨q22, h21, hM⟩ := bd hM
            refine rVWp (wc := (wXM g a0 U0 V0 M0 R0 kv tv)) (wq := (wXM g a0 U0 q22.2 M0 R0 kv tv)) (As := [.int (-5 : Int32)]) (rest := []) (q0 := 0) hS (c_X7_refuse l g a0 kv tv U0 V0 M0 R0 (-5 : Int32) h21) gX7_sign_X7_refuse rfl hd_X7_refuse ⟨Nat.le_of_ble_eq_true rfl, Nat.le_of_ble_eq_true rfl⟩ hK hw hA (pm_1_0 _) rfl (pm_1_0 _) rfl rfl rfl rfl hl.1 rfl (Nat.le_of_ble_eq_true rfl) dX7_sign_60 ⟨Nat.zero_le _, Nat.zero_le _⟩ (fun H locs hw => ?_)
            obtain rfl := Option.some.inj hM
            exact W.iret hx hb hr (fun t ht _ => ⟨rfl, by rw [ht]; exact hw.1, hw.2.2.F ht⟩) hw.2.2.2.2 dX7_sign_63
      · replace hM := itp c10 hM
        refine lv_aload_n hx hb dX7_sign_24 rfl (lv_at hl 0 rfl) ?_
        refine lv_bipush (v := (-2 : Int32)) hx hb dX7_sign_25 (by decide) ?_
        obtain ⟨q12, h11, hM⟩ := bd hM
        refine rVWp (wc := (wXM g a0 U0 V0 M0 R0 kv tv)) (wq := (wXM g a0 U0 q12.2 M0 R0 kv tv)) (As := [.int (-2 : Int32)]) (rest := []) (q0 := 0) hS (c_X7_refuse l g a0 kv tv U0 V0 M0 R0 (-2 : Int32) h11) gX7_sign_X7_refuse rfl hd_X7_refuse ⟨Nat.le_of_ble_eq_true rfl, Nat.le_of_ble_eq_true rfl⟩ hK hw hA (pm_1_0 _) rfl (pm_1_0 _) rfl rfl rfl rfl hl.1 rfl (Nat.le_of_ble_eq_true rfl) dX7_sign_27 ⟨Nat.zero_le _, Nat.zero_le _⟩ (fun H locs hw => ?_)
        obtain rfl := Option.some.inj hM
        exact W.iret hx hb hr (fun t ht _ => ⟨rfl, by rw [ht]; exact hw.1, hw.2.2.F ht⟩) hw.2.2.2.2 dX7_sign_30
theorem hd_X7_spread : yX7_spread.cls = RX7 ∧ yX7_spread.cls ≠ "java/lang/invoke/MethodHandle" ∧ yX7_spread.cls ≠ "java/lang/invoke/VarHandle" ∧ (parseMethodDescriptor yX7_spread.desc).map (fun d => d.parameters.length) = some 2 := by decide +kernel
set_option maxHeartbeats 4000000 in
set_option maxRecDepth 100000 in
theorem c_X7_spread (l : Launch) (g : Gm) (a0 : Nat → Nat) (U0 : TS) (V0 : TS) (M0 : LTS) (R0 : LTS) (kv : Value) (t0 : Tr) (tp0 : Option (Nat → Int32)) (h0 : tpOf t0 = tp0) (p1 : Int32) (p2 : Int32) {q : (Int32 × TS × (Option (Nat → Int32)))} (hM : f_X7_spread U0 V0 M0 R0 tp0 p1 p2 = some q) : MB l yX7_spread wsX7_spread 6 163 g [.ref (a0 0), .int p1, .int p2] (fun t => (wXM g a0 U0 V0 M0 R0 kv (tvOf t)) ++ wOT g t) t0 (some (.int q.1)) (fun t => (wXM g a0 U0 q.2.1 M0 R0 kv (tvOf t)) ++ wOT g t) q.2.2 := by
  intro sz
  refine Met.ofW (cc := cX7_spread) (maxL := 3) (ret := (some .int)) (by decide) rfl ?_
  intro p e s m args below meth c s₁ B hml hv
  obtain ⟨rfl, hsz, hP, hK, hD0⟩ := hv
  have hx := B.exec; have hb := B.bytes; have hr := B.returns
  have hts := atoms_spec (ws := wsX7_spread) B.pre
  have hown : s.vm.findClass RX7 = some m.cls := findClass_of_methodNamed B.named
  have hlocks := B.notSynchronized
  have hS : CallFix p m c cX7_spread 3 s _ wsX7_spread RX7 := ⟨hx, hb, hml, hown, hts⟩
  have hin_X7 : ∀ w ∈ wsX70, w ∈ wsX7_spread := fun w h => (List.mem_cons_of_mem _ (List.mem_append_right _ h))
  subst hsz
  have hw := wk_start hP hD0
  have hA : ∀ q : Nat, s.heap.size ≤ q → va_A ((wXM g a0 U0 V0 M0 R0 kv (tvOf t0)) ++ (wOT g t0)) s.heap.size q := fun q h => Or.inr h
  generalize va_A ((wXM g a0 U0 V0 M0 R0 kv (tvOf t0)) ++ (wOT g t0)) s.heap.size = A at hw hA ⊢
  clear hP hD0
  have hl := lv_entry ([.ref (a0 0), .int p1, .int p2]) (n := 3) (Nat.le_of_ble_eq_true rfl)
  rw [lg_entry_eq]
  generalize (lg_sl ([.ref (a0 0), .int p1, .int p2]) ++ List.replicate (3 - (lg_sl ([.ref (a0 0), .int p1, .int p2])).length) Slot.unset).toArray = ls at hl ⊢
  have hl : lv_has ls 3 [(0, .ref (a0 0)), (1, .int p1), (2, .int p2)] := hl
  refine W_nl t0 ?_
  rw [f_X7_spread] at hM
  refine lv_iload_n hx hb dX7_spread_0 rfl (lv_at hl 1 rfl) ?_
  refine rSR (wc := ([] : va_W)) (As := [.int p1]) (rest := []) hS (c_X7_isRounds l g p1) gX7_spread_X7_isRounds rfl hd_X7_isRounds ⟨Nat.le_of_ble_eq_true rfl, Nat.le_of_ble_eq_true rfl⟩ hK (hP_nil) rfl hl.1 rfl (Nat.le_of_ble_eq_true rfl) dX7_spread_1 ⟨nlc _ _ _, nlc _ _ _⟩ ?_
  refine lv_if_eq (tgt := 28) hx hb dX7_spread_4 (by decide) (fun c2 => ?_) (fun c2 => ?_)
  · replace hM := itp c2 hM
    refine lv_aload_n hx hb dX7_spread_28 rfl (lv_at hl 0 rfl) ?_
    refine lv_bipush (v := (-2 : Int32)) hx hb dX7_spread_29 (by decide) ?_
    obtain ⟨q4, h3, hM⟩ := bd hM
    refine rVWp (wc := (wXM g a0 U0 V0 M0 R0 kv (tvOf t0))) (wq := ((wXM g a0 U0 q4.2 M0 R0 kv (tvOf t0)) ++ (wOT g t0))) (As := [.int (-2 : Int32)]) (rest := []) (q0 := 0) hS (c_X7_refuse l g a0 kv (tvOf t0) U0 V0 M0 R0 (-2 : Int32) h3) gX7_spread_X7_refuse rfl hd_X7_refuse ⟨Nat.le_of_ble_eq_true rfl, Nat.le_of_ble_eq_true rfl⟩ hK hw hA (pm_2_0 _ _) rfl (pm_2_0 _ _) rfl rfl rfl rfl hl.1 rfl (Nat.le_of_ble_eq_true rfl) dX7_spread_31 ⟨nlc _ _ _, nlc _ _ _⟩ (fun H locs hw => ?_)
    obtain rfl := Option.some.inj hM
    refine W.widen (k := 28 * nlOf t0) (n := 759 * nlOf t0) (nlc _ _ _) (nlc _ _ _) ?_
    exact W.iret hx hb hr (fun t ht _ => ⟨rfl, ⟨t0, h0, by rw [ht]; exact hw.1, hw.2.1⟩, hw.2.2.F ht⟩) hw.2.2.2.2 dX7_spread_34
  · replace hM := itn c2 hM
    refine lv_aload_n hx hb dX7_spread_7 rfl (lv_at hl 0 rfl) ?_
    refine lv_iload_n hx hb dX7_spread_8 rfl (lv_at hl 2 rfl) ?_
    refine rVR (wc := (wXT g a0 (fm a0 V0 kv (tvOf t0)) U0)) (As := [.int p2]) (rest := []) (q0 := 0) hS (c_X7_isOne l g a0 (fm a0 V0 kv (tvOf t0)) U0 p2) gX7_spread_X7_isOne rfl hd_X7_isOne ⟨Nat.le_of_ble_eq_true rfl, Nat.le_of_ble_eq_true rfl⟩ hK (va_P.pm hw.1 (pmX2 _ _ _ _ _ _ _ _ _)) rfl rfl rfl rfl hl.1 rfl (Nat.le_of_ble_eq_true rfl) dX7_spread_9 ⟨nlc _ _ _, nlc _ _ _⟩ ?_
    refine lv_if_eq (tgt := 28) hx hb dX7_spread_12 (by decide) (fun c6 => ?_) (fun c6 => ?_)
    · replace hM := itp c6 hM
      refine lv_aload_n hx hb dX7_spread_28 rfl (lv_at hl 0 rfl) ?_
      refine lv_bipush (v := (-2 : Int32)) hx hb dX7_spread_29 (by decide) ?_
      obtain ⟨q8, h7, hM⟩ := bd hM
      refine rVWp (wc := (wXM g a0 U0 V0 M0 R0 kv (tvOf t0))) (wq := ((wXM g a0 U0 q8.2 M0 R0 kv (tvOf t0)) ++ (wOT g t0))) (As := [.int (-2 : Int32)]) (rest := []) (q0 := 0) hS (c_X7_refuse l g a0 kv (tvOf t0) U0 V0 M0 R0 (-2 : Int32) h7) gX7_spread_X7_refuse rfl hd_X7_refuse ⟨Nat.le_of_ble_eq_true rfl, Nat.le_of_ble_eq_true rfl⟩ hK hw hA (pm_2_0 _ _) rfl (pm_2_0 _ _) rfl rfl rfl rfl hl.1 rfl (Nat.le_of_ble_eq_true rfl) dX7_spread_31 ⟨nlc _ _ _, nlc _ _ _⟩ (fun H locs hw => ?_)
      obtain rfl := Option.some.inj hM
      refine W.widen (k := 28 * nlOf t0) (n := 759 * nlOf t0) (nlc _ _ _) (nlc _ _ _) ?_
      exact W.iret hx hb hr (fun t ht _ => ⟨rfl, ⟨t0, h0, by rw [ht]; exact hw.1, hw.2.1⟩, hw.2.2.F ht⟩) hw.2.2.2.2 dX7_spread_34
    · replace hM := itn c6 hM
      refine lv_aload_n hx hb dX7_spread_15 rfl (lv_at hl 0 rfl) ?_
      refine lv_iload_n hx hb dX7_spread_16 rfl (lv_at hl 1 rfl) ?_
      obtain ⟨q12, h9, hM⟩ := bd hM
      refine rVF (t0 := t0) (As := [.int p1]) (rest := []) (hn := (Nat.le_refl _)) hS (c_X7_after l g a0 U0 V0 M0 R0 kv t0 tp0 h0 p1 h9) gX7_spread_X7_after rfl hd_X7_after ⟨Nat.le_of_ble_eq_true rfl, Nat.le_of_ble_eq_true rfl⟩ hK hw hA rfl rfl rfl rfl hl.1 rfl (Nat.le_of_ble_eq_true rfl) dX7_spread_17 (fun b10 G11 H locs hw => ?_)
      have hw : Wk g A s.heap H locs ((wXM g a0 U0 V0 M0 R0 kv (.ref (b10 0))) ++ (wXT g b10 G11 q12)) := hw
      refine wk_get hx hb hts hin_X7 hown hK hw.1 7 28 15 (.ref (b10 5)) rfl rfl (by decide) (mi 1 rfl) rfl rfl dX7_spread_20 ?_
      refine lv_iload_n hx hb dX7_spread_23 rfl (lv_at hl 2 rfl) ?_
      obtain ⟨k13, hM⟩ := ck hM
      refine wk_iald hx hb hK hw.1 33 7 (q12 15) rfl k13 dX7_spread_24 ?_
      refine lv_goto (tgt := 34) hx hb dX7_spread_25 (by decide) ?_
      obtain rfl := Option.some.inj hM
      exact W.iret hx hb hr (fun t ht _ => ⟨rfl, ⟨(some (b10, G11, q12)), rfl, by rw [ht]; exact hw.1, hw.2.1⟩, hw.2.2.F ht⟩) hw.2.2.2.2 dX7_spread_34
theorem hd_X7_status : yX7_status.cls = RX7 ∧ yX7_status.cls ≠ "java/lang/invoke/MethodHandle" ∧ yX7_status.cls ≠ "java/lang/invoke/VarHandle" ∧ (parseMethodDescriptor yX7_status.desc).map (fun d => d.parameters.length) = some 1 := by decide +kernel
set_option maxHeartbeats 4000000 in
set_option maxRecDepth 100000 in
theorem c_X7_status (l : Launch) (g : Gm) (a0 : Nat → Nat) (kv : Value) (tv : Value) (U0 : TS) (V0 : TS) (M0 : LTS) (R0 : LTS) (p1 : Int32) {q : Int32} (hM : f_X7_status U0 V0 M0 R0 p1 = some q) : MR l yX7_status wsX7_status 2 44 g [.ref (a0 0), .int p1] (wXM g a0 U0 V0 M0 R0 kv tv) (some (.int q)) := by
  refine Met.ofW (cc := cX7_status) (maxL := 4) (ret := (some .int)) (by decide) rfl ?_
  intro p e s m args below meth c s₁ B hml hv
  obtain ⟨rfl, hP, hK⟩ := hv
  have hx := B.exec; have hb := B.bytes; have hr := B.returns
  have hts := atoms_spec (ws := wsX7_status) B.pre
  have hown : s.vm.findClass RX7 = some m.cls := findClass_of_methodNamed B.named
  have hlocks := B.notSynchronized
  have hS : CallFix p m c cX7_status 4 s _ wsX7_status RX7 := ⟨hx, hb, hml, hown, hts⟩
  have hin_X7 : ∀ w ∈ wsX70, w ∈ wsX7_status := fun w h => (List.mem_cons_of_mem _ (List.mem_append_right _ h))
  have hl := lv_entry ([.ref (a0 0), .int p1]) (n := 4) (Nat.le_of_ble_eq_true rfl)
  rw [lg_entry_eq]
  generalize (lg_sl ([.ref (a0 0), .int p1]) ++ List.replicate (4 - (lg_sl ([.ref (a0 0), .int p1])).length) Slot.unset).toArray = ls at hl ⊢
  have hl : lv_has ls 4 [(0, .ref (a0 0)), (1, .int p1)] := hl
  rw [f_X7_status] at hM
  refine lv_iconst (v := (0 : Int32)) hx hb dX7_status_0 (by decide) ?_
  refine lv_istore_n (lv' := [(2, .int (0 : Int32)), (0, .ref (a0 0)), (1, .int p1)]) hx hb dX7_status_1 rfl hl (by decide) rfl (fun ls hl => ?_)
  refine lv_iload_n hx hb dX7_status_2 rfl (lv_at hl 2 rfl) ?_
  by_cases c1_0 : p1 = (0 : Int32)
  · replace hM := itp c1_0 hM
    refine lv_tableIn (tgt := 60) hx hb dX7_status_3 (by rw [c1_0]; decide) (by rw [c1_0]; decide) (by rw [c1_0]; first | done | rfl) (by decide) ?_
    refine lv_aload_n hx hb dX7_status_60 rfl (lv_at hl 1 rfl) ?_
    refine wk_get hx hb hts hin_X7 hown hK hP 7 0 9 (.int (U0 9 0)) rfl rfl (by decide) (mi 1 rfl) rfl rfl dX7_status_61 ?_
    obtain rfl := Option.some.inj hM
    exact W.iret hx hb hr (fun t ht _ => ⟨rfl, ht⟩) (fun q hq => by cases hq) dX7_status_64
  replace hM := itn c1_0 hM
  by_cases c1_1 : p1 = (1 : Int32)
  · replace hM := itp c1_1 hM
    refine lv_tableIn (tgt := 65) hx hb dX7_status_3 (by rw [c1_1]; decide) (by rw [c1_1]; decide) (by rw [c1_1]; first | done | rfl) (by decide) ?_
    refine lv_aload_n hx hb dX7_status_65 rfl (lv_at hl 1 rfl) ?_
    refine wk_get hx hb hts hin_X7 hown hK hP 7 0 10 (.int (U0 10 0)) rfl rfl (by decide) (mi 2 rfl) rfl rfl dX7_status_66 ?_
    obtain rfl := Option.some.inj hM
    exact W.iret hx hb hr (fun t ht _ => ⟨rfl, ht⟩) (fun q hq => by cases hq) dX7_status_69
  replace hM := itn c1_1 hM
  by_cases c1_2 : p1 = (2 : Int32)
  · replace hM := itp c1_2 hM
    refine lv_tableIn (tgt := 70) hx hb dX7_status_3 (by rw [c1_2]; decide) (by rw [c1_2]; decide) (by rw [c1_2]; first | done | rfl) (by decide) ?_
    refine lv_aload_n hx hb dX7_status_70 rfl (lv_at hl 1 rfl) ?_
    refine wk_get hx hb hts hin_X7 hown hK hP 7 0 17 (.ref (a0 7)) rfl rfl (by decide) (mi 3 rfl) rfl rfl dX7_status_71 ?_
    refine lv_iload_n hx hb dX7_status_74 rfl (lv_at hl 2 rfl) ?_
    refine lv_iconst (v := (2 : Int32)) hx hb dX7_status_75 (by decide) ?_
    refine lv_isub hx hb dX7_status_76 ?_
    obtain ⟨k2, hM⟩ := ck hM
    refine wk_iald hx hb hK hP 7 3 (U0 17) rfl k2 dX7_status_77 ?_
    obtain rfl := Option.some.inj hM
    exact W.iret hx hb hr (fun t ht _ => ⟨rfl, ht⟩) (fun q hq => by cases hq) dX7_status_78
  replace hM := itn c1_2 hM
  by_cases c1_3 : p1 = (3 : Int32)
  · replace hM := itp c1_3 hM
    refine lv_tableIn (tgt := 70) hx hb dX7_status_3 (by rw [c1_3]; decide) (by rw [c1_3]; decide) (by rw [c1_3]; first | done | rfl) (by decide) ?_
    refine lv_aload_n hx hb dX7_status_70 rfl (lv_at hl 1 rfl) ?_
    refine wk_get hx hb hts hin_X7 hown hK hP 7 0 17 (.ref (a0 7)) rfl rfl (by decide) (mi 3 rfl) rfl rfl dX7_status_71 ?_
    refine lv_iload_n hx hb dX7_status_74 rfl (lv_at hl 2 rfl) ?_
    refine lv_iconst (v := (2 : Int32)) hx hb dX7_status_75 (by decide) ?_
    refine lv_isub hx hb dX7_status_76 ?_
    obtain ⟨k3, hM⟩ := ck hM
    refine wk_iald hx hb hK hP 7 3 (U0 17) rfl k3 dX7_status_77 ?_
    obtain rfl := Option.some.inj hM
    exact W.iret hx hb hr (fun t ht _ => ⟨rfl, ht⟩) (fun q hq => by cases hq) dX7_status_78
  replace hM := itn c1_3 hM
  by_cases c1_4 : p1 = (4 : Int32)
  · replace hM := itp c1_4 hM
    refine lv_tableIn (tgt := 70) hx hb dX7_status_3 (by rw [c1_4]; decide) (by rw [c1_4]; decide) (by rw [c1_4]; first | done | rfl) (by decide) ?_
    refine lv_aload_n hx hb dX7_status_70 rfl (lv_at hl 1 rfl) ?_
    refine wk_get hx hb hts hin_X7 hown hK hP 7 0 17 (.ref (a0 7)) rfl rfl (by decide) (mi 3 rfl) rfl rfl dX7_status_71 ?_
    refine lv_iload_n hx hb dX7_status_74 rfl (lv_at hl 2 rfl) ?_
    refine lv_iconst (v := (2 : Int32)) hx hb dX7_status_75 (by decide) ?_
    refine lv_isub hx hb dX7_status_76 ?_
    obtain ⟨k4, hM⟩ := ck hM
    refine wk_iald hx hb hK hP 7 3 (U0 17) rfl k4 dX7_status_77 ?_
    obtain rfl := Option.some.inj hM
    exact W.iret hx hb hr (fun t ht _ => ⟨rfl, ht⟩) (fun q hq => by cases hq) dX7_status_78
  replace hM := itn c1_4 hM
  by_cases c1_5 : p1 = (5 : Int32)
  · replace hM := itp c1_5 hM
    refine lv_tableIn (tgt := 79) hx hb dX7_status_3 (by rw [c1_5]; decide) (by rw [c1_5]; decide) (by rw [c1_5]; first | done | rfl) (by decide) ?_
    refine lv_aload_n hx hb dX7_status_79 rfl (lv_at hl 1 rfl) ?_
    refine wk_get hx hb hts hin_X7 hown hK hP 7 0 18 (.int (U0 18 0)) rfl rfl (by decide) (mi 4 rfl) rfl rfl dX7_status_80 ?_
    obtain rfl := Option.some.inj hM
    exact W.iret hx hb hr (fun t ht _ => ⟨rfl, ht⟩) (fun q hq => by cases hq) dX7_status_83
  replace hM := itn c1_5 hM
  by_cases c1_6 : p1 = (6 : Int32)
  · replace hM := itp c1_6 hM
    refine lv_tableIn (tgt := 84) hx hb dX7_status_3 (by rw [c1_6]; decide) (by rw [c1_6]; decide) (by rw [c1_6]; first | done | rfl) (by decide) ?_
    refine lv_aload_n hx hb dX7_status_84 rfl (lv_at hl 1 rfl) ?_
    refine wk_get hx hb hts hin_X7 hown hK hP 7 0 7 (.int (V0 7 0)) rfl rfl (by decide) (mi 5 rfl) rfl rfl dX7_status_85 ?_
    obtain rfl := Option.some.inj hM
    exact W.iret hx hb hr (fun t ht _ => ⟨rfl, ht⟩) (fun q hq => by cases hq) dX7_status_88
  replace hM := itn c1_6 hM
  by_cases c1_7 : p1 = (7 : Int32)
  · replace hM := itp c1_7 hM
    refine lv_tableIn (tgt := 89) hx hb dX7_status_3 (by rw [c1_7]; decide) (by rw [c1_7]; decide) (by rw [c1_7]; first | done | rfl) (by decide) ?_
    refine lv_aload_n hx hb dX7_status_89 rfl (lv_at hl 1 rfl) ?_
    refine wk_get hx hb hts hin_X7 hown hK hP 7 0 19 (.int (U0 19 0)) rfl rfl (by decide) (mi 6 rfl) rfl rfl dX7_status_90 ?_
    obtain rfl := Option.some.inj hM
    exact W.iret hx hb hr (fun t ht _ => ⟨rfl, ht⟩) (fun q hq => by cases hq) dX7_status_93
  replace hM := itn c1_7 hM
  by_cases c1_8 : p1 = (8 : Int32)
  · replace hM := itp c1_8 hM
    refine lv_tableIn (tgt := 94) hx hb dX7_status_3 (by rw [c1_8]; decide) (by rw [c1_8]; decide) (by rw [c1_8]; first | done | rfl) (by decide) ?_
    refine lv_iconst (v := (0 : Int32)) hx hb dX7_status_94 (by decide) ?_
    refine lv_istore_n (lv' := [(3, .int (0 : Int32)), (2, .int (0 : Int32)), (0, .ref (a0 0)), (1, .int p1)]) hx hb dX7_status_95 rfl hl (by decide) rfl (fun ls hl => ?_)
    obtain ⟨q7, hL96, hM⟩ := bd hM
    have hJ96 : ∀ (ls : Array Slot), lv_has ls 4 [(2, .int q7)] → W p l e (headSpec wsX7_status ({ frames := 2, cells := 0, slots := 0, locals := 44 } : Room)).room s m ([.ref (a0 0), .int p1] : List Value).toArray below meth c s.heap [] 0 0 (MQ below (QcR (some (.int q))) ([.ref (a0 0), .int p1] : List Value).toArray s 0 0 (fun _ => False)) (F0 m 125 ls []) := by
      intro ls hl
      refine lv_iload_n hx hb dX7_status_125 rfl (lv_at hl 0 rfl) ?_
      obtain rfl := Option.some.inj hM
      exact W.iret hx hb hr (fun t ht _ => ⟨rfl, ht⟩) (fun q hq => by cases hq) dX7_status_126
    have hW96 : ∀ (n : Nat) (v3_5 : Int32) (v2_6 : Int32), L_X7_status_96 V0 n v3_5 v2_6 = some q7 → ∀ (ls : Array Slot), lv_has ls 4 [(3, .int v3_5), (2, .int v2_6), (0, .ref (a0 0))] → W p l e (headSpec wsX7_status ({ frames := 2, cells := 0, slots := 0, locals := 44 } : Room)).room s m ([.ref (a0 0), .int p1] : List Value).toArray below meth c s.heap [] 0 0 (MQ below (QcR (some (.int q))) ([.ref (a0 0), .int p1] : List Value).toArray s 0 0 (fun _ => False)) (F0 m 96 ls []) := by
      intro n
      induction n with
      | zero => intro v3_5 v2_6 hM; rw [L_X7_status_96] at hM; exact nn hM
      | succ n ih96 =>
        intro v3_5 v2_6 hM ls hl
        rw [L_X7_status_96] at hM
        refine lv_iload_n hx hb dX7_status_96 rfl (lv_at hl 0 rfl) ?_
        refine lv_bipush (v := (8 : Int32)) hx hb dX7_status_97 (by decide) ?_
        refine lv_icmp_ge (tgt := 125) hx hb dX7_status_99 (by decide) (fun c8 => ?_) (fun c8 => ?_)
        · replace hM := itp c8 hM
          obtain rfl := Option.some.inj hM
          exact hJ96 _ (lv_sub hl [1] rfl)
        · replace hM := itn c8 hM
          refine lv_iload_n hx hb dX7_status_102 rfl (lv_at hl 1 rfl) ?_
          refine lv_aload_n hx hb dX7_status_103 rfl (lv_at hl 2 rfl) ?_
          refine wk_get hx hb hts hin_X7 hown hK hP 7 0 0 (.ref (a0 9)) rfl rfl (by decide) (mi 7 rfl) rfl rfl dX7_status_104 ?_
          refine lv_iload_n hx hb dX7_status_107 rfl (lv_at hl 0 rfl) ?_
          obtain ⟨k9, hM⟩ := ck hM
          refine wk_iald hx hb hK hP 9 8 (V0 0) rfl k9 dX7_status_108 ?_
          have hJ23 : ∀ (x22 : Int32) (ls : Array Slot), x22 = (if ((V0 0) (v3_5).toNatClampNeg) = 0 then (0 : Int32) else (1 : Int32)) → lv_has ls 4 [(3, .int v3_5), (0, .ref (a0 0))] → W p l e (headSpec wsX7_status ({ frames := 2, cells := 0, slots := 0, locals := 44 } : Room)).room s m ([.ref (a0 0), .int p1] : List Value).toArray below meth c s.heap [] 0 0 (MQ below (QcR (some (.int q))) ([.ref (a0 0), .int p1] : List Value).toArray s 0 0 (fun _ => False)) (F0 m 117 ls [.int x22, .int v2_6]) := by
            intro x22 ls hxx22 hl
            subst hxx22
            refine lv_iadd hx hb dX7_status_117 ?_
            refine lv_istore_n (lv' := [(2, .int (v2_6 + (if ((V0 0) (v3_5).toNatClampNeg) = 0 then (0 : Int32) else (1 : Int32)))), (3, .int v3_5), (0, .ref (a0 0))]) hx hb dX7_status_118 rfl hl (by decide) rfl (fun ls hl => ?_)
            refine lv_iinc (v := (v3_5 + (1 : Int32))) (lv' := [(3, .int (v3_5 + (1 : Int32))), (2, .int (v2_6 + (if ((V0 0) (v3_5).toNatClampNeg) = 0 then (0 : Int32) else (1 : Int32)))), (0, .ref (a0 0))]) hx hb dX7_status_119 hl (k := 1) rfl rfl (by decide) rfl (fun ls hl => ?_)
            refine lv_goto (tgt := 96) hx hb dX7_status_122 (by decide) ?_
            exact ih96 (v3_5 + (1 : Int32)) (v2_6 + (if ((V0 0) (v3_5).toNatClampNeg) = 0 then (0 : Int32) else (1 : Int32))) hM _ (lv_sub hl [0, 1, 2] rfl)
          refine lv_if_eq (tgt := 116) hx hb dX7_status_109 (by decide) (fun c10 => ?_) (fun c10 => ?_)
          · refine lv_iconst (v := (0 : Int32)) hx hb dX7_status_116 (by decide) ?_
            exact hJ23 _ _ (by first | with_reducible rfl | (simp only [if_pos c10]) | rfl) (lv_sub hl [0, 2] rfl)
          · refine lv_iconst (v := (1 : Int32)) hx hb dX7_status_112 (by decide) ?_
            refine lv_goto (tgt := 117) hx hb dX7_status_113 (by decide) ?_
            exact hJ23 _ _ (by first | with_reducible rfl | (simp only [if_neg c10]) | rfl) (lv_sub hl [0, 2] rfl)
    exact hW96 300 (0 : Int32) (0 : Int32) hL96 _ (lv_sub hl [0, 1, 2] rfl)
  replace hM := itn c1_8 hM
  by_cases c1_9 : p1 = (9 : Int32)
  · replace hM := itp c1_9 hM
    refine lv_tableIn (tgt := 127) hx hb dX7_status_3 (by rw [c1_9]; decide) (by rw [c1_9]; decide) (by rw [c1_9]; first | done | rfl) (by decide) ?_
    refine lv_aload_n hx hb dX7_status_127 rfl (lv_at hl 1 rfl) ?_
    obtain ⟨q12, h11, hM⟩ := bd hM
    refine rVR (wc := (wXT g a0 (fm a0 V0 kv tv) U0)) (As := []) (rest := []) (q0 := 0) hS (c_X7_knownNow l g a0 (fm a0 V0 kv tv) U0 h11) gX7_status_X7_knownNow rfl hd_X7_knownNow ⟨Nat.le_of_ble_eq_true rfl, Nat.le_of_ble_eq_true rfl⟩ hK (va_P.pm hP (pmX1 _ _ _ _ _ _ _ _)) rfl rfl rfl rfl hl.1 rfl (Nat.le_of_ble_eq_true rfl) dX7_status_128 ⟨Nat.zero_le _, Nat.zero_le _⟩ ?_
    obtain rfl := Option.some.inj hM
    exact W.iret hx hb hr (fun t ht _ => ⟨rfl, ht⟩) (fun q hq => by cases hq) dX7_status_131
  replace hM := itn c1_9 hM
  by_cases c1_10 : p1 = (10 : Int32)
  · replace hM := itp c1_10 hM
    refine lv_tableIn (tgt := 132) hx hb dX7_status_3 (by rw [c1_10]; decide) (by rw [c1_10]; decide) (by rw [c1_10]; first | done | rfl) (by decide) ?_
    refine lv_aload_n hx hb dX7_status_132 rfl (lv_at hl 1 rfl) ?_
    obtain ⟨q14, h13, hM⟩ := bd hM
    refine rVR (wc := (wXT g a0 (fm a0 V0 kv tv) U0)) (As := []) (rest := []) (q0 := 0) hS (c_X7_pairsNow l g a0 (fm a0 V0 kv tv) U0 h13) gX7_status_X7_pairsNow rfl hd_X7_pairsNow ⟨Nat.le_of_ble_eq_true rfl, Nat.le_of_ble_eq_true rfl⟩ hK (va_P.pm hP (pmX1 _ _ _ _ _ _ _ _)) rfl rfl rfl rfl hl.1 rfl (Nat.le_of_ble_eq_true rfl) dX7_status_133 ⟨Nat.zero_le _, Nat.zero_le _⟩ ?_
    obtain rfl := Option.some.inj hM
    exact W.iret hx hb hr (fun t ht _ => ⟨rfl, ht⟩) (fun q hq => by cases hq) dX7_status_136
  replace hM := itn c1_10 hM
  refine lv_tableOut (tgt := 137) hx hb dX7_status_3 (sw_out (lo := 0) (hi := 10) (by decide) (by decide) (fun k h1 h2 hk => by
            have hs : k = (0 : Int) ∨ k = (1 : Int) ∨ k = (2 : Int) ∨ k = (3 : Int) ∨ k = (4 : Int) ∨ k = (5 : Int) ∨ k = (6 : Int) ∨ k = (7 : Int) ∨ k = (8 : Int) ∨ k = (9 : Int) ∨ k = (10 : Int) := by omega
            rcases hs with hs | hs | hs | hs | hs | hs | hs | hs | hs | hs | hs <;> subst hs <;> first | exact c1_0 (Int32.toInt_inj.mp (hk.trans (by decide))) | exact c1_1 (Int32.toInt_inj.mp (hk.trans (by decide))) | exact c1_2 (Int32.toInt_inj.mp (hk.trans (by decide))) | exact c1_3 (Int32.toInt_inj.mp (hk.trans (by decide))) | exact c1_4 (Int32.toInt_inj.mp (hk.trans (by decide))) | exact c1_5 (Int32.toInt_inj.mp (hk.trans (by decide))) | exact c1_6 (Int32.toInt_inj.mp (hk.trans (by decide))) | exact c1_7 (Int32.toInt_inj.mp (hk.trans (by decide))) | exact c1_8 (Int32.toInt_inj.mp (hk.trans (by decide))) | exact c1_9 (Int32.toInt_inj.mp (hk.trans (by decide))) | exact c1_10 (Int32.toInt_inj.mp (hk.trans (by decide))))) (by decide) ?_
  refine lv_iload_n hx hb dX7_status_137 rfl (lv_at hl 2 rfl) ?_
  refine lv_i2l (v := ((p1).toInt64)) hx hb dX7_status_138 rfl ?_
  refine lv_ldc2 (v := (12 : Int64)) hx hb hown (hts _ (mi 8 rfl)) dX7_status_139 ?_
  refine lv_ldc2 (v := (16 : Int64)) hx hb hown (hts _ (mi 9 rfl)) dX7_status_142 ?_
  refine rSR (wc := ([] : va_W)) (As := [.long ((p1).toInt64), .long (12 : Int64), .long (16 : Int64)]) (rest := []) hS (c_X7_in l g ((p1).toInt64) (12 : Int64) (16 : Int64)) gX7_status_X7_in rfl hd_X7_in ⟨Nat.le_of_ble_eq_true rfl, Nat.le_of_ble_eq_true rfl⟩ hK (hP_nil) rfl hl.1 rfl (Nat.le_of_ble_eq_true rfl) dX7_status_145 ⟨Nat.zero_le _, Nat.zero_le _⟩ ?_
  refine lv_if_eq (tgt := 163) hx hb dX7_status_148 (by decide) (fun c16 => ?_) (fun c16 => ?_)
  · replace hM := itp c16 hM
    refine lv_iconst (v := (-1 : Int32)) hx hb dX7_status_163 (by decide) ?_
    obtain rfl := Option.some.inj hM
    exact W.iret hx hb hr (fun t ht _ => ⟨rfl, ht⟩) (fun q hq => by cases hq) dX7_status_164
  · replace hM := itn c16 hM
    refine lv_aload_n hx hb dX7_status_151 rfl (lv_at hl 1 rfl) ?_
    refine wk_get hx hb hts hin_X7 hown hK hP 7 0 8 (.ref (a0 16)) rfl rfl (by decide) (mi 10 rfl) rfl rfl dX7_status_152 ?_
    refine lv_iload_n hx hb dX7_status_155 rfl (lv_at hl 2 rfl) ?_
    refine lv_bipush (v := (10 : Int32)) hx hb dX7_status_156 (by decide) ?_
    refine lv_isub hx hb dX7_status_158 ?_
    obtain ⟨k17, hM⟩ := ck hM
    refine wk_iald hx hb hK hP 16 8 (V0 8) rfl k17 dX7_status_159 ?_
    refine lv_goto (tgt := 164) hx hb dX7_status_160 (by decide) ?_
    obtain rfl := Option.some.inj hM
    exact W.iret hx hb hr (fun t ht _ => ⟨rfl, ht⟩) (fun q hq => by cases hq) dX7_status_164
theorem hd_X7_stop : yX7_stop.cls = RX7 ∧ yX7_stop.cls ≠ "java/lang/invoke/MethodHandle" ∧ yX7_stop.cls ≠ "java/lang/invoke/VarHandle" ∧ (parseMethodDescriptor yX7_stop.desc).map (fun d => d.parameters.length) = some 2 := by decide +kernel
set_option maxHeartbeats 4000000 in
set_option maxRecDepth 100000 in
theorem c_X7_stop (l : Launch) (g : Gm) (a0 : Nat → Nat) (U0 : TS) (V0 : TS) (M0 : LTS) (R0 : LTS) (kv : Value) (t0 : Tr) (tp0 : Option (Nat → Int32)) (h0 : tpOf t0 = tp0) (p1 : Int32) (p2 : Int32) {q : (Int32 × TS × (Option (Nat → Int32)))} (hM : f_X7_stop U0 V0 M0 R0 tp0 p1 p2 = some q) : MB l yX7_stop wsX7_stop 6 165 g [.ref (a0 0), .int p1, .int p2] (fun t => (wXM g a0 U0 V0 M0 R0 kv (tvOf t)) ++ wOT g t) t0 (some (.int q.1)) (fun t => (wXM g a0 U0 q.2.1 M0 R0 kv (tvOf t)) ++ wOT g t) q.2.2 := by
  intro sz
  refine Met.ofW (cc := cX7_stop) (maxL := 5) (ret := (some .int)) (by decide) rfl ?_
  intro p e s m args below meth c s₁ B hml hv
  obtain ⟨rfl, hsz, hP, hK, hD0⟩ := hv
  have hx := B.exec; have hb := B.bytes; have hr := B.returns
  have hts := atoms_spec (ws := wsX7_stop) B.pre
  have hown : s.vm.findClass RX7 = some m.cls := findClass_of_methodNamed B.named
  have hlocks := B.notSynchronized
  have hS : CallFix p m c cX7_stop 5 s _ wsX7_stop RX7 := ⟨hx, hb, hml, hown, hts⟩
  have hin_X7 : ∀ w ∈ wsX70, w ∈ wsX7_stop := fun w h => (List.mem_cons_of_mem _ (List.mem_append_right _ h))
  subst hsz
  have hw := wk_start hP hD0
  have hA : ∀ q : Nat, s.heap.size ≤ q → va_A ((wXM g a0 U0 V0 M0 R0 kv (tvOf t0)) ++ (wOT g t0)) s.heap.size q := fun q h => Or.inr h
  generalize va_A ((wXM g a0 U0 V0 M0 R0 kv (tvOf t0)) ++ (wOT g t0)) s.heap.size = A at hw hA ⊢
  clear hP hD0
  have hl := lv_entry ([.ref (a0 0), .int p1, .int p2]) (n := 5) (Nat.le_of_ble_eq_true rfl)
  rw [lg_entry_eq]
  generalize (lg_sl ([.ref (a0 0), .int p1, .int p2]) ++ List.replicate (5 - (lg_sl ([.ref (a0 0), .int p1, .int p2])).length) Slot.unset).toArray = ls at hl ⊢
  have hl : lv_has ls 5 [(0, .ref (a0 0)), (1, .int p1), (2, .int p2)] := hl
  refine W_nl t0 ?_
  rw [f_X7_stop] at hM
  refine lv_aload_n hx hb dX7_stop_0 rfl (lv_at hl 0 rfl) ?_
  refine lv_iload_n hx hb dX7_stop_1 rfl (lv_at hl 1 rfl) ?_
  refine rVR (wc := (wXT g a0 (fm a0 V0 kv (tvOf t0)) U0)) (As := [.int p1]) (rest := []) (q0 := 0) hS (c_X7_isSight l g a0 (fm a0 V0 kv (tvOf t0)) U0 p1) gX7_stop_X7_isSight rfl hd_X7_isSight ⟨Nat.le_of_ble_eq_true rfl, Nat.le_of_ble_eq_true rfl⟩ hK (va_P.pm hw.1 (pmX2 _ _ _ _ _ _ _ _ _)) rfl rfl rfl rfl hl.1 rfl (Nat.le_of_ble_eq_true rfl) dX7_stop_2 ⟨nlc _ _ _, nlc _ _ _⟩ ?_
  refine lv_if_eq (tgt := 15) hx hb dX7_stop_5 (by decide) (fun c2 => ?_) (fun c2 => ?_)
  · replace hM := itp c2 hM
    refine lv_aload_n hx hb dX7_stop_15 rfl (lv_at hl 0 rfl) ?_
    refine lv_bipush (v := (-2 : Int32)) hx hb dX7_stop_16 (by decide) ?_
    obtain ⟨q4, h3, hM⟩ := bd hM
    refine rVWp (wc := (wXM g a0 U0 V0 M0 R0 kv (tvOf t0))) (wq := ((wXM g a0 U0 q4.2 M0 R0 kv (tvOf t0)) ++ (wOT g t0))) (As := [.int (-2 : Int32)]) (rest := []) (q0 := 0) hS (c_X7_refuse l g a0 kv (tvOf t0) U0 V0 M0 R0 (-2 : Int32) h3) gX7_stop_X7_refuse rfl hd_X7_refuse ⟨Nat.le_of_ble_eq_true rfl, Nat.le_of_ble_eq_true rfl⟩ hK hw hA (pm_2_0 _ _) rfl (pm_2_0 _ _) rfl rfl rfl rfl hl.1 rfl (Nat.le_of_ble_eq_true rfl) dX7_stop_18 ⟨nlc _ _ _, nlc _ _ _⟩ (fun H locs hw => ?_)
    obtain rfl := Option.some.inj hM
    refine W.widen (k := 28 * nlOf t0) (n := 759 * nlOf t0) (nlc _ _ _) (nlc _ _ _) ?_
    exact W.iret hx hb hr (fun t ht _ => ⟨rfl, ⟨t0, h0, by rw [ht]; exact hw.1, hw.2.1⟩, hw.2.2.F ht⟩) hw.2.2.2.2 dX7_stop_21
  · replace hM := itn c2 hM
    refine lv_iload_n hx hb dX7_stop_8 rfl (lv_at hl 2 rfl) ?_
    refine rSR (wc := ([] : va_W)) (As := [.int p2]) (rest := []) hS (c_X7_isRounds l g p2) gX7_stop_X7_isRounds rfl hd_X7_isRounds ⟨Nat.le_of_ble_eq_true rfl, Nat.le_of_ble_eq_true rfl⟩ hK (hP_nil) rfl hl.1 rfl (Nat.le_of_ble_eq_true rfl) dX7_stop_9 ⟨nlc _ _ _, nlc _ _ _⟩ ?_
    refine lv_if_ne (tgt := 22) hx hb dX7_stop_12 (by decide) (fun c6 => ?_) (fun c6 => ?_)
    · replace hM := itn c6 hM
      refine lv_iconst (v := (-1 : Int32)) hx hb dX7_stop_22 (by decide) ?_
      refine lv_istore_n (lv' := [(3, .int (-1 : Int32)), (0, .ref (a0 0)), (1, .int p1), (2, .int p2)]) hx hb dX7_stop_23 rfl hl (by decide) rfl (fun ls hl => ?_)
      refine lv_iconst (v := (0 : Int32)) hx hb dX7_stop_24 (by decide) ?_
      refine lv_istore (lv' := [(4, .int (0 : Int32)), (3, .int (-1 : Int32)), (0, .ref (a0 0)), (1, .int p1), (2, .int p2)]) hx hb dX7_stop_25 hl (by decide) rfl (fun ls hl => ?_)
      obtain ⟨q15, hL27, hM⟩ := bd hM
      have hJ27 : ∀ (tX37 : Tr), tpOf tX37 = q15.2 → nlOf tX37 ≤ nlOf t0 → ∀ (H : Heap) (locs : List Loc), Wk g A s.heap H locs ((wXM g a0 U0 V0 M0 R0 kv (tvOf tX37)) ++ (wOT g tX37)) → ∀ (ls : Array Slot), lv_has ls 5 [(3, .int q15.1)] → W p l e (headSpec wsX7_stop ({ frames := 6, cells := 28 * nlOf t0, slots := 759 * nlOf t0, locals := 165 } : Room)).room s m ([.ref (a0 0), .int p1, .int p2] : List Value).toArray below meth c H locs (28 * (nlOf t0 - nlOf tX37)) (759 * (nlOf t0 - nlOf tX37)) (MQ below (QcB g (some (.int q.1)) (fun t => (wXM g a0 U0 q.2.1 M0 R0 kv (tvOf t)) ++ wOT g t) q.2.2 A) ([.ref (a0 0), .int p1, .int p2] : List Value).toArray s (28 * nlOf t0) (759 * nlOf t0) A) (F0 m 75 ls []) := by
        intro tX37 hX38 hNX39 H locs hw ls hl
        refine lv_iload_n hx hb dX7_stop_75 rfl (lv_at hl 0 rfl) ?_
        obtain rfl := Option.some.inj hM
        refine W.widen (k := 28 * nlOf t0) (n := 759 * nlOf t0) (nlc _ _ _) (nlc _ _ _) ?_
        exact W.iret hx hb hr (fun t ht _ => ⟨rfl, ⟨tX37, hX38, by rw [ht]; exact hw.1, hw.2.1⟩, hw.2.2.F ht⟩) hw.2.2.2.2 dX7_stop_76
      have hW27 : ∀ (n : Nat) (v4_9 : Int32) (v3_10 : Int32) (tpL12 : Option (Nat → Int32)), L_X7_stop_27 U0 V0 M0 R0 p1 p2 n v4_9 v3_10 tpL12 = some q15 → ∀ (tL11 : Tr), tpOf tL11 = tpL12 → nlOf tL11 ≤ nlOf t0 → ∀ (H : Heap) (locs : List Loc), Wk g A s.heap H locs ((wXM g a0 U0 V0 M0 R0 kv (tvOf tL11)) ++ (wOT g tL11)) → ∀ (ls : Array Slot), lv_has ls 5 [(4, .int v4_9), (3, .int v3_10), (0, .ref (a0 0)), (1, .int p1), (2, .int p2)] → W p l e (headSpec wsX7_stop ({ frames := 6, cells := 28 * nlOf t0, slots := 759 * nlOf t0, locals := 165 } : Room)).room s m ([.ref (a0 0), .int p1, .int p2] : List Value).toArray below meth c H locs (28 * (nlOf t0 - nlOf tL11)) (759 * (nlOf t0 - nlOf tL11)) (MQ below (QcB g (some (.int q.1)) (fun t => (wXM g a0 U0 q.2.1 M0 R0 kv (tvOf t)) ++ wOT g t) q.2.2 A) ([.ref (a0 0), .int p1, .int p2] : List Value).toArray s (28 * nlOf t0) (759 * nlOf t0) A) (F0 m 27 ls []) := by
        intro n
        induction n with
        | zero => intro v4_9 v3_10 tpL12 hM; rw [L_X7_stop_27] at hM; exact nn hM
        | succ n ih27 =>
          intro v4_9 v3_10 tpL12 hM tL11 hL13 hN14 H locs hw ls hl
          rw [L_X7_stop_27] at hM
          refine lv_iload hx hb dX7_stop_27 (lv_at hl 0 rfl) ?_
          refine lv_iconst (v := (1 : Int32)) hx hb dX7_stop_29 (by decide) ?_
          refine lv_aload_n hx hb dX7_stop_30 rfl (lv_at hl 2 rfl) ?_
          refine wk_get hx hb hts hin_X7 hown hK hw.1 7 0 10 (.int (U0 10 0)) rfl rfl (by decide) (mi 1 rfl) rfl rfl dX7_stop_31 ?_
          refine lv_ishl hx hb dX7_stop_34 ?_
          refine lv_icmp_ge (tgt := 75) hx hb dX7_stop_35 (by decide) (fun c16 => ?_) (fun c16 => ?_)
          · replace hM := itp c16 hM
            obtain rfl := Option.some.inj hM
            exact hJ27 tL11 hL13 hN14 _ _ hw _ (lv_sub hl [1] rfl)
          · replace hM := itn c16 hM
            refine lv_iload_n hx hb dX7_stop_38 rfl (lv_at hl 1 rfl) ?_
            refine lv_iconst (v := (-1 : Int32)) hx hb dX7_stop_39 (by decide) ?_
            refine lv_icmp_eq (tgt := 55) hx hb dX7_stop_40 (by decide) (fun c17 => ?_) (fun c17 => ?_)
            · replace hM := itp c17 hM
              refine lv_aload_n hx hb dX7_stop_55 rfl (lv_at hl 2 rfl) ?_
              refine lv_iload hx hb dX7_stop_56 (lv_at hl 0 rfl) ?_
              refine lv_iload_n hx hb dX7_stop_58 rfl (lv_at hl 3 rfl) ?_
              refine lv_iload_n hx hb dX7_stop_59 rfl (lv_at hl 4 rfl) ?_
              obtain ⟨q19, h18, hM⟩ := bd hM
              obtain ⟨k20, hM⟩ := ck hM
              refine rVB (t0 := t0) (As := [.int v4_9, .int p1, .int p2]) (rest := []) (hn := hN14) hS (c_X7_isStopped l g a0 U0 V0 M0 R0 kv tL11 tpL12 hL13 v4_9 p1 p2 h18) k20 gX7_stop_X7_isStopped rfl hd_X7_isStopped ⟨Nat.le_of_ble_eq_true rfl, Nat.le_of_ble_eq_true rfl⟩ hK hw hA rfl rfl rfl rfl hl.1 rfl (Nat.le_of_ble_eq_true rfl) dX7_stop_60 (fun t21 ht22 hn23 H locs hw => ?_)
              have hw : Wk g A s.heap H locs ((wXM g a0 U0 V0 M0 R0 kv (tvOf t21)) ++ (wOT g t21)) := hw
              have hJ49 : ∀ (H : Heap) (locs : List Loc) (x48 : Int32) (ls : Array Slot), Wk g A s.heap H locs ((wXM g a0 U0 V0 M0 R0 kv (tvOf t21)) ++ (wOT g t21)) → x48 = (if q19.1 = 0 then v3_10 else v4_9) → lv_has ls 5 [(4, .int v4_9), (3, .int x48), (0, .ref (a0 0)), (1, .int p1), (2, .int p2)] → W p l e (headSpec wsX7_stop ({ frames := 6, cells := 28 * nlOf t0, slots := 759 * nlOf t0, locals := 165 } : Room)).room s m ([.ref (a0 0), .int p1, .int p2] : List Value).toArray below meth c H locs (28 * (nlOf t0 - nlOf t21)) (759 * (nlOf t0 - nlOf t21)) (MQ below (QcB g (some (.int q.1)) (fun t => (wXM g a0 U0 q.2.1 M0 R0 kv (tvOf t)) ++ wOT g t) q.2.2 A) ([.ref (a0 0), .int p1, .int p2] : List Value).toArray s (28 * nlOf t0) (759 * nlOf t0) A) (F0 m 69 ls []) := by
                intro H locs x48 ls hw hxx48 hl
                subst hxx48
                refine lv_iinc (v := (v4_9 + (1 : Int32))) (lv' := [(4, .int (v4_9 + (1 : Int32))), (3, .int (if q19.1 = 0 then v3_10 else v4_9)), (0, .ref (a0 0)), (1, .int p1), (2, .int p2)]) hx hb dX7_stop_69 hl (k := 0) rfl rfl (by decide) rfl (fun ls hl => ?_)
                refine lv_goto (tgt := 27) hx hb dX7_stop_72 (by decide) ?_
                exact ih27 (v4_9 + (1 : Int32)) (if q19.1 = 0 then v3_10 else v4_9) q19.2 hM t21 ht22 hn23 _ _ hw _ (lv_sub hl [0, 1, 2, 3, 4] rfl)
              refine lv_if_eq (tgt := 69) hx hb dX7_stop_63 (by decide) (fun c24 => ?_) (fun c24 => ?_)
              · exact hJ49 _ _ _ _ hw (by first | with_reducible rfl | (simp only [if_pos c24]) | rfl) (lv_sub hl [0, 1, 2, 3, 4] rfl)
              · refine lv_iload hx hb dX7_stop_66 (lv_at hl 0 rfl) ?_
                refine lv_istore_n (lv' := [(3, .int v4_9), (4, .int v4_9), (0, .ref (a0 0)), (1, .int p1), (2, .int p2)]) hx hb dX7_stop_68 rfl hl (by decide) rfl (fun ls hl => ?_)
                exact hJ49 _ _ _ _ hw (by first | with_reducible rfl | (simp only [if_neg c24]) | rfl) (lv_sub hl [1, 0, 2, 3, 4] rfl)
            · replace hM := itn c17 hM
              refine lv_iload hx hb dX7_stop_43 (lv_at hl 0 rfl) ?_
              obtain ⟨q26, h25, hM⟩ := bd hM
              refine rSR (wc := ([] : va_W)) (As := [.int v4_9]) (rest := []) hS (c_X7_bits l g v4_9 h25) gX7_stop_X7_bits rfl hd_X7_bits ⟨Nat.le_of_ble_eq_true rfl, Nat.le_of_ble_eq_true rfl⟩ hK (hP_nil) rfl hl.1 rfl (Nat.le_of_ble_eq_true rfl) dX7_stop_45 ⟨nlc _ _ _, nlc _ _ _⟩ ?_
              refine lv_iload_n hx hb dX7_stop_48 rfl (lv_at hl 1 rfl) ?_
              obtain ⟨q28, h27, hM⟩ := bd hM
              refine rSR (wc := ([] : va_W)) (As := [.int v3_10]) (rest := [.int q26]) hS (c_X7_bits l g v3_10 h27) gX7_stop_X7_bits rfl hd_X7_bits ⟨Nat.le_of_ble_eq_true rfl, Nat.le_of_ble_eq_true rfl⟩ hK (hP_nil) rfl hl.1 rfl (Nat.le_of_ble_eq_true rfl) dX7_stop_49 ⟨nlc _ _ _, nlc _ _ _⟩ ?_
              refine lv_icmp_ge (tgt := 69) hx hb dX7_stop_52 (by decide) (fun c29 => ?_) (fun c29 => ?_)
              · replace hM := itp c29 hM
                refine lv_iinc (v := (v4_9 + (1 : Int32))) (lv' := [(4, .int (v4_9 + (1 : Int32))), (3, .int v3_10), (0, .ref (a0 0)), (1, .int p1), (2, .int p2)]) hx hb dX7_stop_69 hl (k := 0) rfl rfl (by decide) rfl (fun ls hl => ?_)
                refine lv_goto (tgt := 27) hx hb dX7_stop_72 (by decide) ?_
                exact ih27 (v4_9 + (1 : Int32)) v3_10 tpL12 hM tL11 hL13 hN14 _ _ hw _ (lv_sub hl [0, 1, 2, 3, 4] rfl)
              · replace hM := itn c29 hM
                refine lv_aload_n hx hb dX7_stop_55 rfl (lv_at hl 2 rfl) ?_
                refine lv_iload hx hb dX7_stop_56 (lv_at hl 0 rfl) ?_
                refine lv_iload_n hx hb dX7_stop_58 rfl (lv_at hl 3 rfl) ?_
                refine lv_iload_n hx hb dX7_stop_59 rfl (lv_at hl 4 rfl) ?_
                obtain ⟨q31, h30, hM⟩ := bd hM
                obtain ⟨k32, hM⟩ := ck hM
                refine rVB (t0 := t0) (As := [.int v4_9, .int p1, .int p2]) (rest := []) (hn := hN14) hS (c_X7_isStopped l g a0 U0 V0 M0 R0 kv tL11 tpL12 hL13 v4_9 p1 p2 h30) k32 gX7_stop_X7_isStopped rfl hd_X7_isStopped ⟨Nat.le_of_ble_eq_true rfl, Nat.le_of_ble_eq_true rfl⟩ hK hw hA rfl rfl rfl rfl hl.1 rfl (Nat.le_of_ble_eq_true rfl) dX7_stop_60 (fun t33 ht34 hn35 H locs hw => ?_)
                have hw : Wk g A s.heap H locs ((wXM g a0 U0 V0 M0 R0 kv (tvOf t33)) ++ (wOT g t33)) := hw
                have hJ51 : ∀ (H : Heap) (locs : List Loc) (x50 : Int32) (ls : Array Slot), Wk g A s.heap H locs ((wXM g a0 U0 V0 M0 R0 kv (tvOf t33)) ++ (wOT g t33)) → x50 = (if q31.1 = 0 then v3_10 else v4_9) → lv_has ls 5 [(4, .int v4_9), (3, .int x50), (0, .ref (a0 0)), (1, .int p1), (2, .int p2)] → W p l e (headSpec wsX7_stop ({ frames := 6, cells := 28 * nlOf t0, slots := 759 * nlOf t0, locals := 165 } : Room)).room s m ([.ref (a0 0), .int p1, .int p2] : List Value).toArray below meth c H locs (28 * (nlOf t0 - nlOf t33)) (759 * (nlOf t0 - nlOf t33)) (MQ below (QcB g (some (.int q.1)) (fun t => (wXM g a0 U0 q.2.1 M0 R0 kv (tvOf t)) ++ wOT g t) q.2.2 A) ([.ref (a0 0), .int p1, .int p2] : List Value).toArray s (28 * nlOf t0) (759 * nlOf t0) A) (F0 m 69 ls []) := by
                  intro H locs x50 ls hw hxx50 hl
                  subst hxx50
                  refine lv_iinc (v := (v4_9 + (1 : Int32))) (lv' := [(4, .int (v4_9 + (1 : Int32))), (3, .int (if q31.1 = 0 then v3_10 else v4_9)), (0, .ref (a0 0)), (1, .int p1), (2, .int p2)]) hx hb dX7_stop_69 hl (k := 0) rfl rfl (by decide) rfl (fun ls hl => ?_)
                  refine lv_goto (tgt := 27) hx hb dX7_stop_72 (by decide) ?_
                  exact ih27 (v4_9 + (1 : Int32)) (if q31.1 = 0 then v3_10 else v4_9) q31.2 hM t33 ht34 hn35 _ _ hw _ (lv_sub hl [0, 1, 2, 3, 4] rfl)
                refine lv_if_eq (tgt := 69) hx hb dX7_stop_63 (by decide) (fun c36 => ?_) (fun c36 => ?_)
                · exact hJ51 _ _ _ _ hw (by first | with_reducible rfl | (simp only [if_pos c36]) | rfl) (lv_sub hl [0, 1, 2, 3, 4] rfl)
                · refine lv_iload hx hb dX7_stop_66 (lv_at hl 0 rfl) ?_
                  refine lv_istore_n (lv' := [(3, .int v4_9), (4, .int v4_9), (0, .ref (a0 0)), (1, .int p1), (2, .int p2)]) hx hb dX7_stop_68 rfl hl (by decide) rfl (fun ls hl => ?_)
                  exact hJ51 _ _ _ _ hw (by first | with_reducible rfl | (simp only [if_neg c36]) | rfl) (lv_sub hl [1, 0, 2, 3, 4] rfl)
      exact hW27 300 (0 : Int32) (-1 : Int32) tp0 hL27 t0 h0 (Nat.le_refl _) _ _ hw _ (lv_sub hl [0, 1, 2, 3, 4] rfl)
    · replace hM := itp c6 hM
      refine lv_aload_n hx hb dX7_stop_15 rfl (lv_at hl 0 rfl) ?_
      refine lv_bipush (v := (-2 : Int32)) hx hb dX7_stop_16 (by decide) ?_
      obtain ⟨q8, h7, hM⟩ := bd hM
      refine rVWp (wc := (wXM g a0 U0 V0 M0 R0 kv (tvOf t0))) (wq := ((wXM g a0 U0 q8.2 M0 R0 kv (tvOf t0)) ++ (wOT g t0))) (As := [.int (-2 : Int32)]) (rest := []) (q0 := 0) hS (c_X7_refuse l g a0 kv (tvOf t0) U0 V0 M0 R0 (-2 : Int32) h7) gX7_stop_X7_refuse rfl hd_X7_refuse ⟨Nat.le_of_ble_eq_true rfl, Nat.le_of_ble_eq_true rfl⟩ hK hw hA (pm_2_0 _ _) rfl (pm_2_0 _ _) rfl rfl rfl rfl hl.1 rfl (Nat.le_of_ble_eq_true rfl) dX7_stop_18 ⟨nlc _ _ _, nlc _ _ _⟩ (fun H locs hw => ?_)
      obtain rfl := Option.some.inj hM
      refine W.widen (k := 28 * nlOf t0) (n := 759 * nlOf t0) (nlc _ _ _) (nlc _ _ _) ?_
      exact W.iret hx hb hr (fun t ht _ => ⟨rfl, ⟨t0, h0, by rw [ht]; exact hw.1, hw.2.1⟩, hw.2.2.F ht⟩) hw.2.2.2.2 dX7_stop_21
theorem hd_X7_surely : yX7_surely.cls = RX7 ∧ yX7_surely.cls ≠ "java/lang/invoke/MethodHandle" ∧ yX7_surely.cls ≠ "java/lang/invoke/VarHandle" ∧ (parseMethodDescriptor yX7_surely.desc).map (fun d => d.parameters.length) = some 3 := by decide +kernel
set_option maxHeartbeats 4000000 in
set_option maxRecDepth 100000 in
theorem c_X7_surely (l : Launch) (g : Gm) (a0 : Nat → Nat) (kv : Value) (tv : Value) (U0 : TS) (V0 : TS) (M0 : LTS) (R0 : LTS) (p1 : Int32) (p2 : Int32) (p3 : Int32) {q : (Int32 × TS)} (hM : f_X7_surely U0 V0 M0 R0 p1 p2 p3 = some q) : MW l yX7_surely wsX7_surely 4 93 g [.ref (a0 0), .int p1, .int p2, .int p3] (wXM g a0 U0 V0 M0 R0 kv tv) (some (.int q.1)) (wXM g a0 U0 q.2 M0 R0 kv tv) := by
  intro sz
  refine Met.ofW (cc := cX7_surely) (maxL := 5) (ret := (some .int)) (by decide) rfl ?_
  intro p e s m args below meth c s₁ B hml hv
  obtain ⟨rfl, hsz, hP, hK, hD0⟩ := hv
  have hx := B.exec; have hb := B.bytes; have hr := B.returns
  have hts := atoms_spec (ws := wsX7_surely) B.pre
  have hown : s.vm.findClass RX7 = some m.cls := findClass_of_methodNamed B.named
  have hlocks := B.notSynchronized
  have hS : CallFix p m c cX7_surely 5 s _ wsX7_surely RX7 := ⟨hx, hb, hml, hown, hts⟩
  subst hsz
  have hw := wk_start hP hD0
  have hA : ∀ q : Nat, s.heap.size ≤ q → va_A (wXM g a0 U0 V0 M0 R0 kv tv) s.heap.size q := fun q h => Or.inr h
  generalize va_A (wXM g a0 U0 V0 M0 R0 kv tv) s.heap.size = A at hw hA ⊢
  clear hP hD0
  have hl := lv_entry ([.ref (a0 0), .int p1, .int p2, .int p3]) (n := 5) (Nat.le_of_ble_eq_true rfl)
  rw [lg_entry_eq]
  generalize (lg_sl ([.ref (a0 0), .int p1, .int p2, .int p3]) ++ List.replicate (5 - (lg_sl ([.ref (a0 0), .int p1, .int p2, .int p3])).length) Slot.unset).toArray = ls at hl ⊢
  have hl : lv_has ls 5 [(0, .ref (a0 0)), (1, .int p1), (2, .int p2), (3, .int p3)] := hl
  rw [f_X7_surely] at hM
  refine lv_aload_n hx hb dX7_surely_0 rfl (lv_at hl 0 rfl) ?_
  refine lv_iload_n hx hb dX7_surely_1 rfl (lv_at hl 3 rfl) ?_
  refine rVR (wc := (wXT g a0 (fm a0 V0 kv tv) U0)) (As := [.int p3]) (rest := []) (q0 := 0) hS (c_X7_isSight l g a0 (fm a0 V0 kv tv) U0 p3) gX7_surely_X7_isSight rfl hd_X7_isSight ⟨Nat.le_of_ble_eq_true rfl, Nat.le_of_ble_eq_true rfl⟩ hK (va_P.pm hw.1 (pmX1 _ _ _ _ _ _ _ _)) rfl rfl rfl rfl hl.1 rfl (Nat.le_of_ble_eq_true rfl) dX7_surely_2 ⟨Nat.zero_le _, Nat.zero_le _⟩ ?_
  refine lv_if_ne (tgt := 15) hx hb dX7_surely_5 (by decide) (fun c2 => ?_) (fun c2 => ?_)
  · replace hM := itn c2 hM
    refine lv_aload_n hx hb dX7_surely_15 rfl (lv_at hl 0 rfl) ?_
    refine lv_iload_n hx hb dX7_surely_16 rfl (lv_at hl 1 rfl) ?_
    refine lv_iload_n hx hb dX7_surely_17 rfl (lv_at hl 2 rfl) ?_
    obtain ⟨q6, h5, hM⟩ := bd hM
    refine rVWp (wc := (wXM g a0 U0 V0 M0 R0 kv tv)) (wq := (wXM g a0 U0 q6.2 M0 R0 kv tv)) (As := [.int p1, .int p2]) (rest := []) (q0 := 0) hS (c_X7_noSayings l g a0 kv tv U0 V0 M0 R0 p1 p2 h5) gX7_surely_X7_noSayings rfl hd_X7_noSayings ⟨Nat.le_of_ble_eq_true rfl, Nat.le_of_ble_eq_true rfl⟩ hK hw hA (pm_1_0 _) rfl (pm_1_0 _) rfl rfl rfl rfl hl.1 rfl (Nat.le_of_ble_eq_true rfl) dX7_surely_18 ⟨Nat.zero_le _, Nat.zero_le _⟩ (fun H locs hw => ?_)
    refine lv_istore (lv' := [(4, .int q6.1), (0, .ref (a0 0)), (1, .int p1), (2, .int p2), (3, .int p3)]) hx hb dX7_surely_21 hl (by decide) rfl (fun ls hl => ?_)
    refine lv_iload hx hb dX7_surely_23 (lv_at hl 0 rfl) ?_
    refine lv_if_eq (tgt := 33) hx hb dX7_surely_25 (by decide) (fun c7 => ?_) (fun c7 => ?_)
    · replace hM := itp c7 hM
      refine lv_aload_n hx hb dX7_surely_33 rfl (lv_at hl 1 rfl) ?_
      refine lv_iload_n hx hb dX7_surely_34 rfl (lv_at hl 2 rfl) ?_
      refine lv_iload_n hx hb dX7_surely_35 rfl (lv_at hl 3 rfl) ?_
      refine lv_iload_n hx hb dX7_surely_36 rfl (lv_at hl 4 rfl) ?_
      obtain ⟨q9, h8, hM⟩ := bd hM
      refine rVR (wc := (wXM g a0 U0 q6.2 M0 R0 kv tv)) (As := [.int p1, .int p2, .int p3]) (rest := []) (q0 := 0) hS (c_X7_silent l g a0 kv tv U0 q6.2 M0 R0 p1 p2 p3 h8) gX7_surely_X7_silent rfl hd_X7_silent ⟨Nat.le_of_ble_eq_true rfl, Nat.le_of_ble_eq_true rfl⟩ hK (va_P.pm hw.1 (pm_1_0 _)) rfl rfl rfl rfl hl.1 rfl (Nat.le_of_ble_eq_true rfl) dX7_surely_37 ⟨Nat.zero_le _, Nat.zero_le _⟩ ?_
      refine lv_aload_n hx hb dX7_surely_40 rfl (lv_at hl 1 rfl) ?_
      refine lv_iload_n hx hb dX7_surely_41 rfl (lv_at hl 4 rfl) ?_
      obtain ⟨q11, h10, hM⟩ := bd hM
      refine rVR (wc := (wXT g a0 (fm a0 q6.2 kv tv) U0)) (As := [.int p3]) (rest := [.int q9]) (q0 := 0) hS (c_X7_barredOf l g a0 (fm a0 q6.2 kv tv) U0 p3 h10) gX7_surely_X7_barredOf rfl hd_X7_barredOf ⟨Nat.le_of_ble_eq_true rfl, Nat.le_of_ble_eq_true rfl⟩ hK (va_P.pm hw.1 (pmX1 _ _ _ _ _ _ _ _)) rfl rfl rfl rfl hl.1 rfl (Nat.le_of_ble_eq_true rfl) dX7_surely_42 ⟨Nat.zero_le _, Nat.zero_le _⟩ ?_
      refine lv_iand hx hb dX7_surely_45 ?_
      obtain rfl := Option.some.inj hM
      exact W.iret hx hb hr (fun t ht _ => ⟨rfl, by rw [ht]; exact hw.1, hw.2.2.F ht⟩) hw.2.2.2.2 dX7_surely_46
    · replace hM := itn c7 hM
      refine lv_iload hx hb dX7_surely_28 (lv_at hl 0 rfl) ?_
      refine lv_goto (tgt := 46) hx hb dX7_surely_30 (by decide) ?_
      obtain rfl := Option.some.inj hM
      exact W.iret hx hb hr (fun t ht _ => ⟨rfl, by rw [ht]; exact hw.1, hw.2.2.F ht⟩) hw.2.2.2.2 dX7_surely_46
  · replace hM := itp c2 hM
    refine lv_aload_n hx hb dX7_surely_8 rfl (lv_at hl 0 rfl) ?_
    refine lv_bipush (v := (-2 : Int32)) hx hb dX7_surely_9 (by decide) ?_
    obtain ⟨q4, h3, hM⟩ := bd hM
    refine rVWp (wc := (wXM g a0 U0 V0 M0 R0 kv tv)) (wq := (wXM g a0 U0 q4.2 M0 R0 kv tv)) (As := [.int (-2 : Int32)]) (rest := []) (q0 := 0) hS (c_X7_refuse l g a0 kv tv U0 V0 M0 R0 (-2 : Int32) h3) gX7_surely_X7_refuse rfl hd_X7_refuse ⟨Nat.le_of_ble_eq_true rfl, Nat.le_of_ble_eq_true rfl⟩ hK hw hA (pm_1_0 _) rfl (pm_1_0 _) rfl rfl rfl rfl hl.1 rfl (Nat.le_of_ble_eq_true rfl) dX7_surely_11 ⟨Nat.zero_le _, Nat.zero_le _⟩ (fun H locs hw => ?_)
    obtain rfl := Option.some.inj hM
    exact W.iret hx hb hr (fun t ht _ => ⟨rfl, by rw [ht]; exact hw.1, hw.2.2.F ht⟩) hw.2.2.2.2 dX7_surely_14
theorem hd_X7_talk : yX7_talk.cls = RX7 ∧ yX7_talk.cls ≠ "java/lang/invoke/MethodHandle" ∧ yX7_talk.cls ≠ "java/lang/invoke/VarHandle" ∧ (parseMethodDescriptor yX7_talk.desc).map (fun d => d.parameters.length) = some 1 := by decide +kernel
set_option maxHeartbeats 4000000 in
set_option maxRecDepth 100000 in
theorem c_X7_talk (l : Launch) (g : Gm) (a0 : Nat → Nat) (kv : Value) (tv : Value) (U0 : TS) (V0 : TS) (M0 : LTS) (R0 : LTS) (p1 : Int32) {q : (Int32 × TS × TS)} (hM : f_X7_talk U0 V0 M0 R0 p1 = some q) : MW l yX7_talk wsX7_talk 2 46 g [.ref (a0 0), .int p1] (wXM g a0 U0 V0 M0 R0 kv tv) (some (.int q.1)) (wXM g a0 q.2.1 q.2.2 M0 R0 kv tv) := by
  intro sz
  refine Met.ofW (cc := cX7_talk) (maxL := 6) (ret := (some .int)) (by decide) rfl ?_
  intro p e s m args below meth c s₁ B hml hv
  obtain ⟨rfl, hsz, hP, hK, hD0⟩ := hv
  have hx := B.exec; have hb := B.bytes; have hr := B.returns
  have hts := atoms_spec (ws := wsX7_talk) B.pre
  have hown : s.vm.findClass RX7 = some m.cls := findClass_of_methodNamed B.named
  have hlocks := B.notSynchronized
  have hS : CallFix p m c cX7_talk 6 s _ wsX7_talk RX7 := ⟨hx, hb, hml, hown, hts⟩
  have hin_X7 : ∀ w ∈ wsX70, w ∈ wsX7_talk := fun w h => (List.mem_cons_of_mem _ (List.mem_append_right _ h))
  subst hsz
  have hw := wk_start hP hD0
  have hA : ∀ q : Nat, s.heap.size ≤ q → va_A (wXM g a0 U0 V0 M0 R0 kv tv) s.heap.size q := fun q h => Or.inr h
  generalize va_A (wXM g a0 U0 V0 M0 R0 kv tv) s.heap.size = A at hw hA ⊢
  clear hP hD0
  have hl := lv_entry ([.ref (a0 0), .int p1]) (n := 6) (Nat.le_of_ble_eq_true rfl)
  rw [lg_entry_eq]
  generalize (lg_sl ([.ref (a0 0), .int p1]) ++ List.replicate (6 - (lg_sl ([.ref (a0 0), .int p1])).length) Slot.unset).toArray = ls at hl ⊢
  have hl : lv_has ls 6 [(0, .ref (a0 0)), (1, .int p1)] := hl
  rw [f_X7_talk] at hM
  refine lv_iload_n hx hb dX7_talk_0 rfl (lv_at hl 1 rfl) ?_
  refine lv_i2l (v := ((p1).toInt64)) hx hb dX7_talk_1 rfl ?_
  refine lv_lconst (v := (1 : Int64)) hx hb dX7_talk_2 (by decide) ?_
  refine lv_ldc2 (v := (40 : Int64)) hx hb hown (hts _ (mi 1 rfl)) dX7_talk_3 ?_
  refine rSR (wc := ([] : va_W)) (As := [.long ((p1).toInt64), .long (1 : Int64), .long (40 : Int64)]) (rest := []) hS (c_X7_in l g ((p1).toInt64) (1 : Int64) (40 : Int64)) gX7_talk_X7_in rfl hd_X7_in ⟨Nat.le_of_ble_eq_true rfl, Nat.le_of_ble_eq_true rfl⟩ hK (hP_nil) rfl hl.1 rfl (Nat.le_of_ble_eq_true rfl) dX7_talk_6 ⟨Nat.zero_le _, Nat.zero_le _⟩ ?_
  refine lv_if_ne (tgt := 19) hx hb dX7_talk_9 (by decide) (fun c2 => ?_) (fun c2 => ?_)
  · replace hM := itn c2 hM
    refine lv_aload_n hx hb dX7_talk_19 rfl (lv_at hl 0 rfl) ?_
    refine wk_get hx hb hts hin_X7 hown hK hw.1 7 0 10 (.int (U0 10 0)) rfl rfl (by decide) (mi 2 rfl) rfl rfl dX7_talk_20 ?_
    refine lv_if_ne (tgt := 33) hx hb dX7_talk_23 (by decide) (fun c5 => ?_) (fun c5 => ?_)
    · replace hM := itn c5 hM
      refine lv_iconst (v := (0 : Int32)) hx hb dX7_talk_33 (by decide) ?_
      refine lv_istore_n (lv' := [(2, .int (0 : Int32)), (0, .ref (a0 0)), (1, .int p1)]) hx hb dX7_talk_34 rfl hl (by decide) rfl (fun ls hl => ?_)
      refine lv_iconst (v := (0 : Int32)) hx hb dX7_talk_35 (by decide) ?_
      refine lv_istore_n (lv' := [(3, .int (0 : Int32)), (2, .int (0 : Int32)), (0, .ref (a0 0)), (1, .int p1)]) hx hb dX7_talk_36 rfl hl (by decide) rfl (fun ls hl => ?_)
      obtain ⟨q11, hL37, hM⟩ := bd hM
      have hJ37 : ∀ (H : Heap) (locs : List Loc), Wk g A s.heap H locs (wXM g a0 q11.2 V0 M0 R0 kv tv) → ∀ (ls : Array Slot), lv_has ls 6 [(2, .int q11.1)] → W p l e (headSpec wsX7_talk ({ frames := 2, cells := 0, slots := 0, locals := 46 } : Room)).room s m ([.ref (a0 0), .int p1] : List Value).toArray below meth c H locs 0 0 (MQ below (QcW g (some (.int q.1)) (wXM g a0 q.2.1 q.2.2 M0 R0 kv tv) A) ([.ref (a0 0), .int p1] : List Value).toArray s 0 0 A) (F0 m 96 ls []) := by
        intro H locs hw ls hl
        refine lv_iload_n hx hb dX7_talk_96 rfl (lv_at hl 0 rfl) ?_
        obtain rfl := Option.some.inj hM
        exact W.iret hx hb hr (fun t ht _ => ⟨rfl, by rw [ht]; exact hw.1, hw.2.2.F ht⟩) hw.2.2.2.2 dX7_talk_97
      have hW37 : ∀ (n : Nat) (v3_8 : Int32) (v2_9 : Int32) (UL10 : TS), L_X7_talk_37 p1 n v3_8 v2_9 UL10 = some q11 → ∀ (H : Heap) (locs : List Loc), Wk g A s.heap H locs (wXM g a0 UL10 V0 M0 R0 kv tv) → ∀ (ls : Array Slot), lv_has ls 6 [(3, .int v3_8), (2, .int v2_9), (0, .ref (a0 0)), (1, .int p1)] → W p l e (headSpec wsX7_talk ({ frames := 2, cells := 0, slots := 0, locals := 46 } : Room)).room s m ([.ref (a0 0), .int p1] : List Value).toArray below meth c H locs 0 0 (MQ below (QcW g (some (.int q.1)) (wXM g a0 q.2.1 q.2.2 M0 R0 kv tv) A) ([.ref (a0 0), .int p1] : List Value).toArray s 0 0 A) (F0 m 37 ls []) := by
        intro n
        induction n with
        | zero => intro v3_8 v2_9 UL10 hM; rw [L_X7_talk_37] at hM; exact nn hM
        | succ n ih37 =>
          intro v3_8 v2_9 UL10 hM H locs hw ls hl
          rw [L_X7_talk_37] at hM
          refine lv_iload_n hx hb dX7_talk_37 rfl (lv_at hl 0 rfl) ?_
          refine lv_iload_n hx hb dX7_talk_38 rfl (lv_at hl 3 rfl) ?_
          refine lv_icmp_ge (tgt := 96) hx hb dX7_talk_39 (by decide) (fun c12 => ?_) (fun c12 => ?_)
          · replace hM := itp c12 hM
            obtain rfl := Option.some.inj hM
            exact hJ37 _ _ hw _ (lv_sub hl [1] rfl)
          · replace hM := itn c12 hM
            refine lv_aload_n hx hb dX7_talk_42 rfl (lv_at hl 2 rfl) ?_
            refine lv_aload_n hx hb dX7_talk_43 rfl (lv_at hl 2 rfl) ?_
            refine wk_get hx hb hts hin_X7 hown hK hw.1 7 0 10 (.int (UL10 10 0)) rfl rfl (by decide) (mi 2 rfl) rfl rfl dX7_talk_44 ?_
            obtain ⟨q14, h13, hM⟩ := bd hM
            refine rVWp (wc := (wXT g a0 (fm a0 V0 kv tv) UL10)) (wq := (wXM g a0 q14.2 V0 M0 R0 kv tv)) (As := [.int (UL10 10 0)]) (rest := []) (q0 := 0) hS (c_X7_below l g a0 (fm a0 V0 kv tv) UL10 (UL10 10 0) h13) gX7_talk_X7_below rfl hd_X7_below ⟨Nat.le_of_ble_eq_true rfl, Nat.le_of_ble_eq_true rfl⟩ hK hw hA (pmX1 _ _ _ _ _ _ _ _) rfl (pmX1 _ _ _ _ _ _ _ _) rfl rfl rfl rfl hl.1 rfl (Nat.le_of_ble_eq_true rfl) dX7_talk_47 ⟨Nat.zero_le _, Nat.zero_le _⟩ (fun H locs hw => ?_)
            refine lv_istore (lv' := [(4, .int q14.1), (3, .int v3_8), (2, .int v2_9), (0, .ref (a0 0)), (1, .int p1)]) hx hb dX7_talk_50 hl (by decide) rfl (fun ls hl => ?_)
            refine lv_aload_n hx hb dX7_talk_52 rfl (lv_at hl 3 rfl) ?_
            refine lv_aload_n hx hb dX7_talk_53 rfl (lv_at hl 3 rfl) ?_
            refine wk_get hx hb hts hin_X7 hown hK hw.1 7 0 9 (.int (q14.2 9 0)) rfl rfl (by decide) (mi 3 rfl) rfl rfl dX7_talk_54 ?_
            obtain ⟨q16, h15, hM⟩ := bd hM
            refine rVWp (wc := (wXT g a0 (fm a0 V0 kv tv) q14.2)) (wq := (wXM g a0 q16.2 V0 M0 R0 kv tv)) (As := [.int (q14.2 9 0)]) (rest := []) (q0 := 0) hS (c_X7_below l g a0 (fm a0 V0 kv tv) q14.2 (q14.2 9 0) h15) gX7_talk_X7_below rfl hd_X7_below ⟨Nat.le_of_ble_eq_true rfl, Nat.le_of_ble_eq_true rfl⟩ hK hw hA (pmX1 _ _ _ _ _ _ _ _) rfl (pmX1 _ _ _ _ _ _ _ _) rfl rfl rfl rfl hl.1 rfl (Nat.le_of_ble_eq_true rfl) dX7_talk_57 ⟨Nat.zero_le _, Nat.zero_le _⟩ (fun H locs hw => ?_)
            refine lv_istore (lv' := [(5, .int q16.1), (4, .int q14.1), (3, .int v3_8), (2, .int v2_9), (0, .ref (a0 0)), (1, .int p1)]) hx hb dX7_talk_60 hl (by decide) rfl (fun ls hl => ?_)
            refine lv_aload_n hx hb dX7_talk_62 rfl (lv_at hl 4 rfl) ?_
            refine lv_iload hx hb dX7_talk_63 (lv_at hl 1 rfl) ?_
            obtain ⟨q18, h17, hM⟩ := bd hM
            refine rVR (wc := (wXT g a0 (fm a0 V0 kv tv) q16.2)) (As := [.int q14.1]) (rest := []) (q0 := 0) hS (c_X7_mayOf l g a0 (fm a0 V0 kv tv) q16.2 q14.1 h17) gX7_talk_X7_mayOf rfl hd_X7_mayOf ⟨Nat.le_of_ble_eq_true rfl, Nat.le_of_ble_eq_true rfl⟩ hK (va_P.pm hw.1 (pmX1 _ _ _ _ _ _ _ _)) rfl rfl rfl rfl hl.1 rfl (Nat.le_of_ble_eq_true rfl) dX7_talk_65 ⟨Nat.zero_le _, Nat.zero_le _⟩ ?_
            refine lv_iload hx hb dX7_talk_68 (lv_at hl 0 rfl) ?_
            refine rSR (wc := ([] : va_W)) (As := [.int q18, .int q16.1]) (rest := []) hS (c_X7_has l g q18 q16.1) gX7_talk_X7_has rfl hd_X7_has ⟨Nat.le_of_ble_eq_true rfl, Nat.le_of_ble_eq_true rfl⟩ hK (hP_nil) rfl hl.1 rfl (Nat.le_of_ble_eq_true rfl) dX7_talk_70 ⟨Nat.zero_le _, Nat.zero_le _⟩ ?_
            refine lv_if_eq (tgt := 90) hx hb dX7_talk_73 (by decide) (fun c20 => ?_) (fun c20 => ?_)
            · replace hM := itp c20 hM
              refine lv_iinc (v := (v3_8 + (1 : Int32))) (lv' := [(3, .int (v3_8 + (1 : Int32))), (5, .int q16.1), (4, .int q14.1), (2, .int v2_9), (0, .ref (a0 0)), (1, .int p1)]) hx hb dX7_talk_90 hl (k := 2) rfl rfl (by decide) rfl (fun ls hl => ?_)
              refine lv_goto (tgt := 37) hx hb dX7_talk_93 (by decide) ?_
              exact ih37 (v3_8 + (1 : Int32)) v2_9 q16.2 hM _ _ hw _ (lv_sub hl [0, 3, 4, 5] rfl)
            · replace hM := itn c20 hM
              refine lv_aload_n hx hb dX7_talk_76 rfl (lv_at hl 4 rfl) ?_
              refine lv_iload hx hb dX7_talk_77 (lv_at hl 1 rfl) ?_
              refine lv_iconst (v := (1 : Int32)) hx hb dX7_talk_79 (by decide) ?_
              refine lv_iload hx hb dX7_talk_80 (lv_at hl 0 rfl) ?_
              refine lv_ishl hx hb dX7_talk_82 ?_
              obtain ⟨q22, h21, hM⟩ := bd hM
              refine rVWp (wc := (wXT g a0 (fm a0 V0 kv tv) q16.2)) (wq := (wXM g a0 q22.2 V0 M0 R0 kv tv)) (As := [.int q14.1, .int ((1 : Int32) <<< (q16.1 &&& 31))]) (rest := []) (q0 := 0) hS (c_X7_isSaid l g a0 (fm a0 V0 kv tv) q16.2 q14.1 ((1 : Int32) <<< (q16.1 &&& 31)) h21) gX7_talk_X7_isSaid rfl hd_X7_isSaid ⟨Nat.le_of_ble_eq_true rfl, Nat.le_of_ble_eq_true rfl⟩ hK hw hA (pmX1 _ _ _ _ _ _ _ _) rfl (pmX1 _ _ _ _ _ _ _ _) rfl rfl rfl rfl hl.1 rfl (Nat.le_of_ble_eq_true rfl) dX7_talk_83 ⟨Nat.zero_le _, Nat.zero_le _⟩ (fun H locs hw => ?_)
              refine lv_pop hx hb dX7_talk_86 rfl ?_
              refine lv_iinc (v := (v2_9 + (1 : Int32))) (lv' := [(2, .int (v2_9 + (1 : Int32))), (5, .int q16.1), (4, .int q14.1), (3, .int v3_8), (0, .ref (a0 0)), (1, .int p1)]) hx hb dX7_talk_87 hl (k := 3) rfl rfl (by decide) rfl (fun ls hl => ?_)
              refine lv_iinc (v := (v3_8 + (1 : Int32))) (lv' := [(3, .int (v3_8 + (1 : Int32))), (2, .int (v2_9 + (1 : Int32))), (5, .int q16.1), (4, .int q14.1), (0, .ref (a0 0)), (1, .int p1)]) hx hb dX7_talk_90 hl (k := 3) rfl rfl (by decide) rfl (fun ls hl => ?_)
              refine lv_goto (tgt := 37) hx hb dX7_talk_93 (by decide) ?_
              exact ih37 (v3_8 + (1 : Int32)) (v2_9 + (1 : Int32)) q22.2 hM _ _ hw _ (lv_sub hl [0, 1, 4, 5] rfl)
      exact hW37 300 (0 : Int32) (0 : Int32) U0 hL37 _ _ hw _ (lv_sub hl [0, 1, 2, 3] rfl)
    · replace hM := itp c5 hM
      refine lv_aload_n hx hb dX7_talk_26 rfl (lv_at hl 0 rfl) ?_
      refine lv_bipush (v := (-5 : Int32)) hx hb dX7_talk_27 (by decide) ?_
      obtain ⟨q7, h6, hM⟩ := bd hM
      refine rVWp (wc := (wXM g a0 U0 V0 M0 R0 kv tv)) (wq := (wXM g a0 U0 q7.2 M0 R0 kv tv)) (As := [.int (-5 : Int32)]) (rest := []) (q0 := 0) hS (c_X7_refuse l g a0 kv tv U0 V0 M0 R0 (-5 : Int32) h6) gX7_talk_X7_refuse rfl hd_X7_refuse ⟨Nat.le_of_ble_eq_true rfl, Nat.le_of_ble_eq_true rfl⟩ hK hw hA (pm_1_0 _) rfl (pm_1_0 _) rfl rfl rfl rfl hl.1 rfl (Nat.le_of_ble_eq_true rfl) dX7_talk_29 ⟨Nat.zero_le _, Nat.zero_le _⟩ (fun H locs hw => ?_)
      obtain rfl := Option.some.inj hM
      exact W.iret hx hb hr (fun t ht _ => ⟨rfl, by rw [ht]; exact hw.1, hw.2.2.F ht⟩) hw.2.2.2.2 dX7_talk_32
  · replace hM := itp c2 hM
    refine lv_aload_n hx hb dX7_talk_12 rfl (lv_at hl 0 rfl) ?_
    refine lv_bipush (v := (-2 : Int32)) hx hb dX7_talk_13 (by decide) ?_
    obtain ⟨q4, h3, hM⟩ := bd hM
    refine rVWp (wc := (wXM g a0 U0 V0 M0 R0 kv tv)) (wq := (wXM g a0 U0 q4.2 M0 R0 kv tv)) (As := [.int (-2 : Int32)]) (rest := []) (q0 := 0) hS (c_X7_refuse l g a0 kv tv U0 V0 M0 R0 (-2 : Int32) h3) gX7_talk_X7_refuse rfl hd_X7_refuse ⟨Nat.le_of_ble_eq_true rfl, Nat.le_of_ble_eq_true rfl⟩ hK hw hA (pm_1_0 _) rfl (pm_1_0 _) rfl rfl rfl rfl hl.1 rfl (Nat.le_of_ble_eq_true rfl) dX7_talk_15 ⟨Nat.zero_le _, Nat.zero_le _⟩ (fun H locs hw => ?_)
    obtain rfl := Option.some.inj hM
    exact W.iret hx hb hr (fun t ht _ => ⟨rfl, by rw [ht]; exact hw.1, hw.2.2.F ht⟩) hw.2.2.2.2 dX7_talk_18
theorem hd_X7_when : yX7_when.cls = RX7 ∧ yX7_when.cls ≠ "java/lang/invoke/MethodHandle" ∧ yX7_when.cls ≠ "java/lang/invoke/VarHandle" ∧ (parseMethodDescriptor yX7_when.desc).map (fun d => d.parameters.length) = some 2 := by decide +kernel
set_option maxHeartbeats 4000000 in
set_option maxRecDepth 100000 in
theorem c_X7_when (l : Launch) (g : Gm) (a0 : Nat → Nat) (U0 : TS) (V0 : TS) (M0 : LTS) (R0 : LTS) (kv : Value) (t0 : Tr) (tp0 : Option (Nat → Int32)) (h0 : tpOf t0 = tp0) (p1 : Int32) (p2 : Int32) {q : (Int32 × TS × (Option (Nat → Int32)))} (hM : f_X7_when U0 V0 M0 R0 tp0 p1 p2 = some q) : MB l yX7_when wsX7_when 5 140 g [.ref (a0 0), .int p1, .int p2] (fun t => (wXM g a0 U0 V0 M0 R0 kv (tvOf t)) ++ wOT g t) t0 (some (.int q.1)) (fun t => (wXM g a0 U0 q.2.1 M0 R0 kv (tvOf t)) ++ wOT g t) q.2.2 := by
  intro sz
  refine Met.ofW (cc := cX7_when) (maxL := 5) (ret := (some .int)) (by decide) rfl ?_
  intro p e s m args below meth c s₁ B hml hv
  obtain ⟨rfl, hsz, hP, hK, hD0⟩ := hv
  have hx := B.exec; have hb := B.bytes; have hr := B.returns
  have hts := atoms_spec (ws := wsX7_when) B.pre
  have hown : s.vm.findClass RX7 = some m.cls := findClass_of_methodNamed B.named
  have hlocks := B.notSynchronized
  have hS : CallFix p m c cX7_when 5 s _ wsX7_when RX7 := ⟨hx, hb, hml, hown, hts⟩
  subst hsz
  have hw := wk_start hP hD0
  have hA : ∀ q : Nat, s.heap.size ≤ q → va_A ((wXM g a0 U0 V0 M0 R0 kv (tvOf t0)) ++ (wOT g t0)) s.heap.size q := fun q h => Or.inr h
  generalize va_A ((wXM g a0 U0 V0 M0 R0 kv (tvOf t0)) ++ (wOT g t0)) s.heap.size = A at hw hA ⊢
  clear hP hD0
  have hl := lv_entry ([.ref (a0 0), .int p1, .int p2]) (n := 5) (Nat.le_of_ble_eq_true rfl)
  rw [lg_entry_eq]
  generalize (lg_sl ([.ref (a0 0), .int p1, .int p2]) ++ List.replicate (5 - (lg_sl ([.ref (a0 0), .int p1, .int p2])).length) Slot.unset).toArray = ls at hl ⊢
  have hl : lv_has ls 5 [(0, .ref (a0 0)), (1, .int p1), (2, .int p2)] := hl
  refine W_nl t0 ?_
  rw [f_X7_when] at hM
  refine lv_aload_n hx hb dX7_when_0 rfl (lv_at hl 0 rfl) ?_
  refine lv_iload_n hx hb dX7_when_1 rfl (lv_at hl 1 rfl) ?_
  refine rVR (wc := (wXT g a0 (fm a0 V0 kv (tvOf t0)) U0)) (As := [.int p1]) (rest := []) (q0 := 0) hS (c_X7_isOne l g a0 (fm a0 V0 kv (tvOf t0)) U0 p1) gX7_when_X7_isOne rfl hd_X7_isOne ⟨Nat.le_of_ble_eq_true rfl, Nat.le_of_ble_eq_true rfl⟩ hK (va_P.pm hw.1 (pmX2 _ _ _ _ _ _ _ _ _)) rfl rfl rfl rfl hl.1 rfl (Nat.le_of_ble_eq_true rfl) dX7_when_2 ⟨nlc _ _ _, nlc _ _ _⟩ ?_
  refine lv_if_eq (tgt := 16) hx hb dX7_when_5 (by decide) (fun c2 => ?_) (fun c2 => ?_)
  · replace hM := itp c2 hM
    refine lv_aload_n hx hb dX7_when_16 rfl (lv_at hl 0 rfl) ?_
    refine lv_bipush (v := (-2 : Int32)) hx hb dX7_when_17 (by decide) ?_
    obtain ⟨q4, h3, hM⟩ := bd hM
    refine rVWp (wc := (wXM g a0 U0 V0 M0 R0 kv (tvOf t0))) (wq := ((wXM g a0 U0 q4.2 M0 R0 kv (tvOf t0)) ++ (wOT g t0))) (As := [.int (-2 : Int32)]) (rest := []) (q0 := 0) hS (c_X7_refuse l g a0 kv (tvOf t0) U0 V0 M0 R0 (-2 : Int32) h3) gX7_when_X7_refuse rfl hd_X7_refuse ⟨Nat.le_of_ble_eq_true rfl, Nat.le_of_ble_eq_true rfl⟩ hK hw hA (pm_2_0 _ _) rfl (pm_2_0 _ _) rfl rfl rfl rfl hl.1 rfl (Nat.le_of_ble_eq_true rfl) dX7_when_19 ⟨nlc _ _ _, nlc _ _ _⟩ (fun H locs hw => ?_)
    obtain rfl := Option.some.inj hM
    refine W.widen (k := 28 * nlOf t0) (n := 759 * nlOf t0) (nlc _ _ _) (nlc _ _ _) ?_
    exact W.iret hx hb hr (fun t ht _ => ⟨rfl, ⟨t0, h0, by rw [ht]; exact hw.1, hw.2.1⟩, hw.2.2.F ht⟩) hw.2.2.2.2 dX7_when_22
  · replace hM := itn c2 hM
    refine lv_aload_n hx hb dX7_when_8 rfl (lv_at hl 0 rfl) ?_
    refine lv_iload_n hx hb dX7_when_9 rfl (lv_at hl 2 rfl) ?_
    refine rVR (wc := (wXT g a0 (fm a0 V0 kv (tvOf t0)) U0)) (As := [.int p2]) (rest := []) (q0 := 0) hS (c_X7_isSight l g a0 (fm a0 V0 kv (tvOf t0)) U0 p2) gX7_when_X7_isSight rfl hd_X7_isSight ⟨Nat.le_of_ble_eq_true rfl, Nat.le_of_ble_eq_true rfl⟩ hK (va_P.pm hw.1 (pmX2 _ _ _ _ _ _ _ _ _)) rfl rfl rfl rfl hl.1 rfl (Nat.le_of_ble_eq_true rfl) dX7_when_10 ⟨nlc _ _ _, nlc _ _ _⟩ ?_
    refine lv_if_ne (tgt := 23) hx hb dX7_when_13 (by decide) (fun c6 => ?_) (fun c6 => ?_)
    · replace hM := itn c6 hM
      refine lv_aload_n hx hb dX7_when_23 rfl (lv_at hl 0 rfl) ?_
      refine rVF (t0 := t0) (As := []) (rest := []) (hn := (Nat.le_refl _)) hS (c_X7_fresh l g a0 U0 V0 M0 R0 kv t0 tp0 h0) gX7_when_X7_fresh rfl hd_X7_fresh ⟨Nat.le_of_ble_eq_true rfl, Nat.le_of_ble_eq_true rfl⟩ hK hw hA rfl rfl rfl rfl hl.1 rfl (Nat.le_of_ble_eq_true rfl) dX7_when_24 (fun b10 G11 H locs hw => ?_)
      have hw : Wk g A s.heap H locs ((wXM g a0 U0 V0 M0 R0 kv (.ref (b10 0))) ++ (wXT g b10 G11 (fr0 U0 tp0))) := hw
      refine lv_astore_n (lv' := [(3, .ref (b10 0)), (0, .ref (a0 0)), (1, .int p1), (2, .int p2)]) hx hb dX7_when_27 rfl hl (by decide) rfl (fun ls hl => ?_)
      refine lv_iconst (v := (0 : Int32)) hx hb dX7_when_28 (by decide) ?_
      refine lv_istore (lv' := [(4, .int (0 : Int32)), (3, .ref (b10 0)), (0, .ref (a0 0)), (1, .int p1), (2, .int p2)]) hx hb dX7_when_29 hl (by decide) rfl (fun ls hl => ?_)
      obtain ⟨q14, hL31, hM31⟩ := bd hM
      have hJ31 : ∀ (q14x : TS), q14 = .inr q14x → ∀ (H : Heap) (locs : List Loc), Wk g A s.heap H locs ((wXM g a0 U0 V0 M0 R0 kv (.ref (b10 0))) ++ (wXT g b10 G11 q14x)) → ∀ (ls : Array Slot), lv_has ls 5 [] → W p l e (headSpec wsX7_when ({ frames := 5, cells := 28 * nlOf t0, slots := 759 * nlOf t0, locals := 140 } : Room)).room s m ([.ref (a0 0), .int p1, .int p2] : List Value).toArray below meth c H locs (28 * nlOf t0) (759 * nlOf t0) (MQ below (QcB g (some (.int q.1)) (fun t => (wXM g a0 U0 q.2.1 M0 R0 kv (tvOf t)) ++ wOT g t) q.2.2 A) ([.ref (a0 0), .int p1, .int p2] : List Value).toArray s (28 * nlOf t0) (759 * nlOf t0) A) (F0 m 64 ls []) := by
        intro q14x hX31 H locs hw ls hl
        rw [hX31] at hM31
        have hM := eo_inr hM31
        refine lv_iconst (v := (-1 : Int32)) hx hb dX7_when_64 (by decide) ?_
        obtain rfl := Option.some.inj hM
        exact W.iret hx hb hr (fun t ht _ => ⟨rfl, ⟨(some (b10, G11, q14x)), rfl, by rw [ht]; exact hw.1, hw.2.1⟩, hw.2.2.F ht⟩) hw.2.2.2.2 dX7_when_65
      have hW31 : ∀ (n : Nat) (v4_12 : Int32) (UL13 : TS), L_X7_when_31 V0 p1 p2 n v4_12 UL13 = some q14 → ∀ (H : Heap) (locs : List Loc), Wk g A s.heap H locs ((wXM g a0 U0 V0 M0 R0 kv (.ref (b10 0))) ++ (wXT g b10 G11 UL13)) → ∀ (ls : Array Slot), lv_has ls 5 [(4, .int v4_12), (3, .ref (b10 0)), (1, .int p1), (2, .int p2)] → W p l e (headSpec wsX7_when ({ frames := 5, cells := 28 * nlOf t0, slots := 759 * nlOf t0, locals := 140 } : Room)).room s m ([.ref (a0 0), .int p1, .int p2] : List Value).toArray below meth c H locs (28 * nlOf t0) (759 * nlOf t0) (MQ below (QcB g (some (.int q.1)) (fun t => (wXM g a0 U0 q.2.1 M0 R0 kv (tvOf t)) ++ wOT g t) q.2.2 A) ([.ref (a0 0), .int p1, .int p2] : List Value).toArray s (28 * nlOf t0) (759 * nlOf t0) A) (F0 m 31 ls []) := by
        intro n
        induction n with
        | zero => intro v4_12 UL13 hM; rw [L_X7_when_31] at hM; exact nn hM
        | succ n ih31 =>
          intro v4_12 UL13 hM H locs hw ls hl
          rw [L_X7_when_31] at hM
          refine lv_iload hx hb dX7_when_31 (lv_at hl 0 rfl) ?_
          refine lv_bipush (v := (20 : Int32)) hx hb dX7_when_33 (by decide) ?_
          refine lv_icmp_gt (tgt := 64) hx hb dX7_when_35 (by decide) (fun c15 => ?_) (fun c15 => ?_)
          · replace hM := itp c15 hM
            exact hJ31 _ (Option.some.inj hM).symm _ _ hw _ (lv_sub hl [] rfl)
          · replace hM := itn c15 hM
            refine lv_aload_n hx hb dX7_when_38 rfl (lv_at hl 1 rfl) ?_
            refine lv_iload_n hx hb dX7_when_39 rfl (lv_at hl 2 rfl) ?_
            obtain ⟨q17, h16, hM⟩ := bd hM
            refine rVR (wc := (wXT g b10 G11 UL13)) (As := [.int p1]) (rest := []) (q0 := 0) hS (c_X7_knows l g b10 G11 UL13 p1 h16) gX7_when_X7_knows rfl hd_X7_knows ⟨Nat.le_of_ble_eq_true rfl, Nat.le_of_ble_eq_true rfl⟩ hK (va_P.pm hw.1 (pm_2_1 _ _)) rfl rfl rfl rfl hl.1 rfl (Nat.le_of_ble_eq_true rfl) dX7_when_40 ⟨Nat.le_refl _, Nat.le_refl _⟩ ?_
            refine lv_iload_n hx hb dX7_when_43 rfl (lv_at hl 3 rfl) ?_
            refine rSR (wc := ([] : va_W)) (As := [.int q17, .int p2]) (rest := []) hS (c_X7_has l g q17 p2) gX7_when_X7_has rfl hd_X7_has ⟨Nat.le_of_ble_eq_true rfl, Nat.le_of_ble_eq_true rfl⟩ hK (hP_nil) rfl hl.1 rfl (Nat.le_of_ble_eq_true rfl) dX7_when_44 ⟨Nat.le_refl _, Nat.le_refl _⟩ ?_
            refine lv_if_eq (tgt := 53) hx hb dX7_when_47 (by decide) (fun c19 => ?_) (fun c19 => ?_)
            · replace hM := itp c19 hM
              refine lv_aload_n hx hb dX7_when_53 rfl (lv_at hl 1 rfl) ?_
              obtain ⟨q21, h20, hM⟩ := bd hM
              refine rVWp (wc := (wXT g b10 G11 UL13)) (wq := ((wXM g a0 U0 V0 M0 R0 kv (.ref (b10 0))) ++ (wXT g b10 G11 q21.2))) (As := []) (rest := []) (q0 := 0) hS (c_X7_goesRound l g b10 G11 UL13 h20) gX7_when_X7_goesRound rfl hd_X7_goesRound ⟨Nat.le_of_ble_eq_true rfl, Nat.le_of_ble_eq_true rfl⟩ hK hw hA (pm_2_1 _ _) rfl (pm_2_1 _ _) rfl rfl rfl rfl hl.1 rfl (Nat.le_of_ble_eq_true rfl) dX7_when_54 ⟨Nat.le_refl _, Nat.le_refl _⟩ (fun H locs hw => ?_)
              refine lv_pop hx hb dX7_when_57 rfl ?_
              refine lv_iinc (v := (v4_12 + (1 : Int32))) (lv' := [(4, .int (v4_12 + (1 : Int32))), (3, .ref (b10 0)), (1, .int p1), (2, .int p2)]) hx hb dX7_when_58 hl (k := 0) rfl rfl (by decide) rfl (fun ls hl => ?_)
              refine lv_goto (tgt := 31) hx hb dX7_when_61 (by decide) ?_
              exact ih31 (v4_12 + (1 : Int32)) q21.2 hM _ _ hw _ (lv_sub hl [0, 1, 2, 3] rfl)
            · replace hM := itn c19 hM
              refine lv_iload hx hb dX7_when_50 (lv_at hl 0 rfl) ?_
              have hE := Option.some.inj hM
              have hM31' := hM31
              rw [← hE] at hM31'
              obtain rfl := eo_inl hM31'
              exact W.iret hx hb hr (fun t ht _ => ⟨rfl, ⟨(some (b10, G11, UL13)), rfl, by rw [ht]; exact hw.1, hw.2.1⟩, hw.2.2.F ht⟩) hw.2.2.2.2 dX7_when_52
      exact hW31 300 (0 : Int32) (fr0 U0 tp0) hL31 _ _ hw _ (lv_sub hl [0, 1, 3, 4] rfl)
    · replace hM := itp c6 hM
      refine lv_aload_n hx hb dX7_when_16 rfl (lv_at hl 0 rfl) ?_
      refine lv_bipush (v := (-2 : Int32)) hx hb dX7_when_17 (by decide) ?_
      obtain ⟨q8, h7, hM⟩ := bd hM
      refine rVWp (wc := (wXM g a0 U0 V0 M0 R0 kv (tvOf t0))) (wq := ((wXM g a0 U0 q8.2 M0 R0 kv (tvOf t0)) ++ (wOT g t0))) (As := [.int (-2 : Int32)]) (rest := []) (q0 := 0) hS (c_X7_refuse l g a0 kv (tvOf t0) U0 V0 M0 R0 (-2 : Int32) h7) gX7_when_X7_refuse rfl hd_X7_refuse ⟨Nat.le_of_ble_eq_true rfl, Nat.le_of_ble_eq_true rfl⟩ hK hw hA (pm_2_0 _ _) rfl (pm_2_0 _ _) rfl rfl rfl rfl hl.1 rfl (Nat.le_of_ble_eq_true rfl) dX7_when_19 ⟨nlc _ _ _, nlc _ _ _⟩ (fun H locs hw => ?_)
      obtain rfl := Option.some.inj hM
      refine W.widen (k := 28 * nlOf t0) (n := 759 * nlOf t0) (nlc _ _ _) (nlc _ _ _) ?_
      exact W.iret hx hb hr (fun t ht _ => ⟨rfl, ⟨t0, h0, by rw [ht]; exact hw.1, hw.2.1⟩, hw.2.2.F ht⟩) hw.2.2.2.2 dX7_when_22
