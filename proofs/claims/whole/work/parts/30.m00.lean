theorem hd_X7_addOne : yX7_addOne.cls = RX7 ∧ yX7_addOne.cls ≠ "java/lang/invoke/MethodHandle" ∧ yX7_addOne.cls ≠ "java/lang/invoke/VarHandle" ∧ (parseMethodDescriptor yX7_addOne.desc).map (fun d => d.parameters.length) = some 2 := by decide +kernel
set_option maxHeartbeats 4000000 in
set_option maxRecDepth 100000 in
theorem c_X7_addOne (l : Launch) (g : Gm) (a0 : Nat → Nat) (Fw0 : Nat → Value) (U0 : TS) (p1 : Int32) (p2 : Int32) {q : TS} (hM : f_X7_addOne U0 p1 p2 = some q) : MW l yX7_addOne wsX7_addOne 0 0 g [.ref (a0 0), .int p1, .int p2] (wXT g a0 Fw0 U0) none (wXT g a0 Fw0 q) := by
  intro sz
  refine Met.ofW (cc := cX7_addOne) (maxL := 3) (ret := none) (by decide) rfl ?_
  intro p e s m args below meth c s₁ B hml hv
  obtain ⟨rfl, hsz, hP, hK, hD0⟩ := hv
  have hx := B.exec; have hb := B.bytes; have hr := B.returns
  have hts := atoms_spec (ws := wsX7_addOne) B.pre
  have hown : s.vm.findClass RX7 = some m.cls := findClass_of_methodNamed B.named
  have hlocks := B.notSynchronized
  have hS : CallFix p m c cX7_addOne 3 s _ wsX7_addOne RX7 := ⟨hx, hb, hml, hown, hts⟩
  have hin_X7 : ∀ w ∈ wsX70, w ∈ wsX7_addOne := fun w h => (List.mem_cons_of_mem _ (List.mem_append_right _ h))
  subst hsz
  have hw := wk_start hP hD0
  have hA : ∀ q : Nat, s.heap.size ≤ q → va_A (wXT g a0 Fw0 U0) s.heap.size q := fun q h => Or.inr h
  generalize va_A (wXT g a0 Fw0 U0) s.heap.size = A at hw hA ⊢
  clear hP hD0
  have hl := lv_entry ([.ref (a0 0), .int p1, .int p2]) (n := 3) (Nat.le_of_ble_eq_true rfl)
  rw [lg_entry_eq]
  generalize (lg_sl ([.ref (a0 0), .int p1, .int p2]) ++ List.replicate (3 - (lg_sl ([.ref (a0 0), .int p1, .int p2])).length) Slot.unset).toArray = ls at hl ⊢
  have hl : lv_has ls 3 [(0, .ref (a0 0)), (1, .int p1), (2, .int p2)] := hl
  rw [f_X7_addOne] at hM
  refine lv_aload_n hx hb dX7_addOne_0 rfl (lv_at hl 0 rfl) ?_
  refine wk_get hx hb hts hin_X7 hown hK hw.1 7 0 11 (.ref (a0 1)) rfl rfl (by decide) (mi 1 rfl) rfl rfl dX7_addOne_1 ?_
  refine lv_aload_n hx hb dX7_addOne_4 rfl (lv_at hl 0 rfl) ?_
  refine wk_get hx hb hts hin_X7 hown hK hw.1 7 0 10 (.int (U0 10 0)) rfl rfl (by decide) (mi 2 rfl) rfl rfl dX7_addOne_5 ?_
  refine lv_iload_n hx hb dX7_addOne_8 rfl (lv_at hl 1 rfl) ?_
  obtain ⟨k1, hM⟩ := ck hM
  refine wk_iast (wq := (wXT g a0 Fw0 (up U0 11 (upd (U0 11) ((U0 10 0)).toNatClampNeg p1)))) hx hb hK hw 1 7 (U0 11) rfl k1 dX7_addOne_9 rfl (fun H locs hw => ?_)
  refine lv_aload_n hx hb dX7_addOne_10 rfl (lv_at hl 0 rfl) ?_
  refine wk_get hx hb hts hin_X7 hown hK hw.1 7 0 12 (.ref (a0 2)) rfl rfl (by decide) (mi 3 rfl) rfl rfl dX7_addOne_11 ?_
  refine lv_aload_n hx hb dX7_addOne_14 rfl (lv_at hl 0 rfl) ?_
  refine wk_get hx hb hts hin_X7 hown hK hw.1 7 0 10 (.int (U0 10 0)) rfl rfl (by decide) (mi 2 rfl) rfl rfl dX7_addOne_15 ?_
  refine lv_iload_n hx hb dX7_addOne_18 rfl (lv_at hl 2 rfl) ?_
  refine wk_iast (wq := (wXT g a0 Fw0 (up (up U0 11 (upd (U0 11) ((U0 10 0)).toNatClampNeg p1)) 12 (upd (U0 12) ((U0 10 0)).toNatClampNeg p2)))) hx hb hK hw 2 7 (U0 12) rfl k1 dX7_addOne_19 rfl (fun H locs hw => ?_)
  refine lv_aload_n hx hb dX7_addOne_20 rfl (lv_at hl 0 rfl) ?_
  refine wk_get hx hb hts hin_X7 hown hK hw.1 7 0 13 (.ref (a0 3)) rfl rfl (by decide) (mi 4 rfl) rfl rfl dX7_addOne_21 ?_
  refine lv_aload_n hx hb dX7_addOne_24 rfl (lv_at hl 0 rfl) ?_
  refine wk_get hx hb hts hin_X7 hown hK hw.1 7 0 10 (.int (U0 10 0)) rfl rfl (by decide) (mi 2 rfl) rfl rfl dX7_addOne_25 ?_
  refine lv_iconst (v := (0 : Int32)) hx hb dX7_addOne_28 (by decide) ?_
  refine wk_iast (wq := (wXT g a0 Fw0 (up (up (up U0 11 (upd (U0 11) ((U0 10 0)).toNatClampNeg p1)) 12 (upd (U0 12) ((U0 10 0)).toNatClampNeg p2)) 13 (upd (U0 13) ((U0 10 0)).toNatClampNeg (0 : Int32))))) hx hb hK hw 3 7 (U0 13) rfl k1 dX7_addOne_29 rfl (fun H locs hw => ?_)
  refine lv_aload_n hx hb dX7_addOne_30 rfl (lv_at hl 0 rfl) ?_
  refine wk_get hx hb hts hin_X7 hown hK hw.1 7 0 14 (.ref (a0 4)) rfl rfl (by decide) (mi 5 rfl) rfl rfl dX7_addOne_31 ?_
  refine lv_aload_n hx hb dX7_addOne_34 rfl (lv_at hl 0 rfl) ?_
  refine wk_get hx hb hts hin_X7 hown hK hw.1 7 0 10 (.int (U0 10 0)) rfl rfl (by decide) (mi 2 rfl) rfl rfl dX7_addOne_35 ?_
  refine lv_iconst (v := (0 : Int32)) hx hb dX7_addOne_38 (by decide) ?_
  refine wk_iast (wq := (wXT g a0 Fw0 (up (up (up (up U0 11 (upd (U0 11) ((U0 10 0)).toNatClampNeg p1)) 12 (upd (U0 12) ((U0 10 0)).toNatClampNeg p2)) 13 (upd (U0 13) ((U0 10 0)).toNatClampNeg (0 : Int32))) 14 (upd (U0 14) ((U0 10 0)).toNatClampNeg (0 : Int32))))) hx hb hK hw 4 7 (U0 14) rfl k1 dX7_addOne_39 rfl (fun H locs hw => ?_)
  refine lv_aload_n hx hb dX7_addOne_40 rfl (lv_at hl 0 rfl) ?_
  refine wk_get hx hb hts hin_X7 hown hK hw.1 7 0 15 (.ref (a0 5)) rfl rfl (by decide) (mi 6 rfl) rfl rfl dX7_addOne_41 ?_
  refine lv_aload_n hx hb dX7_addOne_44 rfl (lv_at hl 0 rfl) ?_
  refine wk_get hx hb hts hin_X7 hown hK hw.1 7 0 10 (.int (U0 10 0)) rfl rfl (by decide) (mi 2 rfl) rfl rfl dX7_addOne_45 ?_
  refine lv_iconst (v := (0 : Int32)) hx hb dX7_addOne_48 (by decide) ?_
  refine wk_iast (wq := (wXT g a0 Fw0 (up (up (up (up (up U0 11 (upd (U0 11) ((U0 10 0)).toNatClampNeg p1)) 12 (upd (U0 12) ((U0 10 0)).toNatClampNeg p2)) 13 (upd (U0 13) ((U0 10 0)).toNatClampNeg (0 : Int32))) 14 (upd (U0 14) ((U0 10 0)).toNatClampNeg (0 : Int32))) 15 (upd (U0 15) ((U0 10 0)).toNatClampNeg (0 : Int32))))) hx hb hK hw 5 7 (U0 15) rfl k1 dX7_addOne_49 rfl (fun H locs hw => ?_)
  refine lv_aload_n hx hb dX7_addOne_50 rfl (lv_at hl 0 rfl) ?_
  refine wk_get hx hb hts hin_X7 hown hK hw.1 7 0 16 (.ref (a0 6)) rfl rfl (by decide) (mi 7 rfl) rfl rfl dX7_addOne_51 ?_
  refine lv_aload_n hx hb dX7_addOne_54 rfl (lv_at hl 0 rfl) ?_
  refine wk_get hx hb hts hin_X7 hown hK hw.1 7 0 10 (.int (U0 10 0)) rfl rfl (by decide) (mi 2 rfl) rfl rfl dX7_addOne_55 ?_
  refine lv_iconst (v := (0 : Int32)) hx hb dX7_addOne_58 (by decide) ?_
  refine wk_iast (wq := (wXT g a0 Fw0 (up (up (up (up (up (up U0 11 (upd (U0 11) ((U0 10 0)).toNatClampNeg p1)) 12 (upd (U0 12) ((U0 10 0)).toNatClampNeg p2)) 13 (upd (U0 13) ((U0 10 0)).toNatClampNeg (0 : Int32))) 14 (upd (U0 14) ((U0 10 0)).toNatClampNeg (0 : Int32))) 15 (upd (U0 15) ((U0 10 0)).toNatClampNeg (0 : Int32))) 16 (upd (U0 16) ((U0 10 0)).toNatClampNeg (0 : Int32))))) hx hb hK hw 6 7 (U0 16) rfl k1 dX7_addOne_59 rfl (fun H locs hw => ?_)
  refine lv_aload_n hx hb dX7_addOne_60 rfl (lv_at hl 0 rfl) ?_
  refine lv_dup hx hb dX7_addOne_61 rfl ?_
  refine wk_get hx hb hts hin_X7 hown hK hw.1 7 0 10 (.int (U0 10 0)) rfl rfl (by decide) (mi 2 rfl) rfl rfl dX7_addOne_62 ?_
  refine lv_iconst (v := (1 : Int32)) hx hb dX7_addOne_65 (by decide) ?_
  refine lv_iadd hx hb dX7_addOne_66 ?_
  refine wk_put (wq := (wXT g a0 Fw0 (up (up (up (up (up (up (up U0 11 (upd (U0 11) ((U0 10 0)).toNatClampNeg p1)) 12 (upd (U0 12) ((U0 10 0)).toNatClampNeg p2)) 13 (upd (U0 13) ((U0 10 0)).toNatClampNeg (0 : Int32))) 14 (upd (U0 14) ((U0 10 0)).toNatClampNeg (0 : Int32))) 15 (upd (U0 15) ((U0 10 0)).toNatClampNeg (0 : Int32))) 16 (upd (U0 16) ((U0 10 0)).toNatClampNeg (0 : Int32))) 10 (fun _ => ((U0 10 0) + (1 : Int32)))))) hx hb hts hin_X7 tyX7 tyX7_ok nmX7 hown hK hw 7 0 10 rfl rfl (by decide) (mi 2 rfl) rfl rfl rfl rfl (Nat.le_of_ble_eq_true rfl) dX7_addOne_67 rfl (fun H locs hw => ?_)
  obtain rfl := Option.some.inj hM
  exact W.vret hx hb hr (fun t ht _ => ⟨rfl, by rw [ht]; exact hw.1, hw.2.2.F ht⟩) hw.2.2.2.2 dX7_addOne_70
theorem hd_X7_barredBy : yX7_barredBy.cls = RX7 ∧ yX7_barredBy.cls ≠ "java/lang/invoke/MethodHandle" ∧ yX7_barredBy.cls ≠ "java/lang/invoke/VarHandle" ∧ (parseMethodDescriptor yX7_barredBy.desc).map (fun d => d.parameters.length) = some 1 := by decide +kernel
set_option maxHeartbeats 4000000 in
set_option maxRecDepth 100000 in
theorem c_X7_barredBy (l : Launch) (g : Gm) (a0 : Nat → Nat) (Fw0 : Nat → Value) (U0 : TS) (p1 : Int32) {q : Int32} (hM : f_X7_barredBy U0 p1 = some q) : MR l yX7_barredBy wsX7_barredBy 0 0 g [.ref (a0 0), .int p1] (wXT g a0 Fw0 U0) (some (.int q)) := by
  refine Met.ofW (cc := cX7_barredBy) (maxL := 2) (ret := (some .int)) (by decide) rfl ?_
  intro p e s m args below meth c s₁ B hml hv
  obtain ⟨rfl, hP, hK⟩ := hv
  have hx := B.exec; have hb := B.bytes; have hr := B.returns
  have hts := atoms_spec (ws := wsX7_barredBy) B.pre
  have hown : s.vm.findClass RX7 = some m.cls := findClass_of_methodNamed B.named
  have hlocks := B.notSynchronized
  have hS : CallFix p m c cX7_barredBy 2 s _ wsX7_barredBy RX7 := ⟨hx, hb, hml, hown, hts⟩
  have hin_X7 : ∀ w ∈ wsX70, w ∈ wsX7_barredBy := fun w h => (List.mem_cons_of_mem _ (List.mem_append_right _ h))
  have hl := lv_entry ([.ref (a0 0), .int p1]) (n := 2) (Nat.le_of_ble_eq_true rfl)
  rw [lg_entry_eq]
  generalize (lg_sl ([.ref (a0 0), .int p1]) ++ List.replicate (2 - (lg_sl ([.ref (a0 0), .int p1])).length) Slot.unset).toArray = ls at hl ⊢
  have hl : lv_has ls 2 [(0, .ref (a0 0)), (1, .int p1)] := hl
  rw [f_X7_barredBy] at hM
  refine lv_aload_n hx hb dX7_barredBy_0 rfl (lv_at hl 0 rfl) ?_
  refine wk_get hx hb hts hin_X7 hown hK hP 7 0 17 (.ref (a0 7)) rfl rfl (by decide) (mi 1 rfl) rfl rfl dX7_barredBy_1 ?_
  refine lv_iconst (v := (0 : Int32)) hx hb dX7_barredBy_4 (by decide) ?_
  refine wk_iald hx hb hK hP 7 3 (U0 17) rfl (by decide) dX7_barredBy_5 ?_
  refine lv_iconst (v := (1 : Int32)) hx hb dX7_barredBy_6 (by decide) ?_
  refine lv_icmp_ne (tgt := 26) hx hb dX7_barredBy_7 (by decide) (fun c1 => ?_) (fun c1 => ?_)
  · replace hM := itn c1 hM
    refine lv_aload_n hx hb dX7_barredBy_26 rfl (lv_at hl 0 rfl) ?_
    refine wk_get hx hb hts hin_X7 hown hK hP 7 0 13 (.ref (a0 3)) rfl rfl (by decide) (mi 2 rfl) rfl rfl dX7_barredBy_27 ?_
    refine lv_iload_n hx hb dX7_barredBy_30 rfl (lv_at hl 1 rfl) ?_
    obtain ⟨k3, hM⟩ := ck hM
    refine wk_iald hx hb hK hP 3 7 (U0 13) rfl k3 dX7_barredBy_31 ?_
    obtain rfl := Option.some.inj hM
    exact W.iret hx hb hr (fun t ht _ => ⟨rfl, ht⟩) (fun q hq => by cases hq) dX7_barredBy_32
  · replace hM := itp c1 hM
    refine lv_aload_n hx hb dX7_barredBy_10 rfl (lv_at hl 0 rfl) ?_
    refine wk_get hx hb hts hin_X7 hown hK hP 7 0 13 (.ref (a0 3)) rfl rfl (by decide) (mi 2 rfl) rfl rfl dX7_barredBy_11 ?_
    refine lv_iload_n hx hb dX7_barredBy_14 rfl (lv_at hl 1 rfl) ?_
    obtain ⟨k2, hM⟩ := ck hM
    refine wk_iald hx hb hK hP 3 7 (U0 13) rfl k2 dX7_barredBy_15 ?_
    refine lv_aload_n hx hb dX7_barredBy_16 rfl (lv_at hl 0 rfl) ?_
    refine wk_get hx hb hts hin_X7 hown hK hP 7 0 14 (.ref (a0 4)) rfl rfl (by decide) (mi 3 rfl) rfl rfl dX7_barredBy_17 ?_
    refine lv_iload_n hx hb dX7_barredBy_20 rfl (lv_at hl 1 rfl) ?_
    refine wk_iald hx hb hK hP 4 7 (U0 14) rfl k2 dX7_barredBy_21 ?_
    refine lv_ior hx hb dX7_barredBy_22 ?_
    refine lv_goto (tgt := 32) hx hb dX7_barredBy_23 (by decide) ?_
    obtain rfl := Option.some.inj hM
    exact W.iret hx hb hr (fun t ht _ => ⟨rfl, ht⟩) (fun q hq => by cases hq) dX7_barredBy_32
theorem hd_X7_allSights : yX7_allSights.cls = RX7 ∧ yX7_allSights.cls ≠ "java/lang/invoke/MethodHandle" ∧ yX7_allSights.cls ≠ "java/lang/invoke/VarHandle" ∧ (parseMethodDescriptor yX7_allSights.desc).map (fun d => d.parameters.length) = some 0 := by decide +kernel
set_option maxHeartbeats 4000000 in
set_option maxRecDepth 100000 in
theorem c_X7_allSights (l : Launch) (g : Gm) (a0 : Nat → Nat) (Fw0 : Nat → Value) (U0 : TS) : MR l yX7_allSights wsX7_allSights 0 0 g [.ref (a0 0)] (wXT g a0 Fw0 U0) (some (.int (f_X7_allSights U0))) := by
  refine Met.ofW (cc := cX7_allSights) (maxL := 1) (ret := (some .int)) (by decide) rfl ?_
  intro p e s m args below meth c s₁ B hml hv
  obtain ⟨rfl, hP, hK⟩ := hv
  have hx := B.exec; have hb := B.bytes; have hr := B.returns
  have hts := atoms_spec (ws := wsX7_allSights) B.pre
  have hown : s.vm.findClass RX7 = some m.cls := findClass_of_methodNamed B.named
  have hlocks := B.notSynchronized
  have hS : CallFix p m c cX7_allSights 1 s _ wsX7_allSights RX7 := ⟨hx, hb, hml, hown, hts⟩
  have hin_X7 : ∀ w ∈ wsX70, w ∈ wsX7_allSights := fun w h => (List.mem_cons_of_mem _ (List.mem_append_right _ h))
  have hl := lv_entry ([.ref (a0 0)]) (n := 1) (Nat.le_of_ble_eq_true rfl)
  rw [lg_entry_eq]
  generalize (lg_sl ([.ref (a0 0)]) ++ List.replicate (1 - (lg_sl ([.ref (a0 0)])).length) Slot.unset).toArray = ls at hl ⊢
  have hl : lv_has ls 1 [(0, .ref (a0 0))] := hl
  obtain ⟨rr, hM⟩ : ∃ rr, f_X7_allSights U0 = rr := ⟨_, rfl⟩
  rw [hM]
  rw [f_X7_allSights] at hM
  refine lv_iconst (v := (1 : Int32)) hx hb dX7_allSights_0 (by decide) ?_
  refine lv_aload_n hx hb dX7_allSights_1 rfl (lv_at hl 0 rfl) ?_
  refine wk_get hx hb hts hin_X7 hown hK hP 7 0 9 (.int (U0 9 0)) rfl rfl (by decide) (mi 1 rfl) rfl rfl dX7_allSights_2 ?_
  refine lv_ishl hx hb dX7_allSights_5 ?_
  refine lv_iconst (v := (1 : Int32)) hx hb dX7_allSights_6 (by decide) ?_
  refine lv_isub hx hb dX7_allSights_7 ?_
  subst hM
  exact W.iret hx hb hr (fun t ht _ => ⟨rfl, ht⟩) (fun q hq => by cases hq) dX7_allSights_8
theorem hd_X7_has : yX7_has.cls ≠ "java/lang/invoke/MethodHandle" ∧ yX7_has.cls ≠ "java/lang/invoke/VarHandle" ∧ (parseMethodDescriptor yX7_has.desc).map (fun d => d.parameters.length) = some 2 := by decide +kernel
set_option maxHeartbeats 4000000 in
set_option maxRecDepth 100000 in
theorem c_X7_has (l : Launch) (g : Gm) (p0 : Int32) (p1 : Int32) : MR l yX7_has wsX7_has 0 0 g [.int p0, .int p1] ([] : va_W) (some (.int (f_X7_has p0 p1))) := by
  refine Met.ofW (cc := cX7_has) (maxL := 2) (ret := (some .boolean)) (by decide) rfl ?_
  intro p e s m args below meth c s₁ B hml hv
  obtain ⟨rfl, hP, hK⟩ := hv
  have hx := B.exec; have hb := B.bytes; have hr := B.returns
  have hts := atoms_spec (ws := wsX7_has) B.pre
  have hown : s.vm.findClass RX7 = some m.cls := findClass_of_methodNamed B.named
  have hlocks := B.notSynchronized
  have hS : CallFix p m c cX7_has 2 s _ wsX7_has RX7 := ⟨hx, hb, hml, hown, hts⟩
  have hl := lv_entry ([.int p0, .int p1]) (n := 2) (Nat.le_of_ble_eq_true rfl)
  rw [lg_entry_eq]
  generalize (lg_sl ([.int p0, .int p1]) ++ List.replicate (2 - (lg_sl ([.int p0, .int p1])).length) Slot.unset).toArray = ls at hl ⊢
  have hl : lv_has ls 2 [(0, .int p0), (1, .int p1)] := hl
  obtain ⟨rr, hM⟩ : ∃ rr, f_X7_has p0 p1 = rr := ⟨_, rfl⟩
  rw [hM]
  rw [f_X7_has] at hM
  refine lv_iload_n hx hb dX7_has_0 rfl (lv_at hl 0 rfl) ?_
  refine lv_iload_n hx hb dX7_has_1 rfl (lv_at hl 1 rfl) ?_
  refine lv_ishr hx hb dX7_has_2 ?_
  refine lv_iconst (v := (1 : Int32)) hx hb dX7_has_3 (by decide) ?_
  refine lv_iand hx hb dX7_has_4 ?_
  have hJ7 : ∀ (x6 : Int32) (ls : Array Slot), x6 = (if ((p0 >>> (p1 &&& 31)) &&& (1 : Int32)) = 0 then (0 : Int32) else (1 : Int32)) → lv_has ls 2 [] → W p l e (headSpec wsX7_has ({ frames := 0, cells := 0, slots := 0, locals := 0 } : Room)).room s m ([.int p0, .int p1] : List Value).toArray below meth c s.heap [] 0 0 (MQ below (QcR (some (.int rr))) ([.int p0, .int p1] : List Value).toArray s 0 0 (fun _ => False)) (F0 m 13 ls [.int x6]) := by
    intro x6 ls hxx6 hl
    subst hxx6
    subst hM
    exact W.zret hx hb hr (nz (by repeat (first | exact Or.inl rfl | exact Or.inr rfl | split))) (fun t ht _ => ⟨rfl, ht⟩) (fun q hq => by cases hq) dX7_has_13
  refine lv_if_eq (tgt := 12) hx hb dX7_has_5 (by decide) (fun c1 => ?_) (fun c1 => ?_)
  · refine lv_iconst (v := (0 : Int32)) hx hb dX7_has_12 (by decide) ?_
    exact hJ7 _ _ (by first | with_reducible rfl | (simp only [if_pos c1]) | rfl) (lv_sub hl [] rfl)
  · refine lv_iconst (v := (1 : Int32)) hx hb dX7_has_8 (by decide) ?_
    refine lv_goto (tgt := 13) hx hb dX7_has_9 (by decide) ?_
    exact hJ7 _ _ (by first | with_reducible rfl | (simp only [if_neg c1]) | rfl) (lv_sub hl [] rfl)
theorem hd_X7_mayOf : yX7_mayOf.cls = RX7 ∧ yX7_mayOf.cls ≠ "java/lang/invoke/MethodHandle" ∧ yX7_mayOf.cls ≠ "java/lang/invoke/VarHandle" ∧ (parseMethodDescriptor yX7_mayOf.desc).map (fun d => d.parameters.length) = some 1 := by decide +kernel
set_option maxHeartbeats 4000000 in
set_option maxRecDepth 100000 in
theorem c_X7_mayOf (l : Launch) (g : Gm) (a0 : Nat → Nat) (Fw0 : Nat → Value) (U0 : TS) (p1 : Int32) {q : Int32} (hM : f_X7_mayOf U0 p1 = some q) : MR l yX7_mayOf wsX7_mayOf 1 21 g [.ref (a0 0), .int p1] (wXT g a0 Fw0 U0) (some (.int q)) := by
  refine Met.ofW (cc := cX7_mayOf) (maxL := 6) (ret := (some .int)) (by decide) rfl ?_
  intro p e s m args below meth c s₁ B hml hv
  obtain ⟨rfl, hP, hK⟩ := hv
  have hx := B.exec; have hb := B.bytes; have hr := B.returns
  have hts := atoms_spec (ws := wsX7_mayOf) B.pre
  have hown : s.vm.findClass RX7 = some m.cls := findClass_of_methodNamed B.named
  have hlocks := B.notSynchronized
  have hS : CallFix p m c cX7_mayOf 6 s _ wsX7_mayOf RX7 := ⟨hx, hb, hml, hown, hts⟩
  have hin_X7 : ∀ w ∈ wsX70, w ∈ wsX7_mayOf := fun w h => (List.mem_cons_of_mem _ (List.mem_append_right _ h))
  have hl := lv_entry ([.ref (a0 0), .int p1]) (n := 6) (Nat.le_of_ble_eq_true rfl)
  rw [lg_entry_eq]
  generalize (lg_sl ([.ref (a0 0), .int p1]) ++ List.replicate (6 - (lg_sl ([.ref (a0 0), .int p1])).length) Slot.unset).toArray = ls at hl ⊢
  have hl : lv_has ls 6 [(0, .ref (a0 0)), (1, .int p1)] := hl
  rw [f_X7_mayOf] at hM
  refine lv_aload_n hx hb dX7_mayOf_0 rfl (lv_at hl 0 rfl) ?_
  refine lv_iload_n hx hb dX7_mayOf_1 rfl (lv_at hl 1 rfl) ?_
  obtain ⟨q2, h1, hM⟩ := bd hM
  refine rVR (wc := (wXT g a0 Fw0 U0)) (As := [.int p1]) (rest := []) (q0 := 0) hS (c_X7_barredBy l g a0 Fw0 U0 p1 h1) gX7_mayOf_X7_barredBy rfl hd_X7_barredBy ⟨Nat.le_of_ble_eq_true rfl, Nat.le_of_ble_eq_true rfl⟩ hK (va_P.pm hP (pm_1_0 _)) rfl rfl rfl rfl hl.1 rfl (Nat.le_of_ble_eq_true rfl) dX7_mayOf_2 ⟨Nat.zero_le _, Nat.zero_le _⟩ ?_
  refine lv_istore_n (lv' := [(2, .int q2), (0, .ref (a0 0)), (1, .int p1)]) hx hb dX7_mayOf_5 rfl hl (by decide) rfl (fun ls hl => ?_)
  refine lv_aload_n hx hb dX7_mayOf_6 rfl (lv_at hl 1 rfl) ?_
  refine wk_get hx hb hts hin_X7 hown hK hP 7 0 11 (.ref (a0 1)) rfl rfl (by decide) (mi 1 rfl) rfl rfl dX7_mayOf_7 ?_
  refine lv_iload_n hx hb dX7_mayOf_10 rfl (lv_at hl 2 rfl) ?_
  obtain ⟨k3, hM⟩ := ck hM
  refine wk_iald hx hb hK hP 1 7 (U0 11) rfl k3 dX7_mayOf_11 ?_
  refine lv_iconst (v := (2 : Int32)) hx hb dX7_mayOf_12 (by decide) ?_
  have hJ51 : ∀ (x50 : Int32) (ls : Array Slot), x50 = (if ((U0 11) (p1).toNatClampNeg) = (2 : Int32) then (f_X7_allSights U0) else (if ((U0 11) (p1).toNatClampNeg) = (3 : Int32) then (f_X7_allSights U0) else ((U0 15) (p1).toNatClampNeg))) → lv_has ls 6 [(2, .int q2), (0, .ref (a0 0)), (1, .int p1)] → W p l e (headSpec wsX7_mayOf ({ frames := 1, cells := 0, slots := 0, locals := 21 } : Room)).room s m ([.ref (a0 0), .int p1] : List Value).toArray below meth c s.heap [] 0 0 (MQ below (QcR (some (.int q))) ([.ref (a0 0), .int p1] : List Value).toArray s 0 0 (fun _ => False)) (F0 m 39 ls [.int x50]) := by
    intro x50 ls hxx50 hl
    subst hxx50
    refine lv_iload_n hx hb dX7_mayOf_39 rfl (lv_at hl 0 rfl) ?_
    refine lv_iconst (v := (-1 : Int32)) hx hb dX7_mayOf_40 (by decide) ?_
    refine lv_ixor hx hb dX7_mayOf_41 ?_
    refine lv_iand hx hb dX7_mayOf_42 ?_
    refine lv_istore_n (lv' := [(3, .int ((if ((U0 11) (p1).toNatClampNeg) = (2 : Int32) then (f_X7_allSights U0) else (if ((U0 11) (p1).toNatClampNeg) = (3 : Int32) then (f_X7_allSights U0) else ((U0 15) (p1).toNatClampNeg))) &&& (q2 ^^^ (-1 : Int32)))), (2, .int q2), (0, .ref (a0 0)), (1, .int p1)]) hx hb dX7_mayOf_43 rfl hl (by decide) rfl (fun ls hl => ?_)
    refine lv_aload_n hx hb dX7_mayOf_44 rfl (lv_at hl 2 rfl) ?_
    refine wk_get hx hb hts hin_X7 hown hK hP 7 0 11 (.ref (a0 1)) rfl rfl (by decide) (mi 1 rfl) rfl rfl dX7_mayOf_45 ?_
    refine lv_iload_n hx hb dX7_mayOf_48 rfl (lv_at hl 3 rfl) ?_
    refine wk_iald hx hb hK hP 1 7 (U0 11) rfl k3 dX7_mayOf_49 ?_
    refine lv_iconst (v := (1 : Int32)) hx hb dX7_mayOf_50 (by decide) ?_
    refine lv_icmp_ne (tgt := 118) hx hb dX7_mayOf_51 (by decide) (fun c8 => ?_) (fun c8 => ?_)
    · replace hM := itn c8 hM
      refine lv_aload_n hx hb dX7_mayOf_118 rfl (lv_at hl 2 rfl) ?_
      refine wk_get hx hb hts hin_X7 hown hK hP 7 0 11 (.ref (a0 1)) rfl rfl (by decide) (mi 1 rfl) rfl rfl dX7_mayOf_119 ?_
      refine lv_iload_n hx hb dX7_mayOf_122 rfl (lv_at hl 3 rfl) ?_
      refine wk_iald hx hb hK hP 1 7 (U0 11) rfl k3 dX7_mayOf_123 ?_
      refine lv_iconst (v := (3 : Int32)) hx hb dX7_mayOf_124 (by decide) ?_
      refine lv_icmp_ne (tgt := 178) hx hb dX7_mayOf_125 (by decide) (fun c25 => ?_) (fun c25 => ?_)
      · replace hM := itn c25 hM
        refine lv_iload_n hx hb dX7_mayOf_178 rfl (lv_at hl 0 rfl) ?_
        obtain rfl := Option.some.inj hM
        exact W.iret hx hb hr (fun t ht _ => ⟨rfl, ht⟩) (fun q hq => by cases hq) dX7_mayOf_179
      · replace hM := itp c25 hM
        refine lv_aload_n hx hb dX7_mayOf_128 rfl (lv_at hl 2 rfl) ?_
        refine wk_get hx hb hts hin_X7 hown hK hP 7 0 17 (.ref (a0 7)) rfl rfl (by decide) (mi 6 rfl) rfl rfl dX7_mayOf_129 ?_
        refine lv_iconst (v := (2 : Int32)) hx hb dX7_mayOf_132 (by decide) ?_
        refine wk_iald hx hb hK hP 7 3 (U0 17) rfl (by decide) dX7_mayOf_133 ?_
        refine lv_istore (lv' := [(4, .int ((U0 17) ((2 : Int32)).toNatClampNeg)), (3, .int ((if ((U0 11) (p1).toNatClampNeg) = (2 : Int32) then (f_X7_allSights U0) else (if ((U0 11) (p1).toNatClampNeg) = (3 : Int32) then (f_X7_allSights U0) else ((U0 15) (p1).toNatClampNeg))) &&& (q2 ^^^ (-1 : Int32)))), (2, .int q2), (0, .ref (a0 0)), (1, .int p1)]) hx hb dX7_mayOf_134 hl (by decide) rfl (fun ls hl => ?_)
        refine lv_iconst (v := (0 : Int32)) hx hb dX7_mayOf_136 (by decide) ?_
        refine lv_istore (lv' := [(5, .int (0 : Int32)), (4, .int ((U0 17) ((2 : Int32)).toNatClampNeg)), (3, .int ((if ((U0 11) (p1).toNatClampNeg) = (2 : Int32) then (f_X7_allSights U0) else (if ((U0 11) (p1).toNatClampNeg) = (3 : Int32) then (f_X7_allSights U0) else ((U0 15) (p1).toNatClampNeg))) &&& (q2 ^^^ (-1 : Int32)))), (2, .int q2), (0, .ref (a0 0)), (1, .int p1)]) hx hb dX7_mayOf_137 hl (by decide) rfl (fun ls hl => ?_)
        obtain ⟨q29, hL139, hM⟩ := bd hM
        have hJ139 : ∀ (ls : Array Slot), lv_has ls 6 [(3, .int q29)] → W p l e (headSpec wsX7_mayOf ({ frames := 1, cells := 0, slots := 0, locals := 21 } : Room)).room s m ([.ref (a0 0), .int p1] : List Value).toArray below meth c s.heap [] 0 0 (MQ below (QcR (some (.int q))) ([.ref (a0 0), .int p1] : List Value).toArray s 0 0 (fun _ => False)) (F0 m 178 ls []) := by
          intro ls hl
          refine lv_iload_n hx hb dX7_mayOf_178 rfl (lv_at hl 0 rfl) ?_
          obtain rfl := Option.some.inj hM
          exact W.iret hx hb hr (fun t ht _ => ⟨rfl, ht⟩) (fun q hq => by cases hq) dX7_mayOf_179
        have hW139 : ∀ (n : Nat) (v5_26 : Int32) (v4_27 : Int32) (v3_28 : Int32), L_X7_mayOf_139 U0 q2 n v5_26 v4_27 v3_28 = some q29 → ∀ (ls : Array Slot), lv_has ls 6 [(5, .int v5_26), (4, .int v4_27), (3, .int v3_28), (2, .int q2), (0, .ref (a0 0))] → W p l e (headSpec wsX7_mayOf ({ frames := 1, cells := 0, slots := 0, locals := 21 } : Room)).room s m ([.ref (a0 0), .int p1] : List Value).toArray below meth c s.heap [] 0 0 (MQ below (QcR (some (.int q))) ([.ref (a0 0), .int p1] : List Value).toArray s 0 0 (fun _ => False)) (F0 m 139 ls []) := by
          intro n
          induction n with
          | zero => intro v5_26 v4_27 v3_28 hM; rw [L_X7_mayOf_139] at hM; exact nn hM
          | succ n ih139 =>
            intro v5_26 v4_27 v3_28 hM ls hl
            rw [L_X7_mayOf_139] at hM
            refine lv_iload hx hb dX7_mayOf_139 (lv_at hl 0 rfl) ?_
            refine lv_aload_n hx hb dX7_mayOf_141 rfl (lv_at hl 4 rfl) ?_
            refine wk_get hx hb hts hin_X7 hown hK hP 7 0 9 (.int (U0 9 0)) rfl rfl (by decide) (mi 7 rfl) rfl rfl dX7_mayOf_142 ?_
            refine lv_icmp_ge (tgt := 178) hx hb dX7_mayOf_145 (by decide) (fun c30 => ?_) (fun c30 => ?_)
            · replace hM := itp c30 hM
              obtain rfl := Option.some.inj hM
              exact hJ139 _ (lv_sub hl [2] rfl)
            · replace hM := itn c30 hM
              refine lv_iload hx hb dX7_mayOf_148 (lv_at hl 1 rfl) ?_
              refine lv_if_le (tgt := 178) hx hb dX7_mayOf_150 (by decide) (fun c31 => ?_) (fun c31 => ?_)
              · replace hM := itp c31 hM
                obtain rfl := Option.some.inj hM
                exact hJ139 _ (lv_sub hl [2] rfl)
              · replace hM := itn c31 hM
                refine lv_iload_n hx hb dX7_mayOf_153 rfl (lv_at hl 3 rfl) ?_
                refine lv_iload hx hb dX7_mayOf_154 (lv_at hl 0 rfl) ?_
                refine rSR (wc := ([] : va_W)) (As := [.int q2, .int v5_26]) (rest := []) hS (c_X7_has l g q2 v5_26) gX7_mayOf_X7_has rfl hd_X7_has ⟨Nat.le_of_ble_eq_true rfl, Nat.le_of_ble_eq_true rfl⟩ hK (hP_nil) rfl hl.1 rfl (Nat.le_of_ble_eq_true rfl) dX7_mayOf_156 ⟨Nat.zero_le _, Nat.zero_le _⟩ ?_
                have hJ54 : ∀ (x52 : Int32) (x53 : Int32) (ls : Array Slot), x52 = (if (f_X7_has q2 v5_26) = 0 then v4_27 else (v4_27 + (-1 : Int32))) → x53 = (if (f_X7_has q2 v5_26) = 0 then v3_28 else (v3_28 ||| ((1 : Int32) <<< (v5_26 &&& 31)))) → lv_has ls 6 [(5, .int v5_26), (4, .int x52), (3, .int x53), (2, .int q2), (0, .ref (a0 0))] → W p l e (headSpec wsX7_mayOf ({ frames := 1, cells := 0, slots := 0, locals := 21 } : Room)).room s m ([.ref (a0 0), .int p1] : List Value).toArray below meth c s.heap [] 0 0 (MQ below (QcR (some (.int q))) ([.ref (a0 0), .int p1] : List Value).toArray s 0 0 (fun _ => False)) (F0 m 172 ls []) := by
                  intro x52 x53 ls hxx52 hxx53 hl
                  subst hxx52
                  subst hxx53
                  refine lv_iinc (v := (v5_26 + (1 : Int32))) (lv' := [(5, .int (v5_26 + (1 : Int32))), (4, .int (if (f_X7_has q2 v5_26) = 0 then v4_27 else (v4_27 + (-1 : Int32)))), (3, .int (if (f_X7_has q2 v5_26) = 0 then v3_28 else (v3_28 ||| ((1 : Int32) <<< (v5_26 &&& 31))))), (2, .int q2), (0, .ref (a0 0))]) hx hb dX7_mayOf_172 hl (k := 0) rfl rfl (by decide) rfl (fun ls hl => ?_)
                  refine lv_goto (tgt := 139) hx hb dX7_mayOf_175 (by decide) ?_
                  exact ih139 (v5_26 + (1 : Int32)) (if (f_X7_has q2 v5_26) = 0 then v4_27 else (v4_27 + (-1 : Int32))) (if (f_X7_has q2 v5_26) = 0 then v3_28 else (v3_28 ||| ((1 : Int32) <<< (v5_26 &&& 31)))) hM _ (lv_sub hl [0, 1, 2, 3, 4] rfl)
                refine lv_if_eq (tgt := 172) hx hb dX7_mayOf_159 (by decide) (fun c33 => ?_) (fun c33 => ?_)
                · exact hJ54 _ _ _ (by first | with_reducible rfl | (simp only [if_pos c33]) | rfl) (by first | with_reducible rfl | (simp only [if_pos c33]) | rfl) (lv_sub hl [0, 1, 2, 3, 4] rfl)
                · refine lv_iload_n hx hb dX7_mayOf_162 rfl (lv_at hl 2 rfl) ?_
                  refine lv_iconst (v := (1 : Int32)) hx hb dX7_mayOf_163 (by decide) ?_
                  refine lv_iload hx hb dX7_mayOf_164 (lv_at hl 0 rfl) ?_
                  refine lv_ishl hx hb dX7_mayOf_166 ?_
                  refine lv_ior hx hb dX7_mayOf_167 ?_
                  refine lv_istore_n (lv' := [(3, .int (v3_28 ||| ((1 : Int32) <<< (v5_26 &&& 31)))), (5, .int v5_26), (4, .int v4_27), (2, .int q2), (0, .ref (a0 0))]) hx hb dX7_mayOf_168 rfl hl (by decide) rfl (fun ls hl => ?_)
                  refine lv_iinc (v := (v4_27 + (-1 : Int32))) (lv' := [(4, .int (v4_27 + (-1 : Int32))), (3, .int (v3_28 ||| ((1 : Int32) <<< (v5_26 &&& 31)))), (5, .int v5_26), (2, .int q2), (0, .ref (a0 0))]) hx hb dX7_mayOf_169 hl (k := 2) rfl rfl (by decide) rfl (fun ls hl => ?_)
                  exact hJ54 _ _ _ (by first | with_reducible rfl | (simp only [if_neg c33]) | rfl) (by first | with_reducible rfl | (simp only [if_neg c33]) | rfl) (lv_sub hl [2, 0, 1, 3, 4] rfl)
        exact hW139 300 (0 : Int32) ((U0 17) ((2 : Int32)).toNatClampNeg) ((if ((U0 11) (p1).toNatClampNeg) = (2 : Int32) then (f_X7_allSights U0) else (if ((U0 11) (p1).toNatClampNeg) = (3 : Int32) then (f_X7_allSights U0) else ((U0 15) (p1).toNatClampNeg))) &&& (q2 ^^^ (-1 : Int32))) hL139 _ (lv_sub hl [0, 1, 2, 3, 4] rfl)
    · replace hM := itp c8 hM
      refine lv_iconst (v := (0 : Int32)) hx hb dX7_mayOf_54 (by decide) ?_
      refine lv_istore (lv' := [(4, .int (0 : Int32)), (3, .int ((if ((U0 11) (p1).toNatClampNeg) = (2 : Int32) then (f_X7_allSights U0) else (if ((U0 11) (p1).toNatClampNeg) = (3 : Int32) then (f_X7_allSights U0) else ((U0 15) (p1).toNatClampNeg))) &&& (q2 ^^^ (-1 : Int32)))), (2, .int q2), (0, .ref (a0 0)), (1, .int p1)]) hx hb dX7_mayOf_55 hl (by decide) rfl (fun ls hl => ?_)
      refine lv_iconst (v := (0 : Int32)) hx hb dX7_mayOf_57 (by decide) ?_
      refine lv_istore (lv' := [(5, .int (0 : Int32)), (4, .int (0 : Int32)), (3, .int ((if ((U0 11) (p1).toNatClampNeg) = (2 : Int32) then (f_X7_allSights U0) else (if ((U0 11) (p1).toNatClampNeg) = (3 : Int32) then (f_X7_allSights U0) else ((U0 15) (p1).toNatClampNeg))) &&& (q2 ^^^ (-1 : Int32)))), (2, .int q2), (0, .ref (a0 0)), (1, .int p1)]) hx hb dX7_mayOf_58 hl (by decide) rfl (fun ls hl => ?_)
      obtain ⟨q11, hL60, hM⟩ := bd hM
      have hJ60 : ∀ (ls : Array Slot), lv_has ls 6 [(4, .int q11), (3, .int ((if ((U0 11) (p1).toNatClampNeg) = (2 : Int32) then (f_X7_allSights U0) else (if ((U0 11) (p1).toNatClampNeg) = (3 : Int32) then (f_X7_allSights U0) else ((U0 15) (p1).toNatClampNeg))) &&& (q2 ^^^ (-1 : Int32)))), (2, .int q2), (0, .ref (a0 0)), (1, .int p1)] → W p l e (headSpec wsX7_mayOf ({ frames := 1, cells := 0, slots := 0, locals := 21 } : Room)).room s m ([.ref (a0 0), .int p1] : List Value).toArray below meth c s.heap [] 0 0 (MQ below (QcR (some (.int q))) ([.ref (a0 0), .int p1] : List Value).toArray s 0 0 (fun _ => False)) (F0 m 113 ls []) := by
        intro ls hl
        refine lv_iload_n hx hb dX7_mayOf_113 rfl (lv_at hl 1 rfl) ?_
        refine lv_iload hx hb dX7_mayOf_114 (lv_at hl 0 rfl) ?_
        refine lv_iand hx hb dX7_mayOf_116 ?_
        refine lv_istore_n (lv' := [(3, .int (((if ((U0 11) (p1).toNatClampNeg) = (2 : Int32) then (f_X7_allSights U0) else (if ((U0 11) (p1).toNatClampNeg) = (3 : Int32) then (f_X7_allSights U0) else ((U0 15) (p1).toNatClampNeg))) &&& (q2 ^^^ (-1 : Int32))) &&& q11)), (4, .int q11), (2, .int q2), (0, .ref (a0 0)), (1, .int p1)]) hx hb dX7_mayOf_117 rfl hl (by decide) rfl (fun ls hl => ?_)
        refine lv_aload_n hx hb dX7_mayOf_118 rfl (lv_at hl 3 rfl) ?_
        refine wk_get hx hb hts hin_X7 hown hK hP 7 0 11 (.ref (a0 1)) rfl rfl (by decide) (mi 1 rfl) rfl rfl dX7_mayOf_119 ?_
        refine lv_iload_n hx hb dX7_mayOf_122 rfl (lv_at hl 4 rfl) ?_
        refine wk_iald hx hb hK hP 1 7 (U0 11) rfl k3 dX7_mayOf_123 ?_
        refine lv_iconst (v := (3 : Int32)) hx hb dX7_mayOf_124 (by decide) ?_
        refine lv_icmp_ne (tgt := 178) hx hb dX7_mayOf_125 (by decide) (fun c16 => ?_) (fun c16 => ?_)
        · replace hM := itn c16 hM
          refine lv_iload_n hx hb dX7_mayOf_178 rfl (lv_at hl 0 rfl) ?_
          obtain rfl := Option.some.inj hM
          exact W.iret hx hb hr (fun t ht _ => ⟨rfl, ht⟩) (fun q hq => by cases hq) dX7_mayOf_179
        · replace hM := itp c16 hM
          refine lv_aload_n hx hb dX7_mayOf_128 rfl (lv_at hl 3 rfl) ?_
          refine wk_get hx hb hts hin_X7 hown hK hP 7 0 17 (.ref (a0 7)) rfl rfl (by decide) (mi 6 rfl) rfl rfl dX7_mayOf_129 ?_
          refine lv_iconst (v := (2 : Int32)) hx hb dX7_mayOf_132 (by decide) ?_
          refine wk_iald hx hb hK hP 7 3 (U0 17) rfl (by decide) dX7_mayOf_133 ?_
          refine lv_istore (lv' := [(4, .int ((U0 17) ((2 : Int32)).toNatClampNeg)), (3, .int (((if ((U0 11) (p1).toNatClampNeg) = (2 : Int32) then (f_X7_allSights U0) else (if ((U0 11) (p1).toNatClampNeg) = (3 : Int32) then (f_X7_allSights U0) else ((U0 15) (p1).toNatClampNeg))) &&& (q2 ^^^ (-1 : Int32))) &&& q11)), (2, .int q2), (0, .ref (a0 0)), (1, .int p1)]) hx hb dX7_mayOf_134 hl (by decide) rfl (fun ls hl => ?_)
          refine lv_iconst (v := (0 : Int32)) hx hb dX7_mayOf_136 (by decide) ?_
          refine lv_istore (lv' := [(5, .int (0 : Int32)), (4, .int ((U0 17) ((2 : Int32)).toNatClampNeg)), (3, .int (((if ((U0 11) (p1).toNatClampNeg) = (2 : Int32) then (f_X7_allSights U0) else (if ((U0 11) (p1).toNatClampNeg) = (3 : Int32) then (f_X7_allSights U0) else ((U0 15) (p1).toNatClampNeg))) &&& (q2 ^^^ (-1 : Int32))) &&& q11)), (2, .int q2), (0, .ref (a0 0)), (1, .int p1)]) hx hb dX7_mayOf_137 hl (by decide) rfl (fun ls hl => ?_)
          obtain ⟨q20, hL139, hM⟩ := bd hM
          have hJ139 : ∀ (ls : Array Slot), lv_has ls 6 [(3, .int q20)] → W p l e (headSpec wsX7_mayOf ({ frames := 1, cells := 0, slots := 0, locals := 21 } : Room)).room s m ([.ref (a0 0), .int p1] : List Value).toArray below meth c s.heap [] 0 0 (MQ below (QcR (some (.int q))) ([.ref (a0 0), .int p1] : List Value).toArray s 0 0 (fun _ => False)) (F0 m 178 ls []) := by
            intro ls hl
            refine lv_iload_n hx hb dX7_mayOf_178 rfl (lv_at hl 0 rfl) ?_
            obtain rfl := Option.some.inj hM
            exact W.iret hx hb hr (fun t ht _ => ⟨rfl, ht⟩) (fun q hq => by cases hq) dX7_mayOf_179
          have hW139 : ∀ (n : Nat) (v5_17 : Int32) (v4_18 : Int32) (v3_19 : Int32), L_X7_mayOf_139 U0 q2 n v5_17 v4_18 v3_19 = some q20 → ∀ (ls : Array Slot), lv_has ls 6 [(5, .int v5_17), (4, .int v4_18), (3, .int v3_19), (2, .int q2), (0, .ref (a0 0))] → W p l e (headSpec wsX7_mayOf ({ frames := 1, cells := 0, slots := 0, locals := 21 } : Room)).room s m ([.ref (a0 0), .int p1] : List Value).toArray below meth c s.heap [] 0 0 (MQ below (QcR (some (.int q))) ([.ref (a0 0), .int p1] : List Value).toArray s 0 0 (fun _ => False)) (F0 m 139 ls []) := by
            intro n
            induction n with
            | zero => intro v5_17 v4_18 v3_19 hM; rw [L_X7_mayOf_139] at hM; exact nn hM
            | succ n ih139 =>
              intro v5_17 v4_18 v3_19 hM ls hl
              rw [L_X7_mayOf_139] at hM
              refine lv_iload hx hb dX7_mayOf_139 (lv_at hl 0 rfl) ?_
              refine lv_aload_n hx hb dX7_mayOf_141 rfl (lv_at hl 4 rfl) ?_
              refine wk_get hx hb hts hin_X7 hown hK hP 7 0 9 (.int (U0 9 0)) rfl rfl (by decide) (mi 7 rfl) rfl rfl dX7_mayOf_142 ?_
              refine lv_icmp_ge (tgt := 178) hx hb dX7_mayOf_145 (by decide) (fun c21 => ?_) (fun c21 => ?_)
              · replace hM := itp c21 hM
                obtain rfl := Option.some.inj hM
                exact hJ139 _ (lv_sub hl [2] rfl)
              · replace hM := itn c21 hM
                refine lv_iload hx hb dX7_mayOf_148 (lv_at hl 1 rfl) ?_
                refine lv_if_le (tgt := 178) hx hb dX7_mayOf_150 (by decide) (fun c22 => ?_) (fun c22 => ?_)
                · replace hM := itp c22 hM
                  obtain rfl := Option.some.inj hM
                  exact hJ139 _ (lv_sub hl [2] rfl)
                · replace hM := itn c22 hM
                  refine lv_iload_n hx hb dX7_mayOf_153 rfl (lv_at hl 3 rfl) ?_
                  refine lv_iload hx hb dX7_mayOf_154 (lv_at hl 0 rfl) ?_
                  refine rSR (wc := ([] : va_W)) (As := [.int q2, .int v5_17]) (rest := []) hS (c_X7_has l g q2 v5_17) gX7_mayOf_X7_has rfl hd_X7_has ⟨Nat.le_of_ble_eq_true rfl, Nat.le_of_ble_eq_true rfl⟩ hK (hP_nil) rfl hl.1 rfl (Nat.le_of_ble_eq_true rfl) dX7_mayOf_156 ⟨Nat.zero_le _, Nat.zero_le _⟩ ?_
                  have hJ57 : ∀ (x55 : Int32) (x56 : Int32) (ls : Array Slot), x55 = (if (f_X7_has q2 v5_17) = 0 then v4_18 else (v4_18 + (-1 : Int32))) → x56 = (if (f_X7_has q2 v5_17) = 0 then v3_19 else (v3_19 ||| ((1 : Int32) <<< (v5_17 &&& 31)))) → lv_has ls 6 [(5, .int v5_17), (4, .int x55), (3, .int x56), (2, .int q2), (0, .ref (a0 0))] → W p l e (headSpec wsX7_mayOf ({ frames := 1, cells := 0, slots := 0, locals := 21 } : Room)).room s m ([.ref (a0 0), .int p1] : List Value).toArray below meth c s.heap [] 0 0 (MQ below (QcR (some (.int q))) ([.ref (a0 0), .int p1] : List Value).toArray s 0 0 (fun _ => False)) (F0 m 172 ls []) := by
                    intro x55 x56 ls hxx55 hxx56 hl
                    subst hxx55
                    subst hxx56
                    refine lv_iinc (v := (v5_17 + (1 : Int32))) (lv' := [(5, .int (v5_17 + (1 : Int32))), (4, .int (if (f_X7_has q2 v5_17) = 0 then v4_18 else (v4_18 + (-1 : Int32)))), (3, .int (if (f_X7_has q2 v5_17) = 0 then v3_19 else (v3_19 ||| ((1 : Int32) <<< (v5_17 &&& 31))))), (2, .int q2), (0, .ref (a0 0))]) hx hb dX7_mayOf_172 hl (k := 0) rfl rfl (by decide) rfl (fun ls hl => ?_)
                    refine lv_goto (tgt := 139) hx hb dX7_mayOf_175 (by decide) ?_
                    exact ih139 (v5_17 + (1 : Int32)) (if (f_X7_has q2 v5_17) = 0 then v4_18 else (v4_18 + (-1 : Int32))) (if (f_X7_has q2 v5_17) = 0 then v3_19 else (v3_19 ||| ((1 : Int32) <<< (v5_17 &&& 31)))) hM _ (lv_sub hl [0, 1, 2, 3, 4] rfl)
                  refine lv_if_eq (tgt := 172) hx hb dX7_mayOf_159 (by decide) (fun c24 => ?_) (fun c24 => ?_)
                  · exact hJ57 _ _ _ (by first | with_reducible rfl | (simp only [if_pos c24]) | rfl) (by first | with_reducible rfl | (simp only [if_pos c24]) | rfl) (lv_sub hl [0, 1, 2, 3, 4] rfl)
                  · refine lv_iload_n hx hb dX7_mayOf_162 rfl (lv_at hl 2 rfl) ?_
                    refine lv_iconst (v := (1 : Int32)) hx hb dX7_mayOf_163 (by decide) ?_
                    refine lv_iload hx hb dX7_mayOf_164 (lv_at hl 0 rfl) ?_
                    refine lv_ishl hx hb dX7_mayOf_166 ?_
                    refine lv_ior hx hb dX7_mayOf_167 ?_
                    refine lv_istore_n (lv' := [(3, .int (v3_19 ||| ((1 : Int32) <<< (v5_17 &&& 31)))), (5, .int v5_17), (4, .int v4_18), (2, .int q2), (0, .ref (a0 0))]) hx hb dX7_mayOf_168 rfl hl (by decide) rfl (fun ls hl => ?_)
                    refine lv_iinc (v := (v4_18 + (-1 : Int32))) (lv' := [(4, .int (v4_18 + (-1 : Int32))), (3, .int (v3_19 ||| ((1 : Int32) <<< (v5_17 &&& 31)))), (5, .int v5_17), (2, .int q2), (0, .ref (a0 0))]) hx hb dX7_mayOf_169 hl (k := 2) rfl rfl (by decide) rfl (fun ls hl => ?_)
                    exact hJ57 _ _ _ (by first | with_reducible rfl | (simp only [if_neg c24]) | rfl) (by first | with_reducible rfl | (simp only [if_neg c24]) | rfl) (lv_sub hl [2, 0, 1, 3, 4] rfl)
          exact hW139 300 (0 : Int32) ((U0 17) ((2 : Int32)).toNatClampNeg) (((if ((U0 11) (p1).toNatClampNeg) = (2 : Int32) then (f_X7_allSights U0) else (if ((U0 11) (p1).toNatClampNeg) = (3 : Int32) then (f_X7_allSights U0) else ((U0 15) (p1).toNatClampNeg))) &&& (q2 ^^^ (-1 : Int32))) &&& q11) hL139 _ (lv_sub hl [0, 1, 2, 3, 4] rfl)
      have hW60 : ∀ (n : Nat) (v5_9 : Int32) (v4_10 : Int32), L_X7_mayOf_60 U0 p1 n v5_9 v4_10 = some q11 → ∀ (ls : Array Slot), lv_has ls 6 [(5, .int v5_9), (4, .int v4_10), (3, .int ((if ((U0 11) (p1).toNatClampNeg) = (2 : Int32) then (f_X7_allSights U0) else (if ((U0 11) (p1).toNatClampNeg) = (3 : Int32) then (f_X7_allSights U0) else ((U0 15) (p1).toNatClampNeg))) &&& (q2 ^^^ (-1 : Int32)))), (2, .int q2), (0, .ref (a0 0)), (1, .int p1)] → W p l e (headSpec wsX7_mayOf ({ frames := 1, cells := 0, slots := 0, locals := 21 } : Room)).room s m ([.ref (a0 0), .int p1] : List Value).toArray below meth c s.heap [] 0 0 (MQ below (QcR (some (.int q))) ([.ref (a0 0), .int p1] : List Value).toArray s 0 0 (fun _ => False)) (F0 m 60 ls []) := by
        intro n
        induction n with
        | zero => intro v5_9 v4_10 hM; rw [L_X7_mayOf_60] at hM; exact nn hM
        | succ n ih60 =>
          intro v5_9 v4_10 hM ls hl
          rw [L_X7_mayOf_60] at hM
          refine lv_iload hx hb dX7_mayOf_60 (lv_at hl 0 rfl) ?_
          refine lv_aload_n hx hb dX7_mayOf_62 rfl (lv_at hl 4 rfl) ?_
          refine wk_get hx hb hts hin_X7 hown hK hP 7 0 10 (.int (U0 10 0)) rfl rfl (by decide) (mi 3 rfl) rfl rfl dX7_mayOf_63 ?_
          refine lv_icmp_ge (tgt := 113) hx hb dX7_mayOf_66 (by decide) (fun c12 => ?_) (fun c12 => ?_)
          · replace hM := itp c12 hM
            obtain rfl := Option.some.inj hM
            exact hJ60 _ (lv_sub hl [1, 2, 3, 4, 5] rfl)
          · replace hM := itn c12 hM
            refine lv_iload hx hb dX7_mayOf_69 (lv_at hl 1 rfl) ?_
            refine lv_aload_n hx hb dX7_mayOf_71 rfl (lv_at hl 4 rfl) ?_
            refine wk_get hx hb hts hin_X7 hown hK hP 7 0 16 (.ref (a0 6)) rfl rfl (by decide) (mi 4 rfl) rfl rfl dX7_mayOf_72 ?_
            refine lv_iload_n hx hb dX7_mayOf_75 rfl (lv_at hl 5 rfl) ?_
            refine wk_iald hx hb hK hP 6 7 (U0 16) rfl k3 dX7_mayOf_76 ?_
            refine lv_iload hx hb dX7_mayOf_77 (lv_at hl 0 rfl) ?_
            refine rSR (wc := ([] : va_W)) (As := [.int ((U0 16) (p1).toNatClampNeg), .int v5_9]) (rest := [.int v4_10]) hS (c_X7_has l g ((U0 16) (p1).toNatClampNeg) v5_9) gX7_mayOf_X7_has rfl hd_X7_has ⟨Nat.le_of_ble_eq_true rfl, Nat.le_of_ble_eq_true rfl⟩ hK (hP_nil) rfl hl.1 rfl (Nat.le_of_ble_eq_true rfl) dX7_mayOf_79 ⟨Nat.zero_le _, Nat.zero_le _⟩ ?_
            refine lv_if_eq (tgt := 103) hx hb dX7_mayOf_82 (by decide) (fun c14 => ?_) (fun c14 => ?_)
            · replace hM := itp c14 hM
              refine lv_iconst (v := (0 : Int32)) hx hb dX7_mayOf_103 (by decide) ?_
              refine lv_ior hx hb dX7_mayOf_104 ?_
              refine lv_istore (lv' := [(4, .int (v4_10 ||| (0 : Int32))), (5, .int v5_9), (3, .int ((if ((U0 11) (p1).toNatClampNeg) = (2 : Int32) then (f_X7_allSights U0) else (if ((U0 11) (p1).toNatClampNeg) = (3 : Int32) then (f_X7_allSights U0) else ((U0 15) (p1).toNatClampNeg))) &&& (q2 ^^^ (-1 : Int32)))), (2, .int q2), (0, .ref (a0 0)), (1, .int p1)]) hx hb dX7_mayOf_105 hl (by decide) rfl (fun ls hl => ?_)
              refine lv_iinc (v := (v5_9 + (1 : Int32))) (lv' := [(5, .int (v5_9 + (1 : Int32))), (4, .int (v4_10 ||| (0 : Int32))), (3, .int ((if ((U0 11) (p1).toNatClampNeg) = (2 : Int32) then (f_X7_allSights U0) else (if ((U0 11) (p1).toNatClampNeg) = (3 : Int32) then (f_X7_allSights U0) else ((U0 15) (p1).toNatClampNeg))) &&& (q2 ^^^ (-1 : Int32)))), (2, .int q2), (0, .ref (a0 0)), (1, .int p1)]) hx hb dX7_mayOf_107 hl (k := 1) rfl rfl (by decide) rfl (fun ls hl => ?_)
              refine lv_goto (tgt := 60) hx hb dX7_mayOf_110 (by decide) ?_
              exact ih60 (v5_9 + (1 : Int32)) (v4_10 ||| (0 : Int32)) hM _ (lv_sub hl [0, 1, 2, 3, 4, 5] rfl)
            · replace hM := itn c14 hM
              refine lv_aload_n hx hb dX7_mayOf_85 rfl (lv_at hl 4 rfl) ?_
              refine wk_get hx hb hts hin_X7 hown hK hP 7 0 15 (.ref (a0 5)) rfl rfl (by decide) (mi 2 rfl) rfl rfl dX7_mayOf_86 ?_
              refine lv_iload hx hb dX7_mayOf_89 (lv_at hl 0 rfl) ?_
              obtain ⟨k15, hM⟩ := ck hM
              refine wk_iald hx hb hK hP 5 7 (U0 15) rfl k15 dX7_mayOf_91 ?_
              refine lv_aload_n hx hb dX7_mayOf_92 rfl (lv_at hl 4 rfl) ?_
              refine wk_get hx hb hts hin_X7 hown hK hP 7 0 13 (.ref (a0 3)) rfl rfl (by decide) (mi 5 rfl) rfl rfl dX7_mayOf_93 ?_
              refine lv_iload hx hb dX7_mayOf_96 (lv_at hl 0 rfl) ?_
              refine wk_iald hx hb hK hP 3 7 (U0 13) rfl k15 dX7_mayOf_98 ?_
              refine lv_ior hx hb dX7_mayOf_99 ?_
              refine lv_goto (tgt := 104) hx hb dX7_mayOf_100 (by decide) ?_
              refine lv_ior hx hb dX7_mayOf_104 ?_
              refine lv_istore (lv' := [(4, .int (v4_10 ||| (((U0 15) (v5_9).toNatClampNeg) ||| ((U0 13) (v5_9).toNatClampNeg)))), (5, .int v5_9), (3, .int ((if ((U0 11) (p1).toNatClampNeg) = (2 : Int32) then (f_X7_allSights U0) else (if ((U0 11) (p1).toNatClampNeg) = (3 : Int32) then (f_X7_allSights U0) else ((U0 15) (p1).toNatClampNeg))) &&& (q2 ^^^ (-1 : Int32)))), (2, .int q2), (0, .ref (a0 0)), (1, .int p1)]) hx hb dX7_mayOf_105 hl (by decide) rfl (fun ls hl => ?_)
              refine lv_iinc (v := (v5_9 + (1 : Int32))) (lv' := [(5, .int (v5_9 + (1 : Int32))), (4, .int (v4_10 ||| (((U0 15) (v5_9).toNatClampNeg) ||| ((U0 13) (v5_9).toNatClampNeg)))), (3, .int ((if ((U0 11) (p1).toNatClampNeg) = (2 : Int32) then (f_X7_allSights U0) else (if ((U0 11) (p1).toNatClampNeg) = (3 : Int32) then (f_X7_allSights U0) else ((U0 15) (p1).toNatClampNeg))) &&& (q2 ^^^ (-1 : Int32)))), (2, .int q2), (0, .ref (a0 0)), (1, .int p1)]) hx hb dX7_mayOf_107 hl (k := 1) rfl rfl (by decide) rfl (fun ls hl => ?_)
              refine lv_goto (tgt := 60) hx hb dX7_mayOf_110 (by decide) ?_
              exact ih60 (v5_9 + (1 : Int32)) (v4_10 ||| (((U0 15) (v5_9).toNatClampNeg) ||| ((U0 13) (v5_9).toNatClampNeg))) hM _ (lv_sub hl [0, 1, 2, 3, 4, 5] rfl)
      exact hW60 300 (0 : Int32) (0 : Int32) hL60 _ (lv_sub hl [0, 1, 2, 3, 4, 5] rfl)
  refine lv_icmp_eq (tgt := 26) hx hb dX7_mayOf_13 (by decide) (fun c4 => ?_) (fun c4 => ?_)
  · refine lv_aload_n hx hb dX7_mayOf_26 rfl (lv_at hl 1 rfl) ?_
    refine rVR (wc := (wXT g a0 Fw0 U0)) (As := []) (rest := []) (q0 := 0) hS (c_X7_allSights l g a0 Fw0 U0) gX7_mayOf_X7_allSights rfl hd_X7_allSights ⟨Nat.le_of_ble_eq_true rfl, Nat.le_of_ble_eq_true rfl⟩ hK (va_P.pm hP (pm_1_0 _)) rfl rfl rfl rfl hl.1 rfl (Nat.le_of_ble_eq_true rfl) dX7_mayOf_27 ⟨Nat.zero_le _, Nat.zero_le _⟩ ?_
    refine lv_goto (tgt := 39) hx hb dX7_mayOf_30 (by decide) ?_
    exact hJ51 _ _ (by first | with_reducible rfl | (simp only [if_pos c4]) | rfl) (lv_sub hl [0, 1, 2] rfl)
  · refine lv_aload_n hx hb dX7_mayOf_16 rfl (lv_at hl 1 rfl) ?_
    refine wk_get hx hb hts hin_X7 hown hK hP 7 0 11 (.ref (a0 1)) rfl rfl (by decide) (mi 1 rfl) rfl rfl dX7_mayOf_17 ?_
    refine lv_iload_n hx hb dX7_mayOf_20 rfl (lv_at hl 2 rfl) ?_
    refine wk_iald hx hb hK hP 1 7 (U0 11) rfl k3 dX7_mayOf_21 ?_
    refine lv_iconst (v := (3 : Int32)) hx hb dX7_mayOf_22 (by decide) ?_
    refine lv_icmp_ne (tgt := 33) hx hb dX7_mayOf_23 (by decide) (fun c6 => ?_) (fun c6 => ?_)
    · refine lv_aload_n hx hb dX7_mayOf_33 rfl (lv_at hl 1 rfl) ?_
      refine wk_get hx hb hts hin_X7 hown hK hP 7 0 15 (.ref (a0 5)) rfl rfl (by decide) (mi 2 rfl) rfl rfl dX7_mayOf_34 ?_
      refine lv_iload_n hx hb dX7_mayOf_37 rfl (lv_at hl 2 rfl) ?_
      refine wk_iald hx hb hK hP 5 7 (U0 15) rfl k3 dX7_mayOf_38 ?_
      exact hJ51 _ _ (by first | with_reducible rfl | (simp only [if_neg c4, if_neg c6]) | rfl) (lv_sub hl [0, 1, 2] rfl)
    · refine lv_aload_n hx hb dX7_mayOf_26 rfl (lv_at hl 1 rfl) ?_
      refine rVR (wc := (wXT g a0 Fw0 U0)) (As := []) (rest := []) (q0 := 0) hS (c_X7_allSights l g a0 Fw0 U0) gX7_mayOf_X7_allSights rfl hd_X7_allSights ⟨Nat.le_of_ble_eq_true rfl, Nat.le_of_ble_eq_true rfl⟩ hK (va_P.pm hP (pm_1_0 _)) rfl rfl rfl rfl hl.1 rfl (Nat.le_of_ble_eq_true rfl) dX7_mayOf_27 ⟨Nat.zero_le _, Nat.zero_le _⟩ ?_
      refine lv_goto (tgt := 39) hx hb dX7_mayOf_30 (by decide) ?_
      exact hJ51 _ _ (by first | with_reducible rfl | (simp only [if_neg c4, if_pos c6]) | rfl) (lv_sub hl [0, 1, 2] rfl)
theorem hd_X7_bits : yX7_bits.cls ≠ "java/lang/invoke/MethodHandle" ∧ yX7_bits.cls ≠ "java/lang/invoke/VarHandle" ∧ (parseMethodDescriptor yX7_bits.desc).map (fun d => d.parameters.length) = some 1 := by decide +kernel
set_option maxHeartbeats 4000000 in
set_option maxRecDepth 100000 in
theorem c_X7_bits (l : Launch) (g : Gm) (p0 : Int32) {q : Int32} (hM : f_X7_bits p0 = some q) : MR l yX7_bits wsX7_bits 0 0 g [.int p0] ([] : va_W) (some (.int q)) := by
  refine Met.ofW (cc := cX7_bits) (maxL := 3) (ret := (some .int)) (by decide) rfl ?_
  intro p e s m args below meth c s₁ B hml hv
  obtain ⟨rfl, hP, hK⟩ := hv
  have hx := B.exec; have hb := B.bytes; have hr := B.returns
  have hts := atoms_spec (ws := wsX7_bits) B.pre
  have hown : s.vm.findClass RX7 = some m.cls := findClass_of_methodNamed B.named
  have hlocks := B.notSynchronized
  have hS : CallFix p m c cX7_bits 3 s _ wsX7_bits RX7 := ⟨hx, hb, hml, hown, hts⟩
  have hl := lv_entry ([.int p0]) (n := 3) (Nat.le_of_ble_eq_true rfl)
  rw [lg_entry_eq]
  generalize (lg_sl ([.int p0]) ++ List.replicate (3 - (lg_sl ([.int p0])).length) Slot.unset).toArray = ls at hl ⊢
  have hl : lv_has ls 3 [(0, .int p0)] := hl
  rw [f_X7_bits] at hM
  refine lv_iconst (v := (0 : Int32)) hx hb dX7_bits_0 (by decide) ?_
  refine lv_istore_n (lv' := [(1, .int (0 : Int32)), (0, .int p0)]) hx hb dX7_bits_1 rfl hl (by decide) rfl (fun ls hl => ?_)
  refine lv_iconst (v := (0 : Int32)) hx hb dX7_bits_2 (by decide) ?_
  refine lv_istore_n (lv' := [(2, .int (0 : Int32)), (1, .int (0 : Int32)), (0, .int p0)]) hx hb dX7_bits_3 rfl hl (by decide) rfl (fun ls hl => ?_)
  obtain ⟨q3, hL4, hM⟩ := bd hM
  have hJ4 : ∀ (ls : Array Slot), lv_has ls 3 [(1, .int q3)] → W p l e (headSpec wsX7_bits ({ frames := 0, cells := 0, slots := 0, locals := 0 } : Room)).room s m ([.int p0] : List Value).toArray below meth c s.heap [] 0 0 (MQ below (QcR (some (.int q))) ([.int p0] : List Value).toArray s 0 0 (fun _ => False)) (F0 m 24 ls []) := by
    intro ls hl
    refine lv_iload_n hx hb dX7_bits_24 rfl (lv_at hl 0 rfl) ?_
    obtain rfl := Option.some.inj hM
    exact W.iret hx hb hr (fun t ht _ => ⟨rfl, ht⟩) (fun q hq => by cases hq) dX7_bits_25
  have hW4 : ∀ (n : Nat) (v2_1 : Int32) (v1_2 : Int32), L_X7_bits_4 p0 n v2_1 v1_2 = some q3 → ∀ (ls : Array Slot), lv_has ls 3 [(2, .int v2_1), (1, .int v1_2), (0, .int p0)] → W p l e (headSpec wsX7_bits ({ frames := 0, cells := 0, slots := 0, locals := 0 } : Room)).room s m ([.int p0] : List Value).toArray below meth c s.heap [] 0 0 (MQ below (QcR (some (.int q))) ([.int p0] : List Value).toArray s 0 0 (fun _ => False)) (F0 m 4 ls []) := by
    intro n
    induction n with
    | zero => intro v2_1 v1_2 hM; rw [L_X7_bits_4] at hM; exact nn hM
    | succ n ih4 =>
      intro v2_1 v1_2 hM ls hl
      rw [L_X7_bits_4] at hM
      refine lv_iload_n hx hb dX7_bits_4 rfl (lv_at hl 0 rfl) ?_
      refine lv_bipush (v := (8 : Int32)) hx hb dX7_bits_5 (by decide) ?_
      refine lv_icmp_ge (tgt := 24) hx hb dX7_bits_7 (by decide) (fun c4 => ?_) (fun c4 => ?_)
      · replace hM := itp c4 hM
        obtain rfl := Option.some.inj hM
        exact hJ4 _ (lv_sub hl [1] rfl)
      · replace hM := itn c4 hM
        refine lv_iload_n hx hb dX7_bits_10 rfl (lv_at hl 1 rfl) ?_
        refine lv_iload_n hx hb dX7_bits_11 rfl (lv_at hl 2 rfl) ?_
        refine lv_iload_n hx hb dX7_bits_12 rfl (lv_at hl 0 rfl) ?_
        refine lv_ishr hx hb dX7_bits_13 ?_
        refine lv_iconst (v := (1 : Int32)) hx hb dX7_bits_14 (by decide) ?_
        refine lv_iand hx hb dX7_bits_15 ?_
        refine lv_iadd hx hb dX7_bits_16 ?_
        refine lv_istore_n (lv' := [(1, .int (v1_2 + ((p0 >>> (v2_1 &&& 31)) &&& (1 : Int32)))), (2, .int v2_1), (0, .int p0)]) hx hb dX7_bits_17 rfl hl (by decide) rfl (fun ls hl => ?_)
        refine lv_iinc (v := (v2_1 + (1 : Int32))) (lv' := [(2, .int (v2_1 + (1 : Int32))), (1, .int (v1_2 + ((p0 >>> (v2_1 &&& 31)) &&& (1 : Int32)))), (0, .int p0)]) hx hb dX7_bits_18 hl (k := 1) rfl rfl (by decide) rfl (fun ls hl => ?_)
        refine lv_goto (tgt := 4) hx hb dX7_bits_21 (by decide) ?_
        exact ih4 (v2_1 + (1 : Int32)) (v1_2 + ((p0 >>> (v2_1 &&& 31)) &&& (1 : Int32))) hM _ (lv_sub hl [0, 1, 2] rfl)
  exact hW4 300 (0 : Int32) (0 : Int32) hL4 _ (lv_sub hl [0, 1, 2] rfl)
theorem hd_X7_isSaid : yX7_isSaid.cls = RX7 ∧ yX7_isSaid.cls ≠ "java/lang/invoke/MethodHandle" ∧ yX7_isSaid.cls ≠ "java/lang/invoke/VarHandle" ∧ (parseMethodDescriptor yX7_isSaid.desc).map (fun d => d.parameters.length) = some 2 := by decide +kernel
set_option maxHeartbeats 4000000 in
set_option maxRecDepth 100000 in
theorem c_X7_isSaid (l : Launch) (g : Gm) (a0 : Nat → Nat) (Fw0 : Nat → Value) (U0 : TS) (p1 : Int32) (p2 : Int32) {q : (Int32 × TS)} (hM : f_X7_isSaid U0 p1 p2 = some q) : MW l yX7_isSaid wsX7_isSaid 1 22 g [.ref (a0 0), .int p1, .int p2] (wXT g a0 Fw0 U0) (some (.int q.1)) (wXT g a0 Fw0 q.2) := by
  intro sz
  refine Met.ofW (cc := cX7_isSaid) (maxL := 5) (ret := (some .int)) (by decide) rfl ?_
  intro p e s m args below meth c s₁ B hml hv
  obtain ⟨rfl, hsz, hP, hK, hD0⟩ := hv
  have hx := B.exec; have hb := B.bytes; have hr := B.returns
  have hts := atoms_spec (ws := wsX7_isSaid) B.pre
  have hown : s.vm.findClass RX7 = some m.cls := findClass_of_methodNamed B.named
  have hlocks := B.notSynchronized
  have hS : CallFix p m c cX7_isSaid 5 s _ wsX7_isSaid RX7 := ⟨hx, hb, hml, hown, hts⟩
  have hin_X7 : ∀ w ∈ wsX70, w ∈ wsX7_isSaid := fun w h => (List.mem_cons_of_mem _ (List.mem_append_right _ h))
  subst hsz
  have hw := wk_start hP hD0
  have hA : ∀ q : Nat, s.heap.size ≤ q → va_A (wXT g a0 Fw0 U0) s.heap.size q := fun q h => Or.inr h
  generalize va_A (wXT g a0 Fw0 U0) s.heap.size = A at hw hA ⊢
  clear hP hD0
  have hl := lv_entry ([.ref (a0 0), .int p1, .int p2]) (n := 5) (Nat.le_of_ble_eq_true rfl)
  rw [lg_entry_eq]
  generalize (lg_sl ([.ref (a0 0), .int p1, .int p2]) ++ List.replicate (5 - (lg_sl ([.ref (a0 0), .int p1, .int p2])).length) Slot.unset).toArray = ls at hl ⊢
  have hl : lv_has ls 5 [(0, .ref (a0 0)), (1, .int p1), (2, .int p2)] := hl
  rw [f_X7_isSaid] at hM
  refine lv_iconst (v := (0 : Int32)) hx hb dX7_isSaid_0 (by decide) ?_
  refine lv_istore_n (lv' := [(3, .int (0 : Int32)), (0, .ref (a0 0)), (1, .int p1), (2, .int p2)]) hx hb dX7_isSaid_1 rfl hl (by decide) rfl (fun ls hl => ?_)
  refine lv_iconst (v := (0 : Int32)) hx hb dX7_isSaid_2 (by decide) ?_
  refine lv_istore (lv' := [(4, .int (0 : Int32)), (3, .int (0 : Int32)), (0, .ref (a0 0)), (1, .int p1), (2, .int p2)]) hx hb dX7_isSaid_3 hl (by decide) rfl (fun ls hl => ?_)
  obtain ⟨q4, hL5, hM⟩ := bd hM
  have hJ5 : ∀ (H : Heap) (locs : List Loc), Wk g A s.heap H locs (wXT g a0 Fw0 q4.2) → ∀ (ls : Array Slot), lv_has ls 5 [(3, .int q4.1)] → W p l e (headSpec wsX7_isSaid ({ frames := 1, cells := 0, slots := 0, locals := 22 } : Room)).room s m ([.ref (a0 0), .int p1, .int p2] : List Value).toArray below meth c H locs 0 0 (MQ below (QcW g (some (.int q.1)) (wXT g a0 Fw0 q.2) A) ([.ref (a0 0), .int p1, .int p2] : List Value).toArray s 0 0 A) (F0 m 62 ls []) := by
    intro H locs hw ls hl
    refine lv_iload_n hx hb dX7_isSaid_62 rfl (lv_at hl 0 rfl) ?_
    obtain rfl := Option.some.inj hM
    exact W.iret hx hb hr (fun t ht _ => ⟨rfl, by rw [ht]; exact hw.1, hw.2.2.F ht⟩) hw.2.2.2.2 dX7_isSaid_63
  have hW5 : ∀ (n : Nat) (v4_1 : Int32) (v3_2 : Int32) (UL3 : TS), L_X7_isSaid_5 p1 p2 n v4_1 v3_2 UL3 = some q4 → ∀ (H : Heap) (locs : List Loc), Wk g A s.heap H locs (wXT g a0 Fw0 UL3) → ∀ (ls : Array Slot), lv_has ls 5 [(4, .int v4_1), (3, .int v3_2), (0, .ref (a0 0)), (1, .int p1), (2, .int p2)] → W p l e (headSpec wsX7_isSaid ({ frames := 1, cells := 0, slots := 0, locals := 22 } : Room)).room s m ([.ref (a0 0), .int p1, .int p2] : List Value).toArray below meth c H locs 0 0 (MQ below (QcW g (some (.int q.1)) (wXT g a0 Fw0 q.2) A) ([.ref (a0 0), .int p1, .int p2] : List Value).toArray s 0 0 A) (F0 m 5 ls []) := by
    intro n
    induction n with
    | zero => intro v4_1 v3_2 UL3 hM; rw [L_X7_isSaid_5] at hM; exact nn hM
    | succ n ih5 =>
      intro v4_1 v3_2 UL3 hM H locs hw ls hl
      rw [L_X7_isSaid_5] at hM
      refine lv_iload hx hb dX7_isSaid_5 (lv_at hl 0 rfl) ?_
      refine lv_aload_n hx hb dX7_isSaid_7 rfl (lv_at hl 2 rfl) ?_
      refine wk_get hx hb hts hin_X7 hown hK hw.1 7 0 10 (.int (UL3 10 0)) rfl rfl (by decide) (mi 1 rfl) rfl rfl dX7_isSaid_8 ?_
      refine lv_icmp_ge (tgt := 62) hx hb dX7_isSaid_11 (by decide) (fun c5 => ?_) (fun c5 => ?_)
      · replace hM := itp c5 hM
        obtain rfl := Option.some.inj hM
        exact hJ5 _ _ hw _ (lv_sub hl [1] rfl)
      · replace hM := itn c5 hM
        refine lv_aload_n hx hb dX7_isSaid_14 rfl (lv_at hl 2 rfl) ?_
        refine wk_get hx hb hts hin_X7 hown hK hw.1 7 0 16 (.ref (a0 6)) rfl rfl (by decide) (mi 2 rfl) rfl rfl dX7_isSaid_15 ?_
        refine lv_iload hx hb dX7_isSaid_18 (lv_at hl 0 rfl) ?_
        obtain ⟨k6, hM⟩ := ck hM
        refine wk_iald hx hb hK hw.1 6 7 (UL3 16) rfl k6 dX7_isSaid_20 ?_
        refine lv_iload_n hx hb dX7_isSaid_21 rfl (lv_at hl 3 rfl) ?_
        refine rSR (wc := ([] : va_W)) (As := [.int ((UL3 16) (v4_1).toNatClampNeg), .int p1]) (rest := []) hS (c_X7_has l g ((UL3 16) (v4_1).toNatClampNeg) p1) gX7_isSaid_X7_has rfl hd_X7_has ⟨Nat.le_of_ble_eq_true rfl, Nat.le_of_ble_eq_true rfl⟩ hK (hP_nil) rfl hl.1 rfl (Nat.le_of_ble_eq_true rfl) dX7_isSaid_22 ⟨Nat.zero_le _, Nat.zero_le _⟩ ?_
        refine lv_if_eq (tgt := 56) hx hb dX7_isSaid_25 (by decide) (fun c8 => ?_) (fun c8 => ?_)
        · replace hM := itp c8 hM
          refine lv_iinc (v := (v4_1 + (1 : Int32))) (lv' := [(4, .int (v4_1 + (1 : Int32))), (3, .int v3_2), (0, .ref (a0 0)), (1, .int p1), (2, .int p2)]) hx hb dX7_isSaid_56 hl (k := 0) rfl rfl (by decide) rfl (fun ls hl => ?_)
          refine lv_goto (tgt := 5) hx hb dX7_isSaid_59 (by decide) ?_
          exact ih5 (v4_1 + (1 : Int32)) v3_2 UL3 hM _ _ hw _ (lv_sub hl [0, 1, 2, 3, 4] rfl)
        · replace hM := itn c8 hM
          refine lv_iload_n hx hb dX7_isSaid_28 rfl (lv_at hl 1 rfl) ?_
          refine lv_iload_n hx hb dX7_isSaid_29 rfl (lv_at hl 4 rfl) ?_
          refine lv_aload_n hx hb dX7_isSaid_30 rfl (lv_at hl 2 rfl) ?_
          refine wk_get hx hb hts hin_X7 hown hK hw.1 7 0 15 (.ref (a0 5)) rfl rfl (by decide) (mi 3 rfl) rfl rfl dX7_isSaid_31 ?_
          refine lv_iload hx hb dX7_isSaid_34 (lv_at hl 0 rfl) ?_
          refine wk_iald hx hb hK hw.1 5 7 (UL3 15) rfl k6 dX7_isSaid_36 ?_
          refine lv_iconst (v := (-1 : Int32)) hx hb dX7_isSaid_37 (by decide) ?_
          refine lv_ixor hx hb dX7_isSaid_38 ?_
          refine lv_iand hx hb dX7_isSaid_39 ?_
          obtain ⟨q10, h9, hM⟩ := bd hM
          refine rSR (wc := ([] : va_W)) (As := [.int (p2 &&& (((UL3 15) (v4_1).toNatClampNeg) ^^^ (-1 : Int32)))]) (rest := [.int v3_2]) hS (c_X7_bits l g (p2 &&& (((UL3 15) (v4_1).toNatClampNeg) ^^^ (-1 : Int32))) h9) gX7_isSaid_X7_bits rfl hd_X7_bits ⟨Nat.le_of_ble_eq_true rfl, Nat.le_of_ble_eq_true rfl⟩ hK (hP_nil) rfl hl.1 rfl (Nat.le_of_ble_eq_true rfl) dX7_isSaid_40 ⟨Nat.zero_le _, Nat.zero_le _⟩ ?_
          refine lv_iadd hx hb dX7_isSaid_43 ?_
          refine lv_istore_n (lv' := [(3, .int (v3_2 + q10)), (4, .int v4_1), (0, .ref (a0 0)), (1, .int p1), (2, .int p2)]) hx hb dX7_isSaid_44 rfl hl (by decide) rfl (fun ls hl => ?_)
          refine lv_aload_n hx hb dX7_isSaid_45 rfl (lv_at hl 2 rfl) ?_
          refine wk_get hx hb hts hin_X7 hown hK hw.1 7 0 15 (.ref (a0 5)) rfl rfl (by decide) (mi 3 rfl) rfl rfl dX7_isSaid_46 ?_
          refine lv_iload hx hb dX7_isSaid_49 (lv_at hl 1 rfl) ?_
          refine lv_dup2_11 hx hb dX7_isSaid_51 rfl rfl ?_
          refine wk_iald hx hb hK hw.1 5 7 (UL3 15) rfl k6 dX7_isSaid_52 ?_
          refine lv_iload_n hx hb dX7_isSaid_53 rfl (lv_at hl 4 rfl) ?_
          refine lv_ior hx hb dX7_isSaid_54 ?_
          refine wk_iast (wq := (wXT g a0 Fw0 (up UL3 15 (upd (UL3 15) (v4_1).toNatClampNeg (((UL3 15) (v4_1).toNatClampNeg) ||| p2))))) hx hb hK hw 5 7 (UL3 15) rfl k6 dX7_isSaid_55 rfl (fun H locs hw => ?_)
          refine lv_iinc (v := (v4_1 + (1 : Int32))) (lv' := [(4, .int (v4_1 + (1 : Int32))), (3, .int (v3_2 + q10)), (0, .ref (a0 0)), (1, .int p1), (2, .int p2)]) hx hb dX7_isSaid_56 hl (k := 1) rfl rfl (by decide) rfl (fun ls hl => ?_)
          refine lv_goto (tgt := 5) hx hb dX7_isSaid_59 (by decide) ?_
          exact ih5 (v4_1 + (1 : Int32)) (v3_2 + q10) (up UL3 15 (upd (UL3 15) (v4_1).toNatClampNeg (((UL3 15) (v4_1).toNatClampNeg) ||| p2))) hM _ _ hw _ (lv_sub hl [0, 1, 2, 3, 4] rfl)
  exact hW5 300 (0 : Int32) (0 : Int32) U0 hL5 _ _ hw _ (lv_sub hl [0, 1, 2, 3, 4] rfl)
theorem hd_X7_goesRound : yX7_goesRound.cls = RX7 ∧ yX7_goesRound.cls ≠ "java/lang/invoke/MethodHandle" ∧ yX7_goesRound.cls ≠ "java/lang/invoke/VarHandle" ∧ (parseMethodDescriptor yX7_goesRound.desc).map (fun d => d.parameters.length) = some 0 := by decide +kernel
set_option maxHeartbeats 4000000 in
set_option maxRecDepth 100000 in
theorem c_X7_goesRound (l : Launch) (g : Gm) (a0 : Nat → Nat) (Fw0 : Nat → Value) (U0 : TS) {q : (Int32 × TS)} (hM : f_X7_goesRound U0 = some q) : MW l yX7_goesRound wsX7_goesRound 2 46 g [.ref (a0 0)] (wXT g a0 Fw0 U0) (some (.int q.1)) (wXT g a0 Fw0 q.2) := by
  intro sz
  refine Met.ofW (cc := cX7_goesRound) (maxL := 6) (ret := (some .boolean)) (by decide) rfl ?_
  intro p e s m args below meth c s₁ B hml hv
  obtain ⟨rfl, hsz, hP, hK, hD0⟩ := hv
  have hx := B.exec; have hb := B.bytes; have hr := B.returns
  have hts := atoms_spec (ws := wsX7_goesRound) B.pre
  have hown : s.vm.findClass RX7 = some m.cls := findClass_of_methodNamed B.named
  have hlocks := B.notSynchronized
  have hS : CallFix p m c cX7_goesRound 6 s _ wsX7_goesRound RX7 := ⟨hx, hb, hml, hown, hts⟩
  have hin_X7 : ∀ w ∈ wsX70, w ∈ wsX7_goesRound := fun w h => (List.mem_cons_of_mem _ (List.mem_append_right _ h))
  subst hsz
  have hw := wk_start hP hD0
  have hA : ∀ q : Nat, s.heap.size ≤ q → va_A (wXT g a0 Fw0 U0) s.heap.size q := fun q h => Or.inr h
  generalize va_A (wXT g a0 Fw0 U0) s.heap.size = A at hw hA ⊢
  clear hP hD0
  have hl := lv_entry ([.ref (a0 0)]) (n := 6) (Nat.le_of_ble_eq_true rfl)
  rw [lg_entry_eq]
  generalize (lg_sl ([.ref (a0 0)]) ++ List.replicate (6 - (lg_sl ([.ref (a0 0)])).length) Slot.unset).toArray = ls at hl ⊢
  have hl : lv_has ls 6 [(0, .ref (a0 0))] := hl
  rw [f_X7_goesRound] at hM
  refine lv_iconst (v := (0 : Int32)) hx hb dX7_goesRound_0 (by decide) ?_
  refine lv_istore_n (lv' := [(1, .int (0 : Int32)), (0, .ref (a0 0))]) hx hb dX7_goesRound_1 rfl hl (by decide) rfl (fun ls hl => ?_)
  refine lv_iconst (v := (0 : Int32)) hx hb dX7_goesRound_2 (by decide) ?_
  refine lv_istore_n (lv' := [(2, .int (0 : Int32)), (1, .int (0 : Int32)), (0, .ref (a0 0))]) hx hb dX7_goesRound_3 rfl hl (by decide) rfl (fun ls hl => ?_)
  obtain ⟨q3, hL4, hM⟩ := bd hM
  have hJ4 : ∀ (H : Heap) (locs : List Loc), Wk g A s.heap H locs (wXT g a0 Fw0 q3) → ∀ (ls : Array Slot), lv_has ls 6 [(1, .int (0 : Int32)), (0, .ref (a0 0))] → W p l e (headSpec wsX7_goesRound ({ frames := 2, cells := 0, slots := 0, locals := 46 } : Room)).room s m ([.ref (a0 0)] : List Value).toArray below meth c H locs 0 0 (MQ below (QcW g (some (.int q.1)) (wXT g a0 Fw0 q.2) A) ([.ref (a0 0)] : List Value).toArray s 0 0 A) (F0 m 29 ls []) := by
    intro H locs hw ls hl
    refine lv_iconst (v := (0 : Int32)) hx hb dX7_goesRound_29 (by decide) ?_
    refine lv_istore_n (lv' := [(2, .int (0 : Int32)), (1, .int (0 : Int32)), (0, .ref (a0 0))]) hx hb dX7_goesRound_30 rfl hl (by decide) rfl (fun ls hl => ?_)
    obtain ⟨q11, hL31, hM⟩ := bd hM
    have hJ31 : ∀ (H : Heap) (locs : List Loc), Wk g A s.heap H locs (wXT g a0 Fw0 q11.2) → ∀ (ls : Array Slot), lv_has ls 6 [(1, .int q11.1), (0, .ref (a0 0))] → W p l e (headSpec wsX7_goesRound ({ frames := 2, cells := 0, slots := 0, locals := 46 } : Room)).room s m ([.ref (a0 0)] : List Value).toArray below meth c H locs 0 0 (MQ below (QcW g (some (.int q.1)) (wXT g a0 Fw0 q.2) A) ([.ref (a0 0)] : List Value).toArray s 0 0 A) (F0 m 67 ls []) := by
      intro H locs hw ls hl
      refine lv_aload_n hx hb dX7_goesRound_67 rfl (lv_at hl 1 rfl) ?_
      refine wk_get hx hb hts hin_X7 hown hK hw.1 7 0 17 (.ref (a0 7)) rfl rfl (by decide) (mi 3 rfl) rfl rfl dX7_goesRound_68 ?_
      refine lv_iconst (v := (1 : Int32)) hx hb dX7_goesRound_71 (by decide) ?_
      refine wk_iald hx hb hK hw.1 7 3 (q11.2 17) rfl (by decide) dX7_goesRound_72 ?_
      refine lv_istore_n (lv' := [(2, .int ((q11.2 17) ((1 : Int32)).toNatClampNeg)), (1, .int q11.1), (0, .ref (a0 0))]) hx hb dX7_goesRound_73 rfl hl (by decide) rfl (fun ls hl => ?_)
      refine lv_iconst (v := (0 : Int32)) hx hb dX7_goesRound_74 (by decide) ?_
      refine lv_istore_n (lv' := [(3, .int (0 : Int32)), (2, .int ((q11.2 17) ((1 : Int32)).toNatClampNeg)), (1, .int q11.1), (0, .ref (a0 0))]) hx hb dX7_goesRound_75 rfl hl (by decide) rfl (fun ls hl => ?_)
      obtain ⟨q21, hL76, hM⟩ := bd hM
      have hJ76 : ∀ (H : Heap) (locs : List Loc), Wk g A s.heap H locs (wXT g a0 Fw0 q21.2) → ∀ (ls : Array Slot), lv_has ls 6 [(1, .int q21.1)] → W p l e (headSpec wsX7_goesRound ({ frames := 2, cells := 0, slots := 0, locals := 46 } : Room)).room s m ([.ref (a0 0)] : List Value).toArray below meth c H locs 0 0 (MQ below (QcW g (some (.int q.1)) (wXT g a0 Fw0 q.2) A) ([.ref (a0 0)] : List Value).toArray s 0 0 A) (F0 m 192 ls []) := by
        intro H locs hw ls hl
        refine lv_iload_n hx hb dX7_goesRound_192 rfl (lv_at hl 0 rfl) ?_
        obtain ⟨k44, hM⟩ := ck hM
        obtain rfl := Option.some.inj hM
        exact W.zret hx hb hr (nz (Decidable.not_not.mp k44)) (fun t ht _ => ⟨rfl, by rw [ht]; exact hw.1, hw.2.2.F ht⟩) hw.2.2.2.2 dX7_goesRound_193
      have hW76 : ∀ (n : Nat) (v3_17 : Int32) (v2_18 : Int32) (v1_19 : Int32) (UL20 : TS), L_X7_goesRound_76 n v3_17 v2_18 v1_19 UL20 = some q21 → ∀ (H : Heap) (locs : List Loc), Wk g A s.heap H locs (wXT g a0 Fw0 UL20) → ∀ (ls : Array Slot), lv_has ls 6 [(3, .int v3_17), (2, .int v2_18), (1, .int v1_19), (0, .ref (a0 0))] → W p l e (headSpec wsX7_goesRound ({ frames := 2, cells := 0, slots := 0, locals := 46 } : Room)).room s m ([.ref (a0 0)] : List Value).toArray below meth c H locs 0 0 (MQ below (QcW g (some (.int q.1)) (wXT g a0 Fw0 q.2) A) ([.ref (a0 0)] : List Value).toArray s 0 0 A) (F0 m 76 ls []) := by
        intro n
        induction n with
        | zero => intro v3_17 v2_18 v1_19 UL20 hM; rw [L_X7_goesRound_76] at hM; exact nn hM
        | succ n ih76 =>
          intro v3_17 v2_18 v1_19 UL20 hM H locs hw ls hl
          rw [L_X7_goesRound_76] at hM
          refine lv_iload_n hx hb dX7_goesRound_76 rfl (lv_at hl 0 rfl) ?_
          refine lv_aload_n hx hb dX7_goesRound_77 rfl (lv_at hl 3 rfl) ?_
          refine wk_get hx hb hts hin_X7 hown hK hw.1 7 0 10 (.int (UL20 10 0)) rfl rfl (by decide) (mi 1 rfl) rfl rfl dX7_goesRound_78 ?_
          refine lv_icmp_ge (tgt := 192) hx hb dX7_goesRound_81 (by decide) (fun c22 => ?_) (fun c22 => ?_)
          · replace hM := itp c22 hM
            obtain rfl := Option.some.inj hM
            exact hJ76 _ _ hw _ (lv_sub hl [2] rfl)
          · replace hM := itn c22 hM
            refine lv_iconst (v := (0 : Int32)) hx hb dX7_goesRound_84 (by decide) ?_
            refine lv_istore (lv' := [(4, .int (0 : Int32)), (3, .int v3_17), (2, .int v2_18), (1, .int v1_19), (0, .ref (a0 0))]) hx hb dX7_goesRound_85 hl (by decide) rfl (fun ls hl => ?_)
            obtain ⟨q27, hL87, hM⟩ := bd hM
            have hJ87 : ∀ (H : Heap) (locs : List Loc), Wk g A s.heap H locs (wXT g a0 Fw0 q27.2.2) → ∀ (ls : Array Slot), lv_has ls 6 [(3, .int v3_17), (2, .int q27.1), (1, .int q27.2.1), (0, .ref (a0 0))] → W p l e (headSpec wsX7_goesRound ({ frames := 2, cells := 0, slots := 0, locals := 46 } : Room)).room s m ([.ref (a0 0)] : List Value).toArray below meth c H locs 0 0 (MQ below (QcW g (some (.int q.1)) (wXT g a0 Fw0 q.2) A) ([.ref (a0 0)] : List Value).toArray s 0 0 A) (F0 m 186 ls []) := by
              intro H locs hw ls hl
              refine lv_iinc (v := (v3_17 + (1 : Int32))) (lv' := [(3, .int (v3_17 + (1 : Int32))), (2, .int q27.1), (1, .int q27.2.1), (0, .ref (a0 0))]) hx hb dX7_goesRound_186 hl (k := 0) rfl rfl (by decide) rfl (fun ls hl => ?_)
              refine lv_goto (tgt := 76) hx hb dX7_goesRound_189 (by decide) ?_
              exact ih76 (v3_17 + (1 : Int32)) q27.1 q27.2.1 q27.2.2 hM _ _ hw _ (lv_sub hl [0, 1, 2, 3] rfl)
            have hW87 : ∀ (n : Nat) (v4_23 : Int32) (v2_24 : Int32) (v1_25 : Int32) (UL26 : TS), L_X7_goesRound_87 v3_17 n v4_23 v2_24 v1_25 UL26 = some q27 → ∀ (H : Heap) (locs : List Loc), Wk g A s.heap H locs (wXT g a0 Fw0 UL26) → ∀ (ls : Array Slot), lv_has ls 6 [(4, .int v4_23), (3, .int v3_17), (2, .int v2_24), (1, .int v1_25), (0, .ref (a0 0))] → W p l e (headSpec wsX7_goesRound ({ frames := 2, cells := 0, slots := 0, locals := 46 } : Room)).room s m ([.ref (a0 0)] : List Value).toArray below meth c H locs 0 0 (MQ below (QcW g (some (.int q.1)) (wXT g a0 Fw0 q.2) A) ([.ref (a0 0)] : List Value).toArray s 0 0 A) (F0 m 87 ls []) := by
              intro n
              induction n with
              | zero => intro v4_23 v2_24 v1_25 UL26 hM; rw [L_X7_goesRound_87] at hM; exact nn hM
              | succ n ih87 =>
                intro v4_23 v2_24 v1_25 UL26 hM H locs hw ls hl
                rw [L_X7_goesRound_87] at hM
                refine lv_iload hx hb dX7_goesRound_87 (lv_at hl 0 rfl) ?_
                refine lv_aload_n hx hb dX7_goesRound_89 rfl (lv_at hl 4 rfl) ?_
                refine wk_get hx hb hts hin_X7 hown hK hw.1 7 0 10 (.int (UL26 10 0)) rfl rfl (by decide) (mi 1 rfl) rfl rfl dX7_goesRound_90 ?_
                refine lv_icmp_ge (tgt := 186) hx hb dX7_goesRound_93 (by decide) (fun c28 => ?_) (fun c28 => ?_)
                · replace hM := itp c28 hM
                  obtain rfl := Option.some.inj hM
                  exact hJ87 _ _ hw _ (lv_sub hl [1, 2, 3, 4] rfl)
                · replace hM := itn c28 hM
                  refine lv_iconst (v := (0 : Int32)) hx hb dX7_goesRound_96 (by decide) ?_
                  refine lv_istore (lv' := [(5, .int (0 : Int32)), (4, .int v4_23), (3, .int v3_17), (2, .int v2_24), (1, .int v1_25), (0, .ref (a0 0))]) hx hb dX7_goesRound_97 hl (by decide) rfl (fun ls hl => ?_)
                  obtain ⟨q33, hL99, hM⟩ := bd hM
                  have hJ99 : ∀ (H : Heap) (locs : List Loc), Wk g A s.heap H locs (wXT g a0 Fw0 q33.2.2) → ∀ (ls : Array Slot), lv_has ls 6 [(4, .int v4_23), (3, .int v3_17), (2, .int q33.1), (1, .int q33.2.1), (0, .ref (a0 0))] → W p l e (headSpec wsX7_goesRound ({ frames := 2, cells := 0, slots := 0, locals := 46 } : Room)).room s m ([.ref (a0 0)] : List Value).toArray below meth c H locs 0 0 (MQ below (QcW g (some (.int q.1)) (wXT g a0 Fw0 q.2) A) ([.ref (a0 0)] : List Value).toArray s 0 0 A) (F0 m 180 ls []) := by
                    intro H locs hw ls hl
                    refine lv_iinc (v := (v4_23 + (1 : Int32))) (lv' := [(4, .int (v4_23 + (1 : Int32))), (3, .int v3_17), (2, .int q33.1), (1, .int q33.2.1), (0, .ref (a0 0))]) hx hb dX7_goesRound_180 hl (k := 0) rfl rfl (by decide) rfl (fun ls hl => ?_)
                    refine lv_goto (tgt := 87) hx hb dX7_goesRound_183 (by decide) ?_
                    exact ih87 (v4_23 + (1 : Int32)) q33.1 q33.2.1 q33.2.2 hM _ _ hw _ (lv_sub hl [0, 1, 2, 3, 4] rfl)
                  have hW99 : ∀ (n : Nat) (v5_29 : Int32) (v2_30 : Int32) (v1_31 : Int32) (UL32 : TS), L_X7_goesRound_99 v3_17 v4_23 n v5_29 v2_30 v1_31 UL32 = some q33 → ∀ (H : Heap) (locs : List Loc), Wk g A s.heap H locs (wXT g a0 Fw0 UL32) → ∀ (ls : Array Slot), lv_has ls 6 [(5, .int v5_29), (4, .int v4_23), (3, .int v3_17), (2, .int v2_30), (1, .int v1_31), (0, .ref (a0 0))] → W p l e (headSpec wsX7_goesRound ({ frames := 2, cells := 0, slots := 0, locals := 46 } : Room)).room s m ([.ref (a0 0)] : List Value).toArray below meth c H locs 0 0 (MQ below (QcW g (some (.int q.1)) (wXT g a0 Fw0 q.2) A) ([.ref (a0 0)] : List Value).toArray s 0 0 A) (F0 m 99 ls []) := by
                    intro n
                    induction n with
                    | zero => intro v5_29 v2_30 v1_31 UL32 hM; rw [L_X7_goesRound_99] at hM; exact nn hM
                    | succ n ih99 =>
                      intro v5_29 v2_30 v1_31 UL32 hM H locs hw ls hl
                      rw [L_X7_goesRound_99] at hM
                      refine lv_iload hx hb dX7_goesRound_99 (lv_at hl 0 rfl) ?_
                      refine lv_aload_n hx hb dX7_goesRound_101 rfl (lv_at hl 5 rfl) ?_
                      refine wk_get hx hb hts hin_X7 hown hK hw.1 7 0 9 (.int (UL32 9 0)) rfl rfl (by decide) (mi 4 rfl) rfl rfl dX7_goesRound_102 ?_
                      refine lv_icmp_ge (tgt := 180) hx hb dX7_goesRound_105 (by decide) (fun c34 => ?_) (fun c34 => ?_)
                      · replace hM := itp c34 hM
                        obtain rfl := Option.some.inj hM
                        exact hJ99 _ _ hw _ (lv_sub hl [1, 2, 3, 4, 5] rfl)
                      · replace hM := itn c34 hM
                        refine lv_aload_n hx hb dX7_goesRound_108 rfl (lv_at hl 5 rfl) ?_
                        refine wk_get hx hb hts hin_X7 hown hK hw.1 7 0 16 (.ref (a0 6)) rfl rfl (by decide) (mi 5 rfl) rfl rfl dX7_goesRound_109 ?_
                        refine lv_iload hx hb dX7_goesRound_112 (lv_at hl 1 rfl) ?_
                        obtain ⟨k35, hM⟩ := ck hM
                        refine wk_iald hx hb hK hw.1 6 7 (UL32 16) rfl k35 dX7_goesRound_114 ?_
                        refine lv_iload_n hx hb dX7_goesRound_115 rfl (lv_at hl 2 rfl) ?_
                        refine rSR (wc := ([] : va_W)) (As := [.int ((UL32 16) (v4_23).toNatClampNeg), .int v3_17]) (rest := []) hS (c_X7_has l g ((UL32 16) (v4_23).toNatClampNeg) v3_17) gX7_goesRound_X7_has rfl hd_X7_has ⟨Nat.le_of_ble_eq_true rfl, Nat.le_of_ble_eq_true rfl⟩ hK (hP_nil) rfl hl.1 rfl (Nat.le_of_ble_eq_true rfl) dX7_goesRound_116 ⟨Nat.zero_le _, Nat.zero_le _⟩ ?_
                        refine lv_if_eq (tgt := 180) hx hb dX7_goesRound_119 (by decide) (fun c37 => ?_) (fun c37 => ?_)
                        · replace hM := itp c37 hM
                          obtain rfl := Option.some.inj hM
                          exact hJ99 _ _ hw _ (lv_sub hl [1, 2, 3, 4, 5] rfl)
                        · replace hM := itn c37 hM
                          refine lv_iload_n hx hb dX7_goesRound_122 rfl (lv_at hl 3 rfl) ?_
                          refine lv_if_le (tgt := 174) hx hb dX7_goesRound_123 (by decide) (fun c38 => ?_) (fun c38 => ?_)
                          · replace hM := itp c38 hM
                            refine lv_iinc (v := (v5_29 + (1 : Int32))) (lv' := [(5, .int (v5_29 + (1 : Int32))), (4, .int v4_23), (3, .int v3_17), (2, .int v2_30), (1, .int v1_31), (0, .ref (a0 0))]) hx hb dX7_goesRound_174 hl (k := 0) rfl rfl (by decide) rfl (fun ls hl => ?_)
                            refine lv_goto (tgt := 99) hx hb dX7_goesRound_177 (by decide) ?_
                            exact ih99 (v5_29 + (1 : Int32)) v2_30 v1_31 UL32 hM _ _ hw _ (lv_sub hl [0, 1, 2, 3, 4, 5] rfl)
                          · replace hM := itn c38 hM
                            refine lv_aload_n hx hb dX7_goesRound_126 rfl (lv_at hl 5 rfl) ?_
                            refine wk_get hx hb hts hin_X7 hown hK hw.1 7 0 13 (.ref (a0 3)) rfl rfl (by decide) (mi 6 rfl) rfl rfl dX7_goesRound_127 ?_
                            refine lv_iload_n hx hb dX7_goesRound_130 rfl (lv_at hl 2 rfl) ?_
                            obtain ⟨k39, hM⟩ := ck hM
                            refine wk_iald hx hb hK hw.1 3 7 (UL32 13) rfl k39 dX7_goesRound_131 ?_
                            refine lv_iload hx hb dX7_goesRound_132 (lv_at hl 0 rfl) ?_
                            refine rSR (wc := ([] : va_W)) (As := [.int ((UL32 13) (v3_17).toNatClampNeg), .int v5_29]) (rest := []) hS (c_X7_has l g ((UL32 13) (v3_17).toNatClampNeg) v5_29) gX7_goesRound_X7_has rfl hd_X7_has ⟨Nat.le_of_ble_eq_true rfl, Nat.le_of_ble_eq_true rfl⟩ hK (hP_nil) rfl hl.1 rfl (Nat.le_of_ble_eq_true rfl) dX7_goesRound_134 ⟨Nat.zero_le _, Nat.zero_le _⟩ ?_
                            refine lv_if_eq (tgt := 174) hx hb dX7_goesRound_137 (by decide) (fun c41 => ?_) (fun c41 => ?_)
                            · replace hM := itp c41 hM
                              refine lv_iinc (v := (v5_29 + (1 : Int32))) (lv' := [(5, .int (v5_29 + (1 : Int32))), (4, .int v4_23), (3, .int v3_17), (2, .int v2_30), (1, .int v1_31), (0, .ref (a0 0))]) hx hb dX7_goesRound_174 hl (k := 0) rfl rfl (by decide) rfl (fun ls hl => ?_)
                              refine lv_goto (tgt := 99) hx hb dX7_goesRound_177 (by decide) ?_
                              exact ih99 (v5_29 + (1 : Int32)) v2_30 v1_31 UL32 hM _ _ hw _ (lv_sub hl [0, 1, 2, 3, 4, 5] rfl)
                            · replace hM := itn c41 hM
                              refine lv_aload_n hx hb dX7_goesRound_140 rfl (lv_at hl 5 rfl) ?_
                              refine wk_get hx hb hts hin_X7 hown hK hw.1 7 0 15 (.ref (a0 5)) rfl rfl (by decide) (mi 7 rfl) rfl rfl dX7_goesRound_141 ?_
                              refine lv_iload hx hb dX7_goesRound_144 (lv_at hl 1 rfl) ?_
                              refine wk_iald hx hb hK hw.1 5 7 (UL32 15) rfl k35 dX7_goesRound_146 ?_
                              refine lv_iload hx hb dX7_goesRound_147 (lv_at hl 0 rfl) ?_
                              refine rSR (wc := ([] : va_W)) (As := [.int ((UL32 15) (v4_23).toNatClampNeg), .int v5_29]) (rest := []) hS (c_X7_has l g ((UL32 15) (v4_23).toNatClampNeg) v5_29) gX7_goesRound_X7_has rfl hd_X7_has ⟨Nat.le_of_ble_eq_true rfl, Nat.le_of_ble_eq_true rfl⟩ hK (hP_nil) rfl hl.1 rfl (Nat.le_of_ble_eq_true rfl) dX7_goesRound_149 ⟨Nat.zero_le _, Nat.zero_le _⟩ ?_
                              refine lv_if_ne (tgt := 174) hx hb dX7_goesRound_152 (by decide) (fun c43 => ?_) (fun c43 => ?_)
                              · replace hM := itn c43 hM
                                refine lv_iinc (v := (v5_29 + (1 : Int32))) (lv' := [(5, .int (v5_29 + (1 : Int32))), (4, .int v4_23), (3, .int v3_17), (2, .int v2_30), (1, .int v1_31), (0, .ref (a0 0))]) hx hb dX7_goesRound_174 hl (k := 0) rfl rfl (by decide) rfl (fun ls hl => ?_)
                                refine lv_goto (tgt := 99) hx hb dX7_goesRound_177 (by decide) ?_
                                exact ih99 (v5_29 + (1 : Int32)) v2_30 v1_31 UL32 hM _ _ hw _ (lv_sub hl [0, 1, 2, 3, 4, 5] rfl)
                              · replace hM := itp c43 hM
                                refine lv_aload_n hx hb dX7_goesRound_155 rfl (lv_at hl 5 rfl) ?_
                                refine wk_get hx hb hts hin_X7 hown hK hw.1 7 0 15 (.ref (a0 5)) rfl rfl (by decide) (mi 7 rfl) rfl rfl dX7_goesRound_156 ?_
                                refine lv_iload hx hb dX7_goesRound_159 (lv_at hl 1 rfl) ?_
                                refine lv_dup2_11 hx hb dX7_goesRound_161 rfl rfl ?_
                                refine wk_iald hx hb hK hw.1 5 7 (UL32 15) rfl k35 dX7_goesRound_162 ?_
                                refine lv_iconst (v := (1 : Int32)) hx hb dX7_goesRound_163 (by decide) ?_
                                refine lv_iload hx hb dX7_goesRound_164 (lv_at hl 0 rfl) ?_
                                refine lv_ishl hx hb dX7_goesRound_166 ?_
                                refine lv_ior hx hb dX7_goesRound_167 ?_
                                refine wk_iast (wq := (wXT g a0 Fw0 (up UL32 15 (upd (UL32 15) (v4_23).toNatClampNeg (((UL32 15) (v4_23).toNatClampNeg) ||| ((1 : Int32) <<< (v5_29 &&& 31))))))) hx hb hK hw 5 7 (UL32 15) rfl k35 dX7_goesRound_168 rfl (fun H locs hw => ?_)
                                refine lv_iinc (v := (v2_30 + (-1 : Int32))) (lv' := [(2, .int (v2_30 + (-1 : Int32))), (5, .int v5_29), (4, .int v4_23), (3, .int v3_17), (1, .int v1_31), (0, .ref (a0 0))]) hx hb dX7_goesRound_169 hl (k := 3) rfl rfl (by decide) rfl (fun ls hl => ?_)
                                refine lv_iconst (v := (1 : Int32)) hx hb dX7_goesRound_172 (by decide) ?_
                                refine lv_istore_n (lv' := [(1, .int (1 : Int32)), (2, .int (v2_30 + (-1 : Int32))), (5, .int v5_29), (4, .int v4_23), (3, .int v3_17), (0, .ref (a0 0))]) hx hb dX7_goesRound_173 rfl hl (by decide) rfl (fun ls hl => ?_)
                                refine lv_iinc (v := (v5_29 + (1 : Int32))) (lv' := [(5, .int (v5_29 + (1 : Int32))), (1, .int (1 : Int32)), (2, .int (v2_30 + (-1 : Int32))), (4, .int v4_23), (3, .int v3_17), (0, .ref (a0 0))]) hx hb dX7_goesRound_174 hl (k := 2) rfl rfl (by decide) rfl (fun ls hl => ?_)
                                refine lv_goto (tgt := 99) hx hb dX7_goesRound_177 (by decide) ?_
                                exact ih99 (v5_29 + (1 : Int32)) (v2_30 + (-1 : Int32)) (1 : Int32) (up UL32 15 (upd (UL32 15) (v4_23).toNatClampNeg (((UL32 15) (v4_23).toNatClampNeg) ||| ((1 : Int32) <<< (v5_29 &&& 31))))) hM _ _ hw _ (lv_sub hl [0, 3, 4, 2, 1, 5] rfl)
                  exact hW99 300 (0 : Int32) v2_24 v1_25 UL26 hL99 _ _ hw _ (lv_sub hl [0, 1, 2, 3, 4, 5] rfl)
            exact hW87 300 (0 : Int32) v2_18 v1_19 UL20 hL87 _ _ hw _ (lv_sub hl [0, 1, 2, 3, 4] rfl)
      exact hW76 300 (0 : Int32) ((q11.2 17) ((1 : Int32)).toNatClampNeg) q11.1 q11.2 hL76 _ _ hw _ (lv_sub hl [0, 1, 2, 3] rfl)
    have hW31 : ∀ (n : Nat) (v2_8 : Int32) (v1_9 : Int32) (UL10 : TS), L_X7_goesRound_31 n v2_8 v1_9 UL10 = some q11 → ∀ (H : Heap) (locs : List Loc), Wk g A s.heap H locs (wXT g a0 Fw0 UL10) → ∀ (ls : Array Slot), lv_has ls 6 [(2, .int v2_8), (1, .int v1_9), (0, .ref (a0 0))] → W p l e (headSpec wsX7_goesRound ({ frames := 2, cells := 0, slots := 0, locals := 46 } : Room)).room s m ([.ref (a0 0)] : List Value).toArray below meth c H locs 0 0 (MQ below (QcW g (some (.int q.1)) (wXT g a0 Fw0 q.2) A) ([.ref (a0 0)] : List Value).toArray s 0 0 A) (F0 m 31 ls []) := by
      intro n
      induction n with
      | zero => intro v2_8 v1_9 UL10 hM; rw [L_X7_goesRound_31] at hM; exact nn hM
      | succ n ih31 =>
        intro v2_8 v1_9 UL10 hM H locs hw ls hl
        rw [L_X7_goesRound_31] at hM
        refine lv_iload_n hx hb dX7_goesRound_31 rfl (lv_at hl 0 rfl) ?_
        refine lv_aload_n hx hb dX7_goesRound_32 rfl (lv_at hl 2 rfl) ?_
        refine wk_get hx hb hts hin_X7 hown hK hw.1 7 0 10 (.int (UL10 10 0)) rfl rfl (by decide) (mi 1 rfl) rfl rfl dX7_goesRound_33 ?_
        refine lv_icmp_ge (tgt := 67) hx hb dX7_goesRound_36 (by decide) (fun c12 => ?_) (fun c12 => ?_)
        · replace hM := itp c12 hM
          obtain rfl := Option.some.inj hM
          exact hJ31 _ _ hw _ (lv_sub hl [1, 2] rfl)
        · replace hM := itn c12 hM
          refine lv_iload_n hx hb dX7_goesRound_39 rfl (lv_at hl 1 rfl) ?_
          refine lv_aload_n hx hb dX7_goesRound_40 rfl (lv_at hl 2 rfl) ?_
          refine lv_iload_n hx hb dX7_goesRound_41 rfl (lv_at hl 0 rfl) ?_
          refine lv_aload_n hx hb dX7_goesRound_42 rfl (lv_at hl 2 rfl) ?_
          refine wk_get hx hb hts hin_X7 hown hK hw.1 7 0 29 (.ref (a0 8)) rfl rfl (by decide) (mi 2 rfl) rfl rfl dX7_goesRound_43 ?_
          refine lv_iload_n hx hb dX7_goesRound_46 rfl (lv_at hl 0 rfl) ?_
          obtain ⟨k13, hM⟩ := ck hM
          refine wk_iald hx hb hK hw.1 8 7 (UL10 29) rfl k13 dX7_goesRound_47 ?_
          obtain ⟨q15, h14, hM⟩ := bd hM
          refine rVWp (wc := (wXT g a0 Fw0 UL10)) (wq := (wXT g a0 Fw0 q15.2)) (As := [.int v2_8, .int ((UL10 29) (v2_8).toNatClampNeg)]) (rest := [.int v1_9]) (q0 := 0) hS (c_X7_isSaid l g a0 Fw0 UL10 v2_8 ((UL10 29) (v2_8).toNatClampNeg) h14) gX7_goesRound_X7_isSaid rfl hd_X7_isSaid ⟨Nat.le_of_ble_eq_true rfl, Nat.le_of_ble_eq_true rfl⟩ hK hw hA (pm_1_0 _) rfl (pm_1_0 _) rfl rfl rfl rfl hl.1 rfl (Nat.le_of_ble_eq_true rfl) dX7_goesRound_48 ⟨Nat.zero_le _, Nat.zero_le _⟩ (fun H locs hw => ?_)
          have hJ50 : ∀ (H : Heap) (locs : List Loc) (x49 : Int32) (ls : Array Slot), Wk g A s.heap H locs (wXT g a0 Fw0 q15.2) → x49 = (if q15.1 ≤ 0 then (0 : Int32) else (1 : Int32)) → lv_has ls 6 [(2, .int v2_8), (0, .ref (a0 0))] → W p l e (headSpec wsX7_goesRound ({ frames := 2, cells := 0, slots := 0, locals := 46 } : Room)).room s m ([.ref (a0 0)] : List Value).toArray below meth c H locs 0 0 (MQ below (QcW g (some (.int q.1)) (wXT g a0 Fw0 q.2) A) ([.ref (a0 0)] : List Value).toArray s 0 0 A) (F0 m 59 ls [.int x49, .int v1_9]) := by
            intro H locs x49 ls hw hxx49 hl
            subst hxx49
            refine lv_ior hx hb dX7_goesRound_59 ?_
            refine lv_istore_n (lv' := [(1, .int (v1_9 ||| (if q15.1 ≤ 0 then (0 : Int32) else (1 : Int32)))), (2, .int v2_8), (0, .ref (a0 0))]) hx hb dX7_goesRound_60 rfl hl (by decide) rfl (fun ls hl => ?_)
            refine lv_iinc (v := (v2_8 + (1 : Int32))) (lv' := [(2, .int (v2_8 + (1 : Int32))), (1, .int (v1_9 ||| (if q15.1 ≤ 0 then (0 : Int32) else (1 : Int32)))), (0, .ref (a0 0))]) hx hb dX7_goesRound_61 hl (k := 1) rfl rfl (by decide) rfl (fun ls hl => ?_)
            refine lv_goto (tgt := 31) hx hb dX7_goesRound_64 (by decide) ?_
            exact ih31 (v2_8 + (1 : Int32)) (v1_9 ||| (if q15.1 ≤ 0 then (0 : Int32) else (1 : Int32))) q15.2 hM _ _ hw _ (lv_sub hl [0, 1, 2] rfl)
          refine lv_if_le (tgt := 58) hx hb dX7_goesRound_51 (by decide) (fun c16 => ?_) (fun c16 => ?_)
          · refine lv_iconst (v := (0 : Int32)) hx hb dX7_goesRound_58 (by decide) ?_
            exact hJ50 _ _ _ _ hw (by first | with_reducible rfl | (simp only [if_pos c16]) | rfl) (lv_sub hl [0, 2] rfl)
          · refine lv_iconst (v := (1 : Int32)) hx hb dX7_goesRound_54 (by decide) ?_
            refine lv_goto (tgt := 59) hx hb dX7_goesRound_55 (by decide) ?_
            exact hJ50 _ _ _ _ hw (by first | with_reducible rfl | (simp only [if_neg c16]) | rfl) (lv_sub hl [0, 2] rfl)
    exact hW31 300 (0 : Int32) (0 : Int32) q3 hL31 _ _ hw _ (lv_sub hl [0, 1, 2] rfl)
  have hW4 : ∀ (n : Nat) (v2_1 : Int32) (UL2 : TS), L_X7_goesRound_4 n v2_1 UL2 = some q3 → ∀ (H : Heap) (locs : List Loc), Wk g A s.heap H locs (wXT g a0 Fw0 UL2) → ∀ (ls : Array Slot), lv_has ls 6 [(2, .int v2_1), (1, .int (0 : Int32)), (0, .ref (a0 0))] → W p l e (headSpec wsX7_goesRound ({ frames := 2, cells := 0, slots := 0, locals := 46 } : Room)).room s m ([.ref (a0 0)] : List Value).toArray below meth c H locs 0 0 (MQ below (QcW g (some (.int q.1)) (wXT g a0 Fw0 q.2) A) ([.ref (a0 0)] : List Value).toArray s 0 0 A) (F0 m 4 ls []) := by
    intro n
    induction n with
    | zero => intro v2_1 UL2 hM; rw [L_X7_goesRound_4] at hM; exact nn hM
    | succ n ih4 =>
      intro v2_1 UL2 hM H locs hw ls hl
      rw [L_X7_goesRound_4] at hM
      refine lv_iload_n hx hb dX7_goesRound_4 rfl (lv_at hl 0 rfl) ?_
      refine lv_aload_n hx hb dX7_goesRound_5 rfl (lv_at hl 2 rfl) ?_
      refine wk_get hx hb hts hin_X7 hown hK hw.1 7 0 10 (.int (UL2 10 0)) rfl rfl (by decide) (mi 1 rfl) rfl rfl dX7_goesRound_6 ?_
      refine lv_icmp_ge (tgt := 29) hx hb dX7_goesRound_9 (by decide) (fun c4 => ?_) (fun c4 => ?_)
      · replace hM := itp c4 hM
        obtain rfl := Option.some.inj hM
        exact hJ4 _ _ hw _ (lv_sub hl [1, 2] rfl)
      · replace hM := itn c4 hM
        refine lv_aload_n hx hb dX7_goesRound_12 rfl (lv_at hl 2 rfl) ?_
        refine wk_get hx hb hts hin_X7 hown hK hw.1 7 0 29 (.ref (a0 8)) rfl rfl (by decide) (mi 2 rfl) rfl rfl dX7_goesRound_13 ?_
        refine lv_iload_n hx hb dX7_goesRound_16 rfl (lv_at hl 0 rfl) ?_
        refine lv_aload_n hx hb dX7_goesRound_17 rfl (lv_at hl 2 rfl) ?_
        refine lv_iload_n hx hb dX7_goesRound_18 rfl (lv_at hl 0 rfl) ?_
        obtain ⟨q6, h5, hM⟩ := bd hM
        refine rVR (wc := (wXT g a0 Fw0 UL2)) (As := [.int v2_1]) (rest := [.int v2_1, .ref (a0 8)]) (q0 := 0) hS (c_X7_mayOf l g a0 Fw0 UL2 v2_1 h5) gX7_goesRound_X7_mayOf rfl hd_X7_mayOf ⟨Nat.le_of_ble_eq_true rfl, Nat.le_of_ble_eq_true rfl⟩ hK (va_P.pm hw.1 (pm_1_0 _)) rfl rfl rfl rfl hl.1 rfl (Nat.le_of_ble_eq_true rfl) dX7_goesRound_19 ⟨Nat.zero_le _, Nat.zero_le _⟩ ?_
        obtain ⟨k7, hM⟩ := ck hM
        refine wk_iast (wq := (wXT g a0 Fw0 (up UL2 29 (upd (UL2 29) (v2_1).toNatClampNeg q6)))) hx hb hK hw 8 7 (UL2 29) rfl k7 dX7_goesRound_22 rfl (fun H locs hw => ?_)
        refine lv_iinc (v := (v2_1 + (1 : Int32))) (lv' := [(2, .int (v2_1 + (1 : Int32))), (1, .int (0 : Int32)), (0, .ref (a0 0))]) hx hb dX7_goesRound_23 hl (k := 0) rfl rfl (by decide) rfl (fun ls hl => ?_)
        refine lv_goto (tgt := 4) hx hb dX7_goesRound_26 (by decide) ?_
        exact ih4 (v2_1 + (1 : Int32)) (up UL2 29 (upd (UL2 29) (v2_1).toNatClampNeg q6)) hM _ _ hw _ (lv_sub hl [0, 1, 2] rfl)
  exact hW4 300 (0 : Int32) U0 hL4 _ _ hw _ (lv_sub hl [0, 1, 2] rfl)
