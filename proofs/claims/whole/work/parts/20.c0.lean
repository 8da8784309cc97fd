theorem hd_X6_with : yX6_with.cls ≠ "java/lang/invoke/MethodHandle" ∧ yX6_with.cls ≠ "java/lang/invoke/VarHandle" ∧ (parseMethodDescriptor yX6_with.desc).map (fun d => d.parameters.length) = some 3 := by decide +kernel
set_option maxHeartbeats 4000000 in
set_option maxRecDepth 100000 in
theorem c_X6_with (l : Launch) (g : Gm) (p0 : Int32) (p1 : Int32) (p2 : Int32) : MR l yX6_with wsX6_with 0 0 g [.int p0, .int p1, .int p2] ([] : va_W) (some (.int (f_X6_with p0 p1 p2))) := by
  refine Met.ofW (cc := cX6_with) (maxL := 3) (ret := (some .int)) (by decide) rfl ?_
  intro p e s m args below meth c s₁ B hml hv
  obtain ⟨rfl, hP, hK⟩ := hv
  have hx := B.exec; have hb := B.bytes; have hr := B.returns
  have hts := atoms_spec (ws := wsX6_with) B.pre
  have hown : s.vm.findClass RX6 = some m.cls := findClass_of_methodNamed B.named
  have hlocks := B.notSynchronized
  have hS : CallFix p m c cX6_with 3 s _ wsX6_with RX6 := ⟨hx, hb, hml, hown, hts⟩
  have hl := lv_entry ([.int p0, .int p1, .int p2]) (n := 3) (Nat.le_of_ble_eq_true rfl)
  rw [lg_entry_eq]
  generalize (lg_sl ([.int p0, .int p1, .int p2]) ++ List.replicate (3 - (lg_sl ([.int p0, .int p1, .int p2])).length) Slot.unset).toArray = ls at hl ⊢
  have hl : lv_has ls 3 [(0, .int p0), (1, .int p1), (2, .int p2)] := hl
  obtain ⟨rr, hM⟩ : ∃ rr, f_X6_with p0 p1 p2 = rr := ⟨_, rfl⟩
  rw [hM]
  rw [f_X6_with] at hM
  refine lv_iload_n hx hb dX6_with_0 rfl (lv_at hl 2 rfl) ?_
  have hJ7 : ∀ (x6 : Int32) (ls : Array Slot), x6 = (if p2 = 0 then (p0 &&& (((1 : Int32) <<< (p1 &&& 31)) ^^^ (-1 : Int32))) else (p0 ||| ((1 : Int32) <<< (p1 &&& 31)))) → lv_has ls 3 [] → W p l e (headSpec wsX6_with ({ frames := 0, cells := 0, slots := 0, locals := 0 } : Room)).room s m ([.int p0, .int p1, .int p2] : List Value).toArray below meth c s.heap [] 0 0 (MQ below (QcR (some (.int rr))) ([.int p0, .int p1, .int p2] : List Value).toArray s 0 0 (fun _ => False)) (F0 m 19 ls [.int x6]) := by
    intro x6 ls hxx6 hl
    subst hxx6
    subst hM
    exact W.iret hx hb hr (fun t ht _ => ⟨rfl, ht⟩) (fun q hq => by cases hq) dX6_with_19
  refine lv_if_eq (tgt := 12) hx hb dX6_with_1 (by decide) (fun c1 => ?_) (fun c1 => ?_)
  · refine lv_iload_n hx hb dX6_with_12 rfl (lv_at hl 0 rfl) ?_
    refine lv_iconst (v := (1 : Int32)) hx hb dX6_with_13 (by decide) ?_
    refine lv_iload_n hx hb dX6_with_14 rfl (lv_at hl 1 rfl) ?_
    refine lv_ishl hx hb dX6_with_15 ?_
    refine lv_iconst (v := (-1 : Int32)) hx hb dX6_with_16 (by decide) ?_
    refine lv_ixor hx hb dX6_with_17 ?_
    refine lv_iand hx hb dX6_with_18 ?_
    exact hJ7 _ _ (by first | rfl | (simp only [if_pos c1])) (lv_sub hl [] rfl)
  · refine lv_iload_n hx hb dX6_with_4 rfl (lv_at hl 0 rfl) ?_
    refine lv_iconst (v := (1 : Int32)) hx hb dX6_with_5 (by decide) ?_
    refine lv_iload_n hx hb dX6_with_6 rfl (lv_at hl 1 rfl) ?_
    refine lv_ishl hx hb dX6_with_7 ?_
    refine lv_ior hx hb dX6_with_8 ?_
    refine lv_goto (tgt := 19) hx hb dX6_with_9 (by decide) ?_
    exact hJ7 _ _ (by first | rfl | (simp only [if_neg c1])) (lv_sub hl [] rfl)
theorem hd_X5_allBlind : yX5_allBlind.cls = RX5 ∧ yX5_allBlind.cls ≠ "java/lang/invoke/MethodHandle" ∧ yX5_allBlind.cls ≠ "java/lang/invoke/VarHandle" ∧ (parseMethodDescriptor yX5_allBlind.desc).map (fun d => d.parameters.length) = some 0 := by decide +kernel
set_option maxHeartbeats 4000000 in
set_option maxRecDepth 100000 in
theorem c_X5_allBlind (l : Launch) (g : Gm) (a0 : Nat → Nat) (T0 : TS) {q : Int32} (hM : f_X5_allBlind T0 = some q) : MR l yX5_allBlind wsX5_allBlind 1 22 g [.ref (a0 0)] (wX5 g a0 T0) (some (.int q)) := by
  refine Met.ofW (cc := cX5_allBlind) (maxL := 3) (ret := (some .int)) (by decide) rfl ?_
  intro p e s m args below meth c s₁ B hml hv
  obtain ⟨rfl, hP, hK⟩ := hv
  have hx := B.exec; have hb := B.bytes; have hr := B.returns
  have hts := atoms_spec (ws := wsX5_allBlind) B.pre
  have hown : s.vm.findClass RX5 = some m.cls := findClass_of_methodNamed B.named
  have hlocks := B.notSynchronized
  have hS : CallFix p m c cX5_allBlind 3 s _ wsX5_allBlind RX5 := ⟨hx, hb, hml, hown, hts⟩
  have hin_X5 : ∀ w ∈ wsX50, w ∈ wsX5_allBlind := fun w h => (List.mem_cons_of_mem _ (List.mem_append_right _ h))
  have hl := lv_entry ([.ref (a0 0)]) (n := 3) (Nat.le_of_ble_eq_true rfl)
  rw [lg_entry_eq]
  generalize (lg_sl ([.ref (a0 0)]) ++ List.replicate (3 - (lg_sl ([.ref (a0 0)])).length) Slot.unset).toArray = ls at hl ⊢
  have hl : lv_has ls 3 [(0, .ref (a0 0))] := hl
  rw [f_X5_allBlind] at hM
  refine lv_iconst (v := (0 : Int32)) hx hb dX5_allBlind_0 (by decide) ?_
  refine lv_istore_n (lv' := [(1, .int (0 : Int32)), (0, .ref (a0 0))]) hx hb dX5_allBlind_1 rfl hl (by decide) rfl (fun ls hl => ?_)
  refine lv_iconst (v := (0 : Int32)) hx hb dX5_allBlind_2 (by decide) ?_
  refine lv_istore_n (lv' := [(2, .int (0 : Int32)), (1, .int (0 : Int32)), (0, .ref (a0 0))]) hx hb dX5_allBlind_3 rfl hl (by decide) rfl (fun ls hl => ?_)
  obtain ⟨q3, hL4, hM⟩ := bd hM
  have hJ4 : ∀ (ls : Array Slot), lv_has ls 3 [(1, .int q3)] → W p l e (headSpec wsX5_allBlind ({ frames := 1, cells := 0, slots := 0, locals := 22 } : Room)).room s m ([.ref (a0 0)] : List Value).toArray below meth c s.heap [] 0 0 (MQ below (QcR (some (.int q))) ([.ref (a0 0)] : List Value).toArray s 0 0 (fun _ => False)) (F0 m 39 ls []) := by
    intro ls hl
    refine lv_iload_n hx hb dX5_allBlind_39 rfl (lv_at hl 0 rfl) ?_
    obtain rfl := Option.some.inj hM
    exact W.iret hx hb hr (fun t ht _ => ⟨rfl, ht⟩) (fun q hq => by cases hq) dX5_allBlind_40
  have hW4 : ∀ (n : Nat) (v2_1 : Int32) (v1_2 : Int32), L_X5_allBlind_4 T0 n v2_1 v1_2 = some q3 → ∀ (ls : Array Slot), lv_has ls 3 [(2, .int v2_1), (1, .int v1_2), (0, .ref (a0 0))] → W p l e (headSpec wsX5_allBlind ({ frames := 1, cells := 0, slots := 0, locals := 22 } : Room)).room s m ([.ref (a0 0)] : List Value).toArray below meth c s.heap [] 0 0 (MQ below (QcR (some (.int q))) ([.ref (a0 0)] : List Value).toArray s 0 0 (fun _ => False)) (F0 m 4 ls []) := by
    intro n
    induction n with
    | zero => intro v2_1 v1_2 hM; rw [L_X5_allBlind_4] at hM; exact nn hM
    | succ n ih4 =>
      intro v2_1 v1_2 hM ls hl
      rw [L_X5_allBlind_4] at hM
      refine lv_iload_n hx hb dX5_allBlind_4 rfl (lv_at hl 0 rfl) ?_
      refine lv_aload_n hx hb dX5_allBlind_5 rfl (lv_at hl 2 rfl) ?_
      refine wk_get hx hb hts hin_X5 hown hK hP 5 0 1 (.int (T0 1 0)) rfl rfl (by decide) (mi 1 rfl) rfl rfl dX5_allBlind_6 ?_
      refine lv_icmp_ge (tgt := 39) hx hb dX5_allBlind_9 (by decide) (fun c4 => ?_) (fun c4 => ?_)
      · replace hM := itp c4 hM
        obtain rfl := Option.some.inj hM
        exact hJ4 _ (lv_sub hl [1] rfl)
      · replace hM := itn c4 hM
        refine lv_iload_n hx hb dX5_allBlind_12 rfl (lv_at hl 1 rfl) ?_
        refine lv_iload_n hx hb dX5_allBlind_13 rfl (lv_at hl 0 rfl) ?_
        refine lv_aload_n hx hb dX5_allBlind_14 rfl (lv_at hl 2 rfl) ?_
        refine wk_get hx hb hts hin_X5 hown hK hP 5 0 11 (.ref (a0 5)) rfl rfl (by decide) (mi 2 rfl) rfl rfl dX5_allBlind_15 ?_
        refine lv_iload_n hx hb dX5_allBlind_18 rfl (lv_at hl 0 rfl) ?_
        obtain ⟨k5, hM⟩ := ck hM
        refine wk_iald hx hb hK hP 5 7 (T0 11) rfl k5 dX5_allBlind_19 ?_
        refine lv_iconst (v := (4 : Int32)) hx hb dX5_allBlind_20 (by decide) ?_
        have hJ13 : ∀ (x12 : Int32) (ls : Array Slot), x12 = (if ((T0 11) (v2_1).toNatClampNeg) = (4 : Int32) then (1 : Int32) else (0 : Int32)) → lv_has ls 3 [(2, .int v2_1), (0, .ref (a0 0))] → W p l e (headSpec wsX5_allBlind ({ frames := 1, cells := 0, slots := 0, locals := 22 } : Room)).room s m ([.ref (a0 0)] : List Value).toArray below meth c s.heap [] 0 0 (MQ below (QcR (some (.int q))) ([.ref (a0 0)] : List Value).toArray s 0 0 (fun _ => False)) (F0 m 29 ls [.int x12, .int v2_1, .int v1_2]) := by
          intro x12 ls hxx12 hl
          subst hxx12
          refine rNR (wc := ([] : va_W)) (As := [.int v1_2, .int v2_1, .int (if ((T0 11) (v2_1).toNatClampNeg) = (4 : Int32) then (1 : Int32) else (0 : Int32))]) (rest := []) hS (c_X6_with l g v1_2 v2_1 (if ((T0 11) (v2_1).toNatClampNeg) = (4 : Int32) then (1 : Int32) else (0 : Int32))) gX5_allBlind_X6_with_n61 rfl (mi 3 rfl) (mi 4 rfl) 7 rfl hd_X6_with ⟨Nat.le_of_ble_eq_true rfl, Nat.le_of_ble_eq_true rfl⟩ hK (hP_nil) rfl hl.1 rfl (Nat.le_of_ble_eq_true rfl) dX5_allBlind_29 ⟨Nat.zero_le _, Nat.zero_le _⟩ ?_
          refine lv_istore_n (lv' := [(1, .int (f_X6_with v1_2 v2_1 (if ((T0 11) (v2_1).toNatClampNeg) = (4 : Int32) then (1 : Int32) else (0 : Int32)))), (2, .int v2_1), (0, .ref (a0 0))]) hx hb dX5_allBlind_32 rfl hl (by decide) rfl (fun ls hl => ?_)
          refine lv_iinc (v := (v2_1 + (1 : Int32))) (lv' := [(2, .int (v2_1 + (1 : Int32))), (1, .int (f_X6_with v1_2 v2_1 (if ((T0 11) (v2_1).toNatClampNeg) = (4 : Int32) then (1 : Int32) else (0 : Int32)))), (0, .ref (a0 0))]) hx hb dX5_allBlind_33 hl (k := 1) rfl rfl (by decide) rfl (fun ls hl => ?_)
          refine lv_goto (tgt := 4) hx hb dX5_allBlind_36 (by decide) ?_
          exact ih4 (v2_1 + (1 : Int32)) (f_X6_with v1_2 v2_1 (if ((T0 11) (v2_1).toNatClampNeg) = (4 : Int32) then (1 : Int32) else (0 : Int32))) hM _ (lv_sub hl [0, 1, 2] rfl)
        refine lv_icmp_ne (tgt := 28) hx hb dX5_allBlind_21 (by decide) (fun c6 => ?_) (fun c6 => ?_)
        · refine lv_iconst (v := (0 : Int32)) hx hb dX5_allBlind_28 (by decide) ?_
          exact hJ13 _ _ (by first | rfl | (simp only [if_neg c6])) (lv_sub hl [0, 2] rfl)
        · refine lv_iconst (v := (1 : Int32)) hx hb dX5_allBlind_24 (by decide) ?_
          refine lv_goto (tgt := 29) hx hb dX5_allBlind_25 (by decide) ?_
          exact hJ13 _ _ (by first | rfl | (simp only [if_pos c6])) (lv_sub hl [0, 2] rfl)
  exact hW4 300 (0 : Int32) (0 : Int32) hL4 _ (lv_sub hl [0, 1, 2] rfl)
theorem hd_X5_allPeople : yX5_allPeople.cls = RX5 ∧ yX5_allPeople.cls ≠ "java/lang/invoke/MethodHandle" ∧ yX5_allPeople.cls ≠ "java/lang/invoke/VarHandle" ∧ (parseMethodDescriptor yX5_allPeople.desc).map (fun d => d.parameters.length) = some 0 := by decide +kernel
set_option maxHeartbeats 4000000 in
set_option maxRecDepth 100000 in
theorem c_X5_allPeople (l : Launch) (g : Gm) (a0 : Nat → Nat) (T0 : TS) : MR l yX5_allPeople wsX5_allPeople 0 0 g [.ref (a0 0)] (wX5 g a0 T0) (some (.int (f_X5_allPeople T0))) := by
  refine Met.ofW (cc := cX5_allPeople) (maxL := 1) (ret := (some .int)) (by decide) rfl ?_
  intro p e s m args below meth c s₁ B hml hv
  obtain ⟨rfl, hP, hK⟩ := hv
  have hx := B.exec; have hb := B.bytes; have hr := B.returns
  have hts := atoms_spec (ws := wsX5_allPeople) B.pre
  have hown : s.vm.findClass RX5 = some m.cls := findClass_of_methodNamed B.named
  have hlocks := B.notSynchronized
  have hS : CallFix p m c cX5_allPeople 1 s _ wsX5_allPeople RX5 := ⟨hx, hb, hml, hown, hts⟩
  have hin_X5 : ∀ w ∈ wsX50, w ∈ wsX5_allPeople := fun w h => (List.mem_cons_of_mem _ (List.mem_append_right _ h))
  have hl := lv_entry ([.ref (a0 0)]) (n := 1) (Nat.le_of_ble_eq_true rfl)
  rw [lg_entry_eq]
  generalize (lg_sl ([.ref (a0 0)]) ++ List.replicate (1 - (lg_sl ([.ref (a0 0)])).length) Slot.unset).toArray = ls at hl ⊢
  have hl : lv_has ls 1 [(0, .ref (a0 0))] := hl
  obtain ⟨rr, hM⟩ : ∃ rr, f_X5_allPeople T0 = rr := ⟨_, rfl⟩
  rw [hM]
  rw [f_X5_allPeople] at hM
  refine lv_iconst (v := (1 : Int32)) hx hb dX5_allPeople_0 (by decide) ?_
  refine lv_aload_n hx hb dX5_allPeople_1 rfl (lv_at hl 0 rfl) ?_
  refine wk_get hx hb hts hin_X5 hown hK hP 5 0 1 (.int (T0 1 0)) rfl rfl (by decide) (mi 1 rfl) rfl rfl dX5_allPeople_2 ?_
  refine lv_ishl hx hb dX5_allPeople_5 ?_
  refine lv_iconst (v := (1 : Int32)) hx hb dX5_allPeople_6 (by decide) ?_
  refine lv_isub hx hb dX5_allPeople_7 ?_
  subst hM
  exact W.iret hx hb hr (fun t ht _ => ⟨rfl, ht⟩) (fun q hq => by cases hq) dX5_allPeople_8
theorem hd_X5_allSights : yX5_allSights.cls = RX5 ∧ yX5_allSights.cls ≠ "java/lang/invoke/MethodHandle" ∧ yX5_allSights.cls ≠ "java/lang/invoke/VarHandle" ∧ (parseMethodDescriptor yX5_allSights.desc).map (fun d => d.parameters.length) = some 0 := by decide +kernel
set_option maxHeartbeats 4000000 in
set_option maxRecDepth 100000 in
theorem c_X5_allSights (l : Launch) (g : Gm) (a0 : Nat → Nat) (T0 : TS) : MR l yX5_allSights wsX5_allSights 0 0 g [.ref (a0 0)] (wX5 g a0 T0) (some (.int (f_X5_allSights T0))) := by
  refine Met.ofW (cc := cX5_allSights) (maxL := 1) (ret := (some .int)) (by decide) rfl ?_
  intro p e s m args below meth c s₁ B hml hv
  obtain ⟨rfl, hP, hK⟩ := hv
  have hx := B.exec; have hb := B.bytes; have hr := B.returns
  have hts := atoms_spec (ws := wsX5_allSights) B.pre
  have hown : s.vm.findClass RX5 = some m.cls := findClass_of_methodNamed B.named
  have hlocks := B.notSynchronized
  have hS : CallFix p m c cX5_allSights 1 s _ wsX5_allSights RX5 := ⟨hx, hb, hml, hown, hts⟩
  have hin_X5 : ∀ w ∈ wsX50, w ∈ wsX5_allSights := fun w h => (List.mem_cons_of_mem _ (List.mem_append_right _ h))
  have hl := lv_entry ([.ref (a0 0)]) (n := 1) (Nat.le_of_ble_eq_true rfl)
  rw [lg_entry_eq]
  generalize (lg_sl ([.ref (a0 0)]) ++ List.replicate (1 - (lg_sl ([.ref (a0 0)])).length) Slot.unset).toArray = ls at hl ⊢
  have hl : lv_has ls 1 [(0, .ref (a0 0))] := hl
  obtain ⟨rr, hM⟩ : ∃ rr, f_X5_allSights T0 = rr := ⟨_, rfl⟩
  rw [hM]
  rw [f_X5_allSights] at hM
  refine lv_iconst (v := (1 : Int32)) hx hb dX5_allSights_0 (by decide) ?_
  refine lv_aload_n hx hb dX5_allSights_1 rfl (lv_at hl 0 rfl) ?_
  refine wk_get hx hb hts hin_X5 hown hK hP 5 0 0 (.int (T0 0 0)) rfl rfl (by decide) (mi 1 rfl) rfl rfl dX5_allSights_2 ?_
  refine lv_ishl hx hb dX5_allSights_5 ?_
  refine lv_iconst (v := (1 : Int32)) hx hb dX5_allSights_6 (by decide) ?_
  refine lv_isub hx hb dX5_allSights_7 ?_
  subst hM
  exact W.iret hx hb hr (fun t ht _ => ⟨rfl, ht⟩) (fun q hq => by cases hq) dX5_allSights_8
theorem hd_X5_barredTo : yX5_barredTo.cls = RX5 ∧ yX5_barredTo.cls ≠ "java/lang/invoke/MethodHandle" ∧ yX5_barredTo.cls ≠ "java/lang/invoke/VarHandle" ∧ (parseMethodDescriptor yX5_barredTo.desc).map (fun d => d.parameters.length) = some 1 := by decide +kernel
set_option maxHeartbeats 4000000 in
set_option maxRecDepth 100000 in
theorem c_X5_barredTo (l : Launch) (g : Gm) (a0 : Nat → Nat) (T0 : TS) (p1 : Int32) {q : Int32} (hM : f_X5_barredTo T0 p1 = some q) : MR l yX5_barredTo wsX5_barredTo 0 0 g [.ref (a0 0), .int p1] (wX5 g a0 T0) (some (.int q)) := by
  refine Met.ofW (cc := cX5_barredTo) (maxL := 2) (ret := (some .int)) (by decide) rfl ?_
  intro p e s m args below meth c s₁ B hml hv
  obtain ⟨rfl, hP, hK⟩ := hv
  have hx := B.exec; have hb := B.bytes; have hr := B.returns
  have hts := atoms_spec (ws := wsX5_barredTo) B.pre
  have hown : s.vm.findClass RX5 = some m.cls := findClass_of_methodNamed B.named
  have hlocks := B.notSynchronized
  have hS : CallFix p m c cX5_barredTo 2 s _ wsX5_barredTo RX5 := ⟨hx, hb, hml, hown, hts⟩
  have hin_X5 : ∀ w ∈ wsX50, w ∈ wsX5_barredTo := fun w h => (List.mem_cons_of_mem _ (List.mem_append_right _ h))
  have hl := lv_entry ([.ref (a0 0), .int p1]) (n := 2) (Nat.le_of_ble_eq_true rfl)
  rw [lg_entry_eq]
  generalize (lg_sl ([.ref (a0 0), .int p1]) ++ List.replicate (2 - (lg_sl ([.ref (a0 0), .int p1])).length) Slot.unset).toArray = ls at hl ⊢
  have hl : lv_has ls 2 [(0, .ref (a0 0)), (1, .int p1)] := hl
  rw [f_X5_barredTo] at hM
  refine lv_aload_n hx hb dX5_barredTo_0 rfl (lv_at hl 0 rfl) ?_
  refine wk_get hx hb hts hin_X5 hown hK hP 5 0 2 (.int (T0 2 0)) rfl rfl (by decide) (mi 1 rfl) rfl rfl dX5_barredTo_1 ?_
  refine lv_iconst (v := (1 : Int32)) hx hb dX5_barredTo_4 (by decide) ?_
  refine lv_icmp_ne (tgt := 24) hx hb dX5_barredTo_5 (by decide) (fun c1 => ?_) (fun c1 => ?_)
  · replace hM := itn c1 hM
    refine lv_aload_n hx hb dX5_barredTo_24 rfl (lv_at hl 0 rfl) ?_
    refine wk_get hx hb hts hin_X5 hown hK hP 5 0 7 (.ref (a0 1)) rfl rfl (by decide) (mi 2 rfl) rfl rfl dX5_barredTo_25 ?_
    refine lv_iload_n hx hb dX5_barredTo_28 rfl (lv_at hl 1 rfl) ?_
    obtain ⟨k3, hM⟩ := ck hM
    refine wk_iald hx hb hK hP 1 7 (T0 7) rfl k3 dX5_barredTo_29 ?_
    obtain rfl := Option.some.inj hM
    exact W.iret hx hb hr (fun t ht _ => ⟨rfl, ht⟩) (fun q hq => by cases hq) dX5_barredTo_30
  · replace hM := itp c1 hM
    refine lv_aload_n hx hb dX5_barredTo_8 rfl (lv_at hl 0 rfl) ?_
    refine wk_get hx hb hts hin_X5 hown hK hP 5 0 7 (.ref (a0 1)) rfl rfl (by decide) (mi 2 rfl) rfl rfl dX5_barredTo_9 ?_
    refine lv_iload_n hx hb dX5_barredTo_12 rfl (lv_at hl 1 rfl) ?_
    obtain ⟨k2, hM⟩ := ck hM
    refine wk_iald hx hb hK hP 1 7 (T0 7) rfl k2 dX5_barredTo_13 ?_
    refine lv_aload_n hx hb dX5_barredTo_14 rfl (lv_at hl 0 rfl) ?_
    refine wk_get hx hb hts hin_X5 hown hK hP 5 0 8 (.ref (a0 2)) rfl rfl (by decide) (mi 3 rfl) rfl rfl dX5_barredTo_15 ?_
    refine lv_iload_n hx hb dX5_barredTo_18 rfl (lv_at hl 1 rfl) ?_
    refine wk_iald hx hb hK hP 2 7 (T0 8) rfl k2 dX5_barredTo_19 ?_
    refine lv_ior hx hb dX5_barredTo_20 ?_
    refine lv_goto (tgt := 30) hx hb dX5_barredTo_21 (by decide) ?_
    obtain rfl := Option.some.inj hM
    exact W.iret hx hb hr (fun t ht _ => ⟨rfl, ht⟩) (fun q hq => by cases hq) dX5_barredTo_30
theorem hd_X5_become : yX5_become.cls = RX5 ∧ yX5_become.cls ≠ "java/lang/invoke/MethodHandle" ∧ yX5_become.cls ≠ "java/lang/invoke/VarHandle" ∧ (parseMethodDescriptor yX5_become.desc).map (fun d => d.parameters.length) = some 1 := by decide +kernel
set_option maxHeartbeats 4000000 in
set_option maxRecDepth 100000 in
theorem c_X5_become (l : Launch) (g : Gm) (a0 : Nat → Nat) (a1 : Nat → Nat) (T0 : TS) (T1 : TS) {q : TS} (hM : f_X5_become T0 T1 = some q) : MW l yX5_become wsX5_become 1 80 g [.ref (a0 0), .ref (a1 0)] ((wX5 g a0 T0) ++ (wX5 g a1 T1)) none ((wX5 g a0 q) ++ (wX5 g a1 T1)) := by
  intro sz
  refine Met.ofW (cc := cX5_become) (maxL := 2) (ret := none) (by decide) rfl ?_
  intro p e s m args below meth c s₁ B hml hv
  obtain ⟨rfl, hsz, hP, hK, hD0⟩ := hv
  have hx := B.exec; have hb := B.bytes; have hr := B.returns
  have hts := atoms_spec (ws := wsX5_become) B.pre
  have hown : s.vm.findClass RX5 = some m.cls := findClass_of_methodNamed B.named
  have hlocks := B.notSynchronized
  have hS : CallFix p m c cX5_become 2 s _ wsX5_become RX5 := ⟨hx, hb, hml, hown, hts⟩
  have hin_X5 : ∀ w ∈ wsX50, w ∈ wsX5_become := fun w h => (List.mem_cons_of_mem _ (List.mem_append_right _ h))
  subst hsz
  have hw := wk_start hP hD0
  have hA : ∀ q : Nat, s.heap.size ≤ q → va_A ((wX5 g a0 T0) ++ (wX5 g a1 T1)) s.heap.size q := fun q h => Or.inr h
  generalize va_A ((wX5 g a0 T0) ++ (wX5 g a1 T1)) s.heap.size = A at hw hA ⊢
  clear hP hD0
  have hl := lv_entry ([.ref (a0 0), .ref (a1 0)]) (n := 2) (Nat.le_of_ble_eq_true rfl)
  rw [lg_entry_eq]
  generalize (lg_sl ([.ref (a0 0), .ref (a1 0)]) ++ List.replicate (2 - (lg_sl ([.ref (a0 0), .ref (a1 0)])).length) Slot.unset).toArray = ls at hl ⊢
  have hl : lv_has ls 2 [(0, .ref (a0 0)), (1, .ref (a1 0))] := hl
  rw [f_X5_become] at hM
  refine lv_aload_n hx hb dX5_become_0 rfl (lv_at hl 0 rfl) ?_
  refine lv_aload_n hx hb dX5_become_1 rfl (lv_at hl 1 rfl) ?_
  refine wk_get hx hb hts hin_X5 hown hK hw.1 5 8 0 (.int (T1 0 0)) rfl rfl (by decide) (mi 1 rfl) rfl rfl dX5_become_2 ?_
  refine wk_put (wq := ((wX5 g a0 (up T0 0 (fun _ => (T1 0 0)))) ++ (wX5 g a1 T1))) hx hb hts hin_X5 tyX5 tyX5_ok nmX5 hown hK hw 5 0 0 rfl rfl (by decide) (mi 1 rfl) rfl rfl rfl rfl (Nat.le_of_ble_eq_true rfl) dX5_become_5 rfl (fun H locs hw => ?_)
  refine lv_aload_n hx hb dX5_become_8 rfl (lv_at hl 0 rfl) ?_
  refine lv_aload_n hx hb dX5_become_9 rfl (lv_at hl 1 rfl) ?_
  refine wk_get hx hb hts hin_X5 hown hK hw.1 5 8 1 (.int (T1 1 0)) rfl rfl (by decide) (mi 2 rfl) rfl rfl dX5_become_10 ?_
  refine wk_put (wq := ((wX5 g a0 (up (up T0 0 (fun _ => (T1 0 0))) 1 (fun _ => (T1 1 0)))) ++ (wX5 g a1 T1))) hx hb hts hin_X5 tyX5 tyX5_ok nmX5 hown hK hw 5 0 1 rfl rfl (by decide) (mi 2 rfl) rfl rfl rfl rfl (Nat.le_of_ble_eq_true rfl) dX5_become_13 rfl (fun H locs hw => ?_)
  refine lv_aload_n hx hb dX5_become_16 rfl (lv_at hl 0 rfl) ?_
  refine lv_aload_n hx hb dX5_become_17 rfl (lv_at hl 1 rfl) ?_
  refine wk_get hx hb hts hin_X5 hown hK hw.1 5 8 2 (.int (T1 2 0)) rfl rfl (by decide) (mi 3 rfl) rfl rfl dX5_become_18 ?_
  refine wk_put (wq := ((wX5 g a0 (up (up (up T0 0 (fun _ => (T1 0 0))) 1 (fun _ => (T1 1 0))) 2 (fun _ => (T1 2 0)))) ++ (wX5 g a1 T1))) hx hb hts hin_X5 tyX5 tyX5_ok nmX5 hown hK hw 5 0 2 rfl rfl (by decide) (mi 3 rfl) rfl rfl rfl rfl (Nat.le_of_ble_eq_true rfl) dX5_become_21 rfl (fun H locs hw => ?_)
  refine lv_aload_n hx hb dX5_become_24 rfl (lv_at hl 0 rfl) ?_
  refine lv_aload_n hx hb dX5_become_25 rfl (lv_at hl 1 rfl) ?_
  refine wk_get hx hb hts hin_X5 hown hK hw.1 5 8 3 (.int (T1 3 0)) rfl rfl (by decide) (mi 4 rfl) rfl rfl dX5_become_26 ?_
  refine wk_put (wq := ((wX5 g a0 (up (up (up (up T0 0 (fun _ => (T1 0 0))) 1 (fun _ => (T1 1 0))) 2 (fun _ => (T1 2 0))) 3 (fun _ => (T1 3 0)))) ++ (wX5 g a1 T1))) hx hb hts hin_X5 tyX5 tyX5_ok nmX5 hown hK hw 5 0 3 rfl rfl (by decide) (mi 4 rfl) rfl rfl rfl rfl (Nat.le_of_ble_eq_true rfl) dX5_become_29 rfl (fun H locs hw => ?_)
  refine lv_aload_n hx hb dX5_become_32 rfl (lv_at hl 0 rfl) ?_
  refine lv_aload_n hx hb dX5_become_33 rfl (lv_at hl 1 rfl) ?_
  refine wk_get hx hb hts hin_X5 hown hK hw.1 5 8 4 (.int (T1 4 0)) rfl rfl (by decide) (mi 5 rfl) rfl rfl dX5_become_34 ?_
  refine wk_put (wq := ((wX5 g a0 (up (up (up (up (up T0 0 (fun _ => (T1 0 0))) 1 (fun _ => (T1 1 0))) 2 (fun _ => (T1 2 0))) 3 (fun _ => (T1 3 0))) 4 (fun _ => (T1 4 0)))) ++ (wX5 g a1 T1))) hx hb hts hin_X5 tyX5 tyX5_ok nmX5 hown hK hw 5 0 4 rfl rfl (by decide) (mi 5 rfl) rfl rfl rfl rfl (Nat.le_of_ble_eq_true rfl) dX5_become_37 rfl (fun H locs hw => ?_)
  refine lv_aload_n hx hb dX5_become_40 rfl (lv_at hl 0 rfl) ?_
  refine lv_aload_n hx hb dX5_become_41 rfl (lv_at hl 1 rfl) ?_
  refine wk_get hx hb hts hin_X5 hown hK hw.1 5 8 5 (.int (T1 5 0)) rfl rfl (by decide) (mi 6 rfl) rfl rfl dX5_become_42 ?_
  refine wk_put (wq := ((wX5 g a0 (up (up (up (up (up (up T0 0 (fun _ => (T1 0 0))) 1 (fun _ => (T1 1 0))) 2 (fun _ => (T1 2 0))) 3 (fun _ => (T1 3 0))) 4 (fun _ => (T1 4 0))) 5 (fun _ => (T1 5 0)))) ++ (wX5 g a1 T1))) hx hb hts hin_X5 tyX5 tyX5_ok nmX5 hown hK hw 5 0 5 rfl rfl (by decide) (mi 6 rfl) rfl rfl rfl rfl (Nat.le_of_ble_eq_true rfl) dX5_become_45 rfl (fun H locs hw => ?_)
  refine lv_aload_n hx hb dX5_become_48 rfl (lv_at hl 0 rfl) ?_
  refine lv_aload_n hx hb dX5_become_49 rfl (lv_at hl 1 rfl) ?_
  refine wk_get hx hb hts hin_X5 hown hK hw.1 5 8 6 (.int (T1 6 0)) rfl rfl (by decide) (mi 7 rfl) rfl rfl dX5_become_50 ?_
  refine wk_put (wq := ((wX5 g a0 (up (up (up (up (up (up (up T0 0 (fun _ => (T1 0 0))) 1 (fun _ => (T1 1 0))) 2 (fun _ => (T1 2 0))) 3 (fun _ => (T1 3 0))) 4 (fun _ => (T1 4 0))) 5 (fun _ => (T1 5 0))) 6 (fun _ => (T1 6 0)))) ++ (wX5 g a1 T1))) hx hb hts hin_X5 tyX5 tyX5_ok nmX5 hown hK hw 5 0 6 rfl rfl (by decide) (mi 7 rfl) rfl rfl rfl rfl (Nat.le_of_ble_eq_true rfl) dX5_become_53 rfl (fun H locs hw => ?_)
  refine lv_aload_n hx hb dX5_become_56 rfl (lv_at hl 1 rfl) ?_
  refine wk_get hx hb hts hin_X5 hown hK hw.1 5 8 7 (.ref (a1 1)) rfl rfl (by decide) (mi 8 rfl) rfl rfl dX5_become_57 ?_
  refine lv_iconst (v := (0 : Int32)) hx hb dX5_become_60 (by decide) ?_
  refine lv_aload_n hx hb dX5_become_61 rfl (lv_at hl 0 rfl) ?_
  refine wk_get hx hb hts hin_X5 hown hK hw.1 5 0 7 (.ref (a0 1)) rfl rfl (by decide) (mi 8 rfl) rfl rfl dX5_become_62 ?_
  refine lv_iconst (v := (0 : Int32)) hx hb dX5_become_65 (by decide) ?_
  refine lv_bipush (v := (7 : Int32)) hx hb dX5_become_66 (by decide) ?_
  refine wk_copyi (wq := ((wX5 g a0 (up (up (up (up (up (up (up (up T0 0 (fun _ => (T1 0 0))) 1 (fun _ => (T1 1 0))) 2 (fun _ => (T1 2 0))) 3 (fun _ => (T1 3 0))) 4 (fun _ => (T1 4 0))) 5 (fun _ => (T1 5 0))) 6 (fun _ => (T1 6 0))) 7 (va_cpy (T1 7) (T0 7) ((0 : Int32)).toNatClampNeg ((0 : Int32)).toNatClampNeg ((7 : Int32)).toNatClampNeg))) ++ (wX5 g a1 T1))) hx hb (hml.trans hl.1.symm) hown (hts _ (mi 9 rfl)) (hts _ (mi 10 rfl)) (hts _ (mi 11 rfl)) (hts _ (mi 12 rfl)) hK hw 9 1 7 7 (T1 7) (T0 7) rfl rfl (by decide) (Nat.le_of_ble_eq_true rfl) (Nat.le_of_ble_eq_true rfl) dX5_become_68 rfl (fun H locs hw => ?_)
  refine lv_aload_n hx hb dX5_become_71 rfl (lv_at hl 1 rfl) ?_
  refine wk_get hx hb hts hin_X5 hown hK hw.1 5 8 8 (.ref (a1 2)) rfl rfl (by decide) (mi 13 rfl) rfl rfl dX5_become_72 ?_
  refine lv_iconst (v := (0 : Int32)) hx hb dX5_become_75 (by decide) ?_
  refine lv_aload_n hx hb dX5_become_76 rfl (lv_at hl 0 rfl) ?_
  refine wk_get hx hb hts hin_X5 hown hK hw.1 5 0 8 (.ref (a0 2)) rfl rfl (by decide) (mi 13 rfl) rfl rfl dX5_become_77 ?_
  refine lv_iconst (v := (0 : Int32)) hx hb dX5_become_80 (by decide) ?_
  refine lv_bipush (v := (7 : Int32)) hx hb dX5_become_81 (by decide) ?_
  refine wk_copyi (wq := ((wX5 g a0 (up (up (up (up (up (up (up (up (up T0 0 (fun _ => (T1 0 0))) 1 (fun _ => (T1 1 0))) 2 (fun _ => (T1 2 0))) 3 (fun _ => (T1 3 0))) 4 (fun _ => (T1 4 0))) 5 (fun _ => (T1 5 0))) 6 (fun _ => (T1 6 0))) 7 (va_cpy (T1 7) (T0 7) ((0 : Int32)).toNatClampNeg ((0 : Int32)).toNatClampNeg ((7 : Int32)).toNatClampNeg)) 8 (va_cpy (T1 8) (T0 8) ((0 : Int32)).toNatClampNeg ((0 : Int32)).toNatClampNeg ((7 : Int32)).toNatClampNeg))) ++ (wX5 g a1 T1))) hx hb (hml.trans hl.1.symm) hown (hts _ (mi 9 rfl)) (hts _ (mi 10 rfl)) (hts _ (mi 11 rfl)) (hts _ (mi 12 rfl)) hK hw 10 2 7 7 (T1 8) (T0 8) rfl rfl (by decide) (Nat.le_of_ble_eq_true rfl) (Nat.le_of_ble_eq_true rfl) dX5_become_83 rfl (fun H locs hw => ?_)
  refine lv_aload_n hx hb dX5_become_86 rfl (lv_at hl 1 rfl) ?_
  refine wk_get hx hb hts hin_X5 hown hK hw.1 5 8 9 (.ref (a1 3)) rfl rfl (by decide) (mi 14 rfl) rfl rfl dX5_become_87 ?_
  refine lv_iconst (v := (0 : Int32)) hx hb dX5_become_90 (by decide) ?_
  refine lv_aload_n hx hb dX5_become_91 rfl (lv_at hl 0 rfl) ?_
  refine wk_get hx hb hts hin_X5 hown hK hw.1 5 0 9 (.ref (a0 3)) rfl rfl (by decide) (mi 14 rfl) rfl rfl dX5_become_92 ?_
  refine lv_iconst (v := (0 : Int32)) hx hb dX5_become_95 (by decide) ?_
  refine lv_bipush (v := (7 : Int32)) hx hb dX5_become_96 (by decide) ?_
  refine wk_copyi (wq := ((wX5 g a0 (up (up (up (up (up (up (up (up (up (up T0 0 (fun _ => (T1 0 0))) 1 (fun _ => (T1 1 0))) 2 (fun _ => (T1 2 0))) 3 (fun _ => (T1 3 0))) 4 (fun _ => (T1 4 0))) 5 (fun _ => (T1 5 0))) 6 (fun _ => (T1 6 0))) 7 (va_cpy (T1 7) (T0 7) ((0 : Int32)).toNatClampNeg ((0 : Int32)).toNatClampNeg ((7 : Int32)).toNatClampNeg)) 8 (va_cpy (T1 8) (T0 8) ((0 : Int32)).toNatClampNeg ((0 : Int32)).toNatClampNeg ((7 : Int32)).toNatClampNeg)) 9 (va_cpy (T1 9) (T0 9) ((0 : Int32)).toNatClampNeg ((0 : Int32)).toNatClampNeg ((7 : Int32)).toNatClampNeg))) ++ (wX5 g a1 T1))) hx hb (hml.trans hl.1.symm) hown (hts _ (mi 9 rfl)) (hts _ (mi 10 rfl)) (hts _ (mi 11 rfl)) (hts _ (mi 12 rfl)) hK hw 11 3 7 7 (T1 9) (T0 9) rfl rfl (by decide) (Nat.le_of_ble_eq_true rfl) (Nat.le_of_ble_eq_true rfl) dX5_become_98 rfl (fun H locs hw => ?_)
  refine lv_aload_n hx hb dX5_become_101 rfl (lv_at hl 1 rfl) ?_
  refine wk_get hx hb hts hin_X5 hown hK hw.1 5 8 10 (.ref (a1 4)) rfl rfl (by decide) (mi 15 rfl) rfl rfl dX5_become_102 ?_
  refine lv_iconst (v := (0 : Int32)) hx hb dX5_become_105 (by decide) ?_
  refine lv_aload_n hx hb dX5_become_106 rfl (lv_at hl 0 rfl) ?_
  refine wk_get hx hb hts hin_X5 hown hK hw.1 5 0 10 (.ref (a0 4)) rfl rfl (by decide) (mi 15 rfl) rfl rfl dX5_become_107 ?_
  refine lv_iconst (v := (0 : Int32)) hx hb dX5_become_110 (by decide) ?_
  refine lv_bipush (v := (7 : Int32)) hx hb dX5_become_111 (by decide) ?_
  refine wk_copyi (wq := ((wX5 g a0 (up (up (up (up (up (up (up (up (up (up (up T0 0 (fun _ => (T1 0 0))) 1 (fun _ => (T1 1 0))) 2 (fun _ => (T1 2 0))) 3 (fun _ => (T1 3 0))) 4 (fun _ => (T1 4 0))) 5 (fun _ => (T1 5 0))) 6 (fun _ => (T1 6 0))) 7 (va_cpy (T1 7) (T0 7) ((0 : Int32)).toNatClampNeg ((0 : Int32)).toNatClampNeg ((7 : Int32)).toNatClampNeg)) 8 (va_cpy (T1 8) (T0 8) ((0 : Int32)).toNatClampNeg ((0 : Int32)).toNatClampNeg ((7 : Int32)).toNatClampNeg)) 9 (va_cpy (T1 9) (T0 9) ((0 : Int32)).toNatClampNeg ((0 : Int32)).toNatClampNeg ((7 : Int32)).toNatClampNeg)) 10 (va_cpy (T1 10) (T0 10) ((0 : Int32)).toNatClampNeg ((0 : Int32)).toNatClampNeg ((7 : Int32)).toNatClampNeg))) ++ (wX5 g a1 T1))) hx hb (hml.trans hl.1.symm) hown (hts _ (mi 9 rfl)) (hts _ (mi 10 rfl)) (hts _ (mi 11 rfl)) (hts _ (mi 12 rfl)) hK hw 12 4 7 7 (T1 10) (T0 10) rfl rfl (by decide) (Nat.le_of_ble_eq_true rfl) (Nat.le_of_ble_eq_true rfl) dX5_become_113 rfl (fun H locs hw => ?_)
  refine lv_aload_n hx hb dX5_become_116 rfl (lv_at hl 1 rfl) ?_
  refine wk_get hx hb hts hin_X5 hown hK hw.1 5 8 11 (.ref (a1 5)) rfl rfl (by decide) (mi 16 rfl) rfl rfl dX5_become_117 ?_
  refine lv_iconst (v := (0 : Int32)) hx hb dX5_become_120 (by decide) ?_
  refine lv_aload_n hx hb dX5_become_121 rfl (lv_at hl 0 rfl) ?_
  refine wk_get hx hb hts hin_X5 hown hK hw.1 5 0 11 (.ref (a0 5)) rfl rfl (by decide) (mi 16 rfl) rfl rfl dX5_become_122 ?_
  refine lv_iconst (v := (0 : Int32)) hx hb dX5_become_125 (by decide) ?_
  refine lv_bipush (v := (7 : Int32)) hx hb dX5_become_126 (by decide) ?_
  refine wk_copyi (wq := ((wX5 g a0 (up (up (up (up (up (up (up (up (up (up (up (up T0 0 (fun _ => (T1 0 0))) 1 (fun _ => (T1 1 0))) 2 (fun _ => (T1 2 0))) 3 (fun _ => (T1 3 0))) 4 (fun _ => (T1 4 0))) 5 (fun _ => (T1 5 0))) 6 (fun _ => (T1 6 0))) 7 (va_cpy (T1 7) (T0 7) ((0 : Int32)).toNatClampNeg ((0 : Int32)).toNatClampNeg ((7 : Int32)).toNatClampNeg)) 8 (va_cpy (T1 8) (T0 8) ((0 : Int32)).toNatClampNeg ((0 : Int32)).toNatClampNeg ((7 : Int32)).toNatClampNeg)) 9 (va_cpy (T1 9) (T0 9) ((0 : Int32)).toNatClampNeg ((0 : Int32)).toNatClampNeg ((7 : Int32)).toNatClampNeg)) 10 (va_cpy (T1 10) (T0 10) ((0 : Int32)).toNatClampNeg ((0 : Int32)).toNatClampNeg ((7 : Int32)).toNatClampNeg)) 11 (va_cpy (T1 11) (T0 11) ((0 : Int32)).toNatClampNeg ((0 : Int32)).toNatClampNeg ((7 : Int32)).toNatClampNeg))) ++ (wX5 g a1 T1))) hx hb (hml.trans hl.1.symm) hown (hts _ (mi 9 rfl)) (hts _ (mi 10 rfl)) (hts _ (mi 11 rfl)) (hts _ (mi 12 rfl)) hK hw 13 5 7 7 (T1 11) (T0 11) rfl rfl (by decide) (Nat.le_of_ble_eq_true rfl) (Nat.le_of_ble_eq_true rfl) dX5_become_128 rfl (fun H locs hw => ?_)
  refine lv_aload_n hx hb dX5_become_131 rfl (lv_at hl 1 rfl) ?_
  refine wk_get hx hb hts hin_X5 hown hK hw.1 5 8 12 (.ref (a1 6)) rfl rfl (by decide) (mi 17 rfl) rfl rfl dX5_become_132 ?_
  refine lv_iconst (v := (0 : Int32)) hx hb dX5_become_135 (by decide) ?_
  refine lv_aload_n hx hb dX5_become_136 rfl (lv_at hl 0 rfl) ?_
  refine wk_get hx hb hts hin_X5 hown hK hw.1 5 0 12 (.ref (a0 6)) rfl rfl (by decide) (mi 17 rfl) rfl rfl dX5_become_137 ?_
  refine lv_iconst (v := (0 : Int32)) hx hb dX5_become_140 (by decide) ?_
  refine lv_bipush (v := (7 : Int32)) hx hb dX5_become_141 (by decide) ?_
  refine wk_copyi (wq := ((wX5 g a0 (up (up (up (up (up (up (up (up (up (up (up (up (up T0 0 (fun _ => (T1 0 0))) 1 (fun _ => (T1 1 0))) 2 (fun _ => (T1 2 0))) 3 (fun _ => (T1 3 0))) 4 (fun _ => (T1 4 0))) 5 (fun _ => (T1 5 0))) 6 (fun _ => (T1 6 0))) 7 (va_cpy (T1 7) (T0 7) ((0 : Int32)).toNatClampNeg ((0 : Int32)).toNatClampNeg ((7 : Int32)).toNatClampNeg)) 8 (va_cpy (T1 8) (T0 8) ((0 : Int32)).toNatClampNeg ((0 : Int32)).toNatClampNeg ((7 : Int32)).toNatClampNeg)) 9 (va_cpy (T1 9) (T0 9) ((0 : Int32)).toNatClampNeg ((0 : Int32)).toNatClampNeg ((7 : Int32)).toNatClampNeg)) 10 (va_cpy (T1 10) (T0 10) ((0 : Int32)).toNatClampNeg ((0 : Int32)).toNatClampNeg ((7 : Int32)).toNatClampNeg)) 11 (va_cpy (T1 11) (T0 11) ((0 : Int32)).toNatClampNeg ((0 : Int32)).toNatClampNeg ((7 : Int32)).toNatClampNeg)) 12 (va_cpy (T1 12) (T0 12) ((0 : Int32)).toNatClampNeg ((0 : Int32)).toNatClampNeg ((7 : Int32)).toNatClampNeg))) ++ (wX5 g a1 T1))) hx hb (hml.trans hl.1.symm) hown (hts _ (mi 9 rfl)) (hts _ (mi 10 rfl)) (hts _ (mi 11 rfl)) (hts _ (mi 12 rfl)) hK hw 14 6 7 7 (T1 12) (T0 12) rfl rfl (by decide) (Nat.le_of_ble_eq_true rfl) (Nat.le_of_ble_eq_true rfl) dX5_become_143 rfl (fun H locs hw => ?_)
  obtain rfl := Option.some.inj hM
  exact W.vret hx hb hr (fun t ht _ => ⟨rfl, by rw [ht]; exact hw.1, hw.2.2.F ht⟩) hw.2.2.2.2 dX5_become_146
theorem hd_X5_cutOff : yX5_cutOff.cls = RX5 ∧ yX5_cutOff.cls ≠ "java/lang/invoke/MethodHandle" ∧ yX5_cutOff.cls ≠ "java/lang/invoke/VarHandle" ∧ (parseMethodDescriptor yX5_cutOff.desc).map (fun d => d.parameters.length) = some 1 := by decide +kernel
set_option maxHeartbeats 4000000 in
set_option maxRecDepth 100000 in
theorem c_X5_cutOff (l : Launch) (g : Gm) (a0 : Nat → Nat) (T0 : TS) (p1 : Int32) {q : TS} (hM : f_X5_cutOff T0 p1 = some q) : MW l yX5_cutOff wsX5_cutOff 1 22 g [.ref (a0 0), .int p1] (wX5 g a0 T0) none (wX5 g a0 q) := by
  intro sz
  refine Met.ofW (cc := cX5_cutOff) (maxL := 3) (ret := none) (by decide) rfl ?_
  intro p e s m args below meth c s₁ B hml hv
  obtain ⟨rfl, hsz, hP, hK, hD0⟩ := hv
  have hx := B.exec; have hb := B.bytes; have hr := B.returns
  have hts := atoms_spec (ws := wsX5_cutOff) B.pre
  have hown : s.vm.findClass RX5 = some m.cls := findClass_of_methodNamed B.named
  have hlocks := B.notSynchronized
  have hS : CallFix p m c cX5_cutOff 3 s _ wsX5_cutOff RX5 := ⟨hx, hb, hml, hown, hts⟩
  have hin_X5 : ∀ w ∈ wsX50, w ∈ wsX5_cutOff := fun w h => (List.mem_cons_of_mem _ (List.mem_append_right _ h))
  subst hsz
  have hw := wk_start hP hD0
  have hA : ∀ q : Nat, s.heap.size ≤ q → va_A (wX5 g a0 T0) s.heap.size q := fun q h => Or.inr h
  generalize va_A (wX5 g a0 T0) s.heap.size = A at hw hA ⊢
  clear hP hD0
  have hl := lv_entry ([.ref (a0 0), .int p1]) (n := 3) (Nat.le_of_ble_eq_true rfl)
  rw [lg_entry_eq]
  generalize (lg_sl ([.ref (a0 0), .int p1]) ++ List.replicate (3 - (lg_sl ([.ref (a0 0), .int p1])).length) Slot.unset).toArray = ls at hl ⊢
  have hl : lv_has ls 3 [(0, .ref (a0 0)), (1, .int p1)] := hl
  rw [f_X5_cutOff] at hM
  refine lv_aload_n hx hb dX5_cutOff_0 rfl (lv_at hl 0 rfl) ?_
  refine wk_get hx hb hts hin_X5 hown hK hw.1 5 0 10 (.ref (a0 4)) rfl rfl (by decide) (mi 1 rfl) rfl rfl dX5_cutOff_1 ?_
  refine lv_iload_n hx hb dX5_cutOff_4 rfl (lv_at hl 1 rfl) ?_
  refine lv_iconst (v := (0 : Int32)) hx hb dX5_cutOff_5 (by decide) ?_
  obtain ⟨k1, hM⟩ := ck hM
  refine wk_iast (wq := (wX5 g a0 (up T0 10 (upd (T0 10) (p1).toNatClampNeg (0 : Int32))))) hx hb hK hw 4 7 (T0 10) rfl k1 dX5_cutOff_6 rfl (fun H locs hw => ?_)
  refine lv_iconst (v := (0 : Int32)) hx hb dX5_cutOff_7 (by decide) ?_
  refine lv_istore_n (lv' := [(2, .int (0 : Int32)), (0, .ref (a0 0)), (1, .int p1)]) hx hb dX5_cutOff_8 rfl hl (by decide) rfl (fun ls hl => ?_)
  obtain ⟨q4, hL9, hM⟩ := bd hM
  have hJ9 : ∀ (H : Heap) (locs : List Loc), Wk g A s.heap H locs (wX5 g a0 q4) → ∀ (ls : Array Slot), lv_has ls 3 [] → W p l e (headSpec wsX5_cutOff ({ frames := 1, cells := 0, slots := 0, locals := 22 } : Room)).room s m ([.ref (a0 0), .int p1] : List Value).toArray below meth c H locs 0 0 (MQ below (QcW g none (wX5 g a0 q) A) ([.ref (a0 0), .int p1] : List Value).toArray s 0 0 A) (F0 m 40 ls []) := by
    intro H locs hw ls hl
    obtain rfl := Option.some.inj hM
    exact W.vret hx hb hr (fun t ht _ => ⟨rfl, by rw [ht]; exact hw.1, hw.2.2.F ht⟩) hw.2.2.2.2 dX5_cutOff_40
  have hW9 : ∀ (n : Nat) (v2_2 : Int32) (TL3 : TS), L_X5_cutOff_9 p1 n v2_2 TL3 = some q4 → ∀ (H : Heap) (locs : List Loc), Wk g A s.heap H locs (wX5 g a0 TL3) → ∀ (ls : Array Slot), lv_has ls 3 [(2, .int v2_2), (0, .ref (a0 0)), (1, .int p1)] → W p l e (headSpec wsX5_cutOff ({ frames := 1, cells := 0, slots := 0, locals := 22 } : Room)).room s m ([.ref (a0 0), .int p1] : List Value).toArray below meth c H locs 0 0 (MQ below (QcW g none (wX5 g a0 q) A) ([.ref (a0 0), .int p1] : List Value).toArray s 0 0 A) (F0 m 9 ls []) := by
    intro n
    induction n with
    | zero => intro v2_2 TL3 hM; rw [L_X5_cutOff_9] at hM; exact nn hM
    | succ n ih9 =>
      intro v2_2 TL3 hM H locs hw ls hl
      rw [L_X5_cutOff_9] at hM
      refine lv_iload_n hx hb dX5_cutOff_9 rfl (lv_at hl 0 rfl) ?_
      refine lv_aload_n hx hb dX5_cutOff_10 rfl (lv_at hl 1 rfl) ?_
      refine wk_get hx hb hts hin_X5 hown hK hw.1 5 0 1 (.int (TL3 1 0)) rfl rfl (by decide) (mi 2 rfl) rfl rfl dX5_cutOff_11 ?_
      refine lv_icmp_ge (tgt := 40) hx hb dX5_cutOff_14 (by decide) (fun c5 => ?_) (fun c5 => ?_)
      · replace hM := itp c5 hM
        obtain rfl := Option.some.inj hM
        exact hJ9 _ _ hw _ (lv_sub hl [] rfl)
      · replace hM := itn c5 hM
        refine lv_aload_n hx hb dX5_cutOff_17 rfl (lv_at hl 1 rfl) ?_
        refine wk_get hx hb hts hin_X5 hown hK hw.1 5 0 10 (.ref (a0 4)) rfl rfl (by decide) (mi 1 rfl) rfl rfl dX5_cutOff_18 ?_
        refine lv_iload_n hx hb dX5_cutOff_21 rfl (lv_at hl 0 rfl) ?_
        refine lv_aload_n hx hb dX5_cutOff_22 rfl (lv_at hl 1 rfl) ?_
        refine wk_get hx hb hts hin_X5 hown hK hw.1 5 0 10 (.ref (a0 4)) rfl rfl (by decide) (mi 1 rfl) rfl rfl dX5_cutOff_23 ?_
        refine lv_iload_n hx hb dX5_cutOff_26 rfl (lv_at hl 0 rfl) ?_
        obtain ⟨k6, hM⟩ := ck hM
        refine wk_iald hx hb hK hw.1 4 7 (TL3 10) rfl k6 dX5_cutOff_27 ?_
        refine lv_iload_n hx hb dX5_cutOff_28 rfl (lv_at hl 2 rfl) ?_
        refine lv_iconst (v := (0 : Int32)) hx hb dX5_cutOff_29 (by decide) ?_
        refine rNR (wc := ([] : va_W)) (As := [.int ((TL3 10) (v2_2).toNatClampNeg), .int p1, .int (0 : Int32)]) (rest := [.int v2_2, .ref (a0 4)]) hS (c_X6_with l g ((TL3 10) (v2_2).toNatClampNeg) p1 (0 : Int32)) gX5_cutOff_X6_with_n61 rfl (mi 3 rfl) (mi 4 rfl) 7 rfl hd_X6_with ⟨Nat.le_of_ble_eq_true rfl, Nat.le_of_ble_eq_true rfl⟩ hK (hP_nil) rfl hl.1 rfl (Nat.le_of_ble_eq_true rfl) dX5_cutOff_30 ⟨Nat.zero_le _, Nat.zero_le _⟩ ?_
        refine wk_iast (wq := (wX5 g a0 (up TL3 10 (upd (TL3 10) (v2_2).toNatClampNeg (f_X6_with ((TL3 10) (v2_2).toNatClampNeg) p1 (0 : Int32)))))) hx hb hK hw 4 7 (TL3 10) rfl k6 dX5_cutOff_33 rfl (fun H locs hw => ?_)
        refine lv_iinc (v := (v2_2 + (1 : Int32))) (lv' := [(2, .int (v2_2 + (1 : Int32))), (0, .ref (a0 0)), (1, .int p1)]) hx hb dX5_cutOff_34 hl (k := 0) rfl rfl (by decide) rfl (fun ls hl => ?_)
        refine lv_goto (tgt := 9) hx hb dX5_cutOff_37 (by decide) ?_
        exact ih9 (v2_2 + (1 : Int32)) (up TL3 10 (upd (TL3 10) (v2_2).toNatClampNeg (f_X6_with ((TL3 10) (v2_2).toNatClampNeg) p1 (0 : Int32)))) hM _ _ hw _ (lv_sub hl [0, 1, 2] rfl)
  exact hW9 300 (0 : Int32) (up T0 10 (upd (T0 10) (p1).toNatClampNeg (0 : Int32))) hL9 _ _ hw _ (lv_sub hl [0, 1, 2] rfl)
theorem hd_X5_drawBelow : yX5_drawBelow.cls = RX5 ∧ yX5_drawBelow.cls ≠ "java/lang/invoke/MethodHandle" ∧ yX5_drawBelow.cls ≠ "java/lang/invoke/VarHandle" ∧ (parseMethodDescriptor yX5_drawBelow.desc).map (fun d => d.parameters.length) = some 1 := by decide +kernel
set_option maxHeartbeats 4000000 in
set_option maxRecDepth 100000 in
theorem c_X5_drawBelow (l : Launch) (g : Gm) (a0 : Nat → Nat) (T0 : TS) (p1 : Int32) {q : (Int32 × TS)} (hM : f_X5_drawBelow T0 p1 = some q) : MW l yX5_drawBelow wsX5_drawBelow 0 0 g [.ref (a0 0), .int p1] (wX5 g a0 T0) (some (.int q.1)) (wX5 g a0 q.2) := by
  intro sz
  refine Met.ofW (cc := cX5_drawBelow) (maxL := 2) (ret := (some .int)) (by decide) rfl ?_
  intro p e s m args below meth c s₁ B hml hv
  obtain ⟨rfl, hsz, hP, hK, hD0⟩ := hv
  have hx := B.exec; have hb := B.bytes; have hr := B.returns
  have hts := atoms_spec (ws := wsX5_drawBelow) B.pre
  have hown : s.vm.findClass RX5 = some m.cls := findClass_of_methodNamed B.named
  have hlocks := B.notSynchronized
  have hS : CallFix p m c cX5_drawBelow 2 s _ wsX5_drawBelow RX5 := ⟨hx, hb, hml, hown, hts⟩
  have hin_X5 : ∀ w ∈ wsX50, w ∈ wsX5_drawBelow := fun w h => (List.mem_cons_of_mem _ (List.mem_append_right _ h))
  subst hsz
  have hw := wk_start hP hD0
  have hA : ∀ q : Nat, s.heap.size ≤ q → va_A (wX5 g a0 T0) s.heap.size q := fun q h => Or.inr h
  generalize va_A (wX5 g a0 T0) s.heap.size = A at hw hA ⊢
  clear hP hD0
  have hl := lv_entry ([.ref (a0 0), .int p1]) (n := 2) (Nat.le_of_ble_eq_true rfl)
  rw [lg_entry_eq]
  generalize (lg_sl ([.ref (a0 0), .int p1]) ++ List.replicate (2 - (lg_sl ([.ref (a0 0), .int p1])).length) Slot.unset).toArray = ls at hl ⊢
  have hl : lv_has ls 2 [(0, .ref (a0 0)), (1, .int p1)] := hl
  rw [f_X5_drawBelow] at hM
  refine lv_aload_n hx hb dX5_drawBelow_0 rfl (lv_at hl 0 rfl) ?_
  refine lv_aload_n hx hb dX5_drawBelow_1 rfl (lv_at hl 0 rfl) ?_
  refine wk_get hx hb hts hin_X5 hown hK hw.1 5 0 6 (.int (T0 6 0)) rfl rfl (by decide) (mi 1 rfl) rfl rfl dX5_drawBelow_2 ?_
  refine lv_ldc (v := (1103515245 : Int32)) hx hb hown (hts _ (mi 2 rfl)) dX5_drawBelow_5 ?_
  refine lv_imul hx hb dX5_drawBelow_7 ?_
  refine lv_sipush (v := (12345 : Int32)) hx hb dX5_drawBelow_8 (by decide) ?_
  refine lv_iadd hx hb dX5_drawBelow_11 ?_
  refine wk_put (wq := (wX5 g a0 (up T0 6 (fun _ => (((T0 6 0) * (1103515245 : Int32)) + (12345 : Int32)))))) hx hb hts hin_X5 tyX5 tyX5_ok nmX5 hown hK hw 5 0 6 rfl rfl (by decide) (mi 1 rfl) rfl rfl rfl rfl (Nat.le_of_ble_eq_true rfl) dX5_drawBelow_12 rfl (fun H locs hw => ?_)
  refine lv_iload_n hx hb dX5_drawBelow_15 rfl (lv_at hl 1 rfl) ?_
  refine lv_if_le (tgt := 31) hx hb dX5_drawBelow_16 (by decide) (fun c1 => ?_) (fun c1 => ?_)
  · replace hM := itp c1 hM
    refine lv_iconst (v := (0 : Int32)) hx hb dX5_drawBelow_31 (by decide) ?_
    obtain rfl := Option.some.inj hM
    exact W.iret hx hb hr (fun t ht _ => ⟨rfl, by rw [ht]; exact hw.1, hw.2.2.F ht⟩) hw.2.2.2.2 dX5_drawBelow_32
  · replace hM := itn c1 hM
    refine lv_aload_n hx hb dX5_drawBelow_19 rfl (lv_at hl 0 rfl) ?_
    refine wk_get hx hb hts hin_X5 hown hK hw.1 5 0 6 (.int (((T0 6 0) * (1103515245 : Int32)) + (12345 : Int32))) rfl rfl (by decide) (mi 1 rfl) rfl rfl dX5_drawBelow_20 ?_
    refine lv_bipush (v := (16 : Int32)) hx hb dX5_drawBelow_23 (by decide) ?_
    refine lv_iushr (v := (((((T0 6 0) * (1103515245 : Int32)) + (12345 : Int32))).toUInt32 >>> (((16 : Int32)).toUInt32 &&& Int32.toUInt32 31)).toInt32) hx hb dX5_drawBelow_25 rfl ?_
    refine lv_iload_n hx hb dX5_drawBelow_26 rfl (lv_at hl 1 rfl) ?_
    obtain ⟨k2, hM⟩ := ck hM
    refine lv_irem hx hb dX5_drawBelow_27 k2 ?_
    refine lv_goto (tgt := 32) hx hb dX5_drawBelow_28 (by decide) ?_
    obtain rfl := Option.some.inj hM
    exact W.iret hx hb hr (fun t ht _ => ⟨rfl, by rw [ht]; exact hw.1, hw.2.2.F ht⟩) hw.2.2.2.2 dX5_drawBelow_32
theorem hd_X5_knownTo : yX5_knownTo.cls = RX5 ∧ yX5_knownTo.cls ≠ "java/lang/invoke/MethodHandle" ∧ yX5_knownTo.cls ≠ "java/lang/invoke/VarHandle" ∧ (parseMethodDescriptor yX5_knownTo.desc).map (fun d => d.parameters.length) = some 1 := by decide +kernel
set_option maxHeartbeats 4000000 in
set_option maxRecDepth 100000 in
theorem c_X5_knownTo (l : Launch) (g : Gm) (a0 : Nat → Nat) (T0 : TS) (p1 : Int32) {q : Int32} (hM : f_X5_knownTo T0 p1 = some q) : MR l yX5_knownTo wsX5_knownTo 0 0 g [.ref (a0 0), .int p1] (wX5 g a0 T0) (some (.int q)) := by
  refine Met.ofW (cc := cX5_knownTo) (maxL := 2) (ret := (some .int)) (by decide) rfl ?_
  intro p e s m args below meth c s₁ B hml hv
  obtain ⟨rfl, hP, hK⟩ := hv
  have hx := B.exec; have hb := B.bytes; have hr := B.returns
  have hts := atoms_spec (ws := wsX5_knownTo) B.pre
  have hown : s.vm.findClass RX5 = some m.cls := findClass_of_methodNamed B.named
  have hlocks := B.notSynchronized
  have hS : CallFix p m c cX5_knownTo 2 s _ wsX5_knownTo RX5 := ⟨hx, hb, hml, hown, hts⟩
  have hin_X5 : ∀ w ∈ wsX50, w ∈ wsX5_knownTo := fun w h => (List.mem_cons_of_mem _ (List.mem_append_right _ h))
  have hl := lv_entry ([.ref (a0 0), .int p1]) (n := 2) (Nat.le_of_ble_eq_true rfl)
  rw [lg_entry_eq]
  generalize (lg_sl ([.ref (a0 0), .int p1]) ++ List.replicate (2 - (lg_sl ([.ref (a0 0), .int p1])).length) Slot.unset).toArray = ls at hl ⊢
  have hl : lv_has ls 2 [(0, .ref (a0 0)), (1, .int p1)] := hl
  rw [f_X5_knownTo] at hM
  refine lv_aload_n hx hb dX5_knownTo_0 rfl (lv_at hl 0 rfl) ?_
  refine wk_get hx hb hts hin_X5 hown hK hP 5 0 7 (.ref (a0 1)) rfl rfl (by decide) (mi 1 rfl) rfl rfl dX5_knownTo_1 ?_
  refine lv_iload_n hx hb dX5_knownTo_4 rfl (lv_at hl 1 rfl) ?_
  obtain ⟨k1, hM⟩ := ck hM
  refine wk_iald hx hb hK hP 1 7 (T0 7) rfl k1 dX5_knownTo_5 ?_
  refine lv_aload_n hx hb dX5_knownTo_6 rfl (lv_at hl 0 rfl) ?_
  refine wk_get hx hb hts hin_X5 hown hK hP 5 0 8 (.ref (a0 2)) rfl rfl (by decide) (mi 2 rfl) rfl rfl dX5_knownTo_7 ?_
  refine lv_iload_n hx hb dX5_knownTo_10 rfl (lv_at hl 1 rfl) ?_
  refine wk_iald hx hb hK hP 2 7 (T0 8) rfl k1 dX5_knownTo_11 ?_
  refine lv_ior hx hb dX5_knownTo_12 ?_
  refine lv_aload_n hx hb dX5_knownTo_13 rfl (lv_at hl 0 rfl) ?_
  refine wk_get hx hb hts hin_X5 hown hK hP 5 0 9 (.ref (a0 3)) rfl rfl (by decide) (mi 3 rfl) rfl rfl dX5_knownTo_14 ?_
  refine lv_iload_n hx hb dX5_knownTo_17 rfl (lv_at hl 1 rfl) ?_
  refine wk_iald hx hb hK hP 3 7 (T0 9) rfl k1 dX5_knownTo_18 ?_
  refine lv_ior hx hb dX5_knownTo_19 ?_
  obtain rfl := Option.some.inj hM
  exact W.iret hx hb hr (fun t ht _ => ⟨rfl, ht⟩) (fun q hq => by cases hq) dX5_knownTo_20
theorem hd_X5_factOf : yX5_factOf.cls = RX5 ∧ yX5_factOf.cls ≠ "java/lang/invoke/MethodHandle" ∧ yX5_factOf.cls ≠ "java/lang/invoke/VarHandle" ∧ (parseMethodDescriptor yX5_factOf.desc).map (fun d => d.parameters.length) = some 2 := by decide +kernel
set_option maxHeartbeats 4000000 in
set_option maxRecDepth 100000 in
theorem c_X5_factOf (l : Launch) (g : Gm) (a0 : Nat → Nat) (T0 : TS) (p1 : Int32) (p2 : Int32) {q : Int32} (hM : f_X5_factOf T0 p1 p2 = some q) : MR l yX5_factOf wsX5_factOf 1 21 g [.ref (a0 0), .int p1, .int p2] (wX5 g a0 T0) (some (.int q)) := by
  refine Met.ofW (cc := cX5_factOf) (maxL := 3) (ret := (some .int)) (by decide) rfl ?_
  intro p e s m args below meth c s₁ B hml hv
  obtain ⟨rfl, hP, hK⟩ := hv
  have hx := B.exec; have hb := B.bytes; have hr := B.returns
  have hts := atoms_spec (ws := wsX5_factOf) B.pre
  have hown : s.vm.findClass RX5 = some m.cls := findClass_of_methodNamed B.named
  have hlocks := B.notSynchronized
  have hS : CallFix p m c cX5_factOf 3 s _ wsX5_factOf RX5 := ⟨hx, hb, hml, hown, hts⟩
  have hin_X5 : ∀ w ∈ wsX50, w ∈ wsX5_factOf := fun w h => (List.mem_cons_of_mem _ (List.mem_append_right _ h))
  have hl := lv_entry ([.ref (a0 0), .int p1, .int p2]) (n := 3) (Nat.le_of_ble_eq_true rfl)
  rw [lg_entry_eq]
  generalize (lg_sl ([.ref (a0 0), .int p1, .int p2]) ++ List.replicate (3 - (lg_sl ([.ref (a0 0), .int p1, .int p2])).length) Slot.unset).toArray = ls at hl ⊢
  have hl : lv_has ls 3 [(0, .ref (a0 0)), (1, .int p1), (2, .int p2)] := hl
  rw [f_X5_factOf] at hM
  refine lv_iload_n hx hb dX5_factOf_0 rfl (lv_at hl 2 rfl) ?_
  by_cases c1_0 : p2 = (0 : Int32)
  · replace hM := itp c1_0 hM
    refine lv_tableIn (tgt := 44) hx hb dX5_factOf_1 (by rw [c1_0]; decide) (by rw [c1_0]; decide) (by rw [c1_0]; first | done | rfl) (by decide) ?_
    refine lv_aload_n hx hb dX5_factOf_44 rfl (lv_at hl 0 rfl) ?_
    refine wk_get hx hb hts hin_X5 hown hK hP 5 0 11 (.ref (a0 5)) rfl rfl (by decide) (mi 1 rfl) rfl rfl dX5_factOf_45 ?_
    refine lv_iload_n hx hb dX5_factOf_48 rfl (lv_at hl 1 rfl) ?_
    obtain ⟨k2, hM⟩ := ck hM
    refine wk_iald hx hb hK hP 5 7 (T0 11) rfl k2 dX5_factOf_49 ?_
    obtain rfl := Option.some.inj hM
    exact W.iret hx hb hr (fun t ht _ => ⟨rfl, ht⟩) (fun q hq => by cases hq) dX5_factOf_50
  replace hM := itn c1_0 hM
  by_cases c1_1 : p2 = (1 : Int32)
  · replace hM := itp c1_1 hM
    refine lv_tableIn (tgt := 51) hx hb dX5_factOf_1 (by rw [c1_1]; decide) (by rw [c1_1]; decide) (by rw [c1_1]; first | done | rfl) (by decide) ?_
    refine lv_aload_n hx hb dX5_factOf_51 rfl (lv_at hl 0 rfl) ?_
    refine wk_get hx hb hts hin_X5 hown hK hP 5 0 12 (.ref (a0 6)) rfl rfl (by decide) (mi 2 rfl) rfl rfl dX5_factOf_52 ?_
    refine lv_iload_n hx hb dX5_factOf_55 rfl (lv_at hl 1 rfl) ?_
    obtain ⟨k3, hM⟩ := ck hM
    refine wk_iald hx hb hK hP 6 7 (T0 12) rfl k3 dX5_factOf_56 ?_
    obtain rfl := Option.some.inj hM
    exact W.iret hx hb hr (fun t ht _ => ⟨rfl, ht⟩) (fun q hq => by cases hq) dX5_factOf_57
  replace hM := itn c1_1 hM
  by_cases c1_2 : p2 = (2 : Int32)
  · replace hM := itp c1_2 hM
    refine lv_tableIn (tgt := 58) hx hb dX5_factOf_1 (by rw [c1_2]; decide) (by rw [c1_2]; decide) (by rw [c1_2]; first | done | rfl) (by decide) ?_
    refine lv_aload_n hx hb dX5_factOf_58 rfl (lv_at hl 0 rfl) ?_
    refine wk_get hx hb hts hin_X5 hown hK hP 5 0 7 (.ref (a0 1)) rfl rfl (by decide) (mi 3 rfl) rfl rfl dX5_factOf_59 ?_
    refine lv_iload_n hx hb dX5_factOf_62 rfl (lv_at hl 1 rfl) ?_
    obtain ⟨k4, hM⟩ := ck hM
    refine wk_iald hx hb hK hP 1 7 (T0 7) rfl k4 dX5_factOf_63 ?_
    obtain rfl := Option.some.inj hM
    exact W.iret hx hb hr (fun t ht _ => ⟨rfl, ht⟩) (fun q hq => by cases hq) dX5_factOf_64
  replace hM := itn c1_2 hM
  by_cases c1_3 : p2 = (3 : Int32)
  · replace hM := itp c1_3 hM
    refine lv_tableIn (tgt := 65) hx hb dX5_factOf_1 (by rw [c1_3]; decide) (by rw [c1_3]; decide) (by rw [c1_3]; first | done | rfl) (by decide) ?_
    refine lv_aload_n hx hb dX5_factOf_65 rfl (lv_at hl 0 rfl) ?_
    refine wk_get hx hb hts hin_X5 hown hK hP 5 0 8 (.ref (a0 2)) rfl rfl (by decide) (mi 4 rfl) rfl rfl dX5_factOf_66 ?_
    refine lv_iload_n hx hb dX5_factOf_69 rfl (lv_at hl 1 rfl) ?_
    obtain ⟨k5, hM⟩ := ck hM
    refine wk_iald hx hb hK hP 2 7 (T0 8) rfl k5 dX5_factOf_70 ?_
    obtain rfl := Option.some.inj hM
    exact W.iret hx hb hr (fun t ht _ => ⟨rfl, ht⟩) (fun q hq => by cases hq) dX5_factOf_71
  replace hM := itn c1_3 hM
  by_cases c1_4 : p2 = (4 : Int32)
  · replace hM := itp c1_4 hM
    refine lv_tableIn (tgt := 72) hx hb dX5_factOf_1 (by rw [c1_4]; decide) (by rw [c1_4]; decide) (by rw [c1_4]; first | done | rfl) (by decide) ?_
    refine lv_aload_n hx hb dX5_factOf_72 rfl (lv_at hl 0 rfl) ?_
    refine wk_get hx hb hts hin_X5 hown hK hP 5 0 9 (.ref (a0 3)) rfl rfl (by decide) (mi 5 rfl) rfl rfl dX5_factOf_73 ?_
    refine lv_iload_n hx hb dX5_factOf_76 rfl (lv_at hl 1 rfl) ?_
    obtain ⟨k6, hM⟩ := ck hM
    refine wk_iald hx hb hK hP 3 7 (T0 9) rfl k6 dX5_factOf_77 ?_
    obtain rfl := Option.some.inj hM
    exact W.iret hx hb hr (fun t ht _ => ⟨rfl, ht⟩) (fun q hq => by cases hq) dX5_factOf_78
  replace hM := itn c1_4 hM
  by_cases c1_5 : p2 = (5 : Int32)
  · replace hM := itp c1_5 hM
    refine lv_tableIn (tgt := 79) hx hb dX5_factOf_1 (by rw [c1_5]; decide) (by rw [c1_5]; decide) (by rw [c1_5]; first | done | rfl) (by decide) ?_
    refine lv_aload_n hx hb dX5_factOf_79 rfl (lv_at hl 0 rfl) ?_
    refine wk_get hx hb hts hin_X5 hown hK hP 5 0 10 (.ref (a0 4)) rfl rfl (by decide) (mi 6 rfl) rfl rfl dX5_factOf_80 ?_
    refine lv_iload_n hx hb dX5_factOf_83 rfl (lv_at hl 1 rfl) ?_
    obtain ⟨k7, hM⟩ := ck hM
    refine wk_iald hx hb hK hP 4 7 (T0 10) rfl k7 dX5_factOf_84 ?_
    obtain rfl := Option.some.inj hM
    exact W.iret hx hb hr (fun t ht _ => ⟨rfl, ht⟩) (fun q hq => by cases hq) dX5_factOf_85
  replace hM := itn c1_5 hM
  by_cases c1_6 : p2 = (6 : Int32)
  · replace hM := itp c1_6 hM
    refine lv_tableIn (tgt := 86) hx hb dX5_factOf_1 (by rw [c1_6]; decide) (by rw [c1_6]; decide) (by rw [c1_6]; first | done | rfl) (by decide) ?_
    refine lv_aload_n hx hb dX5_factOf_86 rfl (lv_at hl 0 rfl) ?_
    refine lv_iload_n hx hb dX5_factOf_87 rfl (lv_at hl 1 rfl) ?_
    obtain ⟨q9, h8, hM⟩ := bd hM
    refine rVR (wc := (wX5 g a0 T0)) (As := [.int p1]) (rest := []) (q0 := 0) hS (c_X5_knownTo l g a0 T0 p1 h8) gX5_factOf_X5_knownTo rfl hd_X5_knownTo ⟨Nat.le_of_ble_eq_true rfl, Nat.le_of_ble_eq_true rfl⟩ hK (hP_sub hP [0, 1, 2, 3, 4, 5, 6, 7] rfl) rfl rfl rfl rfl hl.1 rfl (Nat.le_of_ble_eq_true rfl) dX5_factOf_88 ⟨Nat.zero_le _, Nat.zero_le _⟩ ?_
    obtain rfl := Option.some.inj hM
    exact W.iret hx hb hr (fun t ht _ => ⟨rfl, ht⟩) (fun q hq => by cases hq) dX5_factOf_91
  replace hM := itn c1_6 hM
  refine lv_tableOut (tgt := 92) hx hb dX5_factOf_1 (sw_out (lo := 0) (hi := 6) (by decide) (by decide) (fun k h1 h2 hk => by
            have hs : k = (0 : Int) ∨ k = (1 : Int) ∨ k = (2 : Int) ∨ k = (3 : Int) ∨ k = (4 : Int) ∨ k = (5 : Int) ∨ k = (6 : Int) := by omega
            rcases hs with hs | hs | hs | hs | hs | hs | hs <;> subst hs <;> first | exact c1_0 (Int32.toInt_inj.mp (hk.trans (by decide))) | exact c1_1 (Int32.toInt_inj.mp (hk.trans (by decide))) | exact c1_2 (Int32.toInt_inj.mp (hk.trans (by decide))) | exact c1_3 (Int32.toInt_inj.mp (hk.trans (by decide))) | exact c1_4 (Int32.toInt_inj.mp (hk.trans (by decide))) | exact c1_5 (Int32.toInt_inj.mp (hk.trans (by decide))) | exact c1_6 (Int32.toInt_inj.mp (hk.trans (by decide))))) (by decide) ?_
  refine lv_aload_n hx hb dX5_factOf_92 rfl (lv_at hl 0 rfl) ?_
  refine lv_iload_n hx hb dX5_factOf_93 rfl (lv_at hl 1 rfl) ?_
  obtain ⟨q11, h10, hM⟩ := bd hM
  refine rVR (wc := (wX5 g a0 T0)) (As := [.int p1]) (rest := []) (q0 := 0) hS (c_X5_barredTo l g a0 T0 p1 h10) gX5_factOf_X5_barredTo rfl hd_X5_barredTo ⟨Nat.le_of_ble_eq_true rfl, Nat.le_of_ble_eq_true rfl⟩ hK (hP_sub hP [0, 1, 2, 3, 4, 5, 6, 7] rfl) rfl rfl rfl rfl hl.1 rfl (Nat.le_of_ble_eq_true rfl) dX5_factOf_94 ⟨Nat.zero_le _, Nat.zero_le _⟩ ?_
  obtain rfl := Option.some.inj hM
  exact W.iret hx hb hr (fun t ht _ => ⟨rfl, ht⟩) (fun q hq => by cases hq) dX5_factOf_97
theorem hd_X5_hearersOf : yX5_hearersOf.cls = RX5 ∧ yX5_hearersOf.cls ≠ "java/lang/invoke/MethodHandle" ∧ yX5_hearersOf.cls ≠ "java/lang/invoke/VarHandle" ∧ (parseMethodDescriptor yX5_hearersOf.desc).map (fun d => d.parameters.length) = some 1 := by decide +kernel
set_option maxHeartbeats 4000000 in
set_option maxRecDepth 100000 in
theorem c_X5_hearersOf (l : Launch) (g : Gm) (a0 : Nat → Nat) (T0 : TS) (p1 : Int32) {q : Int32} (hM : f_X5_hearersOf T0 p1 = some q) : MR l yX5_hearersOf wsX5_hearersOf 1 22 g [.ref (a0 0), .int p1] (wX5 g a0 T0) (some (.int q)) := by
  refine Met.ofW (cc := cX5_hearersOf) (maxL := 4) (ret := (some .int)) (by decide) rfl ?_
  intro p e s m args below meth c s₁ B hml hv
  obtain ⟨rfl, hP, hK⟩ := hv
  have hx := B.exec; have hb := B.bytes; have hr := B.returns
  have hts := atoms_spec (ws := wsX5_hearersOf) B.pre
  have hown : s.vm.findClass RX5 = some m.cls := findClass_of_methodNamed B.named
  have hlocks := B.notSynchronized
  have hS : CallFix p m c cX5_hearersOf 4 s _ wsX5_hearersOf RX5 := ⟨hx, hb, hml, hown, hts⟩
  have hin_X5 : ∀ w ∈ wsX50, w ∈ wsX5_hearersOf := fun w h => (List.mem_cons_of_mem _ (List.mem_append_right _ h))
  have hl := lv_entry ([.ref (a0 0), .int p1]) (n := 4) (Nat.le_of_ble_eq_true rfl)
  rw [lg_entry_eq]
  generalize (lg_sl ([.ref (a0 0), .int p1]) ++ List.replicate (4 - (lg_sl ([.ref (a0 0), .int p1])).length) Slot.unset).toArray = ls at hl ⊢
  have hl : lv_has ls 4 [(0, .ref (a0 0)), (1, .int p1)] := hl
  rw [f_X5_hearersOf] at hM
  refine lv_iconst (v := (0 : Int32)) hx hb dX5_hearersOf_0 (by decide) ?_
  refine lv_istore_n (lv' := [(2, .int (0 : Int32)), (0, .ref (a0 0)), (1, .int p1)]) hx hb dX5_hearersOf_1 rfl hl (by decide) rfl (fun ls hl => ?_)
  refine lv_iconst (v := (0 : Int32)) hx hb dX5_hearersOf_2 (by decide) ?_
  refine lv_istore_n (lv' := [(3, .int (0 : Int32)), (2, .int (0 : Int32)), (0, .ref (a0 0)), (1, .int p1)]) hx hb dX5_hearersOf_3 rfl hl (by decide) rfl (fun ls hl => ?_)
  obtain ⟨q3, hL4, hM⟩ := bd hM
  have hJ4 : ∀ (ls : Array Slot), lv_has ls 4 [(2, .int q3)] → W p l e (headSpec wsX5_hearersOf ({ frames := 1, cells := 0, slots := 0, locals := 22 } : Room)).room s m ([.ref (a0 0), .int p1] : List Value).toArray below meth c s.heap [] 0 0 (MQ below (QcR (some (.int q))) ([.ref (a0 0), .int p1] : List Value).toArray s 0 0 (fun _ => False)) (F0 m 40 ls []) := by
    intro ls hl
    refine lv_iload_n hx hb dX5_hearersOf_40 rfl (lv_at hl 0 rfl) ?_
    obtain rfl := Option.some.inj hM
    exact W.iret hx hb hr (fun t ht _ => ⟨rfl, ht⟩) (fun q hq => by cases hq) dX5_hearersOf_41
  have hW4 : ∀ (n : Nat) (v3_1 : Int32) (v2_2 : Int32), L_X5_hearersOf_4 T0 p1 n v3_1 v2_2 = some q3 → ∀ (ls : Array Slot), lv_has ls 4 [(3, .int v3_1), (2, .int v2_2), (0, .ref (a0 0)), (1, .int p1)] → W p l e (headSpec wsX5_hearersOf ({ frames := 1, cells := 0, slots := 0, locals := 22 } : Room)).room s m ([.ref (a0 0), .int p1] : List Value).toArray below meth c s.heap [] 0 0 (MQ below (QcR (some (.int q))) ([.ref (a0 0), .int p1] : List Value).toArray s 0 0 (fun _ => False)) (F0 m 4 ls []) := by
    intro n
    induction n with
    | zero => intro v3_1 v2_2 hM; rw [L_X5_hearersOf_4] at hM; exact nn hM
    | succ n ih4 =>
      intro v3_1 v2_2 hM ls hl
      rw [L_X5_hearersOf_4] at hM
      refine lv_iload_n hx hb dX5_hearersOf_4 rfl (lv_at hl 0 rfl) ?_
      refine lv_aload_n hx hb dX5_hearersOf_5 rfl (lv_at hl 2 rfl) ?_
      refine wk_get hx hb hts hin_X5 hown hK hP 5 0 1 (.int (T0 1 0)) rfl rfl (by decide) (mi 1 rfl) rfl rfl dX5_hearersOf_6 ?_
      refine lv_icmp_ge (tgt := 40) hx hb dX5_hearersOf_9 (by decide) (fun c4 => ?_) (fun c4 => ?_)
      · replace hM := itp c4 hM
        obtain rfl := Option.some.inj hM
        exact hJ4 _ (lv_sub hl [1] rfl)
      · replace hM := itn c4 hM
        refine lv_iload_n hx hb dX5_hearersOf_12 rfl (lv_at hl 1 rfl) ?_
        refine lv_iload_n hx hb dX5_hearersOf_13 rfl (lv_at hl 0 rfl) ?_
        refine lv_aload_n hx hb dX5_hearersOf_14 rfl (lv_at hl 2 rfl) ?_
        refine wk_get hx hb hts hin_X5 hown hK hP 5 0 10 (.ref (a0 4)) rfl rfl (by decide) (mi 2 rfl) rfl rfl dX5_hearersOf_15 ?_
        refine lv_iload_n hx hb dX5_hearersOf_18 rfl (lv_at hl 0 rfl) ?_
        obtain ⟨k5, hM⟩ := ck hM
        refine wk_iald hx hb hK hP 4 7 (T0 10) rfl k5 dX5_hearersOf_19 ?_
        refine lv_iload_n hx hb dX5_hearersOf_20 rfl (lv_at hl 3 rfl) ?_
        refine lv_iand hx hb dX5_hearersOf_21 ?_
        have hJ13 : ∀ (x12 : Int32) (ls : Array Slot), x12 = (if (((T0 10) (v3_1).toNatClampNeg) &&& p1) = 0 then (0 : Int32) else (1 : Int32)) → lv_has ls 4 [(3, .int v3_1), (0, .ref (a0 0)), (1, .int p1)] → W p l e (headSpec wsX5_hearersOf ({ frames := 1, cells := 0, slots := 0, locals := 22 } : Room)).room s m ([.ref (a0 0), .int p1] : List Value).toArray below meth c s.heap [] 0 0 (MQ below (QcR (some (.int q))) ([.ref (a0 0), .int p1] : List Value).toArray s 0 0 (fun _ => False)) (F0 m 30 ls [.int x12, .int v3_1, .int v2_2]) := by
          intro x12 ls hxx12 hl
          subst hxx12
          refine rNR (wc := ([] : va_W)) (As := [.int v2_2, .int v3_1, .int (if (((T0 10) (v3_1).toNatClampNeg) &&& p1) = 0 then (0 : Int32) else (1 : Int32))]) (rest := []) hS (c_X6_with l g v2_2 v3_1 (if (((T0 10) (v3_1).toNatClampNeg) &&& p1) = 0 then (0 : Int32) else (1 : Int32))) gX5_hearersOf_X6_with_n61 rfl (mi 3 rfl) (mi 4 rfl) 7 rfl hd_X6_with ⟨Nat.le_of_ble_eq_true rfl, Nat.le_of_ble_eq_true rfl⟩ hK (hP_nil) rfl hl.1 rfl (Nat.le_of_ble_eq_true rfl) dX5_hearersOf_30 ⟨Nat.zero_le _, Nat.zero_le _⟩ ?_
          refine lv_istore_n (lv' := [(2, .int (f_X6_with v2_2 v3_1 (if (((T0 10) (v3_1).toNatClampNeg) &&& p1) = 0 then (0 : Int32) else (1 : Int32)))), (3, .int v3_1), (0, .ref (a0 0)), (1, .int p1)]) hx hb dX5_hearersOf_33 rfl hl (by decide) rfl (fun ls hl => ?_)
          refine lv_iinc (v := (v3_1 + (1 : Int32))) (lv' := [(3, .int (v3_1 + (1 : Int32))), (2, .int (f_X6_with v2_2 v3_1 (if (((T0 10) (v3_1).toNatClampNeg) &&& p1) = 0 then (0 : Int32) else (1 : Int32)))), (0, .ref (a0 0)), (1, .int p1)]) hx hb dX5_hearersOf_34 hl (k := 1) rfl rfl (by decide) rfl (fun ls hl => ?_)
          refine lv_goto (tgt := 4) hx hb dX5_hearersOf_37 (by decide) ?_
          exact ih4 (v3_1 + (1 : Int32)) (f_X6_with v2_2 v3_1 (if (((T0 10) (v3_1).toNatClampNeg) &&& p1) = 0 then (0 : Int32) else (1 : Int32))) hM _ (lv_sub hl [0, 1, 2, 3] rfl)
        refine lv_if_eq (tgt := 29) hx hb dX5_hearersOf_22 (by decide) (fun c6 => ?_) (fun c6 => ?_)
        · refine lv_iconst (v := (0 : Int32)) hx hb dX5_hearersOf_29 (by decide) ?_
          exact hJ13 _ _ (by first | rfl | (simp only [if_pos c6])) (lv_sub hl [0, 2, 3] rfl)
        · refine lv_iconst (v := (1 : Int32)) hx hb dX5_hearersOf_25 (by decide) ?_
          refine lv_goto (tgt := 30) hx hb dX5_hearersOf_26 (by decide) ?_
          exact hJ13 _ _ (by first | rfl | (simp only [if_neg c6])) (lv_sub hl [0, 2, 3] rfl)
  exact hW4 300 (0 : Int32) (0 : Int32) hL4 _ (lv_sub hl [0, 1, 2, 3] rfl)
theorem hd_X6_has : yX6_has.cls ≠ "java/lang/invoke/MethodHandle" ∧ yX6_has.cls ≠ "java/lang/invoke/VarHandle" ∧ (parseMethodDescriptor yX6_has.desc).map (fun d => d.parameters.length) = some 2 := by decide +kernel
set_option maxHeartbeats 4000000 in
set_option maxRecDepth 100000 in
theorem c_X6_has (l : Launch) (g : Gm) (p0 : Int32) (p1 : Int32) : MR l yX6_has wsX6_has 0 0 g [.int p0, .int p1] ([] : va_W) (some (.int (f_X6_has p0 p1))) := by
  refine Met.ofW (cc := cX6_has) (maxL := 2) (ret := (some .boolean)) (by decide) rfl ?_
  intro p e s m args below meth c s₁ B hml hv
  obtain ⟨rfl, hP, hK⟩ := hv
  have hx := B.exec; have hb := B.bytes; have hr := B.returns
  have hts := atoms_spec (ws := wsX6_has) B.pre
  have hown : s.vm.findClass RX6 = some m.cls := findClass_of_methodNamed B.named
  have hlocks := B.notSynchronized
  have hS : CallFix p m c cX6_has 2 s _ wsX6_has RX6 := ⟨hx, hb, hml, hown, hts⟩
  have hl := lv_entry ([.int p0, .int p1]) (n := 2) (Nat.le_of_ble_eq_true rfl)
  rw [lg_entry_eq]
  generalize (lg_sl ([.int p0, .int p1]) ++ List.replicate (2 - (lg_sl ([.int p0, .int p1])).length) Slot.unset).toArray = ls at hl ⊢
  have hl : lv_has ls 2 [(0, .int p0), (1, .int p1)] := hl
  obtain ⟨rr, hM⟩ : ∃ rr, f_X6_has p0 p1 = rr := ⟨_, rfl⟩
  rw [hM]
  rw [f_X6_has] at hM
  refine lv_iload_n hx hb dX6_has_0 rfl (lv_at hl 0 rfl) ?_
  refine lv_iload_n hx hb dX6_has_1 rfl (lv_at hl 1 rfl) ?_
  refine lv_ishr hx hb dX6_has_2 ?_
  refine lv_iconst (v := (1 : Int32)) hx hb dX6_has_3 (by decide) ?_
  refine lv_iand hx hb dX6_has_4 ?_
  have hJ7 : ∀ (x6 : Int32) (ls : Array Slot), x6 = (if ((p0 >>> (p1 &&& 31)) &&& (1 : Int32)) = 0 then (0 : Int32) else (1 : Int32)) → lv_has ls 2 [] → W p l e (headSpec wsX6_has ({ frames := 0, cells := 0, slots := 0, locals := 0 } : Room)).room s m ([.int p0, .int p1] : List Value).toArray below meth c s.heap [] 0 0 (MQ below (QcR (some (.int rr))) ([.int p0, .int p1] : List Value).toArray s 0 0 (fun _ => False)) (F0 m 13 ls [.int x6]) := by
    intro x6 ls hxx6 hl
    subst hxx6
    subst hM
    exact W.zret hx hb hr (nz (by repeat (first | exact Or.inl rfl | exact Or.inr rfl | split))) (fun t ht _ => ⟨rfl, ht⟩) (fun q hq => by cases hq) dX6_has_13
  refine lv_if_eq (tgt := 12) hx hb dX6_has_5 (by decide) (fun c1 => ?_) (fun c1 => ?_)
  · refine lv_iconst (v := (0 : Int32)) hx hb dX6_has_12 (by decide) ?_
    exact hJ7 _ _ (by first | rfl | (simp only [if_pos c1])) (lv_sub hl [] rfl)
  · refine lv_iconst (v := (1 : Int32)) hx hb dX6_has_8 (by decide) ?_
    refine lv_goto (tgt := 13) hx hb dX6_has_9 (by decide) ?_
    exact hJ7 _ _ (by first | rfl | (simp only [if_neg c1])) (lv_sub hl [] rfl)
theorem hd_X5_howSeen : yX5_howSeen.cls = RX5 ∧ yX5_howSeen.cls ≠ "java/lang/invoke/MethodHandle" ∧ yX5_howSeen.cls ≠ "java/lang/invoke/VarHandle" ∧ (parseMethodDescriptor yX5_howSeen.desc).map (fun d => d.parameters.length) = some 2 := by decide +kernel
set_option maxHeartbeats 4000000 in
set_option maxRecDepth 100000 in
theorem c_X5_howSeen (l : Launch) (g : Gm) (a0 : Nat → Nat) (T0 : TS) (p1 : Int32) (p2 : Int32) {q : Int32} (hM : f_X5_howSeen T0 p1 p2 = some q) : MR l yX5_howSeen wsX5_howSeen 1 21 g [.ref (a0 0), .int p1, .int p2] (wX5 g a0 T0) (some (.int q)) := by
  refine Met.ofW (cc := cX5_howSeen) (maxL := 3) (ret := (some .int)) (by decide) rfl ?_
  intro p e s m args below meth c s₁ B hml hv
  obtain ⟨rfl, hP, hK⟩ := hv
  have hx := B.exec; have hb := B.bytes; have hr := B.returns
  have hts := atoms_spec (ws := wsX5_howSeen) B.pre
  have hown : s.vm.findClass RX5 = some m.cls := findClass_of_methodNamed B.named
  have hlocks := B.notSynchronized
  have hS : CallFix p m c cX5_howSeen 3 s _ wsX5_howSeen RX5 := ⟨hx, hb, hml, hown, hts⟩
  have hin_X5 : ∀ w ∈ wsX50, w ∈ wsX5_howSeen := fun w h => (List.mem_cons_of_mem _ (List.mem_append_right _ h))
  have hl := lv_entry ([.ref (a0 0), .int p1, .int p2]) (n := 3) (Nat.le_of_ble_eq_true rfl)
  rw [lg_entry_eq]
  generalize (lg_sl ([.ref (a0 0), .int p1, .int p2]) ++ List.replicate (3 - (lg_sl ([.ref (a0 0), .int p1, .int p2])).length) Slot.unset).toArray = ls at hl ⊢
  have hl : lv_has ls 3 [(0, .ref (a0 0)), (1, .int p1), (2, .int p2)] := hl
  rw [f_X5_howSeen] at hM
  refine lv_aload_n hx hb dX5_howSeen_0 rfl (lv_at hl 0 rfl) ?_
  refine wk_get hx hb hts hin_X5 hown hK hP 5 0 7 (.ref (a0 1)) rfl rfl (by decide) (mi 1 rfl) rfl rfl dX5_howSeen_1 ?_
  refine lv_iload_n hx hb dX5_howSeen_4 rfl (lv_at hl 1 rfl) ?_
  obtain ⟨k1, hM⟩ := ck hM
  refine wk_iald hx hb hK hP 1 7 (T0 7) rfl k1 dX5_howSeen_5 ?_
  refine lv_iload_n hx hb dX5_howSeen_6 rfl (lv_at hl 2 rfl) ?_
  refine rNR (wc := ([] : va_W)) (As := [.int ((T0 7) (p1).toNatClampNeg), .int p2]) (rest := []) hS (c_X6_has l g ((T0 7) (p1).toNatClampNeg) p2) gX5_howSeen_X6_has_n65 rfl (mi 3 rfl) (mi 4 rfl) 6 rfl hd_X6_has ⟨Nat.le_of_ble_eq_true rfl, Nat.le_of_ble_eq_true rfl⟩ hK (hP_nil) rfl hl.1 rfl (Nat.le_of_ble_eq_true rfl) dX5_howSeen_7 ⟨Nat.zero_le _, Nat.zero_le _⟩ ?_
  refine lv_if_eq (tgt := 15) hx hb dX5_howSeen_10 (by decide) (fun c3 => ?_) (fun c3 => ?_)
  · replace hM := itp c3 hM
    refine lv_aload_n hx hb dX5_howSeen_15 rfl (lv_at hl 0 rfl) ?_
    refine wk_get hx hb hts hin_X5 hown hK hP 5 0 8 (.ref (a0 2)) rfl rfl (by decide) (mi 2 rfl) rfl rfl dX5_howSeen_16 ?_
    refine lv_iload_n hx hb dX5_howSeen_19 rfl (lv_at hl 1 rfl) ?_
    refine wk_iald hx hb hK hP 2 7 (T0 8) rfl k1 dX5_howSeen_20 ?_
    refine lv_iload_n hx hb dX5_howSeen_21 rfl (lv_at hl 2 rfl) ?_
    refine rNR (wc := ([] : va_W)) (As := [.int ((T0 8) (p1).toNatClampNeg), .int p2]) (rest := []) hS (c_X6_has l g ((T0 8) (p1).toNatClampNeg) p2) gX5_howSeen_X6_has_n65 rfl (mi 3 rfl) (mi 4 rfl) 6 rfl hd_X6_has ⟨Nat.le_of_ble_eq_true rfl, Nat.le_of_ble_eq_true rfl⟩ hK (hP_nil) rfl hl.1 rfl (Nat.le_of_ble_eq_true rfl) dX5_howSeen_22 ⟨Nat.zero_le _, Nat.zero_le _⟩ ?_
    have hJ11 : ∀ (x10 : Int32) (ls : Array Slot), x10 = (if (f_X6_has ((T0 8) (p1).toNatClampNeg) p2) = 0 then (0 : Int32) else (1 : Int32)) → lv_has ls 3 [] → W p l e (headSpec wsX5_howSeen ({ frames := 1, cells := 0, slots := 0, locals := 21 } : Room)).room s m ([.ref (a0 0), .int p1, .int p2] : List Value).toArray below meth c s.heap [] 0 0 (MQ below (QcR (some (.int q))) ([.ref (a0 0), .int p1, .int p2] : List Value).toArray s 0 0 (fun _ => False)) (F0 m 33 ls [.int x10]) := by
      intro x10 ls hxx10 hl
      subst hxx10
      obtain rfl := Option.some.inj hM
      exact W.iret hx hb hr (fun t ht _ => ⟨rfl, ht⟩) (fun q hq => by cases hq) dX5_howSeen_33
    refine lv_if_eq (tgt := 32) hx hb dX5_howSeen_25 (by decide) (fun c5 => ?_) (fun c5 => ?_)
    · refine lv_iconst (v := (0 : Int32)) hx hb dX5_howSeen_32 (by decide) ?_
      exact hJ11 _ _ (by first | rfl | (simp only [if_pos c5])) (lv_sub hl [] rfl)
    · refine lv_iconst (v := (1 : Int32)) hx hb dX5_howSeen_28 (by decide) ?_
      refine lv_goto (tgt := 33) hx hb dX5_howSeen_29 (by decide) ?_
      exact hJ11 _ _ (by first | rfl | (simp only [if_neg c5])) (lv_sub hl [] rfl)
  · replace hM := itn c3 hM
    refine lv_iconst (v := (2 : Int32)) hx hb dX5_howSeen_13 (by decide) ?_
    obtain rfl := Option.some.inj hM
    exact W.iret hx hb hr (fun t ht _ => ⟨rfl, ht⟩) (fun q hq => by cases hq) dX5_howSeen_14
theorem hd_X5_isFull : yX5_isFull.cls = RX5 ∧ yX5_isFull.cls ≠ "java/lang/invoke/MethodHandle" ∧ yX5_isFull.cls ≠ "java/lang/invoke/VarHandle" ∧ (parseMethodDescriptor yX5_isFull.desc).map (fun d => d.parameters.length) = some 0 := by decide +kernel
set_option maxHeartbeats 4000000 in
set_option maxRecDepth 100000 in
theorem c_X5_isFull (l : Launch) (g : Gm) (a0 : Nat → Nat) (T0 : TS) : MR l yX5_isFull wsX5_isFull 0 0 g [.ref (a0 0)] (wX5 g a0 T0) (some (.int (f_X5_isFull T0))) := by
  refine Met.ofW (cc := cX5_isFull) (maxL := 1) (ret := (some .boolean)) (by decide) rfl ?_
  intro p e s m args below meth c s₁ B hml hv
  obtain ⟨rfl, hP, hK⟩ := hv
  have hx := B.exec; have hb := B.bytes; have hr := B.returns
  have hts := atoms_spec (ws := wsX5_isFull) B.pre
  have hown : s.vm.findClass RX5 = some m.cls := findClass_of_methodNamed B.named
  have hlocks := B.notSynchronized
  have hS : CallFix p m c cX5_isFull 1 s _ wsX5_isFull RX5 := ⟨hx, hb, hml, hown, hts⟩
  have hin_X5 : ∀ w ∈ wsX50, w ∈ wsX5_isFull := fun w h => (List.mem_cons_of_mem _ (List.mem_append_right _ h))
  have hl := lv_entry ([.ref (a0 0)]) (n := 1) (Nat.le_of_ble_eq_true rfl)
  rw [lg_entry_eq]
  generalize (lg_sl ([.ref (a0 0)]) ++ List.replicate (1 - (lg_sl ([.ref (a0 0)])).length) Slot.unset).toArray = ls at hl ⊢
  have hl : lv_has ls 1 [(0, .ref (a0 0))] := hl
  obtain ⟨rr, hM⟩ : ∃ rr, f_X5_isFull T0 = rr := ⟨_, rfl⟩
  rw [hM]
  rw [f_X5_isFull] at hM
  refine lv_aload_n hx hb dX5_isFull_0 rfl (lv_at hl 0 rfl) ?_
  refine wk_get hx hb hts hin_X5 hown hK hP 5 0 1 (.int (T0 1 0)) rfl rfl (by decide) (mi 1 rfl) rfl rfl dX5_isFull_1 ?_
  refine lv_bipush (v := (7 : Int32)) hx hb dX5_isFull_4 (by decide) ?_
  have hJ7 : ∀ (x6 : Int32) (ls : Array Slot), x6 = (if (T0 1 0) < (7 : Int32) then (0 : Int32) else (1 : Int32)) → lv_has ls 1 [] → W p l e (headSpec wsX5_isFull ({ frames := 0, cells := 0, slots := 0, locals := 0 } : Room)).room s m ([.ref (a0 0)] : List Value).toArray below meth c s.heap [] 0 0 (MQ below (QcR (some (.int rr))) ([.ref (a0 0)] : List Value).toArray s 0 0 (fun _ => False)) (F0 m 14 ls [.int x6]) := by
    intro x6 ls hxx6 hl
    subst hxx6
    subst hM
    exact W.zret hx hb hr (nz (by repeat (first | exact Or.inl rfl | exact Or.inr rfl | split))) (fun t ht _ => ⟨rfl, ht⟩) (fun q hq => by cases hq) dX5_isFull_14
  refine lv_icmp_lt (tgt := 13) hx hb dX5_isFull_6 (by decide) (fun c1 => ?_) (fun c1 => ?_)
  · refine lv_iconst (v := (0 : Int32)) hx hb dX5_isFull_13 (by decide) ?_
    exact hJ7 _ _ (by first | rfl | (simp only [if_pos c1])) (lv_sub hl [] rfl)
  · refine lv_iconst (v := (1 : Int32)) hx hb dX5_isFull_9 (by decide) ?_
    refine lv_goto (tgt := 14) hx hb dX5_isFull_10 (by decide) ?_
    exact hJ7 _ _ (by first | rfl | (simp only [if_neg c1])) (lv_sub hl [] rfl)
theorem hd_X5_isOfKind : yX5_isOfKind.cls = RX5 ∧ yX5_isOfKind.cls ≠ "java/lang/invoke/MethodHandle" ∧ yX5_isOfKind.cls ≠ "java/lang/invoke/VarHandle" ∧ (parseMethodDescriptor yX5_isOfKind.desc).map (fun d => d.parameters.length) = some 2 := by decide +kernel
set_option maxHeartbeats 4000000 in
set_option maxRecDepth 100000 in
theorem c_X5_isOfKind (l : Launch) (g : Gm) (a0 : Nat → Nat) (T0 : TS) (p1 : Int32) (p2 : Int32) {q : Int32} (hM : f_X5_isOfKind T0 p1 p2 = some q) : MR l yX5_isOfKind wsX5_isOfKind 0 0 g [.ref (a0 0), .int p1, .int p2] (wX5 g a0 T0) (some (.int q)) := by
  refine Met.ofW (cc := cX5_isOfKind) (maxL := 3) (ret := (some .boolean)) (by decide) rfl ?_
  intro p e s m args below meth c s₁ B hml hv
  obtain ⟨rfl, hP, hK⟩ := hv
  have hx := B.exec; have hb := B.bytes; have hr := B.returns
  have hts := atoms_spec (ws := wsX5_isOfKind) B.pre
  have hown : s.vm.findClass RX5 = some m.cls := findClass_of_methodNamed B.named
  have hlocks := B.notSynchronized
  have hS : CallFix p m c cX5_isOfKind 3 s _ wsX5_isOfKind RX5 := ⟨hx, hb, hml, hown, hts⟩
  have hin_X5 : ∀ w ∈ wsX50, w ∈ wsX5_isOfKind := fun w h => (List.mem_cons_of_mem _ (List.mem_append_right _ h))
  have hl := lv_entry ([.ref (a0 0), .int p1, .int p2]) (n := 3) (Nat.le_of_ble_eq_true rfl)
  rw [lg_entry_eq]
  generalize (lg_sl ([.ref (a0 0), .int p1, .int p2]) ++ List.replicate (3 - (lg_sl ([.ref (a0 0), .int p1, .int p2])).length) Slot.unset).toArray = ls at hl ⊢
  have hl : lv_has ls 3 [(0, .ref (a0 0)), (1, .int p1), (2, .int p2)] := hl
  rw [f_X5_isOfKind] at hM
  refine lv_iload_n hx hb dX5_isOfKind_0 rfl (lv_at hl 2 rfl) ?_
  refine lv_aload_n hx hb dX5_isOfKind_1 rfl (lv_at hl 0 rfl) ?_
  refine wk_get hx hb hts hin_X5 hown hK hP 5 0 11 (.ref (a0 5)) rfl rfl (by decide) (mi 1 rfl) rfl rfl dX5_isOfKind_2 ?_
  refine lv_iload_n hx hb dX5_isOfKind_5 rfl (lv_at hl 1 rfl) ?_
  obtain ⟨k1, hM⟩ := ck hM
  refine wk_iald hx hb hK hP 5 7 (T0 11) rfl k1 dX5_isOfKind_6 ?_
  have hJ11 : ∀ (x10 : Int32) (ls : Array Slot), x10 = (if p2 = ((T0 11) (p1).toNatClampNeg) then (1 : Int32) else (if p2 = 0 then (1 : Int32) else (if p2 = (2 : Int32) then (if ((T0 11) (p1).toNatClampNeg) = (3 : Int32) then (1 : Int32) else (0 : Int32)) else (0 : Int32)))) → lv_has ls 3 [] → W p l e (headSpec wsX5_isOfKind ({ frames := 0, cells := 0, slots := 0, locals := 0 } : Room)).room s m ([.ref (a0 0), .int p1, .int p2] : List Value).toArray below meth c s.heap [] 0 0 (MQ below (QcR (some (.int q))) ([.ref (a0 0), .int p1, .int p2] : List Value).toArray s 0 0 (fun _ => False)) (F0 m 34 ls [.int x10]) := by
    intro x10 ls hxx10 hl
    subst hxx10
    obtain rfl := Option.some.inj hM
    exact W.zret hx hb hr (nz (by repeat (first | exact Or.inl rfl | exact Or.inr rfl | split))) (fun t ht _ => ⟨rfl, ht⟩) (fun q hq => by cases hq) dX5_isOfKind_34
  refine lv_icmp_eq (tgt := 29) hx hb dX5_isOfKind_7 (by decide) (fun c2 => ?_) (fun c2 => ?_)
  · refine lv_iconst (v := (1 : Int32)) hx hb dX5_isOfKind_29 (by decide) ?_
    refine lv_goto (tgt := 34) hx hb dX5_isOfKind_30 (by decide) ?_
    exact hJ11 _ _ (by first | rfl | (simp only [if_pos c2])) (lv_sub hl [] rfl)
  · refine lv_iload_n hx hb dX5_isOfKind_10 rfl (lv_at hl 2 rfl) ?_
    refine lv_if_eq (tgt := 29) hx hb dX5_isOfKind_11 (by decide) (fun c3 => ?_) (fun c3 => ?_)
    · refine lv_iconst (v := (1 : Int32)) hx hb dX5_isOfKind_29 (by decide) ?_
      refine lv_goto (tgt := 34) hx hb dX5_isOfKind_30 (by decide) ?_
      exact hJ11 _ _ (by first | rfl | (simp only [if_neg c2, if_pos c3])) (lv_sub hl [] rfl)
    · refine lv_iload_n hx hb dX5_isOfKind_14 rfl (lv_at hl 2 rfl) ?_
      refine lv_iconst (v := (2 : Int32)) hx hb dX5_isOfKind_15 (by decide) ?_
      refine lv_icmp_ne (tgt := 33) hx hb dX5_isOfKind_16 (by decide) (fun c4 => ?_) (fun c4 => ?_)
      · refine lv_iconst (v := (0 : Int32)) hx hb dX5_isOfKind_33 (by decide) ?_
        exact hJ11 _ _ (by first | rfl | (simp only [if_neg c2, if_neg c3, if_neg c4])) (lv_sub hl [] rfl)
      · refine lv_aload_n hx hb dX5_isOfKind_19 rfl (lv_at hl 0 rfl) ?_
        refine wk_get hx hb hts hin_X5 hown hK hP 5 0 11 (.ref (a0 5)) rfl rfl (by decide) (mi 1 rfl) rfl rfl dX5_isOfKind_20 ?_
        refine lv_iload_n hx hb dX5_isOfKind_23 rfl (lv_at hl 1 rfl) ?_
        refine wk_iald hx hb hK hP 5 7 (T0 11) rfl k1 dX5_isOfKind_24 ?_
        refine lv_iconst (v := (3 : Int32)) hx hb dX5_isOfKind_25 (by decide) ?_
        refine lv_icmp_ne (tgt := 33) hx hb dX5_isOfKind_26 (by decide) (fun c5 => ?_) (fun c5 => ?_)
        · refine lv_iconst (v := (0 : Int32)) hx hb dX5_isOfKind_33 (by decide) ?_
          exact hJ11 _ _ (by first | rfl | (simp only [if_neg c2, if_neg c3, if_pos c4, if_neg c5])) (lv_sub hl [] rfl)
        · refine lv_iconst (v := (1 : Int32)) hx hb dX5_isOfKind_29 (by decide) ?_
          refine lv_goto (tgt := 34) hx hb dX5_isOfKind_30 (by decide) ?_
          exact hJ11 _ _ (by first | rfl | (simp only [if_neg c2, if_neg c3, if_pos c4, if_pos c5])) (lv_sub hl [] rfl)
theorem hd_X5_isOne : yX5_isOne.cls = RX5 ∧ yX5_isOne.cls ≠ "java/lang/invoke/MethodHandle" ∧ yX5_isOne.cls ≠ "java/lang/invoke/VarHandle" ∧ (parseMethodDescriptor yX5_isOne.desc).map (fun d => d.parameters.length) = some 1 := by decide +kernel
set_option maxHeartbeats 4000000 in
set_option maxRecDepth 100000 in
theorem c_X5_isOne (l : Launch) (g : Gm) (a0 : Nat → Nat) (T0 : TS) (p1 : Int32) : MR l yX5_isOne wsX5_isOne 0 0 g [.ref (a0 0), .int p1] (wX5 g a0 T0) (some (.int (f_X5_isOne T0 p1))) := by
  refine Met.ofW (cc := cX5_isOne) (maxL := 2) (ret := (some .boolean)) (by decide) rfl ?_
  intro p e s m args below meth c s₁ B hml hv
  obtain ⟨rfl, hP, hK⟩ := hv
  have hx := B.exec; have hb := B.bytes; have hr := B.returns
  have hts := atoms_spec (ws := wsX5_isOne) B.pre
  have hown : s.vm.findClass RX5 = some m.cls := findClass_of_methodNamed B.named
  have hlocks := B.notSynchronized
  have hS : CallFix p m c cX5_isOne 2 s _ wsX5_isOne RX5 := ⟨hx, hb, hml, hown, hts⟩
  have hin_X5 : ∀ w ∈ wsX50, w ∈ wsX5_isOne := fun w h => (List.mem_cons_of_mem _ (List.mem_append_right _ h))
  have hl := lv_entry ([.ref (a0 0), .int p1]) (n := 2) (Nat.le_of_ble_eq_true rfl)
  rw [lg_entry_eq]
  generalize (lg_sl ([.ref (a0 0), .int p1]) ++ List.replicate (2 - (lg_sl ([.ref (a0 0), .int p1])).length) Slot.unset).toArray = ls at hl ⊢
  have hl : lv_has ls 2 [(0, .ref (a0 0)), (1, .int p1)] := hl
  obtain ⟨rr, hM⟩ : ∃ rr, f_X5_isOne T0 p1 = rr := ⟨_, rfl⟩
  rw [hM]
  rw [f_X5_isOne] at hM
  refine lv_iload_n hx hb dX5_isOne_0 rfl (lv_at hl 1 rfl) ?_
  have hJ8 : ∀ (x7 : Int32) (ls : Array Slot), x7 = (if p1 < 0 then (0 : Int32) else (if (T0 1 0) ≤ p1 then (0 : Int32) else (1 : Int32))) → lv_has ls 2 [] → W p l e (headSpec wsX5_isOne ({ frames := 0, cells := 0, slots := 0, locals := 0 } : Room)).room s m ([.ref (a0 0), .int p1] : List Value).toArray below meth c s.heap [] 0 0 (MQ below (QcR (some (.int rr))) ([.ref (a0 0), .int p1] : List Value).toArray s 0 0 (fun _ => False)) (F0 m 17 ls [.int x7]) := by
    intro x7 ls hxx7 hl
    subst hxx7
    subst hM
    exact W.zret hx hb hr (nz (by repeat (first | exact Or.inl rfl | exact Or.inr rfl | split))) (fun t ht _ => ⟨rfl, ht⟩) (fun q hq => by cases hq) dX5_isOne_17
  refine lv_if_lt (tgt := 16) hx hb dX5_isOne_1 (by decide) (fun c1 => ?_) (fun c1 => ?_)
  · refine lv_iconst (v := (0 : Int32)) hx hb dX5_isOne_16 (by decide) ?_
    exact hJ8 _ _ (by first | rfl | (simp only [if_pos c1])) (lv_sub hl [] rfl)
  · refine lv_iload_n hx hb dX5_isOne_4 rfl (lv_at hl 1 rfl) ?_
    refine lv_aload_n hx hb dX5_isOne_5 rfl (lv_at hl 0 rfl) ?_
    refine wk_get hx hb hts hin_X5 hown hK hP 5 0 1 (.int (T0 1 0)) rfl rfl (by decide) (mi 1 rfl) rfl rfl dX5_isOne_6 ?_
    refine lv_icmp_ge (tgt := 16) hx hb dX5_isOne_9 (by decide) (fun c2 => ?_) (fun c2 => ?_)
    · refine lv_iconst (v := (0 : Int32)) hx hb dX5_isOne_16 (by decide) ?_
      exact hJ8 _ _ (by first | rfl | (simp only [if_neg c1, if_pos c2])) (lv_sub hl [] rfl)
    · refine lv_iconst (v := (1 : Int32)) hx hb dX5_isOne_12 (by decide) ?_
      refine lv_goto (tgt := 17) hx hb dX5_isOne_13 (by decide) ?_
      exact hJ8 _ _ (by first | rfl | (simp only [if_neg c1, if_neg c2])) (lv_sub hl [] rfl)
theorem hd_X5_isSight : yX5_isSight.cls = RX5 ∧ yX5_isSight.cls ≠ "java/lang/invoke/MethodHandle" ∧ yX5_isSight.cls ≠ "java/lang/invoke/VarHandle" ∧ (parseMethodDescriptor yX5_isSight.desc).map (fun d => d.parameters.length) = some 1 := by decide +kernel
set_option maxHeartbeats 4000000 in
set_option maxRecDepth 100000 in
theorem c_X5_isSight (l : Launch) (g : Gm) (a0 : Nat → Nat) (T0 : TS) (p1 : Int32) : MR l yX5_isSight wsX5_isSight 0 0 g [.ref (a0 0), .int p1] (wX5 g a0 T0) (some (.int (f_X5_isSight T0 p1))) := by
  refine Met.ofW (cc := cX5_isSight) (maxL := 2) (ret := (some .boolean)) (by decide) rfl ?_
  intro p e s m args below meth c s₁ B hml hv
  obtain ⟨rfl, hP, hK⟩ := hv
  have hx := B.exec; have hb := B.bytes; have hr := B.returns
  have hts := atoms_spec (ws := wsX5_isSight) B.pre
  have hown : s.vm.findClass RX5 = some m.cls := findClass_of_methodNamed B.named
  have hlocks := B.notSynchronized
  have hS : CallFix p m c cX5_isSight 2 s _ wsX5_isSight RX5 := ⟨hx, hb, hml, hown, hts⟩
  have hin_X5 : ∀ w ∈ wsX50, w ∈ wsX5_isSight := fun w h => (List.mem_cons_of_mem _ (List.mem_append_right _ h))
  have hl := lv_entry ([.ref (a0 0), .int p1]) (n := 2) (Nat.le_of_ble_eq_true rfl)
  rw [lg_entry_eq]
  generalize (lg_sl ([.ref (a0 0), .int p1]) ++ List.replicate (2 - (lg_sl ([.ref (a0 0), .int p1])).length) Slot.unset).toArray = ls at hl ⊢
  have hl : lv_has ls 2 [(0, .ref (a0 0)), (1, .int p1)] := hl
  obtain ⟨rr, hM⟩ : ∃ rr, f_X5_isSight T0 p1 = rr := ⟨_, rfl⟩
  rw [hM]
  rw [f_X5_isSight] at hM
  refine lv_iload_n hx hb dX5_isSight_0 rfl (lv_at hl 1 rfl) ?_
  have hJ8 : ∀ (x7 : Int32) (ls : Array Slot), x7 = (if p1 < 0 then (0 : Int32) else (if (T0 0 0) ≤ p1 then (0 : Int32) else (1 : Int32))) → lv_has ls 2 [] → W p l e (headSpec wsX5_isSight ({ frames := 0, cells := 0, slots := 0, locals := 0 } : Room)).room s m ([.ref (a0 0), .int p1] : List Value).toArray below meth c s.heap [] 0 0 (MQ below (QcR (some (.int rr))) ([.ref (a0 0), .int p1] : List Value).toArray s 0 0 (fun _ => False)) (F0 m 17 ls [.int x7]) := by
    intro x7 ls hxx7 hl
    subst hxx7
    subst hM
    exact W.zret hx hb hr (nz (by repeat (first | exact Or.inl rfl | exact Or.inr rfl | split))) (fun t ht _ => ⟨rfl, ht⟩) (fun q hq => by cases hq) dX5_isSight_17
  refine lv_if_lt (tgt := 16) hx hb dX5_isSight_1 (by decide) (fun c1 => ?_) (fun c1 => ?_)
  · refine lv_iconst (v := (0 : Int32)) hx hb dX5_isSight_16 (by decide) ?_
    exact hJ8 _ _ (by first | rfl | (simp only [if_pos c1])) (lv_sub hl [] rfl)
  · refine lv_iload_n hx hb dX5_isSight_4 rfl (lv_at hl 1 rfl) ?_
    refine lv_aload_n hx hb dX5_isSight_5 rfl (lv_at hl 0 rfl) ?_
    refine wk_get hx hb hts hin_X5 hown hK hP 5 0 0 (.int (T0 0 0)) rfl rfl (by decide) (mi 1 rfl) rfl rfl dX5_isSight_6 ?_
    refine lv_icmp_ge (tgt := 16) hx hb dX5_isSight_9 (by decide) (fun c2 => ?_) (fun c2 => ?_)
    · refine lv_iconst (v := (0 : Int32)) hx hb dX5_isSight_16 (by decide) ?_
      exact hJ8 _ _ (by first | rfl | (simp only [if_neg c1, if_pos c2])) (lv_sub hl [] rfl)
    · refine lv_iconst (v := (1 : Int32)) hx hb dX5_isSight_12 (by decide) ?_
      refine lv_goto (tgt := 17) hx hb dX5_isSight_13 (by decide) ?_
      exact hJ8 _ _ (by first | rfl | (simp only [if_neg c1, if_neg c2])) (lv_sub hl [] rfl)
theorem hd_X5_join : yX5_join.cls = RX5 ∧ yX5_join.cls ≠ "java/lang/invoke/MethodHandle" ∧ yX5_join.cls ≠ "java/lang/invoke/VarHandle" ∧ (parseMethodDescriptor yX5_join.desc).map (fun d => d.parameters.length) = some 2 := by decide +kernel
set_option maxHeartbeats 4000000 in
set_option maxRecDepth 100000 in
theorem c_X5_join (l : Launch) (g : Gm) (a0 : Nat → Nat) (T0 : TS) (p1 : Int32) (p2 : Int32) {q : (Int32 × TS)} (hM : f_X5_join T0 p1 p2 = some q) : MW l yX5_join wsX5_join 0 0 g [.ref (a0 0), .int p1, .int p2] (wX5 g a0 T0) (some (.int q.1)) (wX5 g a0 q.2) := by
  intro sz
  refine Met.ofW (cc := cX5_join) (maxL := 4) (ret := (some .int)) (by decide) rfl ?_
  intro p e s m args below meth c s₁ B hml hv
  obtain ⟨rfl, hsz, hP, hK, hD0⟩ := hv
  have hx := B.exec; have hb := B.bytes; have hr := B.returns
  have hts := atoms_spec (ws := wsX5_join) B.pre
  have hown : s.vm.findClass RX5 = some m.cls := findClass_of_methodNamed B.named
  have hlocks := B.notSynchronized
  have hS : CallFix p m c cX5_join 4 s _ wsX5_join RX5 := ⟨hx, hb, hml, hown, hts⟩
  have hin_X5 : ∀ w ∈ wsX50, w ∈ wsX5_join := fun w h => (List.mem_cons_of_mem _ (List.mem_append_right _ h))
  subst hsz
  have hw := wk_start hP hD0
  have hA : ∀ q : Nat, s.heap.size ≤ q → va_A (wX5 g a0 T0) s.heap.size q := fun q h => Or.inr h
  generalize va_A (wX5 g a0 T0) s.heap.size = A at hw hA ⊢
  clear hP hD0
  have hl := lv_entry ([.ref (a0 0), .int p1, .int p2]) (n := 4) (Nat.le_of_ble_eq_true rfl)
  rw [lg_entry_eq]
  generalize (lg_sl ([.ref (a0 0), .int p1, .int p2]) ++ List.replicate (4 - (lg_sl ([.ref (a0 0), .int p1, .int p2])).length) Slot.unset).toArray = ls at hl ⊢
  have hl : lv_has ls 4 [(0, .ref (a0 0)), (1, .int p1), (2, .int p2)] := hl
  rw [f_X5_join] at hM
  refine lv_aload_n hx hb dX5_join_0 rfl (lv_at hl 0 rfl) ?_
  refine wk_get hx hb hts hin_X5 hown hK hw.1 5 0 1 (.int (T0 1 0)) rfl rfl (by decide) (mi 1 rfl) rfl rfl dX5_join_1 ?_
  refine lv_istore_n (lv' := [(3, .int (T0 1 0)), (0, .ref (a0 0)), (1, .int p1), (2, .int p2)]) hx hb dX5_join_4 rfl hl (by decide) rfl (fun ls hl => ?_)
  refine lv_aload_n hx hb dX5_join_5 rfl (lv_at hl 1 rfl) ?_
  refine wk_get hx hb hts hin_X5 hown hK hw.1 5 0 11 (.ref (a0 5)) rfl rfl (by decide) (mi 2 rfl) rfl rfl dX5_join_6 ?_
  refine lv_iload_n hx hb dX5_join_9 rfl (lv_at hl 0 rfl) ?_
  refine lv_iload_n hx hb dX5_join_10 rfl (lv_at hl 2 rfl) ?_
  obtain ⟨k1, hM⟩ := ck hM
  refine wk_iast (wq := (wX5 g a0 (up T0 11 (upd (T0 11) ((T0 1 0)).toNatClampNeg p1)))) hx hb hK hw 5 7 (T0 11) rfl k1 dX5_join_11 rfl (fun H locs hw => ?_)
  refine lv_aload_n hx hb dX5_join_12 rfl (lv_at hl 1 rfl) ?_
  refine wk_get hx hb hts hin_X5 hown hK hw.1 5 0 12 (.ref (a0 6)) rfl rfl (by decide) (mi 3 rfl) rfl rfl dX5_join_13 ?_
  refine lv_iload_n hx hb dX5_join_16 rfl (lv_at hl 0 rfl) ?_
  refine lv_iload_n hx hb dX5_join_17 rfl (lv_at hl 3 rfl) ?_
  refine wk_iast (wq := (wX5 g a0 (up (up T0 11 (upd (T0 11) ((T0 1 0)).toNatClampNeg p1)) 12 (upd (T0 12) ((T0 1 0)).toNatClampNeg p2)))) hx hb hK hw 6 7 (T0 12) rfl k1 dX5_join_18 rfl (fun H locs hw => ?_)
  refine lv_aload_n hx hb dX5_join_19 rfl (lv_at hl 1 rfl) ?_
  refine wk_get hx hb hts hin_X5 hown hK hw.1 5 0 7 (.ref (a0 1)) rfl rfl (by decide) (mi 4 rfl) rfl rfl dX5_join_20 ?_
  refine lv_iload_n hx hb dX5_join_23 rfl (lv_at hl 0 rfl) ?_
  refine lv_iconst (v := (0 : Int32)) hx hb dX5_join_24 (by decide) ?_
  refine wk_iast (wq := (wX5 g a0 (up (up (up T0 11 (upd (T0 11) ((T0 1 0)).toNatClampNeg p1)) 12 (upd (T0 12) ((T0 1 0)).toNatClampNeg p2)) 7 (upd (T0 7) ((T0 1 0)).toNatClampNeg (0 : Int32))))) hx hb hK hw 1 7 (T0 7) rfl k1 dX5_join_25 rfl (fun H locs hw => ?_)
  refine lv_aload_n hx hb dX5_join_26 rfl (lv_at hl 1 rfl) ?_
  refine wk_get hx hb hts hin_X5 hown hK hw.1 5 0 8 (.ref (a0 2)) rfl rfl (by decide) (mi 5 rfl) rfl rfl dX5_join_27 ?_
  refine lv_iload_n hx hb dX5_join_30 rfl (lv_at hl 0 rfl) ?_
  refine lv_iconst (v := (0 : Int32)) hx hb dX5_join_31 (by decide) ?_
  refine wk_iast (wq := (wX5 g a0 (up (up (up (up T0 11 (upd (T0 11) ((T0 1 0)).toNatClampNeg p1)) 12 (upd (T0 12) ((T0 1 0)).toNatClampNeg p2)) 7 (upd (T0 7) ((T0 1 0)).toNatClampNeg (0 : Int32))) 8 (upd (T0 8) ((T0 1 0)).toNatClampNeg (0 : Int32))))) hx hb hK hw 2 7 (T0 8) rfl k1 dX5_join_32 rfl (fun H locs hw => ?_)
  refine lv_aload_n hx hb dX5_join_33 rfl (lv_at hl 1 rfl) ?_
  refine wk_get hx hb hts hin_X5 hown hK hw.1 5 0 9 (.ref (a0 3)) rfl rfl (by decide) (mi 6 rfl) rfl rfl dX5_join_34 ?_
  refine lv_iload_n hx hb dX5_join_37 rfl (lv_at hl 0 rfl) ?_
  refine lv_iconst (v := (0 : Int32)) hx hb dX5_join_38 (by decide) ?_
  refine wk_iast (wq := (wX5 g a0 (up (up (up (up (up T0 11 (upd (T0 11) ((T0 1 0)).toNatClampNeg p1)) 12 (upd (T0 12) ((T0 1 0)).toNatClampNeg p2)) 7 (upd (T0 7) ((T0 1 0)).toNatClampNeg (0 : Int32))) 8 (upd (T0 8) ((T0 1 0)).toNatClampNeg (0 : Int32))) 9 (upd (T0 9) ((T0 1 0)).toNatClampNeg (0 : Int32))))) hx hb hK hw 3 7 (T0 9) rfl k1 dX5_join_39 rfl (fun H locs hw => ?_)
  refine lv_aload_n hx hb dX5_join_40 rfl (lv_at hl 1 rfl) ?_
  refine wk_get hx hb hts hin_X5 hown hK hw.1 5 0 10 (.ref (a0 4)) rfl rfl (by decide) (mi 7 rfl) rfl rfl dX5_join_41 ?_
  refine lv_iload_n hx hb dX5_join_44 rfl (lv_at hl 0 rfl) ?_
  refine lv_iconst (v := (0 : Int32)) hx hb dX5_join_45 (by decide) ?_
  refine wk_iast (wq := (wX5 g a0 (up (up (up (up (up (up T0 11 (upd (T0 11) ((T0 1 0)).toNatClampNeg p1)) 12 (upd (T0 12) ((T0 1 0)).toNatClampNeg p2)) 7 (upd (T0 7) ((T0 1 0)).toNatClampNeg (0 : Int32))) 8 (upd (T0 8) ((T0 1 0)).toNatClampNeg (0 : Int32))) 9 (upd (T0 9) ((T0 1 0)).toNatClampNeg (0 : Int32))) 10 (upd (T0 10) ((T0 1 0)).toNatClampNeg (0 : Int32))))) hx hb hK hw 4 7 (T0 10) rfl k1 dX5_join_46 rfl (fun H locs hw => ?_)
  refine lv_aload_n hx hb dX5_join_47 rfl (lv_at hl 1 rfl) ?_
  refine lv_dup hx hb dX5_join_48 rfl ?_
  refine wk_get hx hb hts hin_X5 hown hK hw.1 5 0 1 (.int (T0 1 0)) rfl rfl (by decide) (mi 1 rfl) rfl rfl dX5_join_49 ?_
  refine lv_iconst (v := (1 : Int32)) hx hb dX5_join_52 (by decide) ?_
  refine lv_iadd hx hb dX5_join_53 ?_
  refine wk_put (wq := (wX5 g a0 (up (up (up (up (up (up (up T0 11 (upd (T0 11) ((T0 1 0)).toNatClampNeg p1)) 12 (upd (T0 12) ((T0 1 0)).toNatClampNeg p2)) 7 (upd (T0 7) ((T0 1 0)).toNatClampNeg (0 : Int32))) 8 (upd (T0 8) ((T0 1 0)).toNatClampNeg (0 : Int32))) 9 (upd (T0 9) ((T0 1 0)).toNatClampNeg (0 : Int32))) 10 (upd (T0 10) ((T0 1 0)).toNatClampNeg (0 : Int32))) 1 (fun _ => ((T0 1 0) + (1 : Int32)))))) hx hb hts hin_X5 tyX5 tyX5_ok nmX5 hown hK hw 5 0 1 rfl rfl (by decide) (mi 1 rfl) rfl rfl rfl rfl (Nat.le_of_ble_eq_true rfl) dX5_join_54 rfl (fun H locs hw => ?_)
  refine lv_iload_n hx hb dX5_join_57 rfl (lv_at hl 0 rfl) ?_
  obtain rfl := Option.some.inj hM
  exact W.iret hx hb hr (fun t ht _ => ⟨rfl, by rw [ht]; exact hw.1, hw.2.2.F ht⟩) hw.2.2.2.2 dX5_join_58
theorem hd_X5_kindOf : yX5_kindOf.cls = RX5 ∧ yX5_kindOf.cls ≠ "java/lang/invoke/MethodHandle" ∧ yX5_kindOf.cls ≠ "java/lang/invoke/VarHandle" ∧ (parseMethodDescriptor yX5_kindOf.desc).map (fun d => d.parameters.length) = some 1 := by decide +kernel
set_option maxHeartbeats 4000000 in
set_option maxRecDepth 100000 in
theorem c_X5_kindOf (l : Launch) (g : Gm) (a0 : Nat → Nat) (T0 : TS) (p1 : Int32) {q : Int32} (hM : f_X5_kindOf T0 p1 = some q) : MR l yX5_kindOf wsX5_kindOf 0 0 g [.ref (a0 0), .int p1] (wX5 g a0 T0) (some (.int q)) := by
  refine Met.ofW (cc := cX5_kindOf) (maxL := 2) (ret := (some .int)) (by decide) rfl ?_
  intro p e s m args below meth c s₁ B hml hv
  obtain ⟨rfl, hP, hK⟩ := hv
  have hx := B.exec; have hb := B.bytes; have hr := B.returns
  have hts := atoms_spec (ws := wsX5_kindOf) B.pre
  have hown : s.vm.findClass RX5 = some m.cls := findClass_of_methodNamed B.named
  have hlocks := B.notSynchronized
  have hS : CallFix p m c cX5_kindOf 2 s _ wsX5_kindOf RX5 := ⟨hx, hb, hml, hown, hts⟩
  have hin_X5 : ∀ w ∈ wsX50, w ∈ wsX5_kindOf := fun w h => (List.mem_cons_of_mem _ (List.mem_append_right _ h))
  have hl := lv_entry ([.ref (a0 0), .int p1]) (n := 2) (Nat.le_of_ble_eq_true rfl)
  rw [lg_entry_eq]
  generalize (lg_sl ([.ref (a0 0), .int p1]) ++ List.replicate (2 - (lg_sl ([.ref (a0 0), .int p1])).length) Slot.unset).toArray = ls at hl ⊢
  have hl : lv_has ls 2 [(0, .ref (a0 0)), (1, .int p1)] := hl
  rw [f_X5_kindOf] at hM
  refine lv_aload_n hx hb dX5_kindOf_0 rfl (lv_at hl 0 rfl) ?_
  refine wk_get hx hb hts hin_X5 hown hK hP 5 0 11 (.ref (a0 5)) rfl rfl (by decide) (mi 1 rfl) rfl rfl dX5_kindOf_1 ?_
  refine lv_iload_n hx hb dX5_kindOf_4 rfl (lv_at hl 1 rfl) ?_
  obtain ⟨k1, hM⟩ := ck hM
  refine wk_iald hx hb hK hP 5 7 (T0 11) rfl k1 dX5_kindOf_5 ?_
  obtain rfl := Option.some.inj hM
  exact W.iret hx hb hr (fun t ht _ => ⟨rfl, ht⟩) (fun q hq => by cases hq) dX5_kindOf_6
theorem hd_J6_bitCount_0f7a4 : yJ6_bitCount_0f7a4.cls ≠ "java/lang/invoke/MethodHandle" ∧ yJ6_bitCount_0f7a4.cls ≠ "java/lang/invoke/VarHandle" ∧ (parseMethodDescriptor yJ6_bitCount_0f7a4.desc).map (fun d => d.parameters.length) = some 1 := by decide +kernel
set_option maxHeartbeats 4000000 in
set_option maxRecDepth 100000 in
theorem c_J6_bitCount_0f7a4 (l : Launch) (g : Gm) (p0 : Int32) : MR l yJ6_bitCount_0f7a4 wsJ6_bitCount_0f7a4 0 0 g [.int p0] ([] : va_W) (some (.int (f_J6_bitCount_0f7a4 p0))) := by
  refine Met.ofW (cc := cJ6_bitCount_0f7a4) (maxL := 1) (ret := (some .int)) (by decide) rfl ?_
  intro p e s m args below meth c s₁ B hml hv
  obtain ⟨rfl, hP, hK⟩ := hv
  have hx := B.exec; have hb := B.bytes; have hr := B.returns
  have hts := atoms_spec (ws := wsJ6_bitCount_0f7a4) B.pre
  have hown : s.vm.findClass RJ6 = some m.cls := findClass_of_methodNamed B.named
  have hlocks := B.notSynchronized
  have hS : CallFix p m c cJ6_bitCount_0f7a4 1 s _ wsJ6_bitCount_0f7a4 RJ6 := ⟨hx, hb, hml, hown, hts⟩
  have hl := lv_entry ([.int p0]) (n := 1) (Nat.le_of_ble_eq_true rfl)
  rw [lg_entry_eq]
  generalize (lg_sl ([.int p0]) ++ List.replicate (1 - (lg_sl ([.int p0])).length) Slot.unset).toArray = ls at hl ⊢
  have hl : lv_has ls 1 [(0, .int p0)] := hl
  obtain ⟨rr, hM⟩ : ∃ rr, f_J6_bitCount_0f7a4 p0 = rr := ⟨_, rfl⟩
  rw [hM]
  rw [f_J6_bitCount_0f7a4] at hM
  refine lv_iload_n hx hb dJ6_bitCount_0f7a4_0 rfl (lv_at hl 0 rfl) ?_
  refine lv_iload_n hx hb dJ6_bitCount_0f7a4_1 rfl (lv_at hl 0 rfl) ?_
  refine lv_iconst (v := (1 : Int32)) hx hb dJ6_bitCount_0f7a4_2 (by decide) ?_
  refine lv_iushr (v := ((p0).toUInt32 >>> (((1 : Int32)).toUInt32 &&& Int32.toUInt32 31)).toInt32) hx hb dJ6_bitCount_0f7a4_3 rfl ?_
  refine lv_ldcw (v := (1431655765 : Int32)) hx hb hown (hts _ (mi 1 rfl)) dJ6_bitCount_0f7a4_4 ?_
  refine lv_iand hx hb dJ6_bitCount_0f7a4_7 ?_
  refine lv_isub hx hb dJ6_bitCount_0f7a4_8 ?_
  refine lv_istore_n (lv' := [(0, .int (bk1 p0))]) hx hb dJ6_bitCount_0f7a4_9 rfl hl (by decide) rfl (fun ls hl => ?_)
  refine lv_iload_n hx hb dJ6_bitCount_0f7a4_10 rfl (lv_at hl 0 rfl) ?_
  refine lv_ldcw (v := (858993459 : Int32)) hx hb hown (hts _ (mi 2 rfl)) dJ6_bitCount_0f7a4_11 ?_
  refine lv_iand hx hb dJ6_bitCount_0f7a4_14 ?_
  refine lv_iload_n hx hb dJ6_bitCount_0f7a4_15 rfl (lv_at hl 0 rfl) ?_
  refine lv_iconst (v := (2 : Int32)) hx hb dJ6_bitCount_0f7a4_16 (by decide) ?_
  refine lv_iushr (v := (((bk1 p0)).toUInt32 >>> (((2 : Int32)).toUInt32 &&& Int32.toUInt32 31)).toInt32) hx hb dJ6_bitCount_0f7a4_17 rfl ?_
  refine lv_ldcw (v := (858993459 : Int32)) hx hb hown (hts _ (mi 2 rfl)) dJ6_bitCount_0f7a4_18 ?_
  refine lv_iand hx hb dJ6_bitCount_0f7a4_21 ?_
  refine lv_iadd hx hb dJ6_bitCount_0f7a4_22 ?_
  refine lv_istore_n (lv' := [(0, .int (bk2 (bk1 p0)))]) hx hb dJ6_bitCount_0f7a4_23 rfl hl (by decide) rfl (fun ls hl => ?_)
  refine lv_iload_n hx hb dJ6_bitCount_0f7a4_24 rfl (lv_at hl 0 rfl) ?_
  refine lv_iload_n hx hb dJ6_bitCount_0f7a4_25 rfl (lv_at hl 0 rfl) ?_
  refine lv_iconst (v := (4 : Int32)) hx hb dJ6_bitCount_0f7a4_26 (by decide) ?_
  refine lv_iushr (v := (((bk2 (bk1 p0))).toUInt32 >>> (((4 : Int32)).toUInt32 &&& Int32.toUInt32 31)).toInt32) hx hb dJ6_bitCount_0f7a4_27 rfl ?_
  refine lv_iadd hx hb dJ6_bitCount_0f7a4_28 ?_
  refine lv_ldcw (v := (252645135 : Int32)) hx hb hown (hts _ (mi 3 rfl)) dJ6_bitCount_0f7a4_29 ?_
  refine lv_iand hx hb dJ6_bitCount_0f7a4_32 ?_
  refine lv_istore_n (lv' := [(0, .int (bk3 (bk2 (bk1 p0))))]) hx hb dJ6_bitCount_0f7a4_33 rfl hl (by decide) rfl (fun ls hl => ?_)
  refine lv_iload_n hx hb dJ6_bitCount_0f7a4_34 rfl (lv_at hl 0 rfl) ?_
  refine lv_iload_n hx hb dJ6_bitCount_0f7a4_35 rfl (lv_at hl 0 rfl) ?_
  refine lv_bipush (v := (8 : Int32)) hx hb dJ6_bitCount_0f7a4_36 (by decide) ?_
  refine lv_iushr (v := (((bk3 (bk2 (bk1 p0)))).toUInt32 >>> (((8 : Int32)).toUInt32 &&& Int32.toUInt32 31)).toInt32) hx hb dJ6_bitCount_0f7a4_38 rfl ?_
  refine lv_iadd hx hb dJ6_bitCount_0f7a4_39 ?_
  refine lv_istore_n (lv' := [(0, .int (bk4 (bk3 (bk2 (bk1 p0)))))]) hx hb dJ6_bitCount_0f7a4_40 rfl hl (by decide) rfl (fun ls hl => ?_)
  refine lv_iload_n hx hb dJ6_bitCount_0f7a4_41 rfl (lv_at hl 0 rfl) ?_
  refine lv_iload_n hx hb dJ6_bitCount_0f7a4_42 rfl (lv_at hl 0 rfl) ?_
  refine lv_bipush (v := (16 : Int32)) hx hb dJ6_bitCount_0f7a4_43 (by decide) ?_
  refine lv_iushr (v := (((bk4 (bk3 (bk2 (bk1 p0))))).toUInt32 >>> (((16 : Int32)).toUInt32 &&& Int32.toUInt32 31)).toInt32) hx hb dJ6_bitCount_0f7a4_45 rfl ?_
  refine lv_iadd hx hb dJ6_bitCount_0f7a4_46 ?_
  refine lv_istore_n (lv' := [(0, .int (bk5 (bk4 (bk3 (bk2 (bk1 p0))))))]) hx hb dJ6_bitCount_0f7a4_47 rfl hl (by decide) rfl (fun ls hl => ?_)
  refine lv_iload_n hx hb dJ6_bitCount_0f7a4_48 rfl (lv_at hl 0 rfl) ?_
  refine lv_bipush (v := (63 : Int32)) hx hb dJ6_bitCount_0f7a4_49 (by decide) ?_
  refine lv_iand hx hb dJ6_bitCount_0f7a4_51 ?_
  subst hM
  exact W.iret hx hb hr (fun t ht _ => ⟨rfl, ht⟩) (fun q hq => by cases hq) dJ6_bitCount_0f7a4_52

theorem hd_X5_knownInAll : yX5_knownInAll.cls = RX5 ∧ yX5_knownInAll.cls ≠ "java/lang/invoke/MethodHandle" ∧ yX5_knownInAll.cls ≠ "java/lang/invoke/VarHandle" ∧ (parseMethodDescriptor yX5_knownInAll.desc).map (fun d => d.parameters.length) = some 0 := by decide +kernel
set_option maxHeartbeats 4000000 in
set_option maxRecDepth 100000 in
theorem c_X5_knownInAll (l : Launch) (g : Gm) (a0 : Nat → Nat) (T0 : TS) {q : Int32} (hM : f_X5_knownInAll T0 = some q) : MR l yX5_knownInAll wsX5_knownInAll 1 21 g [.ref (a0 0)] (wX5 g a0 T0) (some (.int q)) := by
  refine Met.ofW (cc := cX5_knownInAll) (maxL := 3) (ret := (some .int)) (by decide) rfl ?_
  intro p e s m args below meth c s₁ B hml hv
  obtain ⟨rfl, hP, hK⟩ := hv
  have hx := B.exec; have hb := B.bytes; have hr := B.returns
  have hts := atoms_spec (ws := wsX5_knownInAll) B.pre
  have hown : s.vm.findClass RX5 = some m.cls := findClass_of_methodNamed B.named
  have hlocks := B.notSynchronized
  have hS : CallFix p m c cX5_knownInAll 3 s _ wsX5_knownInAll RX5 := ⟨hx, hb, hml, hown, hts⟩
  have hin_X5 : ∀ w ∈ wsX50, w ∈ wsX5_knownInAll := fun w h => (List.mem_cons_of_mem _ (List.mem_append_right _ h))
  have hl := lv_entry ([.ref (a0 0)]) (n := 3) (Nat.le_of_ble_eq_true rfl)
  rw [lg_entry_eq]
  generalize (lg_sl ([.ref (a0 0)]) ++ List.replicate (3 - (lg_sl ([.ref (a0 0)])).length) Slot.unset).toArray = ls at hl ⊢
  have hl : lv_has ls 3 [(0, .ref (a0 0))] := hl
  rw [f_X5_knownInAll] at hM
  refine lv_iconst (v := (0 : Int32)) hx hb dX5_knownInAll_0 (by decide) ?_
  refine lv_istore_n (lv' := [(1, .int (0 : Int32)), (0, .ref (a0 0))]) hx hb dX5_knownInAll_1 rfl hl (by decide) rfl (fun ls hl => ?_)
  refine lv_iconst (v := (0 : Int32)) hx hb dX5_knownInAll_2 (by decide) ?_
  refine lv_istore_n (lv' := [(2, .int (0 : Int32)), (1, .int (0 : Int32)), (0, .ref (a0 0))]) hx hb dX5_knownInAll_3 rfl hl (by decide) rfl (fun ls hl => ?_)
  obtain ⟨q3, hL4, hM⟩ := bd hM
  have hJ4 : ∀ (ls : Array Slot), lv_has ls 3 [(1, .int q3)] → W p l e (headSpec wsX5_knownInAll ({ frames := 1, cells := 0, slots := 0, locals := 21 } : Room)).room s m ([.ref (a0 0)] : List Value).toArray below meth c s.heap [] 0 0 (MQ below (QcR (some (.int q))) ([.ref (a0 0)] : List Value).toArray s 0 0 (fun _ => False)) (F0 m 29 ls []) := by
    intro ls hl
    refine lv_iload_n hx hb dX5_knownInAll_29 rfl (lv_at hl 0 rfl) ?_
    obtain rfl := Option.some.inj hM
    exact W.iret hx hb hr (fun t ht _ => ⟨rfl, ht⟩) (fun q hq => by cases hq) dX5_knownInAll_30
  have hW4 : ∀ (n : Nat) (v2_1 : Int32) (v1_2 : Int32), L_X5_knownInAll_4 T0 n v2_1 v1_2 = some q3 → ∀ (ls : Array Slot), lv_has ls 3 [(2, .int v2_1), (1, .int v1_2), (0, .ref (a0 0))] → W p l e (headSpec wsX5_knownInAll ({ frames := 1, cells := 0, slots := 0, locals := 21 } : Room)).room s m ([.ref (a0 0)] : List Value).toArray below meth c s.heap [] 0 0 (MQ below (QcR (some (.int q))) ([.ref (a0 0)] : List Value).toArray s 0 0 (fun _ => False)) (F0 m 4 ls []) := by
    intro n
    induction n with
    | zero => intro v2_1 v1_2 hM; rw [L_X5_knownInAll_4] at hM; exact nn hM
    | succ n ih4 =>
      intro v2_1 v1_2 hM ls hl
      rw [L_X5_knownInAll_4] at hM
      refine lv_iload_n hx hb dX5_knownInAll_4 rfl (lv_at hl 0 rfl) ?_
      refine lv_aload_n hx hb dX5_knownInAll_5 rfl (lv_at hl 2 rfl) ?_
      refine wk_get hx hb hts hin_X5 hown hK hP 5 0 1 (.int (T0 1 0)) rfl rfl (by decide) (mi 1 rfl) rfl rfl dX5_knownInAll_6 ?_
      refine lv_icmp_ge (tgt := 29) hx hb dX5_knownInAll_9 (by decide) (fun c4 => ?_) (fun c4 => ?_)
      · replace hM := itp c4 hM
        obtain rfl := Option.some.inj hM
        exact hJ4 _ (lv_sub hl [1] rfl)
      · replace hM := itn c4 hM
        refine lv_iload_n hx hb dX5_knownInAll_12 rfl (lv_at hl 1 rfl) ?_
        refine lv_aload_n hx hb dX5_knownInAll_13 rfl (lv_at hl 2 rfl) ?_
        refine lv_iload_n hx hb dX5_knownInAll_14 rfl (lv_at hl 0 rfl) ?_
        obtain ⟨q6, h5, hM⟩ := bd hM
        refine rVR (wc := (wX5 g a0 T0)) (As := [.int v2_1]) (rest := [.int v1_2]) (q0 := 0) hS (c_X5_knownTo l g a0 T0 v2_1 h5) gX5_knownInAll_X5_knownTo rfl hd_X5_knownTo ⟨Nat.le_of_ble_eq_true rfl, Nat.le_of_ble_eq_true rfl⟩ hK (hP_sub hP [0, 1, 2, 3, 4, 5, 6, 7] rfl) rfl rfl rfl rfl hl.1 rfl (Nat.le_of_ble_eq_true rfl) dX5_knownInAll_15 ⟨Nat.zero_le _, Nat.zero_le _⟩ ?_
        refine rSR (wc := ([] : va_W)) (As := [.int q6]) (rest := [.int v1_2]) hS (c_J6_bitCount_0f7a4 l g q6) gX5_knownInAll_J6_bitCount_0f7a4 rfl hd_J6_bitCount_0f7a4 ⟨Nat.le_of_ble_eq_true rfl, Nat.le_of_ble_eq_true rfl⟩ hK (hP_nil) rfl hl.1 rfl (Nat.le_of_ble_eq_true rfl) dX5_knownInAll_18 ⟨Nat.zero_le _, Nat.zero_le _⟩ ?_
        refine lv_iadd hx hb dX5_knownInAll_21 ?_
        refine lv_istore_n (lv' := [(1, .int (v1_2 + (f_J6_bitCount_0f7a4 q6))), (2, .int v2_1), (0, .ref (a0 0))]) hx hb dX5_knownInAll_22 rfl hl (by decide) rfl (fun ls hl => ?_)
        refine lv_iinc (v := (v2_1 + (1 : Int32))) (lv' := [(2, .int (v2_1 + (1 : Int32))), (1, .int (v1_2 + (f_J6_bitCount_0f7a4 q6))), (0, .ref (a0 0))]) hx hb dX5_knownInAll_23 hl (k := 1) rfl rfl (by decide) rfl (fun ls hl => ?_)
        refine lv_goto (tgt := 4) hx hb dX5_knownInAll_26 (by decide) ?_
        exact ih4 (v2_1 + (1 : Int32)) (v1_2 + (f_J6_bitCount_0f7a4 q6)) hM _ (lv_sub hl [0, 1, 2] rfl)
  exact hW4 300 (0 : Int32) (0 : Int32) hL4 _ (lv_sub hl [0, 1, 2] rfl)
theorem hd_X5_makeBlind : yX5_makeBlind.cls = RX5 ∧ yX5_makeBlind.cls ≠ "java/lang/invoke/MethodHandle" ∧ yX5_makeBlind.cls ≠ "java/lang/invoke/VarHandle" ∧ (parseMethodDescriptor yX5_makeBlind.desc).map (fun d => d.parameters.length) = some 1 := by decide +kernel
set_option maxHeartbeats 4000000 in
set_option maxRecDepth 100000 in
theorem c_X5_makeBlind (l : Launch) (g : Gm) (a0 : Nat → Nat) (T0 : TS) (p1 : Int32) {q : TS} (hM : f_X5_makeBlind T0 p1 = some q) : MW l yX5_makeBlind wsX5_makeBlind 0 0 g [.ref (a0 0), .int p1] (wX5 g a0 T0) none (wX5 g a0 q) := by
  intro sz
  refine Met.ofW (cc := cX5_makeBlind) (maxL := 2) (ret := none) (by decide) rfl ?_
  intro p e s m args below meth c s₁ B hml hv
  obtain ⟨rfl, hsz, hP, hK, hD0⟩ := hv
  have hx := B.exec; have hb := B.bytes; have hr := B.returns
  have hts := atoms_spec (ws := wsX5_makeBlind) B.pre
  have hown : s.vm.findClass RX5 = some m.cls := findClass_of_methodNamed B.named
  have hlocks := B.notSynchronized
  have hS : CallFix p m c cX5_makeBlind 2 s _ wsX5_makeBlind RX5 := ⟨hx, hb, hml, hown, hts⟩
  have hin_X5 : ∀ w ∈ wsX50, w ∈ wsX5_makeBlind := fun w h => (List.mem_cons_of_mem _ (List.mem_append_right _ h))
  subst hsz
  have hw := wk_start hP hD0
  have hA : ∀ q : Nat, s.heap.size ≤ q → va_A (wX5 g a0 T0) s.heap.size q := fun q h => Or.inr h
  generalize va_A (wX5 g a0 T0) s.heap.size = A at hw hA ⊢
  clear hP hD0
  have hl := lv_entry ([.ref (a0 0), .int p1]) (n := 2) (Nat.le_of_ble_eq_true rfl)
  rw [lg_entry_eq]
  generalize (lg_sl ([.ref (a0 0), .int p1]) ++ List.replicate (2 - (lg_sl ([.ref (a0 0), .int p1])).length) Slot.unset).toArray = ls at hl ⊢
  have hl : lv_has ls 2 [(0, .ref (a0 0)), (1, .int p1)] := hl
  rw [f_X5_makeBlind] at hM
  refine lv_aload_n hx hb dX5_makeBlind_0 rfl (lv_at hl 0 rfl) ?_
  refine wk_get hx hb hts hin_X5 hown hK hw.1 5 0 9 (.ref (a0 3)) rfl rfl (by decide) (mi 1 rfl) rfl rfl dX5_makeBlind_1 ?_
  refine lv_iload_n hx hb dX5_makeBlind_4 rfl (lv_at hl 1 rfl) ?_
  refine lv_dup2_11 hx hb dX5_makeBlind_5 rfl rfl ?_
  obtain ⟨k1, hM⟩ := ck hM
  refine wk_iald hx hb hK hw.1 3 7 (T0 9) rfl k1 dX5_makeBlind_6 ?_
  refine lv_aload_n hx hb dX5_makeBlind_7 rfl (lv_at hl 0 rfl) ?_
  refine wk_get hx hb hts hin_X5 hown hK hw.1 5 0 7 (.ref (a0 1)) rfl rfl (by decide) (mi 2 rfl) rfl rfl dX5_makeBlind_8 ?_
  refine lv_iload_n hx hb dX5_makeBlind_11 rfl (lv_at hl 1 rfl) ?_
  refine wk_iald hx hb hK hw.1 1 7 (T0 7) rfl k1 dX5_makeBlind_12 ?_
  refine lv_aload_n hx hb dX5_makeBlind_13 rfl (lv_at hl 0 rfl) ?_
  refine wk_get hx hb hts hin_X5 hown hK hw.1 5 0 8 (.ref (a0 2)) rfl rfl (by decide) (mi 3 rfl) rfl rfl dX5_makeBlind_14 ?_
  refine lv_iload_n hx hb dX5_makeBlind_17 rfl (lv_at hl 1 rfl) ?_
  refine wk_iald hx hb hK hw.1 2 7 (T0 8) rfl k1 dX5_makeBlind_18 ?_
  refine lv_ior hx hb dX5_makeBlind_19 ?_
  refine lv_ior hx hb dX5_makeBlind_20 ?_
  refine wk_iast (wq := (wX5 g a0 (up T0 9 (upd (T0 9) (p1).toNatClampNeg (((T0 9) (p1).toNatClampNeg) ||| (((T0 7) (p1).toNatClampNeg) ||| ((T0 8) (p1).toNatClampNeg))))))) hx hb hK hw 3 7 (T0 9) rfl k1 dX5_makeBlind_21 rfl (fun H locs hw => ?_)
  refine lv_aload_n hx hb dX5_makeBlind_22 rfl (lv_at hl 0 rfl) ?_
  refine wk_get hx hb hts hin_X5 hown hK hw.1 5 0 7 (.ref (a0 1)) rfl rfl (by decide) (mi 2 rfl) rfl rfl dX5_makeBlind_23 ?_
  refine lv_iload_n hx hb dX5_makeBlind_26 rfl (lv_at hl 1 rfl) ?_
  refine lv_iconst (v := (0 : Int32)) hx hb dX5_makeBlind_27 (by decide) ?_
  refine wk_iast (wq := (wX5 g a0 (up (up T0 9 (upd (T0 9) (p1).toNatClampNeg (((T0 9) (p1).toNatClampNeg) ||| (((T0 7) (p1).toNatClampNeg) ||| ((T0 8) (p1).toNatClampNeg))))) 7 (upd (T0 7) (p1).toNatClampNeg (0 : Int32))))) hx hb hK hw 1 7 (T0 7) rfl k1 dX5_makeBlind_28 rfl (fun H locs hw => ?_)
  refine lv_aload_n hx hb dX5_makeBlind_29 rfl (lv_at hl 0 rfl) ?_
  refine wk_get hx hb hts hin_X5 hown hK hw.1 5 0 8 (.ref (a0 2)) rfl rfl (by decide) (mi 3 rfl) rfl rfl dX5_makeBlind_30 ?_
  refine lv_iload_n hx hb dX5_makeBlind_33 rfl (lv_at hl 1 rfl) ?_
  refine lv_iconst (v := (0 : Int32)) hx hb dX5_makeBlind_34 (by decide) ?_
  refine wk_iast (wq := (wX5 g a0 (up (up (up T0 9 (upd (T0 9) (p1).toNatClampNeg (((T0 9) (p1).toNatClampNeg) ||| (((T0 7) (p1).toNatClampNeg) ||| ((T0 8) (p1).toNatClampNeg))))) 7 (upd (T0 7) (p1).toNatClampNeg (0 : Int32))) 8 (upd (T0 8) (p1).toNatClampNeg (0 : Int32))))) hx hb hK hw 2 7 (T0 8) rfl k1 dX5_makeBlind_35 rfl (fun H locs hw => ?_)
  refine lv_aload_n hx hb dX5_makeBlind_36 rfl (lv_at hl 0 rfl) ?_
  refine wk_get hx hb hts hin_X5 hown hK hw.1 5 0 11 (.ref (a0 5)) rfl rfl (by decide) (mi 4 rfl) rfl rfl dX5_makeBlind_37 ?_
  refine lv_iload_n hx hb dX5_makeBlind_40 rfl (lv_at hl 1 rfl) ?_
  refine lv_iconst (v := (4 : Int32)) hx hb dX5_makeBlind_41 (by decide) ?_
  refine wk_iast (wq := (wX5 g a0 (up (up (up (up T0 9 (upd (T0 9) (p1).toNatClampNeg (((T0 9) (p1).toNatClampNeg) ||| (((T0 7) (p1).toNatClampNeg) ||| ((T0 8) (p1).toNatClampNeg))))) 7 (upd (T0 7) (p1).toNatClampNeg (0 : Int32))) 8 (upd (T0 8) (p1).toNatClampNeg (0 : Int32))) 11 (upd (T0 11) (p1).toNatClampNeg (4 : Int32))))) hx hb hK hw 5 7 (T0 11) rfl k1 dX5_makeBlind_42 rfl (fun H locs hw => ?_)
  obtain rfl := Option.some.inj hM
  exact W.vret hx hb hr (fun t ht _ => ⟨rfl, by rw [ht]; exact hw.1, hw.2.2.F ht⟩) hw.2.2.2.2 dX5_makeBlind_43
theorem hd_X5_mostOf : yX5_mostOf.cls ≠ "java/lang/invoke/MethodHandle" ∧ yX5_mostOf.cls ≠ "java/lang/invoke/VarHandle" ∧ (parseMethodDescriptor yX5_mostOf.desc).map (fun d => d.parameters.length) = some 1 := by decide +kernel
set_option maxHeartbeats 4000000 in
set_option maxRecDepth 100000 in
theorem c_X5_mostOf (l : Launch) (g : Gm) (p0 : Int32) : MR l yX5_mostOf wsX5_mostOf 0 0 g [.int p0] ([] : va_W) (some (.int (f_X5_mostOf p0))) := by
  refine Met.ofW (cc := cX5_mostOf) (maxL := 1) (ret := (some .int)) (by decide) rfl ?_
  intro p e s m args below meth c s₁ B hml hv
  obtain ⟨rfl, hP, hK⟩ := hv
  have hx := B.exec; have hb := B.bytes; have hr := B.returns
  have hts := atoms_spec (ws := wsX5_mostOf) B.pre
  have hown : s.vm.findClass RX5 = some m.cls := findClass_of_methodNamed B.named
  have hlocks := B.notSynchronized
  have hS : CallFix p m c cX5_mostOf 1 s _ wsX5_mostOf RX5 := ⟨hx, hb, hml, hown, hts⟩
  have hl := lv_entry ([.int p0]) (n := 1) (Nat.le_of_ble_eq_true rfl)
  rw [lg_entry_eq]
  generalize (lg_sl ([.int p0]) ++ List.replicate (1 - (lg_sl ([.int p0])).length) Slot.unset).toArray = ls at hl ⊢
  have hl : lv_has ls 1 [(0, .int p0)] := hl
  obtain ⟨rr, hM⟩ : ∃ rr, f_X5_mostOf p0 = rr := ⟨_, rfl⟩
  rw [hM]
  rw [f_X5_mostOf] at hM
  refine lv_iload_n hx hb dX5_mostOf_0 rfl (lv_at hl 0 rfl) ?_
  have hJ7 : ∀ (x6 : Int32) (ls : Array Slot), x6 = (if p0 = 0 then (1 : Int32) else (9 : Int32)) → lv_has ls 1 [] → W p l e (headSpec wsX5_mostOf ({ frames := 0, cells := 0, slots := 0, locals := 0 } : Room)).room s m ([.int p0] : List Value).toArray below meth c s.heap [] 0 0 (MQ below (QcR (some (.int rr))) ([.int p0] : List Value).toArray s 0 0 (fun _ => False)) (F0 m 10 ls [.int x6]) := by
    intro x6 ls hxx6 hl
    subst hxx6
    subst hM
    exact W.iret hx hb hr (fun t ht _ => ⟨rfl, ht⟩) (fun q hq => by cases hq) dX5_mostOf_10
  refine lv_if_ne (tgt := 8) hx hb dX5_mostOf_1 (by decide) (fun c1 => ?_) (fun c1 => ?_)
  · refine lv_bipush (v := (9 : Int32)) hx hb dX5_mostOf_8 (by decide) ?_
    exact hJ7 _ _ (by first | rfl | (simp only [if_neg c1])) (lv_sub hl [] rfl)
  · refine lv_iconst (v := (1 : Int32)) hx hb dX5_mostOf_4 (by decide) ?_
    refine lv_goto (tgt := 10) hx hb dX5_mostOf_5 (by decide) ?_
    exact hJ7 _ _ (by first | rfl | (simp only [if_pos c1])) (lv_sub hl [] rfl)
theorem hd_X5_pairsHearing : yX5_pairsHearing.cls = RX5 ∧ yX5_pairsHearing.cls ≠ "java/lang/invoke/MethodHandle" ∧ yX5_pairsHearing.cls ≠ "java/lang/invoke/VarHandle" ∧ (parseMethodDescriptor yX5_pairsHearing.desc).map (fun d => d.parameters.length) = some 0 := by decide +kernel
set_option maxHeartbeats 4000000 in
set_option maxRecDepth 100000 in
theorem c_X5_pairsHearing (l : Launch) (g : Gm) (a0 : Nat → Nat) (T0 : TS) {q : Int32} (hM : f_X5_pairsHearing T0 = some q) : MR l yX5_pairsHearing wsX5_pairsHearing 1 21 g [.ref (a0 0)] (wX5 g a0 T0) (some (.int q)) := by
  refine Met.ofW (cc := cX5_pairsHearing) (maxL := 4) (ret := (some .int)) (by decide) rfl ?_
  intro p e s m args below meth c s₁ B hml hv
  obtain ⟨rfl, hP, hK⟩ := hv
  have hx := B.exec; have hb := B.bytes; have hr := B.returns
  have hts := atoms_spec (ws := wsX5_pairsHearing) B.pre
  have hown : s.vm.findClass RX5 = some m.cls := findClass_of_methodNamed B.named
  have hlocks := B.notSynchronized
  have hS : CallFix p m c cX5_pairsHearing 4 s _ wsX5_pairsHearing RX5 := ⟨hx, hb, hml, hown, hts⟩
  have hin_X5 : ∀ w ∈ wsX50, w ∈ wsX5_pairsHearing := fun w h => (List.mem_cons_of_mem _ (List.mem_append_right _ h))
  have hl := lv_entry ([.ref (a0 0)]) (n := 4) (Nat.le_of_ble_eq_true rfl)
  rw [lg_entry_eq]
  generalize (lg_sl ([.ref (a0 0)]) ++ List.replicate (4 - (lg_sl ([.ref (a0 0)])).length) Slot.unset).toArray = ls at hl ⊢
  have hl : lv_has ls 4 [(0, .ref (a0 0))] := hl
  rw [f_X5_pairsHearing] at hM
  refine lv_iconst (v := (0 : Int32)) hx hb dX5_pairsHearing_0 (by decide) ?_
  refine lv_istore_n (lv' := [(1, .int (0 : Int32)), (0, .ref (a0 0))]) hx hb dX5_pairsHearing_1 rfl hl (by decide) rfl (fun ls hl => ?_)
  refine lv_iconst (v := (0 : Int32)) hx hb dX5_pairsHearing_2 (by decide) ?_
  refine lv_istore_n (lv' := [(2, .int (0 : Int32)), (1, .int (0 : Int32)), (0, .ref (a0 0))]) hx hb dX5_pairsHearing_3 rfl hl (by decide) rfl (fun ls hl => ?_)
  obtain ⟨q3, hL4, hM⟩ := bd hM
  have hJ4 : ∀ (ls : Array Slot), lv_has ls 4 [(1, .int q3)] → W p l e (headSpec wsX5_pairsHearing ({ frames := 1, cells := 0, slots := 0, locals := 21 } : Room)).room s m ([.ref (a0 0)] : List Value).toArray below meth c s.heap [] 0 0 (MQ below (QcR (some (.int q))) ([.ref (a0 0)] : List Value).toArray s 0 0 (fun _ => False)) (F0 m 60 ls []) := by
    intro ls hl
    refine lv_iload_n hx hb dX5_pairsHearing_60 rfl (lv_at hl 0 rfl) ?_
    obtain rfl := Option.some.inj hM
    exact W.iret hx hb hr (fun t ht _ => ⟨rfl, ht⟩) (fun q hq => by cases hq) dX5_pairsHearing_61
  have hW4 : ∀ (n : Nat) (v2_1 : Int32) (v1_2 : Int32), L_X5_pairsHearing_4 T0 n v2_1 v1_2 = some q3 → ∀ (ls : Array Slot), lv_has ls 4 [(2, .int v2_1), (1, .int v1_2), (0, .ref (a0 0))] → W p l e (headSpec wsX5_pairsHearing ({ frames := 1, cells := 0, slots := 0, locals := 21 } : Room)).room s m ([.ref (a0 0)] : List Value).toArray below meth c s.heap [] 0 0 (MQ below (QcR (some (.int q))) ([.ref (a0 0)] : List Value).toArray s 0 0 (fun _ => False)) (F0 m 4 ls []) := by
    intro n
    induction n with
    | zero => intro v2_1 v1_2 hM; rw [L_X5_pairsHearing_4] at hM; exact nn hM
    | succ n ih4 =>
      intro v2_1 v1_2 hM ls hl
      rw [L_X5_pairsHearing_4] at hM
      refine lv_iload_n hx hb dX5_pairsHearing_4 rfl (lv_at hl 0 rfl) ?_
      refine lv_aload_n hx hb dX5_pairsHearing_5 rfl (lv_at hl 2 rfl) ?_
      refine wk_get hx hb hts hin_X5 hown hK hP 5 0 1 (.int (T0 1 0)) rfl rfl (by decide) (mi 1 rfl) rfl rfl dX5_pairsHearing_6 ?_
      refine lv_icmp_ge (tgt := 60) hx hb dX5_pairsHearing_9 (by decide) (fun c4 => ?_) (fun c4 => ?_)
      · replace hM := itp c4 hM
        obtain rfl := Option.some.inj hM
        exact hJ4 _ (lv_sub hl [1] rfl)
      · replace hM := itn c4 hM
        refine lv_iconst (v := (0 : Int32)) hx hb dX5_pairsHearing_12 (by decide) ?_
        refine lv_istore_n (lv' := [(3, .int (0 : Int32)), (2, .int v2_1), (1, .int v1_2), (0, .ref (a0 0))]) hx hb dX5_pairsHearing_13 rfl hl (by decide) rfl (fun ls hl => ?_)
        obtain ⟨q7, hL14, hM⟩ := bd hM
        have hJ14 : ∀ (ls : Array Slot), lv_has ls 4 [(2, .int v2_1), (1, .int q7), (0, .ref (a0 0))] → W p l e (headSpec wsX5_pairsHearing ({ frames := 1, cells := 0, slots := 0, locals := 21 } : Room)).room s m ([.ref (a0 0)] : List Value).toArray below meth c s.heap [] 0 0 (MQ below (QcR (some (.int q))) ([.ref (a0 0)] : List Value).toArray s 0 0 (fun _ => False)) (F0 m 54 ls []) := by
          intro ls hl
          refine lv_iinc (v := (v2_1 + (1 : Int32))) (lv' := [(2, .int (v2_1 + (1 : Int32))), (1, .int q7), (0, .ref (a0 0))]) hx hb dX5_pairsHearing_54 hl (k := 0) rfl rfl (by decide) rfl (fun ls hl => ?_)
          refine lv_goto (tgt := 4) hx hb dX5_pairsHearing_57 (by decide) ?_
          exact ih4 (v2_1 + (1 : Int32)) q7 hM _ (lv_sub hl [0, 1, 2] rfl)
        have hW14 : ∀ (n : Nat) (v3_5 : Int32) (v1_6 : Int32), L_X5_pairsHearing_14 T0 v2_1 n v3_5 v1_6 = some q7 → ∀ (ls : Array Slot), lv_has ls 4 [(3, .int v3_5), (2, .int v2_1), (1, .int v1_6), (0, .ref (a0 0))] → W p l e (headSpec wsX5_pairsHearing ({ frames := 1, cells := 0, slots := 0, locals := 21 } : Room)).room s m ([.ref (a0 0)] : List Value).toArray below meth c s.heap [] 0 0 (MQ below (QcR (some (.int q))) ([.ref (a0 0)] : List Value).toArray s 0 0 (fun _ => False)) (F0 m 14 ls []) := by
          intro n
          induction n with
          | zero => intro v3_5 v1_6 hM; rw [L_X5_pairsHearing_14] at hM; exact nn hM
          | succ n ih14 =>
            intro v3_5 v1_6 hM ls hl
            rw [L_X5_pairsHearing_14] at hM
            refine lv_iload_n hx hb dX5_pairsHearing_14 rfl (lv_at hl 0 rfl) ?_
            refine lv_iload_n hx hb dX5_pairsHearing_15 rfl (lv_at hl 1 rfl) ?_
            refine lv_icmp_ge (tgt := 54) hx hb dX5_pairsHearing_16 (by decide) (fun c8 => ?_) (fun c8 => ?_)
            · replace hM := itp c8 hM
              obtain rfl := Option.some.inj hM
              exact hJ14 _ (lv_sub hl [1, 2, 3] rfl)
            · replace hM := itn c8 hM
              refine lv_aload_n hx hb dX5_pairsHearing_19 rfl (lv_at hl 3 rfl) ?_
              refine wk_get hx hb hts hin_X5 hown hK hP 5 0 10 (.ref (a0 4)) rfl rfl (by decide) (mi 2 rfl) rfl rfl dX5_pairsHearing_20 ?_
              refine lv_iload_n hx hb dX5_pairsHearing_23 rfl (lv_at hl 1 rfl) ?_
              obtain ⟨k9, hM⟩ := ck hM
              refine wk_iald hx hb hK hP 4 7 (T0 10) rfl k9 dX5_pairsHearing_24 ?_
              refine lv_iload_n hx hb dX5_pairsHearing_25 rfl (lv_at hl 0 rfl) ?_
              refine rNR (wc := ([] : va_W)) (As := [.int ((T0 10) (v2_1).toNatClampNeg), .int v3_5]) (rest := []) hS (c_X6_has l g ((T0 10) (v2_1).toNatClampNeg) v3_5) gX5_pairsHearing_X6_has_n65 rfl (mi 3 rfl) (mi 4 rfl) 6 rfl hd_X6_has ⟨Nat.le_of_ble_eq_true rfl, Nat.le_of_ble_eq_true rfl⟩ hK (hP_nil) rfl hl.1 rfl (Nat.le_of_ble_eq_true rfl) dX5_pairsHearing_26 ⟨Nat.zero_le _, Nat.zero_le _⟩ ?_
              refine lv_if_eq (tgt := 48) hx hb dX5_pairsHearing_29 (by decide) (fun c11 => ?_) (fun c11 => ?_)
              · replace hM := itp c11 hM
                refine lv_iinc (v := (v3_5 + (1 : Int32))) (lv' := [(3, .int (v3_5 + (1 : Int32))), (2, .int v2_1), (1, .int v1_6), (0, .ref (a0 0))]) hx hb dX5_pairsHearing_48 hl (k := 0) rfl rfl (by decide) rfl (fun ls hl => ?_)
                refine lv_goto (tgt := 14) hx hb dX5_pairsHearing_51 (by decide) ?_
                exact ih14 (v3_5 + (1 : Int32)) v1_6 hM _ (lv_sub hl [0, 1, 2, 3] rfl)
              · replace hM := itn c11 hM
                refine lv_aload_n hx hb dX5_pairsHearing_32 rfl (lv_at hl 3 rfl) ?_
                refine wk_get hx hb hts hin_X5 hown hK hP 5 0 10 (.ref (a0 4)) rfl rfl (by decide) (mi 2 rfl) rfl rfl dX5_pairsHearing_33 ?_
                refine lv_iload_n hx hb dX5_pairsHearing_36 rfl (lv_at hl 0 rfl) ?_
                obtain ⟨k12, hM⟩ := ck hM
                refine wk_iald hx hb hK hP 4 7 (T0 10) rfl k12 dX5_pairsHearing_37 ?_
                refine lv_iload_n hx hb dX5_pairsHearing_38 rfl (lv_at hl 1 rfl) ?_
                refine rNR (wc := ([] : va_W)) (As := [.int ((T0 10) (v3_5).toNatClampNeg), .int v2_1]) (rest := []) hS (c_X6_has l g ((T0 10) (v3_5).toNatClampNeg) v2_1) gX5_pairsHearing_X6_has_n65 rfl (mi 3 rfl) (mi 4 rfl) 6 rfl hd_X6_has ⟨Nat.le_of_ble_eq_true rfl, Nat.le_of_ble_eq_true rfl⟩ hK (hP_nil) rfl hl.1 rfl (Nat.le_of_ble_eq_true rfl) dX5_pairsHearing_39 ⟨Nat.zero_le _, Nat.zero_le _⟩ ?_
                have hJ20 : ∀ (x19 : Int32) (ls : Array Slot), x19 = (if (f_X6_has ((T0 10) (v3_5).toNatClampNeg) v2_1) = 0 then v1_6 else (v1_6 + (1 : Int32))) → lv_has ls 4 [(3, .int v3_5), (2, .int v2_1), (1, .int x19), (0, .ref (a0 0))] → W p l e (headSpec wsX5_pairsHearing ({ frames := 1, cells := 0, slots := 0, locals := 21 } : Room)).room s m ([.ref (a0 0)] : List Value).toArray below meth c s.heap [] 0 0 (MQ below (QcR (some (.int q))) ([.ref (a0 0)] : List Value).toArray s 0 0 (fun _ => False)) (F0 m 48 ls []) := by
                  intro x19 ls hxx19 hl
                  subst hxx19
                  refine lv_iinc (v := (v3_5 + (1 : Int32))) (lv' := [(3, .int (v3_5 + (1 : Int32))), (2, .int v2_1), (1, .int (if (f_X6_has ((T0 10) (v3_5).toNatClampNeg) v2_1) = 0 then v1_6 else (v1_6 + (1 : Int32)))), (0, .ref (a0 0))]) hx hb dX5_pairsHearing_48 hl (k := 0) rfl rfl (by decide) rfl (fun ls hl => ?_)
                  refine lv_goto (tgt := 14) hx hb dX5_pairsHearing_51 (by decide) ?_
                  exact ih14 (v3_5 + (1 : Int32)) (if (f_X6_has ((T0 10) (v3_5).toNatClampNeg) v2_1) = 0 then v1_6 else (v1_6 + (1 : Int32))) hM _ (lv_sub hl [0, 1, 2, 3] rfl)
                refine lv_if_eq (tgt := 48) hx hb dX5_pairsHearing_42 (by decide) (fun c14 => ?_) (fun c14 => ?_)
                · exact hJ20 _ _ (by first | rfl | (simp only [if_pos c14])) (lv_sub hl [0, 1, 2, 3] rfl)
                · refine lv_iinc (v := (v1_6 + (1 : Int32))) (lv' := [(1, .int (v1_6 + (1 : Int32))), (3, .int v3_5), (2, .int v2_1), (0, .ref (a0 0))]) hx hb dX5_pairsHearing_45 hl (k := 2) rfl rfl (by decide) rfl (fun ls hl => ?_)
                  exact hJ20 _ _ (by first | rfl | (simp only [if_neg c14])) (lv_sub hl [1, 2, 0, 3] rfl)
        exact hW14 300 (0 : Int32) v1_2 hL14 _ (lv_sub hl [0, 1, 2, 3] rfl)
  exact hW4 300 (0 : Int32) (0 : Int32) hL4 _ (lv_sub hl [0, 1, 2] rfl)
theorem hd_X6_firstBits : yX6_firstBits.cls ≠ "java/lang/invoke/MethodHandle" ∧ yX6_firstBits.cls ≠ "java/lang/invoke/VarHandle" ∧ (parseMethodDescriptor yX6_firstBits.desc).map (fun d => d.parameters.length) = some 2 := by decide +kernel
set_option maxHeartbeats 4000000 in
set_option maxRecDepth 100000 in
theorem c_X6_firstBits (l : Launch) (g : Gm) (p0 : Int32) (p1 : Int32) {q : Int32} (hM : f_X6_firstBits p0 p1 = some q) : MR l yX6_firstBits wsX6_firstBits 0 0 g [.int p0, .int p1] ([] : va_W) (some (.int q)) := by
  refine Met.ofW (cc := cX6_firstBits) (maxL := 6) (ret := (some .int)) (by decide) rfl ?_
  intro p e s m args below meth c s₁ B hml hv
  obtain ⟨rfl, hP, hK⟩ := hv
  have hx := B.exec; have hb := B.bytes; have hr := B.returns
  have hts := atoms_spec (ws := wsX6_firstBits) B.pre
  have hown : s.vm.findClass RX6 = some m.cls := findClass_of_methodNamed B.named
  have hlocks := B.notSynchronized
  have hS : CallFix p m c cX6_firstBits 6 s _ wsX6_firstBits RX6 := ⟨hx, hb, hml, hown, hts⟩
  have hl := lv_entry ([.int p0, .int p1]) (n := 6) (Nat.le_of_ble_eq_true rfl)
  rw [lg_entry_eq]
  generalize (lg_sl ([.int p0, .int p1]) ++ List.replicate (6 - (lg_sl ([.int p0, .int p1])).length) Slot.unset).toArray = ls at hl ⊢
  have hl : lv_has ls 6 [(0, .int p0), (1, .int p1)] := hl
  rw [f_X6_firstBits] at hM
  refine lv_iload_n hx hb dX6_firstBits_0 rfl (lv_at hl 0 rfl) ?_
  refine lv_istore_n (lv' := [(2, .int p0), (0, .int p0), (1, .int p1)]) hx hb dX6_firstBits_1 rfl hl (by decide) rfl (fun ls hl => ?_)
  refine lv_iconst (v := (0 : Int32)) hx hb dX6_firstBits_2 (by decide) ?_
  refine lv_istore_n (lv' := [(3, .int (0 : Int32)), (2, .int p0), (0, .int p0), (1, .int p1)]) hx hb dX6_firstBits_3 rfl hl (by decide) rfl (fun ls hl => ?_)
  refine lv_iconst (v := (0 : Int32)) hx hb dX6_firstBits_4 (by decide) ?_
  refine lv_istore (lv' := [(4, .int (0 : Int32)), (3, .int (0 : Int32)), (2, .int p0), (0, .int p0), (1, .int p1)]) hx hb dX6_firstBits_5 hl (by decide) rfl (fun ls hl => ?_)
  obtain ⟨q4, hL7, hM⟩ := bd hM
  have hJ7 : ∀ (ls : Array Slot), lv_has ls 6 [(3, .int q4)] → W p l e (headSpec wsX6_firstBits ({ frames := 0, cells := 0, slots := 0, locals := 0 } : Room)).room s m ([.int p0, .int p1] : List Value).toArray below meth c s.heap [] 0 0 (MQ below (QcR (some (.int q))) ([.int p0, .int p1] : List Value).toArray s 0 0 (fun _ => False)) (F0 m 41 ls []) := by
    intro ls hl
    refine lv_iload_n hx hb dX6_firstBits_41 rfl (lv_at hl 0 rfl) ?_
    obtain rfl := Option.some.inj hM
    exact W.iret hx hb hr (fun t ht _ => ⟨rfl, ht⟩) (fun q hq => by cases hq) dX6_firstBits_42
  have hW7 : ∀ (n : Nat) (v4_1 : Int32) (v3_2 : Int32) (v2_3 : Int32), L_X6_firstBits_7 p1 n v4_1 v3_2 v2_3 = some q4 → ∀ (ls : Array Slot), lv_has ls 6 [(4, .int v4_1), (3, .int v3_2), (2, .int v2_3), (1, .int p1)] → W p l e (headSpec wsX6_firstBits ({ frames := 0, cells := 0, slots := 0, locals := 0 } : Room)).room s m ([.int p0, .int p1] : List Value).toArray below meth c s.heap [] 0 0 (MQ below (QcR (some (.int q))) ([.int p0, .int p1] : List Value).toArray s 0 0 (fun _ => False)) (F0 m 7 ls []) := by
    intro n
    induction n with
    | zero => intro v4_1 v3_2 v2_3 hM; rw [L_X6_firstBits_7] at hM; exact nn hM
    | succ n ih7 =>
      intro v4_1 v3_2 v2_3 hM ls hl
      rw [L_X6_firstBits_7] at hM
      refine lv_iload hx hb dX6_firstBits_7 (lv_at hl 0 rfl) ?_
      refine lv_iload_n hx hb dX6_firstBits_9 rfl (lv_at hl 3 rfl) ?_
      refine lv_icmp_ge (tgt := 41) hx hb dX6_firstBits_10 (by decide) (fun c5 => ?_) (fun c5 => ?_)
      · replace hM := itp c5 hM
        obtain rfl := Option.some.inj hM
        exact hJ7 _ (lv_sub hl [1] rfl)
      · replace hM := itn c5 hM
        refine lv_iload_n hx hb dX6_firstBits_13 rfl (lv_at hl 2 rfl) ?_
        refine lv_if_eq (tgt := 41) hx hb dX6_firstBits_14 (by decide) (fun c6 => ?_) (fun c6 => ?_)
        · replace hM := itp c6 hM
          obtain rfl := Option.some.inj hM
          exact hJ7 _ (lv_sub hl [1] rfl)
        · replace hM := itn c6 hM
          refine lv_iload_n hx hb dX6_firstBits_17 rfl (lv_at hl 2 rfl) ?_
          refine lv_iload_n hx hb dX6_firstBits_18 rfl (lv_at hl 2 rfl) ?_
          refine lv_ineg hx hb dX6_firstBits_19 ?_
          refine lv_iand hx hb dX6_firstBits_20 ?_
          refine lv_istore (lv' := [(5, .int (v2_3 &&& (-v2_3))), (4, .int v4_1), (3, .int v3_2), (2, .int v2_3), (1, .int p1)]) hx hb dX6_firstBits_21 hl (by decide) rfl (fun ls hl => ?_)
          refine lv_iload_n hx hb dX6_firstBits_23 rfl (lv_at hl 2 rfl) ?_
          refine lv_iload hx hb dX6_firstBits_24 (lv_at hl 0 rfl) ?_
          refine lv_ior hx hb dX6_firstBits_26 ?_
          refine lv_istore_n (lv' := [(3, .int (v3_2 ||| (v2_3 &&& (-v2_3)))), (5, .int (v2_3 &&& (-v2_3))), (4, .int v4_1), (2, .int v2_3), (1, .int p1)]) hx hb dX6_firstBits_27 rfl hl (by decide) rfl (fun ls hl => ?_)
          refine lv_iload_n hx hb dX6_firstBits_28 rfl (lv_at hl 3 rfl) ?_
          refine lv_iload hx hb dX6_firstBits_29 (lv_at hl 1 rfl) ?_
          refine lv_iconst (v := (-1 : Int32)) hx hb dX6_firstBits_31 (by decide) ?_
          refine lv_ixor hx hb dX6_firstBits_32 ?_
          refine lv_iand hx hb dX6_firstBits_33 ?_
          refine lv_istore_n (lv' := [(2, .int (v2_3 &&& ((v2_3 &&& (-v2_3)) ^^^ (-1 : Int32)))), (3, .int (v3_2 ||| (v2_3 &&& (-v2_3)))), (5, .int (v2_3 &&& (-v2_3))), (4, .int v4_1), (1, .int p1)]) hx hb dX6_firstBits_34 rfl hl (by decide) rfl (fun ls hl => ?_)
          refine lv_iinc (v := (v4_1 + (1 : Int32))) (lv' := [(4, .int (v4_1 + (1 : Int32))), (2, .int (v2_3 &&& ((v2_3 &&& (-v2_3)) ^^^ (-1 : Int32)))), (3, .int (v3_2 ||| (v2_3 &&& (-v2_3)))), (5, .int (v2_3 &&& (-v2_3))), (1, .int p1)]) hx hb dX6_firstBits_35 hl (k := 3) rfl rfl (by decide) rfl (fun ls hl => ?_)
          refine lv_goto (tgt := 7) hx hb dX6_firstBits_38 (by decide) ?_
          exact ih7 (v4_1 + (1 : Int32)) (v3_2 ||| (v2_3 &&& (-v2_3))) (v2_3 &&& ((v2_3 &&& (-v2_3)) ^^^ (-1 : Int32))) hM _ (lv_sub hl [0, 2, 1, 4] rfl)
  exact hW7 300 (0 : Int32) (0 : Int32) p0 hL7 _ (lv_sub hl [0, 1, 2, 4] rfl)
theorem hd_X5_passNight : yX5_passNight.cls = RX5 ∧ yX5_passNight.cls ≠ "java/lang/invoke/MethodHandle" ∧ yX5_passNight.cls ≠ "java/lang/invoke/VarHandle" ∧ (parseMethodDescriptor yX5_passNight.desc).map (fun d => d.parameters.length) = some 0 := by decide +kernel
set_option maxHeartbeats 4000000 in
set_option maxRecDepth 100000 in
theorem c_X5_passNight (l : Launch) (g : Gm) (a0 : Nat → Nat) (T0 : TS) {q : TS} (hM : f_X5_passNight T0 = some q) : MW l yX5_passNight wsX5_passNight 1 25 g [.ref (a0 0)] (wX5 g a0 T0) none (wX5 g a0 q) := by
  intro sz
  refine Met.ofW (cc := cX5_passNight) (maxL := 3) (ret := none) (by decide) rfl ?_
  intro p e s m args below meth c s₁ B hml hv
  obtain ⟨rfl, hsz, hP, hK, hD0⟩ := hv
  have hx := B.exec; have hb := B.bytes; have hr := B.returns
  have hts := atoms_spec (ws := wsX5_passNight) B.pre
  have hown : s.vm.findClass RX5 = some m.cls := findClass_of_methodNamed B.named
  have hlocks := B.notSynchronized
  have hS : CallFix p m c cX5_passNight 3 s _ wsX5_passNight RX5 := ⟨hx, hb, hml, hown, hts⟩
  have hin_X5 : ∀ w ∈ wsX50, w ∈ wsX5_passNight := fun w h => (List.mem_cons_of_mem _ (List.mem_append_right _ h))
  subst hsz
  have hw := wk_start hP hD0
  have hA : ∀ q : Nat, s.heap.size ≤ q → va_A (wX5 g a0 T0) s.heap.size q := fun q h => Or.inr h
  generalize va_A (wX5 g a0 T0) s.heap.size = A at hw hA ⊢
  clear hP hD0
  have hl := lv_entry ([.ref (a0 0)]) (n := 3) (Nat.le_of_ble_eq_true rfl)
  rw [lg_entry_eq]
  generalize (lg_sl ([.ref (a0 0)]) ++ List.replicate (3 - (lg_sl ([.ref (a0 0)])).length) Slot.unset).toArray = ls at hl ⊢
  have hl : lv_has ls 3 [(0, .ref (a0 0))] := hl
  rw [f_X5_passNight] at hM
  refine lv_aload_n hx hb dX5_passNight_0 rfl (lv_at hl 0 rfl) ?_
  refine lv_dup hx hb dX5_passNight_1 rfl ?_
  refine wk_get hx hb hts hin_X5 hown hK hw.1 5 0 5 (.int (T0 5 0)) rfl rfl (by decide) (mi 1 rfl) rfl rfl dX5_passNight_2 ?_
  refine lv_iconst (v := (1 : Int32)) hx hb dX5_passNight_5 (by decide) ?_
  refine lv_iadd hx hb dX5_passNight_6 ?_
  refine wk_put (wq := (wX5 g a0 (up T0 5 (fun _ => ((T0 5 0) + (1 : Int32)))))) hx hb hts hin_X5 tyX5 tyX5_ok nmX5 hown hK hw 5 0 5 rfl rfl (by decide) (mi 1 rfl) rfl rfl rfl rfl (Nat.le_of_ble_eq_true rfl) dX5_passNight_7 rfl (fun H locs hw => ?_)
  refine lv_iconst (v := (0 : Int32)) hx hb dX5_passNight_10 (by decide) ?_
  refine lv_istore_n (lv' := [(1, .int (0 : Int32)), (0, .ref (a0 0))]) hx hb dX5_passNight_11 rfl hl (by decide) rfl (fun ls hl => ?_)
  obtain ⟨q3, hL12, hM⟩ := bd hM
  have hJ12 : ∀ (H : Heap) (locs : List Loc), Wk g A s.heap H locs (wX5 g a0 q3) → ∀ (ls : Array Slot), lv_has ls 3 [] → W p l e (headSpec wsX5_passNight ({ frames := 1, cells := 0, slots := 0, locals := 25 } : Room)).room s m ([.ref (a0 0)] : List Value).toArray below meth c H locs 0 0 (MQ below (QcW g none (wX5 g a0 q) A) ([.ref (a0 0)] : List Value).toArray s 0 0 A) (F0 m 73 ls []) := by
    intro H locs hw ls hl
    obtain rfl := Option.some.inj hM
    exact W.vret hx hb hr (fun t ht _ => ⟨rfl, by rw [ht]; exact hw.1, hw.2.2.F ht⟩) hw.2.2.2.2 dX5_passNight_73
  have hW12 : ∀ (n : Nat) (v1_1 : Int32) (TL2 : TS), L_X5_passNight_12 n v1_1 TL2 = some q3 → ∀ (H : Heap) (locs : List Loc), Wk g A s.heap H locs (wX5 g a0 TL2) → ∀ (ls : Array Slot), lv_has ls 3 [(1, .int v1_1), (0, .ref (a0 0))] → W p l e (headSpec wsX5_passNight ({ frames := 1, cells := 0, slots := 0, locals := 25 } : Room)).room s m ([.ref (a0 0)] : List Value).toArray below meth c H locs 0 0 (MQ below (QcW g none (wX5 g a0 q) A) ([.ref (a0 0)] : List Value).toArray s 0 0 A) (F0 m 12 ls []) := by
    intro n
    induction n with
    | zero => intro v1_1 TL2 hM; rw [L_X5_passNight_12] at hM; exact nn hM
    | succ n ih12 =>
      intro v1_1 TL2 hM H locs hw ls hl
      rw [L_X5_passNight_12] at hM
      refine lv_iload_n hx hb dX5_passNight_12 rfl (lv_at hl 0 rfl) ?_
      refine lv_aload_n hx hb dX5_passNight_13 rfl (lv_at hl 1 rfl) ?_
      refine wk_get hx hb hts hin_X5 hown hK hw.1 5 0 1 (.int (TL2 1 0)) rfl rfl (by decide) (mi 2 rfl) rfl rfl dX5_passNight_14 ?_
      refine lv_icmp_ge (tgt := 73) hx hb dX5_passNight_17 (by decide) (fun c4 => ?_) (fun c4 => ?_)
      · replace hM := itp c4 hM
        obtain rfl := Option.some.inj hM
        exact hJ12 _ _ hw _ (lv_sub hl [] rfl)
      · replace hM := itn c4 hM
        refine lv_aload_n hx hb dX5_passNight_20 rfl (lv_at hl 1 rfl) ?_
        refine wk_get hx hb hts hin_X5 hown hK hw.1 5 0 11 (.ref (a0 5)) rfl rfl (by decide) (mi 3 rfl) rfl rfl dX5_passNight_21 ?_
        refine lv_iload_n hx hb dX5_passNight_24 rfl (lv_at hl 0 rfl) ?_
        obtain ⟨k5, hM⟩ := ck hM
        refine wk_iald hx hb hK hw.1 5 7 (TL2 11) rfl k5 dX5_passNight_25 ?_
        refine lv_iconst (v := (5 : Int32)) hx hb dX5_passNight_26 (by decide) ?_
        refine lv_icmp_ne (tgt := 43) hx hb dX5_passNight_27 (by decide) (fun c6 => ?_) (fun c6 => ?_)
        · replace hM := itn c6 hM
          refine lv_iconst (v := (0 : Int32)) hx hb dX5_passNight_43 (by decide) ?_
          refine lv_istore_n (lv' := [(2, .int (0 : Int32)), (1, .int v1_1), (0, .ref (a0 0))]) hx hb dX5_passNight_44 rfl hl (by decide) rfl (fun ls hl => ?_)
          refine lv_aload_n hx hb dX5_passNight_45 rfl (lv_at hl 2 rfl) ?_
          refine wk_get hx hb hts hin_X5 hown hK hw.1 5 0 7 (.ref (a0 1)) rfl rfl (by decide) (mi 4 rfl) rfl rfl dX5_passNight_46 ?_
          refine lv_iload_n hx hb dX5_passNight_49 rfl (lv_at hl 1 rfl) ?_
          refine lv_dup2_11 hx hb dX5_passNight_50 rfl rfl ?_
          refine wk_iald hx hb hK hw.1 1 7 (TL2 7) rfl k5 dX5_passNight_51 ?_
          refine lv_iload_n hx hb dX5_passNight_52 rfl (lv_at hl 0 rfl) ?_
          refine lv_iconst (v := (-1 : Int32)) hx hb dX5_passNight_53 (by decide) ?_
          refine lv_ixor hx hb dX5_passNight_54 ?_
          refine lv_iand hx hb dX5_passNight_55 ?_
          refine wk_iast (wq := (wX5 g a0 (up TL2 7 (upd (TL2 7) (v1_1).toNatClampNeg (((TL2 7) (v1_1).toNatClampNeg) &&& ((0 : Int32) ^^^ (-1 : Int32))))))) hx hb hK hw 1 7 (TL2 7) rfl k5 dX5_passNight_56 rfl (fun H locs hw => ?_)
          refine lv_aload_n hx hb dX5_passNight_57 rfl (lv_at hl 2 rfl) ?_
          refine wk_get hx hb hts hin_X5 hown hK hw.1 5 0 9 (.ref (a0 3)) rfl rfl (by decide) (mi 5 rfl) rfl rfl dX5_passNight_58 ?_
          refine lv_iload_n hx hb dX5_passNight_61 rfl (lv_at hl 1 rfl) ?_
          refine lv_dup2_11 hx hb dX5_passNight_62 rfl rfl ?_
          refine wk_iald hx hb hK hw.1 3 7 (TL2 9) rfl k5 dX5_passNight_63 ?_
          refine lv_iload_n hx hb dX5_passNight_64 rfl (lv_at hl 0 rfl) ?_
          refine lv_ior hx hb dX5_passNight_65 ?_
          refine wk_iast (wq := (wX5 g a0 (up (up TL2 7 (upd (TL2 7) (v1_1).toNatClampNeg (((TL2 7) (v1_1).toNatClampNeg) &&& ((0 : Int32) ^^^ (-1 : Int32))))) 9 (upd (TL2 9) (v1_1).toNatClampNeg (((TL2 9) (v1_1).toNatClampNeg) ||| (0 : Int32)))))) hx hb hK hw 3 7 (TL2 9) rfl k5 dX5_passNight_66 rfl (fun H locs hw => ?_)
          refine lv_iinc (v := (v1_1 + (1 : Int32))) (lv' := [(1, .int (v1_1 + (1 : Int32))), (2, .int (0 : Int32)), (0, .ref (a0 0))]) hx hb dX5_passNight_67 hl (k := 1) rfl rfl (by decide) rfl (fun ls hl => ?_)
          refine lv_goto (tgt := 12) hx hb dX5_passNight_70 (by decide) ?_
          exact ih12 (v1_1 + (1 : Int32)) (up (up TL2 7 (upd (TL2 7) (v1_1).toNatClampNeg (((TL2 7) (v1_1).toNatClampNeg) &&& ((0 : Int32) ^^^ (-1 : Int32))))) 9 (upd (TL2 9) (v1_1).toNatClampNeg (((TL2 9) (v1_1).toNatClampNeg) ||| (0 : Int32)))) hM _ _ hw _ (lv_sub hl [0, 2] rfl)
        · replace hM := itp c6 hM
          refine lv_aload_n hx hb dX5_passNight_30 rfl (lv_at hl 1 rfl) ?_
          refine wk_get hx hb hts hin_X5 hown hK hw.1 5 0 7 (.ref (a0 1)) rfl rfl (by decide) (mi 4 rfl) rfl rfl dX5_passNight_31 ?_
          refine lv_iload_n hx hb dX5_passNight_34 rfl (lv_at hl 0 rfl) ?_
          refine wk_iald hx hb hK hw.1 1 7 (TL2 7) rfl k5 dX5_passNight_35 ?_
          refine lv_iconst (v := (1 : Int32)) hx hb dX5_passNight_36 (by decide) ?_
          obtain ⟨q8, h7, hM⟩ := bd hM
          refine rNR (wc := ([] : va_W)) (As := [.int ((TL2 7) (v1_1).toNatClampNeg), .int (1 : Int32)]) (rest := []) hS (c_X6_firstBits l g ((TL2 7) (v1_1).toNatClampNeg) (1 : Int32) h7) gX5_passNight_X6_firstBits_n94 rfl (mi 6 rfl) (mi 7 rfl) 5 rfl hd_X6_firstBits ⟨Nat.le_of_ble_eq_true rfl, Nat.le_of_ble_eq_true rfl⟩ hK (hP_nil) rfl hl.1 rfl (Nat.le_of_ble_eq_true rfl) dX5_passNight_37 ⟨Nat.zero_le _, Nat.zero_le _⟩ ?_
          refine lv_goto (tgt := 44) hx hb dX5_passNight_40 (by decide) ?_
          refine lv_istore_n (lv' := [(2, .int q8), (1, .int v1_1), (0, .ref (a0 0))]) hx hb dX5_passNight_44 rfl hl (by decide) rfl (fun ls hl => ?_)
          refine lv_aload_n hx hb dX5_passNight_45 rfl (lv_at hl 2 rfl) ?_
          refine wk_get hx hb hts hin_X5 hown hK hw.1 5 0 7 (.ref (a0 1)) rfl rfl (by decide) (mi 4 rfl) rfl rfl dX5_passNight_46 ?_
          refine lv_iload_n hx hb dX5_passNight_49 rfl (lv_at hl 1 rfl) ?_
          refine lv_dup2_11 hx hb dX5_passNight_50 rfl rfl ?_
          refine wk_iald hx hb hK hw.1 1 7 (TL2 7) rfl k5 dX5_passNight_51 ?_
          refine lv_iload_n hx hb dX5_passNight_52 rfl (lv_at hl 0 rfl) ?_
          refine lv_iconst (v := (-1 : Int32)) hx hb dX5_passNight_53 (by decide) ?_
          refine lv_ixor hx hb dX5_passNight_54 ?_
          refine lv_iand hx hb dX5_passNight_55 ?_
          refine wk_iast (wq := (wX5 g a0 (up TL2 7 (upd (TL2 7) (v1_1).toNatClampNeg (((TL2 7) (v1_1).toNatClampNeg) &&& (q8 ^^^ (-1 : Int32))))))) hx hb hK hw 1 7 (TL2 7) rfl k5 dX5_passNight_56 rfl (fun H locs hw => ?_)
          refine lv_aload_n hx hb dX5_passNight_57 rfl (lv_at hl 2 rfl) ?_
          refine wk_get hx hb hts hin_X5 hown hK hw.1 5 0 9 (.ref (a0 3)) rfl rfl (by decide) (mi 5 rfl) rfl rfl dX5_passNight_58 ?_
          refine lv_iload_n hx hb dX5_passNight_61 rfl (lv_at hl 1 rfl) ?_
          refine lv_dup2_11 hx hb dX5_passNight_62 rfl rfl ?_
          refine wk_iald hx hb hK hw.1 3 7 (TL2 9) rfl k5 dX5_passNight_63 ?_
          refine lv_iload_n hx hb dX5_passNight_64 rfl (lv_at hl 0 rfl) ?_
          refine lv_ior hx hb dX5_passNight_65 ?_
          refine wk_iast (wq := (wX5 g a0 (up (up TL2 7 (upd (TL2 7) (v1_1).toNatClampNeg (((TL2 7) (v1_1).toNatClampNeg) &&& (q8 ^^^ (-1 : Int32))))) 9 (upd (TL2 9) (v1_1).toNatClampNeg (((TL2 9) (v1_1).toNatClampNeg) ||| q8))))) hx hb hK hw 3 7 (TL2 9) rfl k5 dX5_passNight_66 rfl (fun H locs hw => ?_)
          refine lv_iinc (v := (v1_1 + (1 : Int32))) (lv' := [(1, .int (v1_1 + (1 : Int32))), (2, .int q8), (0, .ref (a0 0))]) hx hb dX5_passNight_67 hl (k := 1) rfl rfl (by decide) rfl (fun ls hl => ?_)
          refine lv_goto (tgt := 12) hx hb dX5_passNight_70 (by decide) ?_
          exact ih12 (v1_1 + (1 : Int32)) (up (up TL2 7 (upd (TL2 7) (v1_1).toNatClampNeg (((TL2 7) (v1_1).toNatClampNeg) &&& (q8 ^^^ (-1 : Int32))))) 9 (upd (TL2 9) (v1_1).toNatClampNeg (((TL2 9) (v1_1).toNatClampNeg) ||| q8))) hM _ _ hw _ (lv_sub hl [0, 2] rfl)
  exact hW12 300 (0 : Int32) (up T0 5 (fun _ => ((T0 5 0) + (1 : Int32)))) hL12 _ _ hw _ (lv_sub hl [0, 1] rfl)
theorem hd_X5_vouchedFor : yX5_vouchedFor.cls = RX5 ∧ yX5_vouchedFor.cls ≠ "java/lang/invoke/MethodHandle" ∧ yX5_vouchedFor.cls ≠ "java/lang/invoke/VarHandle" ∧ (parseMethodDescriptor yX5_vouchedFor.desc).map (fun d => d.parameters.length) = some 1 := by decide +kernel
set_option maxHeartbeats 4000000 in
set_option maxRecDepth 100000 in
theorem c_X5_vouchedFor (l : Launch) (g : Gm) (a0 : Nat → Nat) (T0 : TS) (p1 : Int32) {q : Int32} (hM : f_X5_vouchedFor T0 p1 = some q) : MR l yX5_vouchedFor wsX5_vouchedFor 0 0 g [.ref (a0 0), .int p1] (wX5 g a0 T0) (some (.int q)) := by
  refine Met.ofW (cc := cX5_vouchedFor) (maxL := 4) (ret := (some .int)) (by decide) rfl ?_
  intro p e s m args below meth c s₁ B hml hv
  obtain ⟨rfl, hP, hK⟩ := hv
  have hx := B.exec; have hb := B.bytes; have hr := B.returns
  have hts := atoms_spec (ws := wsX5_vouchedFor) B.pre
  have hown : s.vm.findClass RX5 = some m.cls := findClass_of_methodNamed B.named
  have hlocks := B.notSynchronized
  have hS : CallFix p m c cX5_vouchedFor 4 s _ wsX5_vouchedFor RX5 := ⟨hx, hb, hml, hown, hts⟩
  have hin_X5 : ∀ w ∈ wsX50, w ∈ wsX5_vouchedFor := fun w h => (List.mem_cons_of_mem _ (List.mem_append_right _ h))
  have hl := lv_entry ([.ref (a0 0), .int p1]) (n := 4) (Nat.le_of_ble_eq_true rfl)
  rw [lg_entry_eq]
  generalize (lg_sl ([.ref (a0 0), .int p1]) ++ List.replicate (4 - (lg_sl ([.ref (a0 0), .int p1])).length) Slot.unset).toArray = ls at hl ⊢
  have hl : lv_has ls 4 [(0, .ref (a0 0)), (1, .int p1)] := hl
  rw [f_X5_vouchedFor] at hM
  refine lv_iconst (v := (0 : Int32)) hx hb dX5_vouchedFor_0 (by decide) ?_
  refine lv_istore_n (lv' := [(2, .int (0 : Int32)), (0, .ref (a0 0)), (1, .int p1)]) hx hb dX5_vouchedFor_1 rfl hl (by decide) rfl (fun ls hl => ?_)
  refine lv_iconst (v := (0 : Int32)) hx hb dX5_vouchedFor_2 (by decide) ?_
  refine lv_istore_n (lv' := [(3, .int (0 : Int32)), (2, .int (0 : Int32)), (0, .ref (a0 0)), (1, .int p1)]) hx hb dX5_vouchedFor_3 rfl hl (by decide) rfl (fun ls hl => ?_)
  obtain ⟨q3, hL4, hM⟩ := bd hM
  have hJ4 : ∀ (ls : Array Slot), lv_has ls 4 [(2, .int q3)] → W p l e (headSpec wsX5_vouchedFor ({ frames := 0, cells := 0, slots := 0, locals := 0 } : Room)).room s m ([.ref (a0 0), .int p1] : List Value).toArray below meth c s.heap [] 0 0 (MQ below (QcR (some (.int q))) ([.ref (a0 0), .int p1] : List Value).toArray s 0 0 (fun _ => False)) (F0 m 47 ls []) := by
    intro ls hl
    refine lv_iload_n hx hb dX5_vouchedFor_47 rfl (lv_at hl 0 rfl) ?_
    obtain rfl := Option.some.inj hM
    exact W.iret hx hb hr (fun t ht _ => ⟨rfl, ht⟩) (fun q hq => by cases hq) dX5_vouchedFor_48
  have hW4 : ∀ (n : Nat) (v3_1 : Int32) (v2_2 : Int32), L_X5_vouchedFor_4 T0 p1 n v3_1 v2_2 = some q3 → ∀ (ls : Array Slot), lv_has ls 4 [(3, .int v3_1), (2, .int v2_2), (0, .ref (a0 0)), (1, .int p1)] → W p l e (headSpec wsX5_vouchedFor ({ frames := 0, cells := 0, slots := 0, locals := 0 } : Room)).room s m ([.ref (a0 0), .int p1] : List Value).toArray below meth c s.heap [] 0 0 (MQ below (QcR (some (.int q))) ([.ref (a0 0), .int p1] : List Value).toArray s 0 0 (fun _ => False)) (F0 m 4 ls []) := by
    intro n
    induction n with
    | zero => intro v3_1 v2_2 hM; rw [L_X5_vouchedFor_4] at hM; exact nn hM
    | succ n ih4 =>
      intro v3_1 v2_2 hM ls hl
      rw [L_X5_vouchedFor_4] at hM
      refine lv_iload_n hx hb dX5_vouchedFor_4 rfl (lv_at hl 0 rfl) ?_
      refine lv_aload_n hx hb dX5_vouchedFor_5 rfl (lv_at hl 2 rfl) ?_
      refine wk_get hx hb hts hin_X5 hown hK hP 5 0 1 (.int (T0 1 0)) rfl rfl (by decide) (mi 1 rfl) rfl rfl dX5_vouchedFor_6 ?_
      refine lv_icmp_ge (tgt := 47) hx hb dX5_vouchedFor_9 (by decide) (fun c4 => ?_) (fun c4 => ?_)
      · replace hM := itp c4 hM
        obtain rfl := Option.some.inj hM
        exact hJ4 _ (lv_sub hl [1] rfl)
      · replace hM := itn c4 hM
        refine lv_aload_n hx hb dX5_vouchedFor_12 rfl (lv_at hl 2 rfl) ?_
        refine wk_get hx hb hts hin_X5 hown hK hP 5 0 10 (.ref (a0 4)) rfl rfl (by decide) (mi 2 rfl) rfl rfl dX5_vouchedFor_13 ?_
        refine lv_iload_n hx hb dX5_vouchedFor_16 rfl (lv_at hl 3 rfl) ?_
        obtain ⟨k5, hM⟩ := ck hM
        refine wk_iald hx hb hK hP 4 7 (T0 10) rfl k5 dX5_vouchedFor_17 ?_
        refine lv_iconst (v := (1 : Int32)) hx hb dX5_vouchedFor_18 (by decide) ?_
        refine lv_iload_n hx hb dX5_vouchedFor_19 rfl (lv_at hl 0 rfl) ?_
        refine lv_ishl hx hb dX5_vouchedFor_20 ?_
        refine lv_iand hx hb dX5_vouchedFor_21 ?_
        refine lv_if_eq (tgt := 41) hx hb dX5_vouchedFor_22 (by decide) (fun c6 => ?_) (fun c6 => ?_)
        · replace hM := itp c6 hM
          refine lv_iinc (v := (v3_1 + (1 : Int32))) (lv' := [(3, .int (v3_1 + (1 : Int32))), (2, .int v2_2), (0, .ref (a0 0)), (1, .int p1)]) hx hb dX5_vouchedFor_41 hl (k := 0) rfl rfl (by decide) rfl (fun ls hl => ?_)
          refine lv_goto (tgt := 4) hx hb dX5_vouchedFor_44 (by decide) ?_
          exact ih4 (v3_1 + (1 : Int32)) v2_2 hM _ (lv_sub hl [0, 1, 2, 3] rfl)
        · replace hM := itn c6 hM
          refine lv_iload_n hx hb dX5_vouchedFor_25 rfl (lv_at hl 1 rfl) ?_
          refine lv_aload_n hx hb dX5_vouchedFor_26 rfl (lv_at hl 2 rfl) ?_
          refine wk_get hx hb hts hin_X5 hown hK hP 5 0 9 (.ref (a0 3)) rfl rfl (by decide) (mi 3 rfl) rfl rfl dX5_vouchedFor_27 ?_
          refine lv_iload_n hx hb dX5_vouchedFor_30 rfl (lv_at hl 0 rfl) ?_
          obtain ⟨k7, hM⟩ := ck hM
          refine wk_iald hx hb hK hP 3 7 (T0 9) rfl k7 dX5_vouchedFor_31 ?_
          refine lv_aload_n hx hb dX5_vouchedFor_32 rfl (lv_at hl 2 rfl) ?_
          refine wk_get hx hb hts hin_X5 hown hK hP 5 0 7 (.ref (a0 1)) rfl rfl (by decide) (mi 4 rfl) rfl rfl dX5_vouchedFor_33 ?_
          refine lv_iload_n hx hb dX5_vouchedFor_36 rfl (lv_at hl 0 rfl) ?_
          refine wk_iald hx hb hK hP 1 7 (T0 7) rfl k7 dX5_vouchedFor_37 ?_
          refine lv_ior hx hb dX5_vouchedFor_38 ?_
          refine lv_ior hx hb dX5_vouchedFor_39 ?_
          refine lv_istore_n (lv' := [(2, .int (v2_2 ||| (((T0 9) (v3_1).toNatClampNeg) ||| ((T0 7) (v3_1).toNatClampNeg)))), (3, .int v3_1), (0, .ref (a0 0)), (1, .int p1)]) hx hb dX5_vouchedFor_40 rfl hl (by decide) rfl (fun ls hl => ?_)
          refine lv_iinc (v := (v3_1 + (1 : Int32))) (lv' := [(3, .int (v3_1 + (1 : Int32))), (2, .int (v2_2 ||| (((T0 9) (v3_1).toNatClampNeg) ||| ((T0 7) (v3_1).toNatClampNeg)))), (0, .ref (a0 0)), (1, .int p1)]) hx hb dX5_vouchedFor_41 hl (k := 1) rfl rfl (by decide) rfl (fun ls hl => ?_)
          refine lv_goto (tgt := 4) hx hb dX5_vouchedFor_44 (by decide) ?_
          exact ih4 (v3_1 + (1 : Int32)) (v2_2 ||| (((T0 9) (v3_1).toNatClampNeg) ||| ((T0 7) (v3_1).toNatClampNeg))) hM _ (lv_sub hl [0, 1, 2, 3] rfl)
  exact hW4 300 (0 : Int32) (0 : Int32) hL4 _ (lv_sub hl [0, 1, 2, 3] rfl)
theorem hd_X5_sayableBy : yX5_sayableBy.cls = RX5 ∧ yX5_sayableBy.cls ≠ "java/lang/invoke/MethodHandle" ∧ yX5_sayableBy.cls ≠ "java/lang/invoke/VarHandle" ∧ (parseMethodDescriptor yX5_sayableBy.desc).map (fun d => d.parameters.length) = some 1 := by decide +kernel
set_option maxHeartbeats 4000000 in
set_option maxRecDepth 100000 in
theorem c_X5_sayableBy (l : Launch) (g : Gm) (a0 : Nat → Nat) (T0 : TS) (p1 : Int32) {q : Int32} (hM : f_X5_sayableBy T0 p1 = some q) : MR l yX5_sayableBy wsX5_sayableBy 1 25 g [.ref (a0 0), .int p1] (wX5 g a0 T0) (some (.int q)) := by
  refine Met.ofW (cc := cX5_sayableBy) (maxL := 4) (ret := (some .int)) (by decide) rfl ?_
  intro p e s m args below meth c s₁ B hml hv
  obtain ⟨rfl, hP, hK⟩ := hv
  have hx := B.exec; have hb := B.bytes; have hr := B.returns
  have hts := atoms_spec (ws := wsX5_sayableBy) B.pre
  have hown : s.vm.findClass RX5 = some m.cls := findClass_of_methodNamed B.named
  have hlocks := B.notSynchronized
  have hS : CallFix p m c cX5_sayableBy 4 s _ wsX5_sayableBy RX5 := ⟨hx, hb, hml, hown, hts⟩
  have hin_X5 : ∀ w ∈ wsX50, w ∈ wsX5_sayableBy := fun w h => (List.mem_cons_of_mem _ (List.mem_append_right _ h))
  have hl := lv_entry ([.ref (a0 0), .int p1]) (n := 4) (Nat.le_of_ble_eq_true rfl)
  rw [lg_entry_eq]
  generalize (lg_sl ([.ref (a0 0), .int p1]) ++ List.replicate (4 - (lg_sl ([.ref (a0 0), .int p1])).length) Slot.unset).toArray = ls at hl ⊢
  have hl : lv_has ls 4 [(0, .ref (a0 0)), (1, .int p1)] := hl
  rw [f_X5_sayableBy] at hM
  refine lv_aload_n hx hb dX5_sayableBy_0 rfl (lv_at hl 0 rfl) ?_
  refine lv_iload_n hx hb dX5_sayableBy_1 rfl (lv_at hl 1 rfl) ?_
  obtain ⟨q2, h1, hM⟩ := bd hM
  refine rVR (wc := (wX5 g a0 T0)) (As := [.int p1]) (rest := []) (q0 := 0) hS (c_X5_barredTo l g a0 T0 p1 h1) gX5_sayableBy_X5_barredTo rfl hd_X5_barredTo ⟨Nat.le_of_ble_eq_true rfl, Nat.le_of_ble_eq_true rfl⟩ hK (hP_sub hP [0, 1, 2, 3, 4, 5, 6, 7] rfl) rfl rfl rfl rfl hl.1 rfl (Nat.le_of_ble_eq_true rfl) dX5_sayableBy_2 ⟨Nat.zero_le _, Nat.zero_le _⟩ ?_
  refine lv_istore_n (lv' := [(2, .int q2), (0, .ref (a0 0)), (1, .int p1)]) hx hb dX5_sayableBy_5 rfl hl (by decide) rfl (fun ls hl => ?_)
  refine lv_aload_n hx hb dX5_sayableBy_6 rfl (lv_at hl 1 rfl) ?_
  refine rVR (wc := (wX5 g a0 T0)) (As := []) (rest := []) (q0 := 0) hS (c_X5_allSights l g a0 T0) gX5_sayableBy_X5_allSights rfl hd_X5_allSights ⟨Nat.le_of_ble_eq_true rfl, Nat.le_of_ble_eq_true rfl⟩ hK (hP_sub hP [0, 1, 2, 3, 4, 5, 6, 7] rfl) rfl rfl rfl rfl hl.1 rfl (Nat.le_of_ble_eq_true rfl) dX5_sayableBy_7 ⟨Nat.zero_le _, Nat.zero_le _⟩ ?_
  refine lv_iload_n hx hb dX5_sayableBy_10 rfl (lv_at hl 0 rfl) ?_
  refine lv_iconst (v := (-1 : Int32)) hx hb dX5_sayableBy_11 (by decide) ?_
  refine lv_ixor hx hb dX5_sayableBy_12 ?_
  refine lv_iand hx hb dX5_sayableBy_13 ?_
  refine lv_istore_n (lv' := [(3, .int ((f_X5_allSights T0) &&& (q2 ^^^ (-1 : Int32)))), (2, .int q2), (0, .ref (a0 0)), (1, .int p1)]) hx hb dX5_sayableBy_14 rfl hl (by decide) rfl (fun ls hl => ?_)
  refine lv_aload_n hx hb dX5_sayableBy_15 rfl (lv_at hl 2 rfl) ?_
  refine wk_get hx hb hts hin_X5 hown hK hP 5 0 11 (.ref (a0 5)) rfl rfl (by decide) (mi 1 rfl) rfl rfl dX5_sayableBy_16 ?_
  refine lv_iload_n hx hb dX5_sayableBy_19 rfl (lv_at hl 3 rfl) ?_
  obtain ⟨k4, hM⟩ := ck hM
  refine wk_iald hx hb hK hP 5 7 (T0 11) rfl k4 dX5_sayableBy_20 ?_
  by_cases c5_0 : ((T0 11) (p1).toNatClampNeg) = (1 : Int32)
  · replace hM := itp c5_0 hM
    refine lv_tableIn (tgt := 48) hx hb dX5_sayableBy_21 (by rw [c5_0]; decide) (by rw [c5_0]; decide) (by rw [c5_0]; first | done | rfl) (by decide) ?_
    refine lv_aload_n hx hb dX5_sayableBy_48 rfl (lv_at hl 2 rfl) ?_
    refine wk_get hx hb hts hin_X5 hown hK hP 5 0 9 (.ref (a0 3)) rfl rfl (by decide) (mi 2 rfl) rfl rfl dX5_sayableBy_49 ?_
    refine lv_iload_n hx hb dX5_sayableBy_52 rfl (lv_at hl 3 rfl) ?_
    refine wk_iald hx hb hK hP 3 7 (T0 9) rfl k4 dX5_sayableBy_53 ?_
    refine lv_iload_n hx hb dX5_sayableBy_54 rfl (lv_at hl 0 rfl) ?_
    refine lv_iand hx hb dX5_sayableBy_55 ?_
    refine lv_aload_n hx hb dX5_sayableBy_56 rfl (lv_at hl 2 rfl) ?_
    refine lv_iload_n hx hb dX5_sayableBy_57 rfl (lv_at hl 3 rfl) ?_
    obtain ⟨q7, h6, hM⟩ := bd hM
    refine rVR (wc := (wX5 g a0 T0)) (As := [.int p1]) (rest := [.int (((T0 9) (p1).toNatClampNeg) &&& ((f_X5_allSights T0) &&& (q2 ^^^ (-1 : Int32))))]) (q0 := 0) hS (c_X5_vouchedFor l g a0 T0 p1 h6) gX5_sayableBy_X5_vouchedFor rfl hd_X5_vouchedFor ⟨Nat.le_of_ble_eq_true rfl, Nat.le_of_ble_eq_true rfl⟩ hK (hP_sub hP [0, 1, 2, 3, 4, 5, 6, 7] rfl) rfl rfl rfl rfl hl.1 rfl (Nat.le_of_ble_eq_true rfl) dX5_sayableBy_58 ⟨Nat.zero_le _, Nat.zero_le _⟩ ?_
    refine lv_iand hx hb dX5_sayableBy_61 ?_
    obtain rfl := Option.some.inj hM
    exact W.iret hx hb hr (fun t ht _ => ⟨rfl, ht⟩) (fun q hq => by cases hq) dX5_sayableBy_62
  replace hM := itn c5_0 hM
  by_cases c5_1 : ((T0 11) (p1).toNatClampNeg) = (2 : Int32)
  · replace hM := itp c5_1 hM
    refine lv_tableIn (tgt := 63) hx hb dX5_sayableBy_21 (by rw [c5_1]; decide) (by rw [c5_1]; decide) (by rw [c5_1]; first | done | rfl) (by decide) ?_
    refine lv_iload_n hx hb dX5_sayableBy_63 rfl (lv_at hl 0 rfl) ?_
    obtain rfl := Option.some.inj hM
    exact W.iret hx hb hr (fun t ht _ => ⟨rfl, ht⟩) (fun q hq => by cases hq) dX5_sayableBy_64
  replace hM := itn c5_1 hM
  by_cases c5_2 : ((T0 11) (p1).toNatClampNeg) = (3 : Int32)
  · replace hM := itp c5_2 hM
    refine lv_tableIn (tgt := 65) hx hb dX5_sayableBy_21 (by rw [c5_2]; decide) (by rw [c5_2]; decide) (by rw [c5_2]; first | done | rfl) (by decide) ?_
    refine lv_iload_n hx hb dX5_sayableBy_65 rfl (lv_at hl 0 rfl) ?_
    refine lv_iload_n hx hb dX5_sayableBy_66 rfl (lv_at hl 1 rfl) ?_
    refine lv_aload_n hx hb dX5_sayableBy_67 rfl (lv_at hl 2 rfl) ?_
    refine wk_get hx hb hts hin_X5 hown hK hP 5 0 4 (.int (T0 4 0)) rfl rfl (by decide) (mi 3 rfl) rfl rfl dX5_sayableBy_68 ?_
    obtain ⟨q9, h8, hM⟩ := bd hM
    refine rNR (wc := ([] : va_W)) (As := [.int q2, .int (T0 4 0)]) (rest := [.int ((f_X5_allSights T0) &&& (q2 ^^^ (-1 : Int32)))]) hS (c_X6_firstBits l g q2 (T0 4 0) h8) gX5_sayableBy_X6_firstBits_n94 rfl (mi 23 rfl) (mi 24 rfl) 5 rfl hd_X6_firstBits ⟨Nat.le_of_ble_eq_true rfl, Nat.le_of_ble_eq_true rfl⟩ hK (hP_nil) rfl hl.1 rfl (Nat.le_of_ble_eq_true rfl) dX5_sayableBy_71 ⟨Nat.zero_le _, Nat.zero_le _⟩ ?_
    refine lv_ior hx hb dX5_sayableBy_74 ?_
    obtain rfl := Option.some.inj hM
    exact W.iret hx hb hr (fun t ht _ => ⟨rfl, ht⟩) (fun q hq => by cases hq) dX5_sayableBy_75
  replace hM := itn c5_2 hM
  refine lv_tableOut (tgt := 76) hx hb dX5_sayableBy_21 (sw_out (lo := 1) (hi := 3) (by decide) (by decide) (fun k h1 h2 hk => by
            have hs : k = (1 : Int) ∨ k = (2 : Int) ∨ k = (3 : Int) := by omega
            rcases hs with hs | hs | hs <;> subst hs <;> first | exact c5_0 (Int32.toInt_inj.mp (hk.trans (by decide))) | exact c5_1 (Int32.toInt_inj.mp (hk.trans (by decide))) | exact c5_2 (Int32.toInt_inj.mp (hk.trans (by decide))))) (by decide) ?_
  refine lv_aload_n hx hb dX5_sayableBy_76 rfl (lv_at hl 2 rfl) ?_
  refine wk_get hx hb hts hin_X5 hown hK hP 5 0 9 (.ref (a0 3)) rfl rfl (by decide) (mi 2 rfl) rfl rfl dX5_sayableBy_77 ?_
  refine lv_iload_n hx hb dX5_sayableBy_80 rfl (lv_at hl 3 rfl) ?_
  refine wk_iald hx hb hK hP 3 7 (T0 9) rfl k4 dX5_sayableBy_81 ?_
  refine lv_iload_n hx hb dX5_sayableBy_82 rfl (lv_at hl 0 rfl) ?_
  refine lv_iand hx hb dX5_sayableBy_83 ?_
  obtain rfl := Option.some.inj hM
  exact W.iret hx hb hr (fun t ht _ => ⟨rfl, ht⟩) (fun q hq => by cases hq) dX5_sayableBy_84
theorem hd_X5_tell : yX5_tell.cls = RX5 ∧ yX5_tell.cls ≠ "java/lang/invoke/MethodHandle" ∧ yX5_tell.cls ≠ "java/lang/invoke/VarHandle" ∧ (parseMethodDescriptor yX5_tell.desc).map (fun d => d.parameters.length) = some 2 := by decide +kernel
set_option maxHeartbeats 4000000 in
set_option maxRecDepth 100000 in
theorem c_X5_tell (l : Launch) (g : Gm) (a0 : Nat → Nat) (T0 : TS) (p1 : Int32) (p2 : Int32) {q : (Int32 × TS)} (hM : f_X5_tell T0 p1 p2 = some q) : MW l yX5_tell wsX5_tell 1 21 g [.ref (a0 0), .int p1, .int p2] (wX5 g a0 T0) (some (.int q.1)) (wX5 g a0 q.2) := by
  intro sz
  refine Met.ofW (cc := cX5_tell) (maxL := 5) (ret := (some .int)) (by decide) rfl ?_
  intro p e s m args below meth c s₁ B hml hv
  obtain ⟨rfl, hsz, hP, hK, hD0⟩ := hv
  have hx := B.exec; have hb := B.bytes; have hr := B.returns
  have hts := atoms_spec (ws := wsX5_tell) B.pre
  have hown : s.vm.findClass RX5 = some m.cls := findClass_of_methodNamed B.named
  have hlocks := B.notSynchronized
  have hS : CallFix p m c cX5_tell 5 s _ wsX5_tell RX5 := ⟨hx, hb, hml, hown, hts⟩
  have hin_X5 : ∀ w ∈ wsX50, w ∈ wsX5_tell := fun w h => (List.mem_cons_of_mem _ (List.mem_append_right _ h))
  subst hsz
  have hw := wk_start hP hD0
  have hA : ∀ q : Nat, s.heap.size ≤ q → va_A (wX5 g a0 T0) s.heap.size q := fun q h => Or.inr h
  generalize va_A (wX5 g a0 T0) s.heap.size = A at hw hA ⊢
  clear hP hD0
  have hl := lv_entry ([.ref (a0 0), .int p1, .int p2]) (n := 5) (Nat.le_of_ble_eq_true rfl)
  rw [lg_entry_eq]
  generalize (lg_sl ([.ref (a0 0), .int p1, .int p2]) ++ List.replicate (5 - (lg_sl ([.ref (a0 0), .int p1, .int p2])).length) Slot.unset).toArray = ls at hl ⊢
  have hl : lv_has ls 5 [(0, .ref (a0 0)), (1, .int p1), (2, .int p2)] := hl
  rw [f_X5_tell] at hM
  refine lv_iconst (v := (0 : Int32)) hx hb dX5_tell_0 (by decide) ?_
  refine lv_istore_n (lv' := [(3, .int (0 : Int32)), (0, .ref (a0 0)), (1, .int p1), (2, .int p2)]) hx hb dX5_tell_1 rfl hl (by decide) rfl (fun ls hl => ?_)
  refine lv_iconst (v := (0 : Int32)) hx hb dX5_tell_2 (by decide) ?_
  refine lv_istore (lv' := [(4, .int (0 : Int32)), (3, .int (0 : Int32)), (0, .ref (a0 0)), (1, .int p1), (2, .int p2)]) hx hb dX5_tell_3 hl (by decide) rfl (fun ls hl => ?_)
  obtain ⟨q4, hL5, hM⟩ := bd hM
  have hJ5 : ∀ (H : Heap) (locs : List Loc), Wk g A s.heap H locs (wX5 g a0 q4.2) → ∀ (ls : Array Slot), lv_has ls 5 [(3, .int q4.1)] → W p l e (headSpec wsX5_tell ({ frames := 1, cells := 0, slots := 0, locals := 21 } : Room)).room s m ([.ref (a0 0), .int p1, .int p2] : List Value).toArray below meth c H locs 0 0 (MQ below (QcW g (some (.int q.1)) (wX5 g a0 q.2) A) ([.ref (a0 0), .int p1, .int p2] : List Value).toArray s 0 0 A) (F0 m 62 ls []) := by
    intro H locs hw ls hl
    refine lv_iload_n hx hb dX5_tell_62 rfl (lv_at hl 0 rfl) ?_
    obtain rfl := Option.some.inj hM
    exact W.iret hx hb hr (fun t ht _ => ⟨rfl, by rw [ht]; exact hw.1, hw.2.2.F ht⟩) hw.2.2.2.2 dX5_tell_63
  have hW5 : ∀ (n : Nat) (v4_1 : Int32) (v3_2 : Int32) (TL3 : TS), L_X5_tell_5 p1 p2 n v4_1 v3_2 TL3 = some q4 → ∀ (H : Heap) (locs : List Loc), Wk g A s.heap H locs (wX5 g a0 TL3) → ∀ (ls : Array Slot), lv_has ls 5 [(4, .int v4_1), (3, .int v3_2), (0, .ref (a0 0)), (1, .int p1), (2, .int p2)] → W p l e (headSpec wsX5_tell ({ frames := 1, cells := 0, slots := 0, locals := 21 } : Room)).room s m ([.ref (a0 0), .int p1, .int p2] : List Value).toArray below meth c H locs 0 0 (MQ below (QcW g (some (.int q.1)) (wX5 g a0 q.2) A) ([.ref (a0 0), .int p1, .int p2] : List Value).toArray s 0 0 A) (F0 m 5 ls []) := by
    intro n
    induction n with
    | zero => intro v4_1 v3_2 TL3 hM; rw [L_X5_tell_5] at hM; exact nn hM
    | succ n ih5 =>
      intro v4_1 v3_2 TL3 hM H locs hw ls hl
      rw [L_X5_tell_5] at hM
      refine lv_iload hx hb dX5_tell_5 (lv_at hl 0 rfl) ?_
      refine lv_aload_n hx hb dX5_tell_7 rfl (lv_at hl 2 rfl) ?_
      refine wk_get hx hb hts hin_X5 hown hK hw.1 5 0 1 (.int (TL3 1 0)) rfl rfl (by decide) (mi 1 rfl) rfl rfl dX5_tell_8 ?_
      refine lv_icmp_ge (tgt := 62) hx hb dX5_tell_11 (by decide) (fun c5 => ?_) (fun c5 => ?_)
      · replace hM := itp c5 hM
        obtain rfl := Option.some.inj hM
        exact hJ5 _ _ hw _ (lv_sub hl [1] rfl)
      · replace hM := itn c5 hM
        refine lv_aload_n hx hb dX5_tell_14 rfl (lv_at hl 2 rfl) ?_
        refine wk_get hx hb hts hin_X5 hown hK hw.1 5 0 10 (.ref (a0 4)) rfl rfl (by decide) (mi 2 rfl) rfl rfl dX5_tell_15 ?_
        refine lv_iload hx hb dX5_tell_18 (lv_at hl 0 rfl) ?_
        obtain ⟨k6, hM⟩ := ck hM
        refine wk_iald hx hb hK hw.1 4 7 (TL3 10) rfl k6 dX5_tell_20 ?_
        refine lv_iload_n hx hb dX5_tell_21 rfl (lv_at hl 3 rfl) ?_
        refine rNR (wc := ([] : va_W)) (As := [.int ((TL3 10) (v4_1).toNatClampNeg), .int p1]) (rest := []) hS (c_X6_has l g ((TL3 10) (v4_1).toNatClampNeg) p1) gX5_tell_X6_has_n65 rfl (mi 4 rfl) (mi 5 rfl) 6 rfl hd_X6_has ⟨Nat.le_of_ble_eq_true rfl, Nat.le_of_ble_eq_true rfl⟩ hK (hP_nil) rfl hl.1 rfl (Nat.le_of_ble_eq_true rfl) dX5_tell_22 ⟨Nat.zero_le _, Nat.zero_le _⟩ ?_
        refine lv_if_eq (tgt := 56) hx hb dX5_tell_25 (by decide) (fun c8 => ?_) (fun c8 => ?_)
        · replace hM := itp c8 hM
          refine lv_iinc (v := (v4_1 + (1 : Int32))) (lv' := [(4, .int (v4_1 + (1 : Int32))), (3, .int v3_2), (0, .ref (a0 0)), (1, .int p1), (2, .int p2)]) hx hb dX5_tell_56 hl (k := 0) rfl rfl (by decide) rfl (fun ls hl => ?_)
          refine lv_goto (tgt := 5) hx hb dX5_tell_59 (by decide) ?_
          exact ih5 (v4_1 + (1 : Int32)) v3_2 TL3 hM _ _ hw _ (lv_sub hl [0, 1, 2, 3, 4] rfl)
        · replace hM := itn c8 hM
          refine lv_iload_n hx hb dX5_tell_28 rfl (lv_at hl 1 rfl) ?_
          refine lv_iload_n hx hb dX5_tell_29 rfl (lv_at hl 4 rfl) ?_
          refine lv_aload_n hx hb dX5_tell_30 rfl (lv_at hl 2 rfl) ?_
          refine wk_get hx hb hts hin_X5 hown hK hw.1 5 0 9 (.ref (a0 3)) rfl rfl (by decide) (mi 3 rfl) rfl rfl dX5_tell_31 ?_
          refine lv_iload hx hb dX5_tell_34 (lv_at hl 0 rfl) ?_
          refine wk_iald hx hb hK hw.1 3 7 (TL3 9) rfl k6 dX5_tell_36 ?_
          refine lv_iconst (v := (-1 : Int32)) hx hb dX5_tell_37 (by decide) ?_
          refine lv_ixor hx hb dX5_tell_38 ?_
          refine lv_iand hx hb dX5_tell_39 ?_
          refine rSR (wc := ([] : va_W)) (As := [.int (p2 &&& (((TL3 9) (v4_1).toNatClampNeg) ^^^ (-1 : Int32)))]) (rest := [.int v3_2]) hS (c_J6_bitCount_0f7a4 l g (p2 &&& (((TL3 9) (v4_1).toNatClampNeg) ^^^ (-1 : Int32)))) gX5_tell_J6_bitCount_0f7a4 rfl hd_J6_bitCount_0f7a4 ⟨Nat.le_of_ble_eq_true rfl, Nat.le_of_ble_eq_true rfl⟩ hK (hP_nil) rfl hl.1 rfl (Nat.le_of_ble_eq_true rfl) dX5_tell_40 ⟨Nat.zero_le _, Nat.zero_le _⟩ ?_
          refine lv_iadd hx hb dX5_tell_43 ?_
          refine lv_istore_n (lv' := [(3, .int (v3_2 + (f_J6_bitCount_0f7a4 (p2 &&& (((TL3 9) (v4_1).toNatClampNeg) ^^^ (-1 : Int32)))))), (4, .int v4_1), (0, .ref (a0 0)), (1, .int p1), (2, .int p2)]) hx hb dX5_tell_44 rfl hl (by decide) rfl (fun ls hl => ?_)
          refine lv_aload_n hx hb dX5_tell_45 rfl (lv_at hl 2 rfl) ?_
          refine wk_get hx hb hts hin_X5 hown hK hw.1 5 0 9 (.ref (a0 3)) rfl rfl (by decide) (mi 3 rfl) rfl rfl dX5_tell_46 ?_
          refine lv_iload hx hb dX5_tell_49 (lv_at hl 1 rfl) ?_
          refine lv_dup2_11 hx hb dX5_tell_51 rfl rfl ?_
          refine wk_iald hx hb hK hw.1 3 7 (TL3 9) rfl k6 dX5_tell_52 ?_
          refine lv_iload_n hx hb dX5_tell_53 rfl (lv_at hl 4 rfl) ?_
          refine lv_ior hx hb dX5_tell_54 ?_
          refine wk_iast (wq := (wX5 g a0 (up TL3 9 (upd (TL3 9) (v4_1).toNatClampNeg (((TL3 9) (v4_1).toNatClampNeg) ||| p2))))) hx hb hK hw 3 7 (TL3 9) rfl k6 dX5_tell_55 rfl (fun H locs hw => ?_)
          refine lv_iinc (v := (v4_1 + (1 : Int32))) (lv' := [(4, .int (v4_1 + (1 : Int32))), (3, .int (v3_2 + (f_J6_bitCount_0f7a4 (p2 &&& (((TL3 9) (v4_1).toNatClampNeg) ^^^ (-1 : Int32)))))), (0, .ref (a0 0)), (1, .int p1), (2, .int p2)]) hx hb dX5_tell_56 hl (k := 1) rfl rfl (by decide) rfl (fun ls hl => ?_)
          refine lv_goto (tgt := 5) hx hb dX5_tell_59 (by decide) ?_
          exact ih5 (v4_1 + (1 : Int32)) (v3_2 + (f_J6_bitCount_0f7a4 (p2 &&& (((TL3 9) (v4_1).toNatClampNeg) ^^^ (-1 : Int32))))) (up TL3 9 (upd (TL3 9) (v4_1).toNatClampNeg (((TL3 9) (v4_1).toNatClampNeg) ||| p2))) hM _ _ hw _ (lv_sub hl [0, 1, 2, 3, 4] rfl)
  exact hW5 300 (0 : Int32) (0 : Int32) T0 hL5 _ _ hw _ (lv_sub hl [0, 1, 2, 3, 4] rfl)
theorem hd_X5_passSigns : yX5_passSigns.cls = RX5 ∧ yX5_passSigns.cls ≠ "java/lang/invoke/MethodHandle" ∧ yX5_passSigns.cls ≠ "java/lang/invoke/VarHandle" ∧ (parseMethodDescriptor yX5_passSigns.desc).map (fun d => d.parameters.length) = some 0 := by decide +kernel
set_option maxHeartbeats 4000000 in
set_option maxRecDepth 100000 in
theorem c_X5_passSigns (l : Launch) (g : Gm) (a0 : Nat → Nat) (T0 : TS) {q : (Int32 × TS)} (hM : f_X5_passSigns T0 = some q) : MW l yX5_passSigns wsX5_passSigns 1 25 g [.ref (a0 0)] (wX5 g a0 T0) (some (.int q.1)) (wX5 g a0 q.2) := by
  intro sz
  refine Met.ofW (cc := cX5_passSigns) (maxL := 5) (ret := (some .int)) (by decide) rfl ?_
  intro p e s m args below meth c s₁ B hml hv
  obtain ⟨rfl, hsz, hP, hK, hD0⟩ := hv
  have hx := B.exec; have hb := B.bytes; have hr := B.returns
  have hts := atoms_spec (ws := wsX5_passSigns) B.pre
  have hown : s.vm.findClass RX5 = some m.cls := findClass_of_methodNamed B.named
  have hlocks := B.notSynchronized
  have hS : CallFix p m c cX5_passSigns 5 s _ wsX5_passSigns RX5 := ⟨hx, hb, hml, hown, hts⟩
  have hin_X5 : ∀ w ∈ wsX50, w ∈ wsX5_passSigns := fun w h => (List.mem_cons_of_mem _ (List.mem_append_right _ h))
  subst hsz
  have hw := wk_start hP hD0
  have hA : ∀ q : Nat, s.heap.size ≤ q → va_A (wX5 g a0 T0) s.heap.size q := fun q h => Or.inr h
  generalize va_A (wX5 g a0 T0) s.heap.size = A at hw hA ⊢
  clear hP hD0
  have hl := lv_entry ([.ref (a0 0)]) (n := 5) (Nat.le_of_ble_eq_true rfl)
  rw [lg_entry_eq]
  generalize (lg_sl ([.ref (a0 0)]) ++ List.replicate (5 - (lg_sl ([.ref (a0 0)])).length) Slot.unset).toArray = ls at hl ⊢
  have hl : lv_has ls 5 [(0, .ref (a0 0))] := hl
  rw [f_X5_passSigns] at hM
  refine lv_iconst (v := (0 : Int32)) hx hb dX5_passSigns_0 (by decide) ?_
  refine lv_istore_n (lv' := [(1, .int (0 : Int32)), (0, .ref (a0 0))]) hx hb dX5_passSigns_1 rfl hl (by decide) rfl (fun ls hl => ?_)
  refine lv_iconst (v := (0 : Int32)) hx hb dX5_passSigns_2 (by decide) ?_
  refine lv_istore_n (lv' := [(2, .int (0 : Int32)), (1, .int (0 : Int32)), (0, .ref (a0 0))]) hx hb dX5_passSigns_3 rfl hl (by decide) rfl (fun ls hl => ?_)
  obtain ⟨q4, hL4, hM⟩ := bd hM
  have hJ4 : ∀ (H : Heap) (locs : List Loc), Wk g A s.heap H locs (wX5 g a0 q4.2) → ∀ (ls : Array Slot), lv_has ls 5 [(1, .int q4.1)] → W p l e (headSpec wsX5_passSigns ({ frames := 1, cells := 0, slots := 0, locals := 25 } : Room)).room s m ([.ref (a0 0)] : List Value).toArray below meth c H locs 0 0 (MQ below (QcW g (some (.int q.1)) (wX5 g a0 q.2) A) ([.ref (a0 0)] : List Value).toArray s 0 0 A) (F0 m 100 ls []) := by
    intro H locs hw ls hl
    refine lv_iload_n hx hb dX5_passSigns_100 rfl (lv_at hl 0 rfl) ?_
    obtain rfl := Option.some.inj hM
    exact W.iret hx hb hr (fun t ht _ => ⟨rfl, by rw [ht]; exact hw.1, hw.2.2.F ht⟩) hw.2.2.2.2 dX5_passSigns_101
  have hW4 : ∀ (n : Nat) (v2_1 : Int32) (v1_2 : Int32) (TL3 : TS), L_X5_passSigns_4 n v2_1 v1_2 TL3 = some q4 → ∀ (H : Heap) (locs : List Loc), Wk g A s.heap H locs (wX5 g a0 TL3) → ∀ (ls : Array Slot), lv_has ls 5 [(2, .int v2_1), (1, .int v1_2), (0, .ref (a0 0))] → W p l e (headSpec wsX5_passSigns ({ frames := 1, cells := 0, slots := 0, locals := 25 } : Room)).room s m ([.ref (a0 0)] : List Value).toArray below meth c H locs 0 0 (MQ below (QcW g (some (.int q.1)) (wX5 g a0 q.2) A) ([.ref (a0 0)] : List Value).toArray s 0 0 A) (F0 m 4 ls []) := by
    intro n
    induction n with
    | zero => intro v2_1 v1_2 TL3 hM; rw [L_X5_passSigns_4] at hM; exact nn hM
    | succ n ih4 =>
      intro v2_1 v1_2 TL3 hM H locs hw ls hl
      rw [L_X5_passSigns_4] at hM
      refine lv_iload_n hx hb dX5_passSigns_4 rfl (lv_at hl 0 rfl) ?_
      refine lv_aload_n hx hb dX5_passSigns_5 rfl (lv_at hl 2 rfl) ?_
      refine wk_get hx hb hts hin_X5 hown hK hw.1 5 0 1 (.int (TL3 1 0)) rfl rfl (by decide) (mi 1 rfl) rfl rfl dX5_passSigns_6 ?_
      refine lv_icmp_ge (tgt := 100) hx hb dX5_passSigns_9 (by decide) (fun c5 => ?_) (fun c5 => ?_)
      · replace hM := itp c5 hM
        obtain rfl := Option.some.inj hM
        exact hJ4 _ _ hw _ (lv_sub hl [1] rfl)
      · replace hM := itn c5 hM
        refine lv_iconst (v := (0 : Int32)) hx hb dX5_passSigns_12 (by decide) ?_
        refine lv_istore_n (lv' := [(3, .int (0 : Int32)), (2, .int v2_1), (1, .int v1_2), (0, .ref (a0 0))]) hx hb dX5_passSigns_13 rfl hl (by decide) rfl (fun ls hl => ?_)
        obtain ⟨q9, hL14, hM⟩ := bd hM
        have hJ14 : ∀ (H : Heap) (locs : List Loc), Wk g A s.heap H locs (wX5 g a0 q9.2) → ∀ (ls : Array Slot), lv_has ls 5 [(2, .int v2_1), (1, .int q9.1), (0, .ref (a0 0))] → W p l e (headSpec wsX5_passSigns ({ frames := 1, cells := 0, slots := 0, locals := 25 } : Room)).room s m ([.ref (a0 0)] : List Value).toArray below meth c H locs 0 0 (MQ below (QcW g (some (.int q.1)) (wX5 g a0 q.2) A) ([.ref (a0 0)] : List Value).toArray s 0 0 A) (F0 m 94 ls []) := by
          intro H locs hw ls hl
          refine lv_iinc (v := (v2_1 + (1 : Int32))) (lv' := [(2, .int (v2_1 + (1 : Int32))), (1, .int q9.1), (0, .ref (a0 0))]) hx hb dX5_passSigns_94 hl (k := 0) rfl rfl (by decide) rfl (fun ls hl => ?_)
          refine lv_goto (tgt := 4) hx hb dX5_passSigns_97 (by decide) ?_
          exact ih4 (v2_1 + (1 : Int32)) q9.1 q9.2 hM _ _ hw _ (lv_sub hl [0, 1, 2] rfl)
        have hW14 : ∀ (n : Nat) (v3_6 : Int32) (v1_7 : Int32) (TL8 : TS), L_X5_passSigns_14 v2_1 n v3_6 v1_7 TL8 = some q9 → ∀ (H : Heap) (locs : List Loc), Wk g A s.heap H locs (wX5 g a0 TL8) → ∀ (ls : Array Slot), lv_has ls 5 [(3, .int v3_6), (2, .int v2_1), (1, .int v1_7), (0, .ref (a0 0))] → W p l e (headSpec wsX5_passSigns ({ frames := 1, cells := 0, slots := 0, locals := 25 } : Room)).room s m ([.ref (a0 0)] : List Value).toArray below meth c H locs 0 0 (MQ below (QcW g (some (.int q.1)) (wX5 g a0 q.2) A) ([.ref (a0 0)] : List Value).toArray s 0 0 A) (F0 m 14 ls []) := by
          intro n
          induction n with
          | zero => intro v3_6 v1_7 TL8 hM; rw [L_X5_passSigns_14] at hM; exact nn hM
          | succ n ih14 =>
            intro v3_6 v1_7 TL8 hM H locs hw ls hl
            rw [L_X5_passSigns_14] at hM
            refine lv_iload_n hx hb dX5_passSigns_14 rfl (lv_at hl 0 rfl) ?_
            refine lv_aload_n hx hb dX5_passSigns_15 rfl (lv_at hl 3 rfl) ?_
            refine wk_get hx hb hts hin_X5 hown hK hw.1 5 0 1 (.int (TL8 1 0)) rfl rfl (by decide) (mi 1 rfl) rfl rfl dX5_passSigns_16 ?_
            refine lv_icmp_ge (tgt := 94) hx hb dX5_passSigns_19 (by decide) (fun c10 => ?_) (fun c10 => ?_)
            · replace hM := itp c10 hM
              obtain rfl := Option.some.inj hM
              exact hJ14 _ _ hw _ (lv_sub hl [1, 2, 3] rfl)
            · replace hM := itn c10 hM
              refine lv_iload_n hx hb dX5_passSigns_22 rfl (lv_at hl 2 rfl) ?_
              refine lv_aload_n hx hb dX5_passSigns_23 rfl (lv_at hl 3 rfl) ?_
              refine wk_get hx hb hts hin_X5 hown hK hw.1 5 0 3 (.int (TL8 3 0)) rfl rfl (by decide) (mi 2 rfl) rfl rfl dX5_passSigns_24 ?_
              refine lv_icmp_ge (tgt := 94) hx hb dX5_passSigns_27 (by decide) (fun c11 => ?_) (fun c11 => ?_)
              · replace hM := itp c11 hM
                obtain rfl := Option.some.inj hM
                exact hJ14 _ _ hw _ (lv_sub hl [1, 2, 3] rfl)
              · replace hM := itn c11 hM
                refine lv_aload_n hx hb dX5_passSigns_30 rfl (lv_at hl 3 rfl) ?_
                refine wk_get hx hb hts hin_X5 hown hK hw.1 5 0 10 (.ref (a0 4)) rfl rfl (by decide) (mi 3 rfl) rfl rfl dX5_passSigns_31 ?_
                refine lv_iload_n hx hb dX5_passSigns_34 rfl (lv_at hl 0 rfl) ?_
                obtain ⟨k12, hM⟩ := ck hM
                refine wk_iald hx hb hK hw.1 4 7 (TL8 10) rfl k12 dX5_passSigns_35 ?_
                refine lv_iload_n hx hb dX5_passSigns_36 rfl (lv_at hl 1 rfl) ?_
                refine rNR (wc := ([] : va_W)) (As := [.int ((TL8 10) (v3_6).toNatClampNeg), .int v2_1]) (rest := []) hS (c_X6_has l g ((TL8 10) (v3_6).toNatClampNeg) v2_1) gX5_passSigns_X6_has_n65 rfl (mi 6 rfl) (mi 7 rfl) 6 rfl hd_X6_has ⟨Nat.le_of_ble_eq_true rfl, Nat.le_of_ble_eq_true rfl⟩ hK (hP_nil) rfl hl.1 rfl (Nat.le_of_ble_eq_true rfl) dX5_passSigns_37 ⟨Nat.zero_le _, Nat.zero_le _⟩ ?_
                refine lv_if_eq (tgt := 88) hx hb dX5_passSigns_40 (by decide) (fun c14 => ?_) (fun c14 => ?_)
                · replace hM := itp c14 hM
                  refine lv_iinc (v := (v3_6 + (1 : Int32))) (lv' := [(3, .int (v3_6 + (1 : Int32))), (2, .int v2_1), (1, .int v1_7), (0, .ref (a0 0))]) hx hb dX5_passSigns_88 hl (k := 0) rfl rfl (by decide) rfl (fun ls hl => ?_)
                  refine lv_goto (tgt := 14) hx hb dX5_passSigns_91 (by decide) ?_
                  exact ih14 (v3_6 + (1 : Int32)) v1_7 TL8 hM _ _ hw _ (lv_sub hl [0, 1, 2, 3] rfl)
                · replace hM := itn c14 hM
                  refine lv_aload_n hx hb dX5_passSigns_43 rfl (lv_at hl 3 rfl) ?_
                  refine wk_get hx hb hts hin_X5 hown hK hw.1 5 0 7 (.ref (a0 1)) rfl rfl (by decide) (mi 4 rfl) rfl rfl dX5_passSigns_44 ?_
                  refine lv_iload_n hx hb dX5_passSigns_47 rfl (lv_at hl 1 rfl) ?_
                  obtain ⟨k15, hM⟩ := ck hM
                  refine wk_iald hx hb hK hw.1 1 7 (TL8 7) rfl k15 dX5_passSigns_48 ?_
                  refine lv_aload_n hx hb dX5_passSigns_49 rfl (lv_at hl 3 rfl) ?_
                  refine wk_get hx hb hts hin_X5 hown hK hw.1 5 0 9 (.ref (a0 3)) rfl rfl (by decide) (mi 5 rfl) rfl rfl dX5_passSigns_50 ?_
                  refine lv_iload_n hx hb dX5_passSigns_53 rfl (lv_at hl 0 rfl) ?_
                  refine wk_iald hx hb hK hw.1 3 7 (TL8 9) rfl k12 dX5_passSigns_54 ?_
                  refine lv_iconst (v := (-1 : Int32)) hx hb dX5_passSigns_55 (by decide) ?_
                  refine lv_ixor hx hb dX5_passSigns_56 ?_
                  refine lv_iand hx hb dX5_passSigns_57 ?_
                  refine lv_aload_n hx hb dX5_passSigns_58 rfl (lv_at hl 3 rfl) ?_
                  refine wk_get hx hb hts hin_X5 hown hK hw.1 5 0 3 (.int (TL8 3 0)) rfl rfl (by decide) (mi 2 rfl) rfl rfl dX5_passSigns_59 ?_
                  refine lv_iload_n hx hb dX5_passSigns_62 rfl (lv_at hl 2 rfl) ?_
                  refine lv_isub hx hb dX5_passSigns_63 ?_
                  obtain ⟨q17, h16, hM⟩ := bd hM
                  refine rNR (wc := ([] : va_W)) (As := [.int (((TL8 7) (v2_1).toNatClampNeg) &&& (((TL8 9) (v3_6).toNatClampNeg) ^^^ (-1 : Int32))), .int ((TL8 3 0) - v1_7)]) (rest := []) hS (c_X6_firstBits l g (((TL8 7) (v2_1).toNatClampNeg) &&& (((TL8 9) (v3_6).toNatClampNeg) ^^^ (-1 : Int32))) ((TL8 3 0) - v1_7) h16) gX5_passSigns_X6_firstBits_n94 rfl (mi 9 rfl) (mi 7 rfl) 5 rfl hd_X6_firstBits ⟨Nat.le_of_ble_eq_true rfl, Nat.le_of_ble_eq_true rfl⟩ hK (hP_nil) rfl hl.1 rfl (Nat.le_of_ble_eq_true rfl) dX5_passSigns_64 ⟨Nat.zero_le _, Nat.zero_le _⟩ ?_
                  refine lv_istore (lv' := [(4, .int q17), (3, .int v3_6), (2, .int v2_1), (1, .int v1_7), (0, .ref (a0 0))]) hx hb dX5_passSigns_67 hl (by decide) rfl (fun ls hl => ?_)
                  refine lv_aload_n hx hb dX5_passSigns_69 rfl (lv_at hl 4 rfl) ?_
                  refine wk_get hx hb hts hin_X5 hown hK hw.1 5 0 9 (.ref (a0 3)) rfl rfl (by decide) (mi 5 rfl) rfl rfl dX5_passSigns_70 ?_
                  refine lv_iload_n hx hb dX5_passSigns_73 rfl (lv_at hl 1 rfl) ?_
                  refine lv_dup2_11 hx hb dX5_passSigns_74 rfl rfl ?_
                  refine wk_iald hx hb hK hw.1 3 7 (TL8 9) rfl k12 dX5_passSigns_75 ?_
                  refine lv_iload hx hb dX5_passSigns_76 (lv_at hl 0 rfl) ?_
                  refine lv_ior hx hb dX5_passSigns_78 ?_
                  refine wk_iast (wq := (wX5 g a0 (up TL8 9 (upd (TL8 9) (v3_6).toNatClampNeg (((TL8 9) (v3_6).toNatClampNeg) ||| q17))))) hx hb hK hw 3 7 (TL8 9) rfl k12 dX5_passSigns_79 rfl (fun H locs hw => ?_)
                  refine lv_iload_n hx hb dX5_passSigns_80 rfl (lv_at hl 3 rfl) ?_
                  refine lv_iload hx hb dX5_passSigns_81 (lv_at hl 0 rfl) ?_
                  refine rSR (wc := ([] : va_W)) (As := [.int q17]) (rest := [.int v1_7]) hS (c_J6_bitCount_0f7a4 l g q17) gX5_passSigns_J6_bitCount_0f7a4 rfl hd_J6_bitCount_0f7a4 ⟨Nat.le_of_ble_eq_true rfl, Nat.le_of_ble_eq_true rfl⟩ hK (hP_nil) rfl hl.1 rfl (Nat.le_of_ble_eq_true rfl) dX5_passSigns_83 ⟨Nat.zero_le _, Nat.zero_le _⟩ ?_
                  refine lv_iadd hx hb dX5_passSigns_86 ?_
                  refine lv_istore_n (lv' := [(1, .int (v1_7 + (f_J6_bitCount_0f7a4 q17))), (4, .int q17), (3, .int v3_6), (2, .int v2_1), (0, .ref (a0 0))]) hx hb dX5_passSigns_87 rfl hl (by decide) rfl (fun ls hl => ?_)
                  refine lv_iinc (v := (v3_6 + (1 : Int32))) (lv' := [(3, .int (v3_6 + (1 : Int32))), (1, .int (v1_7 + (f_J6_bitCount_0f7a4 q17))), (4, .int q17), (2, .int v2_1), (0, .ref (a0 0))]) hx hb dX5_passSigns_88 hl (k := 2) rfl rfl (by decide) rfl (fun ls hl => ?_)
                  refine lv_goto (tgt := 14) hx hb dX5_passSigns_91 (by decide) ?_
                  exact ih14 (v3_6 + (1 : Int32)) (v1_7 + (f_J6_bitCount_0f7a4 q17)) (up TL8 9 (upd (TL8 9) (v3_6).toNatClampNeg (((TL8 9) (v3_6).toNatClampNeg) ||| q17))) hM _ _ hw _ (lv_sub hl [0, 3, 1, 4] rfl)
        exact hW14 300 (0 : Int32) v1_2 TL3 hL14 _ _ hw _ (lv_sub hl [0, 1, 2, 3] rfl)
  exact hW4 300 (0 : Int32) (0 : Int32) T0 hL4 _ _ hw _ (lv_sub hl [0, 1, 2] rfl)
theorem hd_X5_passRound : yX5_passRound.cls = RX5 ∧ yX5_passRound.cls ≠ "java/lang/invoke/MethodHandle" ∧ yX5_passRound.cls ≠ "java/lang/invoke/VarHandle" ∧ (parseMethodDescriptor yX5_passRound.desc).map (fun d => d.parameters.length) = some 0 := by decide +kernel
set_option maxHeartbeats 4000000 in
set_option maxRecDepth 100000 in
theorem c_X5_passRound (l : Launch) (g : Gm) (a0 : Nat → Nat) (T0 : TS) {q : (Int32 × TS)} (hM : f_X5_passRound T0 = some q) : MW l yX5_passRound wsX5_passRound 2 49 g [.ref (a0 0)] (wX5 g a0 T0) (some (.int q.1)) (wX5 g a0 q.2) := by
  intro sz
  refine Met.ofW (cc := cX5_passRound) (maxL := 3) (ret := (some .boolean)) (by decide) rfl ?_
  intro p e s m args below meth c s₁ B hml hv
  obtain ⟨rfl, hsz, hP, hK, hD0⟩ := hv
  have hx := B.exec; have hb := B.bytes; have hr := B.returns
  have hts := atoms_spec (ws := wsX5_passRound) B.pre
  have hown : s.vm.findClass RX5 = some m.cls := findClass_of_methodNamed B.named
  have hlocks := B.notSynchronized
  have hS : CallFix p m c cX5_passRound 3 s _ wsX5_passRound RX5 := ⟨hx, hb, hml, hown, hts⟩
  have hin_X5 : ∀ w ∈ wsX50, w ∈ wsX5_passRound := fun w h => (List.mem_cons_of_mem _ (List.mem_append_right _ h))
  subst hsz
  have hw := wk_start hP hD0
  have hA : ∀ q : Nat, s.heap.size ≤ q → va_A (wX5 g a0 T0) s.heap.size q := fun q h => Or.inr h
  generalize va_A (wX5 g a0 T0) s.heap.size = A at hw hA ⊢
  clear hP hD0
  have hl := lv_entry ([.ref (a0 0)]) (n := 3) (Nat.le_of_ble_eq_true rfl)
  rw [lg_entry_eq]
  generalize (lg_sl ([.ref (a0 0)]) ++ List.replicate (3 - (lg_sl ([.ref (a0 0)])).length) Slot.unset).toArray = ls at hl ⊢
  have hl : lv_has ls 3 [(0, .ref (a0 0))] := hl
  rw [f_X5_passRound] at hM
  refine lv_iconst (v := (0 : Int32)) hx hb dX5_passRound_0 (by decide) ?_
  refine lv_istore_n (lv' := [(1, .int (0 : Int32)), (0, .ref (a0 0))]) hx hb dX5_passRound_1 rfl hl (by decide) rfl (fun ls hl => ?_)
  obtain ⟨q3, hL2, hM⟩ := bd hM
  have hJ2 : ∀ (H : Heap) (locs : List Loc), Wk g A s.heap H locs (wX5 g a0 q3) → ∀ (ls : Array Slot), lv_has ls 3 [(0, .ref (a0 0))] → W p l e (headSpec wsX5_passRound ({ frames := 2, cells := 0, slots := 0, locals := 49 } : Room)).room s m ([.ref (a0 0)] : List Value).toArray below meth c H locs 0 0 (MQ below (QcW g (some (.int q.1)) (wX5 g a0 q.2) A) ([.ref (a0 0)] : List Value).toArray s 0 0 A) (F0 m 27 ls []) := by
    intro H locs hw ls hl
    refine lv_iconst (v := (0 : Int32)) hx hb dX5_passRound_27 (by decide) ?_
    refine lv_istore_n (lv' := [(1, .int (0 : Int32)), (0, .ref (a0 0))]) hx hb dX5_passRound_28 rfl hl (by decide) rfl (fun ls hl => ?_)
    refine lv_iconst (v := (0 : Int32)) hx hb dX5_passRound_29 (by decide) ?_
    refine lv_istore_n (lv' := [(2, .int (0 : Int32)), (1, .int (0 : Int32)), (0, .ref (a0 0))]) hx hb dX5_passRound_30 rfl hl (by decide) rfl (fun ls hl => ?_)
    obtain ⟨q11, hL31, hM⟩ := bd hM
    have hJ31 : ∀ (H : Heap) (locs : List Loc), Wk g A s.heap H locs (wX5 g a0 q11.2) → ∀ (ls : Array Slot), lv_has ls 3 [(1, .int q11.1), (0, .ref (a0 0))] → W p l e (headSpec wsX5_passRound ({ frames := 2, cells := 0, slots := 0, locals := 49 } : Room)).room s m ([.ref (a0 0)] : List Value).toArray below meth c H locs 0 0 (MQ below (QcW g (some (.int q.1)) (wX5 g a0 q.2) A) ([.ref (a0 0)] : List Value).toArray s 0 0 A) (F0 m 59 ls []) := by
      intro H locs hw ls hl
      refine lv_iload_n hx hb dX5_passRound_59 rfl (lv_at hl 0 rfl) ?_
      refine lv_aload_n hx hb dX5_passRound_60 rfl (lv_at hl 1 rfl) ?_
      obtain ⟨q17, h16, hM⟩ := bd hM
      refine rVW (wc := (wX5 g a0 q11.2)) (wq := (wX5 g a0 q17.2)) (As := []) (rest := [.int q11.1]) (q0 := 0) hS (c_X5_passSigns l g a0 q11.2 h16) gX5_passRound_X5_passSigns rfl hd_X5_passSigns ⟨Nat.le_of_ble_eq_true rfl, Nat.le_of_ble_eq_true rfl⟩ hK hw hA [0, 1, 2, 3, 4, 5, 6, 7] rfl rfl rfl rfl rfl rfl rfl rfl hl.1 rfl (Nat.le_of_ble_eq_true rfl) dX5_passRound_61 ⟨Nat.zero_le _, Nat.zero_le _⟩ (fun H locs hw => ?_)
      refine lv_iadd hx hb dX5_passRound_64 ?_
      have hJ24 : ∀ (H : Heap) (locs : List Loc) (x23 : Int32) (ls : Array Slot), Wk g A s.heap H locs (wX5 g a0 q17.2) → x23 = (if (q11.1 + q17.1) ≤ 0 then (0 : Int32) else (1 : Int32)) → lv_has ls 3 [] → W p l e (headSpec wsX5_passRound ({ frames := 2, cells := 0, slots := 0, locals := 49 } : Room)).room s m ([.ref (a0 0)] : List Value).toArray below meth c H locs 0 0 (MQ below (QcW g (some (.int q.1)) (wX5 g a0 q.2) A) ([.ref (a0 0)] : List Value).toArray s 0 0 A) (F0 m 73 ls [.int x23]) := by
        intro H locs x23 ls hw hxx23 hl
        subst hxx23
        obtain rfl := Option.some.inj hM
        exact W.zret hx hb hr (nz (by repeat (first | exact Or.inl rfl | exact Or.inr rfl | split))) (fun t ht _ => ⟨rfl, by rw [ht]; exact hw.1, hw.2.2.F ht⟩) hw.2.2.2.2 dX5_passRound_73
      refine lv_if_le (tgt := 72) hx hb dX5_passRound_65 (by decide) (fun c18 => ?_) (fun c18 => ?_)
      · refine lv_iconst (v := (0 : Int32)) hx hb dX5_passRound_72 (by decide) ?_
        exact hJ24 _ _ _ _ hw (by first | rfl | (simp only [if_pos c18])) (lv_sub hl [] rfl)
      · refine lv_iconst (v := (1 : Int32)) hx hb dX5_passRound_68 (by decide) ?_
        refine lv_goto (tgt := 73) hx hb dX5_passRound_69 (by decide) ?_
        exact hJ24 _ _ _ _ hw (by first | rfl | (simp only [if_neg c18])) (lv_sub hl [] rfl)
    have hW31 : ∀ (n : Nat) (v2_8 : Int32) (v1_9 : Int32) (TL10 : TS), L_X5_passRound_31 n v2_8 v1_9 TL10 = some q11 → ∀ (H : Heap) (locs : List Loc), Wk g A s.heap H locs (wX5 g a0 TL10) → ∀ (ls : Array Slot), lv_has ls 3 [(2, .int v2_8), (1, .int v1_9), (0, .ref (a0 0))] → W p l e (headSpec wsX5_passRound ({ frames := 2, cells := 0, slots := 0, locals := 49 } : Room)).room s m ([.ref (a0 0)] : List Value).toArray below meth c H locs 0 0 (MQ below (QcW g (some (.int q.1)) (wX5 g a0 q.2) A) ([.ref (a0 0)] : List Value).toArray s 0 0 A) (F0 m 31 ls []) := by
      intro n
      induction n with
      | zero => intro v2_8 v1_9 TL10 hM; rw [L_X5_passRound_31] at hM; exact nn hM
      | succ n ih31 =>
        intro v2_8 v1_9 TL10 hM H locs hw ls hl
        rw [L_X5_passRound_31] at hM
        refine lv_iload_n hx hb dX5_passRound_31 rfl (lv_at hl 0 rfl) ?_
        refine lv_aload_n hx hb dX5_passRound_32 rfl (lv_at hl 2 rfl) ?_
        refine wk_get hx hb hts hin_X5 hown hK hw.1 5 0 1 (.int (TL10 1 0)) rfl rfl (by decide) (mi 1 rfl) rfl rfl dX5_passRound_33 ?_
        refine lv_icmp_ge (tgt := 59) hx hb dX5_passRound_36 (by decide) (fun c12 => ?_) (fun c12 => ?_)
        · replace hM := itp c12 hM
          obtain rfl := Option.some.inj hM
          exact hJ31 _ _ hw _ (lv_sub hl [1, 2] rfl)
        · replace hM := itn c12 hM
          refine lv_iload_n hx hb dX5_passRound_39 rfl (lv_at hl 1 rfl) ?_
          refine lv_aload_n hx hb dX5_passRound_40 rfl (lv_at hl 2 rfl) ?_
          refine lv_iload_n hx hb dX5_passRound_41 rfl (lv_at hl 0 rfl) ?_
          refine lv_aload_n hx hb dX5_passRound_42 rfl (lv_at hl 2 rfl) ?_
          refine wk_get hx hb hts hin_X5 hown hK hw.1 5 0 13 (.ref (a0 7)) rfl rfl (by decide) (mi 2 rfl) rfl rfl dX5_passRound_43 ?_
          refine lv_iload_n hx hb dX5_passRound_46 rfl (lv_at hl 0 rfl) ?_
          obtain ⟨k13, hM⟩ := ck hM
          refine wk_iald hx hb hK hw.1 7 7 (TL10 13) rfl k13 dX5_passRound_47 ?_
          obtain ⟨q15, h14, hM⟩ := bd hM
          refine rVW (wc := (wX5 g a0 TL10)) (wq := (wX5 g a0 q15.2)) (As := [.int v2_8, .int ((TL10 13) (v2_8).toNatClampNeg)]) (rest := [.int v1_9]) (q0 := 0) hS (c_X5_tell l g a0 TL10 v2_8 ((TL10 13) (v2_8).toNatClampNeg) h14) gX5_passRound_X5_tell rfl hd_X5_tell ⟨Nat.le_of_ble_eq_true rfl, Nat.le_of_ble_eq_true rfl⟩ hK hw hA [0, 1, 2, 3, 4, 5, 6, 7] rfl rfl rfl rfl rfl rfl rfl rfl hl.1 rfl (Nat.le_of_ble_eq_true rfl) dX5_passRound_48 ⟨Nat.zero_le _, Nat.zero_le _⟩ (fun H locs hw => ?_)
          refine lv_iadd hx hb dX5_passRound_51 ?_
          refine lv_istore_n (lv' := [(1, .int (v1_9 + q15.1)), (2, .int v2_8), (0, .ref (a0 0))]) hx hb dX5_passRound_52 rfl hl (by decide) rfl (fun ls hl => ?_)
          refine lv_iinc (v := (v2_8 + (1 : Int32))) (lv' := [(2, .int (v2_8 + (1 : Int32))), (1, .int (v1_9 + q15.1)), (0, .ref (a0 0))]) hx hb dX5_passRound_53 hl (k := 1) rfl rfl (by decide) rfl (fun ls hl => ?_)
          refine lv_goto (tgt := 31) hx hb dX5_passRound_56 (by decide) ?_
          exact ih31 (v2_8 + (1 : Int32)) (v1_9 + q15.1) q15.2 hM _ _ hw _ (lv_sub hl [0, 1, 2] rfl)
    exact hW31 300 (0 : Int32) (0 : Int32) q3 hL31 _ _ hw _ (lv_sub hl [0, 1, 2] rfl)
  have hW2 : ∀ (n : Nat) (v1_1 : Int32) (TL2 : TS), L_X5_passRound_2 n v1_1 TL2 = some q3 → ∀ (H : Heap) (locs : List Loc), Wk g A s.heap H locs (wX5 g a0 TL2) → ∀ (ls : Array Slot), lv_has ls 3 [(1, .int v1_1), (0, .ref (a0 0))] → W p l e (headSpec wsX5_passRound ({ frames := 2, cells := 0, slots := 0, locals := 49 } : Room)).room s m ([.ref (a0 0)] : List Value).toArray below meth c H locs 0 0 (MQ below (QcW g (some (.int q.1)) (wX5 g a0 q.2) A) ([.ref (a0 0)] : List Value).toArray s 0 0 A) (F0 m 2 ls []) := by
    intro n
    induction n with
    | zero => intro v1_1 TL2 hM; rw [L_X5_passRound_2] at hM; exact nn hM
    | succ n ih2 =>
      intro v1_1 TL2 hM H locs hw ls hl
      rw [L_X5_passRound_2] at hM
      refine lv_iload_n hx hb dX5_passRound_2 rfl (lv_at hl 0 rfl) ?_
      refine lv_aload_n hx hb dX5_passRound_3 rfl (lv_at hl 1 rfl) ?_
      refine wk_get hx hb hts hin_X5 hown hK hw.1 5 0 1 (.int (TL2 1 0)) rfl rfl (by decide) (mi 1 rfl) rfl rfl dX5_passRound_4 ?_
      refine lv_icmp_ge (tgt := 27) hx hb dX5_passRound_7 (by decide) (fun c4 => ?_) (fun c4 => ?_)
      · replace hM := itp c4 hM
        obtain rfl := Option.some.inj hM
        exact hJ2 _ _ hw _ (lv_sub hl [1] rfl)
      · replace hM := itn c4 hM
        refine lv_aload_n hx hb dX5_passRound_10 rfl (lv_at hl 1 rfl) ?_
        refine wk_get hx hb hts hin_X5 hown hK hw.1 5 0 13 (.ref (a0 7)) rfl rfl (by decide) (mi 2 rfl) rfl rfl dX5_passRound_11 ?_
        refine lv_iload_n hx hb dX5_passRound_14 rfl (lv_at hl 0 rfl) ?_
        refine lv_aload_n hx hb dX5_passRound_15 rfl (lv_at hl 1 rfl) ?_
        refine lv_iload_n hx hb dX5_passRound_16 rfl (lv_at hl 0 rfl) ?_
        obtain ⟨q6, h5, hM⟩ := bd hM
        refine rVR (wc := (wX5 g a0 TL2)) (As := [.int v1_1]) (rest := [.int v1_1, .ref (a0 7)]) (q0 := 0) hS (c_X5_sayableBy l g a0 TL2 v1_1 h5) gX5_passRound_X5_sayableBy rfl hd_X5_sayableBy ⟨Nat.le_of_ble_eq_true rfl, Nat.le_of_ble_eq_true rfl⟩ hK (hP_sub hw.1 [0, 1, 2, 3, 4, 5, 6, 7] rfl) rfl rfl rfl rfl hl.1 rfl (Nat.le_of_ble_eq_true rfl) dX5_passRound_17 ⟨Nat.zero_le _, Nat.zero_le _⟩ ?_
        obtain ⟨k7, hM⟩ := ck hM
        refine wk_iast (wq := (wX5 g a0 (up TL2 13 (upd (TL2 13) (v1_1).toNatClampNeg q6)))) hx hb hK hw 7 7 (TL2 13) rfl k7 dX5_passRound_20 rfl (fun H locs hw => ?_)
        refine lv_iinc (v := (v1_1 + (1 : Int32))) (lv' := [(1, .int (v1_1 + (1 : Int32))), (0, .ref (a0 0))]) hx hb dX5_passRound_21 hl (k := 0) rfl rfl (by decide) rfl (fun ls hl => ?_)
        refine lv_goto (tgt := 2) hx hb dX5_passRound_24 (by decide) ?_
        exact ih2 (v1_1 + (1 : Int32)) (up TL2 13 (upd (TL2 13) (v1_1).toNatClampNeg q6)) hM _ _ hw _ (lv_sub hl [0, 1] rfl)
  exact hW2 300 (0 : Int32) T0 hL2 _ _ hw _ (lv_sub hl [0, 1] rfl)
theorem hd_X5_passRounds : yX5_passRounds.cls = RX5 ∧ yX5_passRounds.cls ≠ "java/lang/invoke/MethodHandle" ∧ yX5_passRounds.cls ≠ "java/lang/invoke/VarHandle" ∧ (parseMethodDescriptor yX5_passRounds.desc).map (fun d => d.parameters.length) = some 1 := by decide +kernel
set_option maxHeartbeats 4000000 in
set_option maxRecDepth 100000 in
theorem c_X5_passRounds (l : Launch) (g : Gm) (a0 : Nat → Nat) (T0 : TS) (p1 : Int32) {q : TS} (hM : f_X5_passRounds T0 p1 = some q) : MW l yX5_passRounds wsX5_passRounds 3 71 g [.ref (a0 0), .int p1] (wX5 g a0 T0) none (wX5 g a0 q) := by
  intro sz
  refine Met.ofW (cc := cX5_passRounds) (maxL := 4) (ret := none) (by decide) rfl ?_
  intro p e s m args below meth c s₁ B hml hv
  obtain ⟨rfl, hsz, hP, hK, hD0⟩ := hv
  have hx := B.exec; have hb := B.bytes; have hr := B.returns
  have hts := atoms_spec (ws := wsX5_passRounds) B.pre
  have hown : s.vm.findClass RX5 = some m.cls := findClass_of_methodNamed B.named
  have hlocks := B.notSynchronized
  have hS : CallFix p m c cX5_passRounds 4 s _ wsX5_passRounds RX5 := ⟨hx, hb, hml, hown, hts⟩
  subst hsz
  have hw := wk_start hP hD0
  have hA : ∀ q : Nat, s.heap.size ≤ q → va_A (wX5 g a0 T0) s.heap.size q := fun q h => Or.inr h
  generalize va_A (wX5 g a0 T0) s.heap.size = A at hw hA ⊢
  clear hP hD0
  have hl := lv_entry ([.ref (a0 0), .int p1]) (n := 4) (Nat.le_of_ble_eq_true rfl)
  rw [lg_entry_eq]
  generalize (lg_sl ([.ref (a0 0), .int p1]) ++ List.replicate (4 - (lg_sl ([.ref (a0 0), .int p1])).length) Slot.unset).toArray = ls at hl ⊢
  have hl : lv_has ls 4 [(0, .ref (a0 0)), (1, .int p1)] := hl
  rw [f_X5_passRounds] at hM
  refine lv_iconst (v := (1 : Int32)) hx hb dX5_passRounds_0 (by decide) ?_
  refine lv_istore_n (lv' := [(2, .int (1 : Int32)), (0, .ref (a0 0)), (1, .int p1)]) hx hb dX5_passRounds_1 rfl hl (by decide) rfl (fun ls hl => ?_)
  refine lv_iconst (v := (0 : Int32)) hx hb dX5_passRounds_2 (by decide) ?_
  refine lv_istore_n (lv' := [(3, .int (0 : Int32)), (2, .int (1 : Int32)), (0, .ref (a0 0)), (1, .int p1)]) hx hb dX5_passRounds_3 rfl hl (by decide) rfl (fun ls hl => ?_)
  obtain ⟨q4, hL4, hM⟩ := bd hM
  have hJ4 : ∀ (H : Heap) (locs : List Loc), Wk g A s.heap H locs (wX5 g a0 q4) → ∀ (ls : Array Slot), lv_has ls 4 [] → W p l e (headSpec wsX5_passRounds ({ frames := 3, cells := 0, slots := 0, locals := 71 } : Room)).room s m ([.ref (a0 0), .int p1] : List Value).toArray below meth c H locs 0 0 (MQ below (QcW g none (wX5 g a0 q) A) ([.ref (a0 0), .int p1] : List Value).toArray s 0 0 A) (F0 m 24 ls []) := by
    intro H locs hw ls hl
    obtain rfl := Option.some.inj hM
    exact W.vret hx hb hr (fun t ht _ => ⟨rfl, by rw [ht]; exact hw.1, hw.2.2.F ht⟩) hw.2.2.2.2 dX5_passRounds_24
  have hW4 : ∀ (n : Nat) (v3_1 : Int32) (v2_2 : Int32) (TL3 : TS), L_X5_passRounds_4 p1 n v3_1 v2_2 TL3 = some q4 → ∀ (H : Heap) (locs : List Loc), Wk g A s.heap H locs (wX5 g a0 TL3) → ∀ (ls : Array Slot), lv_has ls 4 [(3, .int v3_1), (2, .int v2_2), (0, .ref (a0 0)), (1, .int p1)] → W p l e (headSpec wsX5_passRounds ({ frames := 3, cells := 0, slots := 0, locals := 71 } : Room)).room s m ([.ref (a0 0), .int p1] : List Value).toArray below meth c H locs 0 0 (MQ below (QcW g none (wX5 g a0 q) A) ([.ref (a0 0), .int p1] : List Value).toArray s 0 0 A) (F0 m 4 ls []) := by
    intro n
    induction n with
    | zero => intro v3_1 v2_2 TL3 hM; rw [L_X5_passRounds_4] at hM; exact nn hM
    | succ n ih4 =>
      intro v3_1 v2_2 TL3 hM H locs hw ls hl
      rw [L_X5_passRounds_4] at hM
      refine lv_iload_n hx hb dX5_passRounds_4 rfl (lv_at hl 0 rfl) ?_
      refine lv_iload_n hx hb dX5_passRounds_5 rfl (lv_at hl 3 rfl) ?_
      refine lv_icmp_ge (tgt := 24) hx hb dX5_passRounds_6 (by decide) (fun c5 => ?_) (fun c5 => ?_)
      · replace hM := itp c5 hM
        obtain rfl := Option.some.inj hM
        exact hJ4 _ _ hw _ (lv_sub hl [] rfl)
      · replace hM := itn c5 hM
        refine lv_iload_n hx hb dX5_passRounds_9 rfl (lv_at hl 1 rfl) ?_
        refine lv_if_eq (tgt := 24) hx hb dX5_passRounds_10 (by decide) (fun c6 => ?_) (fun c6 => ?_)
        · replace hM := itp c6 hM
          obtain rfl := Option.some.inj hM
          exact hJ4 _ _ hw _ (lv_sub hl [] rfl)
        · replace hM := itn c6 hM
          refine lv_aload_n hx hb dX5_passRounds_13 rfl (lv_at hl 2 rfl) ?_
          obtain ⟨q8, h7, hM⟩ := bd hM
          refine rVW (wc := (wX5 g a0 TL3)) (wq := (wX5 g a0 q8.2)) (As := []) (rest := []) (q0 := 0) hS (c_X5_passRound l g a0 TL3 h7) gX5_passRounds_X5_passRound rfl hd_X5_passRound ⟨Nat.le_of_ble_eq_true rfl, Nat.le_of_ble_eq_true rfl⟩ hK hw hA [0, 1, 2, 3, 4, 5, 6, 7] rfl rfl rfl rfl rfl rfl rfl rfl hl.1 rfl (Nat.le_of_ble_eq_true rfl) dX5_passRounds_14 ⟨Nat.zero_le _, Nat.zero_le _⟩ (fun H locs hw => ?_)
          refine lv_istore_n (lv' := [(2, .int q8.1), (3, .int v3_1), (0, .ref (a0 0)), (1, .int p1)]) hx hb dX5_passRounds_17 rfl hl (by decide) rfl (fun ls hl => ?_)
          refine lv_iinc (v := (v3_1 + (1 : Int32))) (lv' := [(3, .int (v3_1 + (1 : Int32))), (2, .int q8.1), (0, .ref (a0 0)), (1, .int p1)]) hx hb dX5_passRounds_18 hl (k := 1) rfl rfl (by decide) rfl (fun ls hl => ?_)
          refine lv_goto (tgt := 4) hx hb dX5_passRounds_21 (by decide) ?_
          exact ih4 (v3_1 + (1 : Int32)) q8.1 q8.2 hM _ _ hw _ (lv_sub hl [0, 1, 2, 3] rfl)
  exact hW4 300 (0 : Int32) (1 : Int32) T0 hL4 _ _ hw _ (lv_sub hl [0, 1, 2, 3] rfl)
theorem hd_X5_putHeard : yX5_putHeard.cls = RX5 ∧ yX5_putHeard.cls ≠ "java/lang/invoke/MethodHandle" ∧ yX5_putHeard.cls ≠ "java/lang/invoke/VarHandle" ∧ (parseMethodDescriptor yX5_putHeard.desc).map (fun d => d.parameters.length) = some 3 := by decide +kernel
set_option maxHeartbeats 4000000 in
set_option maxRecDepth 100000 in
theorem c_X5_putHeard (l : Launch) (g : Gm) (a0 : Nat → Nat) (T0 : TS) (p1 : Int32) (p2 : Int32) (p3 : Int32) {q : TS} (hM : f_X5_putHeard T0 p1 p2 p3 = some q) : MW l yX5_putHeard wsX5_putHeard 1 22 g [.ref (a0 0), .int p1, .int p2, .int p3] (wX5 g a0 T0) none (wX5 g a0 q) := by
  intro sz
  refine Met.ofW (cc := cX5_putHeard) (maxL := 4) (ret := none) (by decide) rfl ?_
  intro p e s m args below meth c s₁ B hml hv
  obtain ⟨rfl, hsz, hP, hK, hD0⟩ := hv
  have hx := B.exec; have hb := B.bytes; have hr := B.returns
  have hts := atoms_spec (ws := wsX5_putHeard) B.pre
  have hown : s.vm.findClass RX5 = some m.cls := findClass_of_methodNamed B.named
  have hlocks := B.notSynchronized
  have hS : CallFix p m c cX5_putHeard 4 s _ wsX5_putHeard RX5 := ⟨hx, hb, hml, hown, hts⟩
  have hin_X5 : ∀ w ∈ wsX50, w ∈ wsX5_putHeard := fun w h => (List.mem_cons_of_mem _ (List.mem_append_right _ h))
  subst hsz
  have hw := wk_start hP hD0
  have hA : ∀ q : Nat, s.heap.size ≤ q → va_A (wX5 g a0 T0) s.heap.size q := fun q h => Or.inr h
  generalize va_A (wX5 g a0 T0) s.heap.size = A at hw hA ⊢
  clear hP hD0
  have hl := lv_entry ([.ref (a0 0), .int p1, .int p2, .int p3]) (n := 4) (Nat.le_of_ble_eq_true rfl)
  rw [lg_entry_eq]
  generalize (lg_sl ([.ref (a0 0), .int p1, .int p2, .int p3]) ++ List.replicate (4 - (lg_sl ([.ref (a0 0), .int p1, .int p2, .int p3])).length) Slot.unset).toArray = ls at hl ⊢
  have hl : lv_has ls 4 [(0, .ref (a0 0)), (1, .int p1), (2, .int p2), (3, .int p3)] := hl
  rw [f_X5_putHeard] at hM
  refine lv_aload_n hx hb dX5_putHeard_0 rfl (lv_at hl 0 rfl) ?_
  refine wk_get hx hb hts hin_X5 hown hK hw.1 5 0 9 (.ref (a0 3)) rfl rfl (by decide) (mi 1 rfl) rfl rfl dX5_putHeard_1 ?_
  refine lv_iload_n hx hb dX5_putHeard_4 rfl (lv_at hl 1 rfl) ?_
  refine lv_aload_n hx hb dX5_putHeard_5 rfl (lv_at hl 0 rfl) ?_
  refine wk_get hx hb hts hin_X5 hown hK hw.1 5 0 9 (.ref (a0 3)) rfl rfl (by decide) (mi 1 rfl) rfl rfl dX5_putHeard_6 ?_
  refine lv_iload_n hx hb dX5_putHeard_9 rfl (lv_at hl 1 rfl) ?_
  obtain ⟨k1, hM⟩ := ck hM
  refine wk_iald hx hb hK hw.1 3 7 (T0 9) rfl k1 dX5_putHeard_10 ?_
  refine lv_iload_n hx hb dX5_putHeard_11 rfl (lv_at hl 2 rfl) ?_
  refine lv_iload_n hx hb dX5_putHeard_12 rfl (lv_at hl 3 rfl) ?_
  refine rNR (wc := ([] : va_W)) (As := [.int ((T0 9) (p1).toNatClampNeg), .int p2, .int p3]) (rest := [.int p1, .ref (a0 3)]) hS (c_X6_with l g ((T0 9) (p1).toNatClampNeg) p2 p3) gX5_putHeard_X6_with_n61 rfl (mi 2 rfl) (mi 3 rfl) 7 rfl hd_X6_with ⟨Nat.le_of_ble_eq_true rfl, Nat.le_of_ble_eq_true rfl⟩ hK (hP_nil) rfl hl.1 rfl (Nat.le_of_ble_eq_true rfl) dX5_putHeard_13 ⟨Nat.zero_le _, Nat.zero_le _⟩ ?_
  refine wk_iast (wq := (wX5 g a0 (up T0 9 (upd (T0 9) (p1).toNatClampNeg (f_X6_with ((T0 9) (p1).toNatClampNeg) p2 p3))))) hx hb hK hw 3 7 (T0 9) rfl k1 dX5_putHeard_16 rfl (fun H locs hw => ?_)
  obtain rfl := Option.some.inj hM
  exact W.vret hx hb hr (fun t ht _ => ⟨rfl, by rw [ht]; exact hw.1, hw.2.2.F ht⟩) hw.2.2.2.2 dX5_putHeard_17
theorem hd_X5_putHears : yX5_putHears.cls = RX5 ∧ yX5_putHears.cls ≠ "java/lang/invoke/MethodHandle" ∧ yX5_putHears.cls ≠ "java/lang/invoke/VarHandle" ∧ (parseMethodDescriptor yX5_putHears.desc).map (fun d => d.parameters.length) = some 3 := by decide +kernel
set_option maxHeartbeats 4000000 in
set_option maxRecDepth 100000 in
theorem c_X5_putHears (l : Launch) (g : Gm) (a0 : Nat → Nat) (T0 : TS) (p1 : Int32) (p2 : Int32) (p3 : Int32) {q : TS} (hM : f_X5_putHears T0 p1 p2 p3 = some q) : MW l yX5_putHears wsX5_putHears 1 22 g [.ref (a0 0), .int p1, .int p2, .int p3] (wX5 g a0 T0) none (wX5 g a0 q) := by
  intro sz
  refine Met.ofW (cc := cX5_putHears) (maxL := 4) (ret := none) (by decide) rfl ?_
  intro p e s m args below meth c s₁ B hml hv
  obtain ⟨rfl, hsz, hP, hK, hD0⟩ := hv
  have hx := B.exec; have hb := B.bytes; have hr := B.returns
  have hts := atoms_spec (ws := wsX5_putHears) B.pre
  have hown : s.vm.findClass RX5 = some m.cls := findClass_of_methodNamed B.named
  have hlocks := B.notSynchronized
  have hS : CallFix p m c cX5_putHears 4 s _ wsX5_putHears RX5 := ⟨hx, hb, hml, hown, hts⟩
  have hin_X5 : ∀ w ∈ wsX50, w ∈ wsX5_putHears := fun w h => (List.mem_cons_of_mem _ (List.mem_append_right _ h))
  subst hsz
  have hw := wk_start hP hD0
  have hA : ∀ q : Nat, s.heap.size ≤ q → va_A (wX5 g a0 T0) s.heap.size q := fun q h => Or.inr h
  generalize va_A (wX5 g a0 T0) s.heap.size = A at hw hA ⊢
  clear hP hD0
  have hl := lv_entry ([.ref (a0 0), .int p1, .int p2, .int p3]) (n := 4) (Nat.le_of_ble_eq_true rfl)
  rw [lg_entry_eq]
  generalize (lg_sl ([.ref (a0 0), .int p1, .int p2, .int p3]) ++ List.replicate (4 - (lg_sl ([.ref (a0 0), .int p1, .int p2, .int p3])).length) Slot.unset).toArray = ls at hl ⊢
  have hl : lv_has ls 4 [(0, .ref (a0 0)), (1, .int p1), (2, .int p2), (3, .int p3)] := hl
  rw [f_X5_putHears] at hM
  refine lv_aload_n hx hb dX5_putHears_0 rfl (lv_at hl 0 rfl) ?_
  refine wk_get hx hb hts hin_X5 hown hK hw.1 5 0 10 (.ref (a0 4)) rfl rfl (by decide) (mi 1 rfl) rfl rfl dX5_putHears_1 ?_
  refine lv_iload_n hx hb dX5_putHears_4 rfl (lv_at hl 1 rfl) ?_
  refine lv_aload_n hx hb dX5_putHears_5 rfl (lv_at hl 0 rfl) ?_
  refine wk_get hx hb hts hin_X5 hown hK hw.1 5 0 10 (.ref (a0 4)) rfl rfl (by decide) (mi 1 rfl) rfl rfl dX5_putHears_6 ?_
  refine lv_iload_n hx hb dX5_putHears_9 rfl (lv_at hl 1 rfl) ?_
  obtain ⟨k1, hM⟩ := ck hM
  refine wk_iald hx hb hK hw.1 4 7 (T0 10) rfl k1 dX5_putHears_10 ?_
  refine lv_iload_n hx hb dX5_putHears_11 rfl (lv_at hl 2 rfl) ?_
  refine lv_iload_n hx hb dX5_putHears_12 rfl (lv_at hl 3 rfl) ?_
  refine rNR (wc := ([] : va_W)) (As := [.int ((T0 10) (p1).toNatClampNeg), .int p2, .int p3]) (rest := [.int p1, .ref (a0 4)]) hS (c_X6_with l g ((T0 10) (p1).toNatClampNeg) p2 p3) gX5_putHears_X6_with_n61 rfl (mi 2 rfl) (mi 3 rfl) 7 rfl hd_X6_with ⟨Nat.le_of_ble_eq_true rfl, Nat.le_of_ble_eq_true rfl⟩ hK (hP_nil) rfl hl.1 rfl (Nat.le_of_ble_eq_true rfl) dX5_putHears_13 ⟨Nat.zero_le _, Nat.zero_le _⟩ ?_
  refine wk_iast (wq := (wX5 g a0 (up T0 10 (upd (T0 10) (p1).toNatClampNeg (f_X6_with ((T0 10) (p1).toNatClampNeg) p2 p3))))) hx hb hK hw 4 7 (T0 10) rfl k1 dX5_putHears_16 rfl (fun H locs hw => ?_)
  obtain rfl := Option.some.inj hM
  exact W.vret hx hb hr (fun t ht _ => ⟨rfl, by rw [ht]; exact hw.1, hw.2.2.F ht⟩) hw.2.2.2.2 dX5_putHears_17
theorem hd_X5_putSeen : yX5_putSeen.cls = RX5 ∧ yX5_putSeen.cls ≠ "java/lang/invoke/MethodHandle" ∧ yX5_putSeen.cls ≠ "java/lang/invoke/VarHandle" ∧ (parseMethodDescriptor yX5_putSeen.desc).map (fun d => d.parameters.length) = some 3 := by decide +kernel
set_option maxHeartbeats 4000000 in
set_option maxRecDepth 100000 in
theorem c_X5_putSeen (l : Launch) (g : Gm) (a0 : Nat → Nat) (T0 : TS) (p1 : Int32) (p2 : Int32) (p3 : Int32) {q : TS} (hM : f_X5_putSeen T0 p1 p2 p3 = some q) : MW l yX5_putSeen wsX5_putSeen 1 22 g [.ref (a0 0), .int p1, .int p2, .int p3] (wX5 g a0 T0) none (wX5 g a0 q) := by
  intro sz
  refine Met.ofW (cc := cX5_putSeen) (maxL := 4) (ret := none) (by decide) rfl ?_
  intro p e s m args below meth c s₁ B hml hv
  obtain ⟨rfl, hsz, hP, hK, hD0⟩ := hv
  have hx := B.exec; have hb := B.bytes; have hr := B.returns
  have hts := atoms_spec (ws := wsX5_putSeen) B.pre
  have hown : s.vm.findClass RX5 = some m.cls := findClass_of_methodNamed B.named
  have hlocks := B.notSynchronized
  have hS : CallFix p m c cX5_putSeen 4 s _ wsX5_putSeen RX5 := ⟨hx, hb, hml, hown, hts⟩
  have hin_X5 : ∀ w ∈ wsX50, w ∈ wsX5_putSeen := fun w h => (List.mem_cons_of_mem _ (List.mem_append_right _ h))
  subst hsz
  have hw := wk_start hP hD0
  have hA : ∀ q : Nat, s.heap.size ≤ q → va_A (wX5 g a0 T0) s.heap.size q := fun q h => Or.inr h
  generalize va_A (wX5 g a0 T0) s.heap.size = A at hw hA ⊢
  clear hP hD0
  have hl := lv_entry ([.ref (a0 0), .int p1, .int p2, .int p3]) (n := 4) (Nat.le_of_ble_eq_true rfl)
  rw [lg_entry_eq]
  generalize (lg_sl ([.ref (a0 0), .int p1, .int p2, .int p3]) ++ List.replicate (4 - (lg_sl ([.ref (a0 0), .int p1, .int p2, .int p3])).length) Slot.unset).toArray = ls at hl ⊢
  have hl : lv_has ls 4 [(0, .ref (a0 0)), (1, .int p1), (2, .int p2), (3, .int p3)] := hl
  rw [f_X5_putSeen] at hM
  refine lv_aload_n hx hb dX5_putSeen_0 rfl (lv_at hl 0 rfl) ?_
  refine wk_get hx hb hts hin_X5 hown hK hw.1 5 0 7 (.ref (a0 1)) rfl rfl (by decide) (mi 1 rfl) rfl rfl dX5_putSeen_1 ?_
  refine lv_iload_n hx hb dX5_putSeen_4 rfl (lv_at hl 1 rfl) ?_
  refine lv_aload_n hx hb dX5_putSeen_5 rfl (lv_at hl 0 rfl) ?_
  refine wk_get hx hb hts hin_X5 hown hK hw.1 5 0 7 (.ref (a0 1)) rfl rfl (by decide) (mi 1 rfl) rfl rfl dX5_putSeen_6 ?_
  refine lv_iload_n hx hb dX5_putSeen_9 rfl (lv_at hl 1 rfl) ?_
  obtain ⟨k1, hM⟩ := ck hM
  refine wk_iald hx hb hK hw.1 1 7 (T0 7) rfl k1 dX5_putSeen_10 ?_
  refine lv_iload_n hx hb dX5_putSeen_11 rfl (lv_at hl 2 rfl) ?_
  refine lv_iload_n hx hb dX5_putSeen_12 rfl (lv_at hl 3 rfl) ?_
  refine lv_iconst (v := (2 : Int32)) hx hb dX5_putSeen_13 (by decide) ?_
  have hJ15 : ∀ (H : Heap) (locs : List Loc) (x14 : Int32) (ls : Array Slot), Wk g A s.heap H locs (wX5 g a0 T0) → x14 = (if p3 = (2 : Int32) then (1 : Int32) else (0 : Int32)) → lv_has ls 4 [(0, .ref (a0 0)), (1, .int p1), (2, .int p2), (3, .int p3)] → W p l e (headSpec wsX5_putSeen ({ frames := 1, cells := 0, slots := 0, locals := 22 } : Room)).room s m ([.ref (a0 0), .int p1, .int p2, .int p3] : List Value).toArray below meth c H locs 0 0 (MQ below (QcW g none (wX5 g a0 q) A) ([.ref (a0 0), .int p1, .int p2, .int p3] : List Value).toArray s 0 0 A) (F0 m 22 ls [.int x14, .int p2, .int ((T0 7) (p1).toNatClampNeg), .int p1, .ref (a0 1)]) := by
    intro H locs x14 ls hw hxx14 hl
    subst hxx14
    refine rNR (wc := ([] : va_W)) (As := [.int ((T0 7) (p1).toNatClampNeg), .int p2, .int (if p3 = (2 : Int32) then (1 : Int32) else (0 : Int32))]) (rest := [.int p1, .ref (a0 1)]) hS (c_X6_with l g ((T0 7) (p1).toNatClampNeg) p2 (if p3 = (2 : Int32) then (1 : Int32) else (0 : Int32))) gX5_putSeen_X6_with_n61 rfl (mi 3 rfl) (mi 4 rfl) 7 rfl hd_X6_with ⟨Nat.le_of_ble_eq_true rfl, Nat.le_of_ble_eq_true rfl⟩ hK (hP_nil) rfl hl.1 rfl (Nat.le_of_ble_eq_true rfl) dX5_putSeen_22 ⟨Nat.zero_le _, Nat.zero_le _⟩ ?_
    refine wk_iast (wq := (wX5 g a0 (up T0 7 (upd (T0 7) (p1).toNatClampNeg (f_X6_with ((T0 7) (p1).toNatClampNeg) p2 (if p3 = (2 : Int32) then (1 : Int32) else (0 : Int32))))))) hx hb hK hw 1 7 (T0 7) rfl k1 dX5_putSeen_25 rfl (fun H locs hw => ?_)
    refine lv_aload_n hx hb dX5_putSeen_26 rfl (lv_at hl 0 rfl) ?_
    refine wk_get hx hb hts hin_X5 hown hK hw.1 5 0 8 (.ref (a0 2)) rfl rfl (by decide) (mi 2 rfl) rfl rfl dX5_putSeen_27 ?_
    refine lv_iload_n hx hb dX5_putSeen_30 rfl (lv_at hl 1 rfl) ?_
    refine lv_aload_n hx hb dX5_putSeen_31 rfl (lv_at hl 0 rfl) ?_
    refine wk_get hx hb hts hin_X5 hown hK hw.1 5 0 8 (.ref (a0 2)) rfl rfl (by decide) (mi 2 rfl) rfl rfl dX5_putSeen_32 ?_
    refine lv_iload_n hx hb dX5_putSeen_35 rfl (lv_at hl 1 rfl) ?_
    refine wk_iald hx hb hK hw.1 2 7 (T0 8) rfl k1 dX5_putSeen_36 ?_
    refine lv_iload_n hx hb dX5_putSeen_37 rfl (lv_at hl 2 rfl) ?_
    refine lv_iload_n hx hb dX5_putSeen_38 rfl (lv_at hl 3 rfl) ?_
    refine lv_iconst (v := (1 : Int32)) hx hb dX5_putSeen_39 (by decide) ?_
    have hJ17 : ∀ (H : Heap) (locs : List Loc) (x16 : Int32) (ls : Array Slot), Wk g A s.heap H locs (wX5 g a0 (up T0 7 (upd (T0 7) (p1).toNatClampNeg (f_X6_with ((T0 7) (p1).toNatClampNeg) p2 (if p3 = (2 : Int32) then (1 : Int32) else (0 : Int32)))))) → x16 = (if p3 = (1 : Int32) then (1 : Int32) else (0 : Int32)) → lv_has ls 4 [] → W p l e (headSpec wsX5_putSeen ({ frames := 1, cells := 0, slots := 0, locals := 22 } : Room)).room s m ([.ref (a0 0), .int p1, .int p2, .int p3] : List Value).toArray below meth c H locs 0 0 (MQ below (QcW g none (wX5 g a0 q) A) ([.ref (a0 0), .int p1, .int p2, .int p3] : List Value).toArray s 0 0 A) (F0 m 48 ls [.int x16, .int p2, .int ((T0 8) (p1).toNatClampNeg), .int p1, .ref (a0 2)]) := by
      intro H locs x16 ls hw hxx16 hl
      subst hxx16
      refine rNR (wc := ([] : va_W)) (As := [.int ((T0 8) (p1).toNatClampNeg), .int p2, .int (if p3 = (1 : Int32) then (1 : Int32) else (0 : Int32))]) (rest := [.int p1, .ref (a0 2)]) hS (c_X6_with l g ((T0 8) (p1).toNatClampNeg) p2 (if p3 = (1 : Int32) then (1 : Int32) else (0 : Int32))) gX5_putSeen_X6_with_n61 rfl (mi 3 rfl) (mi 4 rfl) 7 rfl hd_X6_with ⟨Nat.le_of_ble_eq_true rfl, Nat.le_of_ble_eq_true rfl⟩ hK (hP_nil) rfl hl.1 rfl (Nat.le_of_ble_eq_true rfl) dX5_putSeen_48 ⟨Nat.zero_le _, Nat.zero_le _⟩ ?_
      refine wk_iast (wq := (wX5 g a0 (up (up T0 7 (upd (T0 7) (p1).toNatClampNeg (f_X6_with ((T0 7) (p1).toNatClampNeg) p2 (if p3 = (2 : Int32) then (1 : Int32) else (0 : Int32))))) 8 (upd (T0 8) (p1).toNatClampNeg (f_X6_with ((T0 8) (p1).toNatClampNeg) p2 (if p3 = (1 : Int32) then (1 : Int32) else (0 : Int32))))))) hx hb hK hw 2 7 (T0 8) rfl k1 dX5_putSeen_51 rfl (fun H locs hw => ?_)
      obtain rfl := Option.some.inj hM
      exact W.vret hx hb hr (fun t ht _ => ⟨rfl, by rw [ht]; exact hw.1, hw.2.2.F ht⟩) hw.2.2.2.2 dX5_putSeen_52
    refine lv_icmp_ne (tgt := 47) hx hb dX5_putSeen_40 (by decide) (fun c4 => ?_) (fun c4 => ?_)
    · refine lv_iconst (v := (0 : Int32)) hx hb dX5_putSeen_47 (by decide) ?_
      exact hJ17 _ _ _ _ hw (by first | rfl | (simp only [if_neg c4])) (lv_sub hl [] rfl)
    · refine lv_iconst (v := (1 : Int32)) hx hb dX5_putSeen_43 (by decide) ?_
      refine lv_goto (tgt := 48) hx hb dX5_putSeen_44 (by decide) ?_
      exact hJ17 _ _ _ _ hw (by first | rfl | (simp only [if_pos c4])) (lv_sub hl [] rfl)
  refine lv_icmp_ne (tgt := 21) hx hb dX5_putSeen_14 (by decide) (fun c2 => ?_) (fun c2 => ?_)
  · refine lv_iconst (v := (0 : Int32)) hx hb dX5_putSeen_21 (by decide) ?_
    exact hJ15 _ _ _ _ hw (by first | rfl | (simp only [if_neg c2])) (lv_sub hl [0, 1, 2, 3] rfl)
  · refine lv_iconst (v := (1 : Int32)) hx hb dX5_putSeen_17 (by decide) ?_
    refine lv_goto (tgt := 22) hx hb dX5_putSeen_18 (by decide) ?_
    exact hJ15 _ _ _ _ hw (by first | rfl | (simp only [if_pos c2])) (lv_sub hl [0, 1, 2, 3] rfl)
theorem hd_X5_putSetting : yX5_putSetting.cls = RX5 ∧ yX5_putSetting.cls ≠ "java/lang/invoke/MethodHandle" ∧ yX5_putSetting.cls ≠ "java/lang/invoke/VarHandle" ∧ (parseMethodDescriptor yX5_putSetting.desc).map (fun d => d.parameters.length) = some 2 := by decide +kernel
set_option maxHeartbeats 4000000 in
set_option maxRecDepth 100000 in
theorem c_X5_putSetting (l : Launch) (g : Gm) (a0 : Nat → Nat) (T0 : TS) (p1 : Int32) (p2 : Int32) {q : TS} (hM : f_X5_putSetting T0 p1 p2 = some q) : MW l yX5_putSetting wsX5_putSetting 0 0 g [.ref (a0 0), .int p1, .int p2] (wX5 g a0 T0) none (wX5 g a0 q) := by
  intro sz
  refine Met.ofW (cc := cX5_putSetting) (maxL := 3) (ret := none) (by decide) rfl ?_
  intro p e s m args below meth c s₁ B hml hv
  obtain ⟨rfl, hsz, hP, hK, hD0⟩ := hv
  have hx := B.exec; have hb := B.bytes; have hr := B.returns
  have hts := atoms_spec (ws := wsX5_putSetting) B.pre
  have hown : s.vm.findClass RX5 = some m.cls := findClass_of_methodNamed B.named
  have hlocks := B.notSynchronized
  have hS : CallFix p m c cX5_putSetting 3 s _ wsX5_putSetting RX5 := ⟨hx, hb, hml, hown, hts⟩
  have hin_X5 : ∀ w ∈ wsX50, w ∈ wsX5_putSetting := fun w h => (List.mem_cons_of_mem _ (List.mem_append_right _ h))
  subst hsz
  have hw := wk_start hP hD0
  have hA : ∀ q : Nat, s.heap.size ≤ q → va_A (wX5 g a0 T0) s.heap.size q := fun q h => Or.inr h
  generalize va_A (wX5 g a0 T0) s.heap.size = A at hw hA ⊢
  clear hP hD0
  have hl := lv_entry ([.ref (a0 0), .int p1, .int p2]) (n := 3) (Nat.le_of_ble_eq_true rfl)
  rw [lg_entry_eq]
  generalize (lg_sl ([.ref (a0 0), .int p1, .int p2]) ++ List.replicate (3 - (lg_sl ([.ref (a0 0), .int p1, .int p2])).length) Slot.unset).toArray = ls at hl ⊢
  have hl : lv_has ls 3 [(0, .ref (a0 0)), (1, .int p1), (2, .int p2)] := hl
  rw [f_X5_putSetting] at hM
  refine lv_iload_n hx hb dX5_putSetting_0 rfl (lv_at hl 1 rfl) ?_
  by_cases c1_0 : p1 = (0 : Int32)
  · replace hM := itp c1_0 hM
    refine lv_lookup (off := (27 : Int)) (tgt := 28) hx hb dX5_putSetting_1 (by decide) (by rw [c1_0]; first | done | decide) (by decide) ?_
    refine lv_aload_n hx hb dX5_putSetting_28 rfl (lv_at hl 0 rfl) ?_
    refine lv_iload_n hx hb dX5_putSetting_29 rfl (lv_at hl 2 rfl) ?_
    refine wk_put (wq := (wX5 g a0 (up T0 2 (fun _ => p2)))) hx hb hts hin_X5 tyX5 tyX5_ok nmX5 hown hK hw 5 0 2 rfl rfl (by decide) (mi 1 rfl) rfl rfl rfl rfl (Nat.le_of_ble_eq_true rfl) dX5_putSetting_30 rfl (fun H locs hw => ?_)
    refine lv_goto (tgt := 49) hx hb dX5_putSetting_33 (by decide) ?_
    obtain rfl := Option.some.inj hM
    exact W.vret hx hb hr (fun t ht _ => ⟨rfl, by rw [ht]; exact hw.1, hw.2.2.F ht⟩) hw.2.2.2.2 dX5_putSetting_49
  replace hM := itn c1_0 hM
  by_cases c1_1 : p1 = (1 : Int32)
  · replace hM := itp c1_1 hM
    refine lv_lookup (off := (35 : Int)) (tgt := 36) hx hb dX5_putSetting_1 (by decide) (by rw [c1_1]; first | done | decide) (by decide) ?_
    refine lv_aload_n hx hb dX5_putSetting_36 rfl (lv_at hl 0 rfl) ?_
    refine lv_iload_n hx hb dX5_putSetting_37 rfl (lv_at hl 2 rfl) ?_
    refine wk_put (wq := (wX5 g a0 (up T0 3 (fun _ => p2)))) hx hb hts hin_X5 tyX5 tyX5_ok nmX5 hown hK hw 5 0 3 rfl rfl (by decide) (mi 2 rfl) rfl rfl rfl rfl (Nat.le_of_ble_eq_true rfl) dX5_putSetting_38 rfl (fun H locs hw => ?_)
    refine lv_goto (tgt := 49) hx hb dX5_putSetting_41 (by decide) ?_
    obtain rfl := Option.some.inj hM
    exact W.vret hx hb hr (fun t ht _ => ⟨rfl, by rw [ht]; exact hw.1, hw.2.2.F ht⟩) hw.2.2.2.2 dX5_putSetting_49
  replace hM := itn c1_1 hM
  refine lv_lookup (off := (43 : Int)) (tgt := 44) hx hb dX5_putSetting_1 (by decide) (by show Op.lookupswitch.offset [(0, 27), (1, 35)] 43 _ = _; exact (lv_osw (a := 0) c1_0 (by decide)).trans ((lv_osw (a := 1) c1_1 (by decide)).trans (rfl))) (by decide) ?_
  refine lv_aload_n hx hb dX5_putSetting_44 rfl (lv_at hl 0 rfl) ?_
  refine lv_iload_n hx hb dX5_putSetting_45 rfl (lv_at hl 2 rfl) ?_
  refine wk_put (wq := (wX5 g a0 (up T0 4 (fun _ => p2)))) hx hb hts hin_X5 tyX5 tyX5_ok nmX5 hown hK hw 5 0 4 rfl rfl (by decide) (mi 3 rfl) rfl rfl rfl rfl (Nat.le_of_ble_eq_true rfl) dX5_putSetting_46 rfl (fun H locs hw => ?_)
  obtain rfl := Option.some.inj hM
  exact W.vret hx hb hr (fun t ht _ => ⟨rfl, by rw [ht]; exact hw.1, hw.2.2.F ht⟩) hw.2.2.2.2 dX5_putSetting_49
theorem hd_X5_sayByDraws : yX5_sayByDraws.cls = RX5 ∧ yX5_sayByDraws.cls ≠ "java/lang/invoke/MethodHandle" ∧ yX5_sayByDraws.cls ≠ "java/lang/invoke/VarHandle" ∧ (parseMethodDescriptor yX5_sayByDraws.desc).map (fun d => d.parameters.length) = some 1 := by decide +kernel
set_option maxHeartbeats 4000000 in
set_option maxRecDepth 100000 in
theorem c_X5_sayByDraws (l : Launch) (g : Gm) (a0 : Nat → Nat) (T0 : TS) (p1 : Int32) {q : (Int32 × TS)} (hM : f_X5_sayByDraws T0 p1 = some q) : MW l yX5_sayByDraws wsX5_sayByDraws 2 48 g [.ref (a0 0), .int p1] (wX5 g a0 T0) (some (.int q.1)) (wX5 g a0 q.2) := by
  intro sz
  refine Met.ofW (cc := cX5_sayByDraws) (maxL := 6) (ret := (some .int)) (by decide) rfl ?_
  intro p e s m args below meth c s₁ B hml hv
  obtain ⟨rfl, hsz, hP, hK, hD0⟩ := hv
  have hx := B.exec; have hb := B.bytes; have hr := B.returns
  have hts := atoms_spec (ws := wsX5_sayByDraws) B.pre
  have hown : s.vm.findClass RX5 = some m.cls := findClass_of_methodNamed B.named
  have hlocks := B.notSynchronized
  have hS : CallFix p m c cX5_sayByDraws 6 s _ wsX5_sayByDraws RX5 := ⟨hx, hb, hml, hown, hts⟩
  have hin_X5 : ∀ w ∈ wsX50, w ∈ wsX5_sayByDraws := fun w h => (List.mem_cons_of_mem _ (List.mem_append_right _ h))
  subst hsz
  have hw := wk_start hP hD0
  have hA : ∀ q : Nat, s.heap.size ≤ q → va_A (wX5 g a0 T0) s.heap.size q := fun q h => Or.inr h
  generalize va_A (wX5 g a0 T0) s.heap.size = A at hw hA ⊢
  clear hP hD0
  have hl := lv_entry ([.ref (a0 0), .int p1]) (n := 6) (Nat.le_of_ble_eq_true rfl)
  rw [lg_entry_eq]
  generalize (lg_sl ([.ref (a0 0), .int p1]) ++ List.replicate (6 - (lg_sl ([.ref (a0 0), .int p1])).length) Slot.unset).toArray = ls at hl ⊢
  have hl : lv_has ls 6 [(0, .ref (a0 0)), (1, .int p1)] := hl
  rw [f_X5_sayByDraws] at hM
  refine lv_iconst (v := (0 : Int32)) hx hb dX5_sayByDraws_0 (by decide) ?_
  refine lv_istore_n (lv' := [(2, .int (0 : Int32)), (0, .ref (a0 0)), (1, .int p1)]) hx hb dX5_sayByDraws_1 rfl hl (by decide) rfl (fun ls hl => ?_)
  refine lv_iconst (v := (0 : Int32)) hx hb dX5_sayByDraws_2 (by decide) ?_
  refine lv_istore_n (lv' := [(3, .int (0 : Int32)), (2, .int (0 : Int32)), (0, .ref (a0 0)), (1, .int p1)]) hx hb dX5_sayByDraws_3 rfl hl (by decide) rfl (fun ls hl => ?_)
  obtain ⟨q4, hL4, hM⟩ := bd hM
  have hJ4 : ∀ (H : Heap) (locs : List Loc), Wk g A s.heap H locs (wX5 g a0 q4.2) → ∀ (ls : Array Slot), lv_has ls 6 [(2, .int q4.1)] → W p l e (headSpec wsX5_sayByDraws ({ frames := 2, cells := 0, slots := 0, locals := 48 } : Room)).room s m ([.ref (a0 0), .int p1] : List Value).toArray below meth c H locs 0 0 (MQ below (QcW g (some (.int q.1)) (wX5 g a0 q.2) A) ([.ref (a0 0), .int p1] : List Value).toArray s 0 0 A) (F0 m 72 ls []) := by
    intro H locs hw ls hl
    refine lv_iload_n hx hb dX5_sayByDraws_72 rfl (lv_at hl 0 rfl) ?_
    obtain rfl := Option.some.inj hM
    exact W.iret hx hb hr (fun t ht _ => ⟨rfl, by rw [ht]; exact hw.1, hw.2.2.F ht⟩) hw.2.2.2.2 dX5_sayByDraws_73
  have hW4 : ∀ (n : Nat) (v3_1 : Int32) (v2_2 : Int32) (TL3 : TS), L_X5_sayByDraws_4 p1 n v3_1 v2_2 TL3 = some q4 → ∀ (H : Heap) (locs : List Loc), Wk g A s.heap H locs (wX5 g a0 TL3) → ∀ (ls : Array Slot), lv_has ls 6 [(3, .int v3_1), (2, .int v2_2), (0, .ref (a0 0)), (1, .int p1)] → W p l e (headSpec wsX5_sayByDraws ({ frames := 2, cells := 0, slots := 0, locals := 48 } : Room)).room s m ([.ref (a0 0), .int p1] : List Value).toArray below meth c H locs 0 0 (MQ below (QcW g (some (.int q.1)) (wX5 g a0 q.2) A) ([.ref (a0 0), .int p1] : List Value).toArray s 0 0 A) (F0 m 4 ls []) := by
    intro n
    induction n with
    | zero => intro v3_1 v2_2 TL3 hM; rw [L_X5_sayByDraws_4] at hM; exact nn hM
    | succ n ih4 =>
      intro v3_1 v2_2 TL3 hM H locs hw ls hl
      rw [L_X5_sayByDraws_4] at hM
      refine lv_iload_n hx hb dX5_sayByDraws_4 rfl (lv_at hl 0 rfl) ?_
      refine lv_iload_n hx hb dX5_sayByDraws_5 rfl (lv_at hl 3 rfl) ?_
      refine lv_icmp_ge (tgt := 72) hx hb dX5_sayByDraws_6 (by decide) (fun c5 => ?_) (fun c5 => ?_)
      · replace hM := itp c5 hM
        obtain rfl := Option.some.inj hM
        exact hJ4 _ _ hw _ (lv_sub hl [1] rfl)
      · replace hM := itn c5 hM
        refine lv_aload_n hx hb dX5_sayByDraws_9 rfl (lv_at hl 2 rfl) ?_
        refine lv_aload_n hx hb dX5_sayByDraws_10 rfl (lv_at hl 2 rfl) ?_
        refine wk_get hx hb hts hin_X5 hown hK hw.1 5 0 1 (.int (TL3 1 0)) rfl rfl (by decide) (mi 1 rfl) rfl rfl dX5_sayByDraws_11 ?_
        obtain ⟨q7, h6, hM⟩ := bd hM
        refine rVW (wc := (wX5 g a0 TL3)) (wq := (wX5 g a0 q7.2)) (As := [.int (TL3 1 0)]) (rest := []) (q0 := 0) hS (c_X5_drawBelow l g a0 TL3 (TL3 1 0) h6) gX5_sayByDraws_X5_drawBelow rfl hd_X5_drawBelow ⟨Nat.le_of_ble_eq_true rfl, Nat.le_of_ble_eq_true rfl⟩ hK hw hA [0, 1, 2, 3, 4, 5, 6, 7] rfl rfl rfl rfl rfl rfl rfl rfl hl.1 rfl (Nat.le_of_ble_eq_true rfl) dX5_sayByDraws_14 ⟨Nat.zero_le _, Nat.zero_le _⟩ (fun H locs hw => ?_)
        refine lv_istore (lv' := [(4, .int q7.1), (3, .int v3_1), (2, .int v2_2), (0, .ref (a0 0)), (1, .int p1)]) hx hb dX5_sayByDraws_17 hl (by decide) rfl (fun ls hl => ?_)
        refine lv_aload_n hx hb dX5_sayByDraws_19 rfl (lv_at hl 3 rfl) ?_
        refine lv_aload_n hx hb dX5_sayByDraws_20 rfl (lv_at hl 3 rfl) ?_
        refine wk_get hx hb hts hin_X5 hown hK hw.1 5 0 0 (.int (q7.2 0 0)) rfl rfl (by decide) (mi 2 rfl) rfl rfl dX5_sayByDraws_21 ?_
        obtain ⟨q9, h8, hM⟩ := bd hM
        refine rVW (wc := (wX5 g a0 q7.2)) (wq := (wX5 g a0 q9.2)) (As := [.int (q7.2 0 0)]) (rest := []) (q0 := 0) hS (c_X5_drawBelow l g a0 q7.2 (q7.2 0 0) h8) gX5_sayByDraws_X5_drawBelow rfl hd_X5_drawBelow ⟨Nat.le_of_ble_eq_true rfl, Nat.le_of_ble_eq_true rfl⟩ hK hw hA [0, 1, 2, 3, 4, 5, 6, 7] rfl rfl rfl rfl rfl rfl rfl rfl hl.1 rfl (Nat.le_of_ble_eq_true rfl) dX5_sayByDraws_24 ⟨Nat.zero_le _, Nat.zero_le _⟩ (fun H locs hw => ?_)
        refine lv_istore (lv' := [(5, .int q9.1), (4, .int q7.1), (3, .int v3_1), (2, .int v2_2), (0, .ref (a0 0)), (1, .int p1)]) hx hb dX5_sayByDraws_27 hl (by decide) rfl (fun ls hl => ?_)
        refine lv_aload_n hx hb dX5_sayByDraws_29 rfl (lv_at hl 4 rfl) ?_
        refine lv_iload hx hb dX5_sayByDraws_30 (lv_at hl 1 rfl) ?_
        refine rVR (wc := (wX5 g a0 q9.2)) (As := [.int q7.1]) (rest := []) (q0 := 0) hS (c_X5_isOne l g a0 q9.2 q7.1) gX5_sayByDraws_X5_isOne rfl hd_X5_isOne ⟨Nat.le_of_ble_eq_true rfl, Nat.le_of_ble_eq_true rfl⟩ hK (hP_sub hw.1 [0, 1, 2, 3, 4, 5, 6, 7] rfl) rfl rfl rfl rfl hl.1 rfl (Nat.le_of_ble_eq_true rfl) dX5_sayByDraws_32 ⟨Nat.zero_le _, Nat.zero_le _⟩ ?_
        refine lv_if_eq (tgt := 66) hx hb dX5_sayByDraws_35 (by decide) (fun c11 => ?_) (fun c11 => ?_)
        · replace hM := itp c11 hM
          refine lv_iinc (v := (v3_1 + (1 : Int32))) (lv' := [(3, .int (v3_1 + (1 : Int32))), (5, .int q9.1), (4, .int q7.1), (2, .int v2_2), (0, .ref (a0 0)), (1, .int p1)]) hx hb dX5_sayByDraws_66 hl (k := 2) rfl rfl (by decide) rfl (fun ls hl => ?_)
          refine lv_goto (tgt := 4) hx hb dX5_sayByDraws_69 (by decide) ?_
          exact ih4 (v3_1 + (1 : Int32)) v2_2 q9.2 hM _ _ hw _ (lv_sub hl [0, 3, 4, 5] rfl)
        · replace hM := itn c11 hM
          refine lv_aload_n hx hb dX5_sayByDraws_38 rfl (lv_at hl 4 rfl) ?_
          refine lv_iload hx hb dX5_sayByDraws_39 (lv_at hl 1 rfl) ?_
          obtain ⟨q13, h12, hM⟩ := bd hM
          refine rVR (wc := (wX5 g a0 q9.2)) (As := [.int q7.1]) (rest := []) (q0 := 0) hS (c_X5_sayableBy l g a0 q9.2 q7.1 h12) gX5_sayByDraws_X5_sayableBy rfl hd_X5_sayableBy ⟨Nat.le_of_ble_eq_true rfl, Nat.le_of_ble_eq_true rfl⟩ hK (hP_sub hw.1 [0, 1, 2, 3, 4, 5, 6, 7] rfl) rfl rfl rfl rfl hl.1 rfl (Nat.le_of_ble_eq_true rfl) dX5_sayByDraws_41 ⟨Nat.zero_le _, Nat.zero_le _⟩ ?_
          refine lv_iload hx hb dX5_sayByDraws_44 (lv_at hl 0 rfl) ?_
          refine rNR (wc := ([] : va_W)) (As := [.int q13, .int q9.1]) (rest := []) hS (c_X6_has l g q13 q9.1) gX5_sayByDraws_X6_has_n65 rfl (mi 40 rfl) (mi 38 rfl) 6 rfl hd_X6_has ⟨Nat.le_of_ble_eq_true rfl, Nat.le_of_ble_eq_true rfl⟩ hK (hP_nil) rfl hl.1 rfl (Nat.le_of_ble_eq_true rfl) dX5_sayByDraws_46 ⟨Nat.zero_le _, Nat.zero_le _⟩ ?_
          refine lv_if_eq (tgt := 66) hx hb dX5_sayByDraws_49 (by decide) (fun c15 => ?_) (fun c15 => ?_)
          · replace hM := itp c15 hM
            refine lv_iinc (v := (v3_1 + (1 : Int32))) (lv' := [(3, .int (v3_1 + (1 : Int32))), (5, .int q9.1), (4, .int q7.1), (2, .int v2_2), (0, .ref (a0 0)), (1, .int p1)]) hx hb dX5_sayByDraws_66 hl (k := 2) rfl rfl (by decide) rfl (fun ls hl => ?_)
            refine lv_goto (tgt := 4) hx hb dX5_sayByDraws_69 (by decide) ?_
            exact ih4 (v3_1 + (1 : Int32)) v2_2 q9.2 hM _ _ hw _ (lv_sub hl [0, 3, 4, 5] rfl)
          · replace hM := itn c15 hM
            refine lv_aload_n hx hb dX5_sayByDraws_52 rfl (lv_at hl 4 rfl) ?_
            refine lv_iload hx hb dX5_sayByDraws_53 (lv_at hl 1 rfl) ?_
            refine lv_iconst (v := (1 : Int32)) hx hb dX5_sayByDraws_55 (by decide) ?_
            refine lv_iload hx hb dX5_sayByDraws_56 (lv_at hl 0 rfl) ?_
            refine lv_ishl hx hb dX5_sayByDraws_58 ?_
            obtain ⟨q17, h16, hM⟩ := bd hM
            refine rVW (wc := (wX5 g a0 q9.2)) (wq := (wX5 g a0 q17.2)) (As := [.int q7.1, .int ((1 : Int32) <<< (q9.1 &&& 31))]) (rest := []) (q0 := 0) hS (c_X5_tell l g a0 q9.2 q7.1 ((1 : Int32) <<< (q9.1 &&& 31)) h16) gX5_sayByDraws_X5_tell rfl hd_X5_tell ⟨Nat.le_of_ble_eq_true rfl, Nat.le_of_ble_eq_true rfl⟩ hK hw hA [0, 1, 2, 3, 4, 5, 6, 7] rfl rfl rfl rfl rfl rfl rfl rfl hl.1 rfl (Nat.le_of_ble_eq_true rfl) dX5_sayByDraws_59 ⟨Nat.zero_le _, Nat.zero_le _⟩ (fun H locs hw => ?_)
            refine lv_pop hx hb dX5_sayByDraws_62 rfl ?_
            refine lv_iinc (v := (v2_2 + (1 : Int32))) (lv' := [(2, .int (v2_2 + (1 : Int32))), (5, .int q9.1), (4, .int q7.1), (3, .int v3_1), (0, .ref (a0 0)), (1, .int p1)]) hx hb dX5_sayByDraws_63 hl (k := 3) rfl rfl (by decide) rfl (fun ls hl => ?_)
            refine lv_iinc (v := (v3_1 + (1 : Int32))) (lv' := [(3, .int (v3_1 + (1 : Int32))), (2, .int (v2_2 + (1 : Int32))), (5, .int q9.1), (4, .int q7.1), (0, .ref (a0 0)), (1, .int p1)]) hx hb dX5_sayByDraws_66 hl (k := 3) rfl rfl (by decide) rfl (fun ls hl => ?_)
            refine lv_goto (tgt := 4) hx hb dX5_sayByDraws_69 (by decide) ?_
            exact ih4 (v3_1 + (1 : Int32)) (v2_2 + (1 : Int32)) q17.2 hM _ _ hw _ (lv_sub hl [0, 1, 4, 5] rfl)
  exact hW4 300 (0 : Int32) (0 : Int32) T0 hL4 _ _ hw _ (lv_sub hl [0, 1, 2, 3] rfl)
theorem hd_X6_firstOf : yX6_firstOf.cls ≠ "java/lang/invoke/MethodHandle" ∧ yX6_firstOf.cls ≠ "java/lang/invoke/VarHandle" ∧ (parseMethodDescriptor yX6_firstOf.desc).map (fun d => d.parameters.length) = some 1 := by decide +kernel
set_option maxHeartbeats 4000000 in
set_option maxRecDepth 100000 in
theorem c_X6_firstOf (l : Launch) (g : Gm) (p0 : Int32) {q : Int32} (hM : f_X6_firstOf p0 = some q) : MR l yX6_firstOf wsX6_firstOf 1 21 g [.int p0] ([] : va_W) (some (.int q)) := by
  refine Met.ofW (cc := cX6_firstOf) (maxL := 2) (ret := (some .int)) (by decide) rfl ?_
  intro p e s m args below meth c s₁ B hml hv
  obtain ⟨rfl, hP, hK⟩ := hv
  have hx := B.exec; have hb := B.bytes; have hr := B.returns
  have hts := atoms_spec (ws := wsX6_firstOf) B.pre
  have hown : s.vm.findClass RX6 = some m.cls := findClass_of_methodNamed B.named
  have hlocks := B.notSynchronized
  have hS : CallFix p m c cX6_firstOf 2 s _ wsX6_firstOf RX6 := ⟨hx, hb, hml, hown, hts⟩
  have hl := lv_entry ([.int p0]) (n := 2) (Nat.le_of_ble_eq_true rfl)
  rw [lg_entry_eq]
  generalize (lg_sl ([.int p0]) ++ List.replicate (2 - (lg_sl ([.int p0])).length) Slot.unset).toArray = ls at hl ⊢
  have hl : lv_has ls 2 [(0, .int p0)] := hl
  rw [f_X6_firstOf] at hM
  refine lv_iconst (v := (0 : Int32)) hx hb dX6_firstOf_0 (by decide) ?_
  refine lv_istore_n (lv' := [(1, .int (0 : Int32)), (0, .int p0)]) hx hb dX6_firstOf_1 rfl hl (by decide) rfl (fun ls hl => ?_)
  obtain ⟨q2, hL2, hM2⟩ := bd hM
  have hJ2 : ∀ (q2x : Unit), q2 = .inr q2x → ∀ (ls : Array Slot), lv_has ls 2 [] → W p l e (headSpec wsX6_firstOf ({ frames := 1, cells := 0, slots := 0, locals := 21 } : Room)).room s m ([.int p0] : List Value).toArray below meth c s.heap [] 0 0 (MQ below (QcR (some (.int q))) ([.int p0] : List Value).toArray s 0 0 (fun _ => False)) (F0 m 24 ls []) := by
    intro q2x hX2 ls hl
    rw [hX2] at hM2
    have hM := eo_inr hM2
    refine lv_iconst (v := (-1 : Int32)) hx hb dX6_firstOf_24 (by decide) ?_
    obtain rfl := Option.some.inj hM
    exact W.iret hx hb hr (fun t ht _ => ⟨rfl, ht⟩) (fun q hq => by cases hq) dX6_firstOf_25
  have hW2 : ∀ (n : Nat) (v1_1 : Int32), L_X6_firstOf_2 p0 n v1_1 = some q2 → ∀ (ls : Array Slot), lv_has ls 2 [(1, .int v1_1), (0, .int p0)] → W p l e (headSpec wsX6_firstOf ({ frames := 1, cells := 0, slots := 0, locals := 21 } : Room)).room s m ([.int p0] : List Value).toArray below meth c s.heap [] 0 0 (MQ below (QcR (some (.int q))) ([.int p0] : List Value).toArray s 0 0 (fun _ => False)) (F0 m 2 ls []) := by
    intro n
    induction n with
    | zero => intro v1_1 hM; rw [L_X6_firstOf_2] at hM; exact nn hM
    | succ n ih2 =>
      intro v1_1 hM ls hl
      rw [L_X6_firstOf_2] at hM
      refine lv_iload_n hx hb dX6_firstOf_2 rfl (lv_at hl 0 rfl) ?_
      refine lv_bipush (v := (32 : Int32)) hx hb dX6_firstOf_3 (by decide) ?_
      refine lv_icmp_ge (tgt := 24) hx hb dX6_firstOf_5 (by decide) (fun c3 => ?_) (fun c3 => ?_)
      · replace hM := itp c3 hM
        exact hJ2 _ (Option.some.inj hM).symm _ (lv_sub hl [] rfl)
      · replace hM := itn c3 hM
        refine lv_iload_n hx hb dX6_firstOf_8 rfl (lv_at hl 1 rfl) ?_
        refine lv_iload_n hx hb dX6_firstOf_9 rfl (lv_at hl 0 rfl) ?_
        refine rSR (wc := ([] : va_W)) (As := [.int p0, .int v1_1]) (rest := []) hS (c_X6_has l g p0 v1_1) gX6_firstOf_X6_has rfl hd_X6_has ⟨Nat.le_of_ble_eq_true rfl, Nat.le_of_ble_eq_true rfl⟩ hK (hP_nil) rfl hl.1 rfl (Nat.le_of_ble_eq_true rfl) dX6_firstOf_10 ⟨Nat.zero_le _, Nat.zero_le _⟩ ?_
        refine lv_if_eq (tgt := 18) hx hb dX6_firstOf_13 (by decide) (fun c5 => ?_) (fun c5 => ?_)
        · replace hM := itp c5 hM
          refine lv_iinc (v := (v1_1 + (1 : Int32))) (lv' := [(1, .int (v1_1 + (1 : Int32))), (0, .int p0)]) hx hb dX6_firstOf_18 hl (k := 0) rfl rfl (by decide) rfl (fun ls hl => ?_)
          refine lv_goto (tgt := 2) hx hb dX6_firstOf_21 (by decide) ?_
          exact ih2 (v1_1 + (1 : Int32)) hM _ (lv_sub hl [0, 1] rfl)
        · replace hM := itn c5 hM
          refine lv_iload_n hx hb dX6_firstOf_16 rfl (lv_at hl 0 rfl) ?_
          have hE := Option.some.inj hM
          have hM2' := hM2
          rw [← hE] at hM2'
          obtain rfl := eo_inl hM2'
          exact W.iret hx hb hr (fun t ht _ => ⟨rfl, ht⟩) (fun q hq => by cases hq) dX6_firstOf_17
  exact hW2 300 (0 : Int32) hL2 _ (lv_sub hl [0, 1] rfl)
theorem hd_X5_sayingAs : yX5_sayingAs.cls = RX5 ∧ yX5_sayingAs.cls ≠ "java/lang/invoke/MethodHandle" ∧ yX5_sayingAs.cls ≠ "java/lang/invoke/VarHandle" ∧ (parseMethodDescriptor yX5_sayingAs.desc).map (fun d => d.parameters.length) = some 2 := by decide +kernel
set_option maxHeartbeats 4000000 in
set_option maxRecDepth 100000 in
theorem c_X5_sayingAs (l : Launch) (g : Gm) (a0 : Nat → Nat) (T0 : TS) (p1 : Int32) (p2 : Int32) {q : Int32} (hM : f_X5_sayingAs T0 p1 p2 = some q) : MR l yX5_sayingAs wsX5_sayingAs 2 48 g [.ref (a0 0), .int p1, .int p2] (wX5 g a0 T0) (some (.int q)) := by
  refine Met.ofW (cc := cX5_sayingAs) (maxL := 3) (ret := (some .int)) (by decide) rfl ?_
  intro p e s m args below meth c s₁ B hml hv
  obtain ⟨rfl, hP, hK⟩ := hv
  have hx := B.exec; have hb := B.bytes; have hr := B.returns
  have hts := atoms_spec (ws := wsX5_sayingAs) B.pre
  have hown : s.vm.findClass RX5 = some m.cls := findClass_of_methodNamed B.named
  have hlocks := B.notSynchronized
  have hS : CallFix p m c cX5_sayingAs 3 s _ wsX5_sayingAs RX5 := ⟨hx, hb, hml, hown, hts⟩
  have hin_X5 : ∀ w ∈ wsX50, w ∈ wsX5_sayingAs := fun w h => (List.mem_cons_of_mem _ (List.mem_append_right _ h))
  have hl := lv_entry ([.ref (a0 0), .int p1, .int p2]) (n := 3) (Nat.le_of_ble_eq_true rfl)
  rw [lg_entry_eq]
  generalize (lg_sl ([.ref (a0 0), .int p1, .int p2]) ++ List.replicate (3 - (lg_sl ([.ref (a0 0), .int p1, .int p2])).length) Slot.unset).toArray = ls at hl ⊢
  have hl : lv_has ls 3 [(0, .ref (a0 0)), (1, .int p1), (2, .int p2)] := hl
  rw [f_X5_sayingAs] at hM
  refine lv_iload_n hx hb dX5_sayingAs_0 rfl (lv_at hl 2 rfl) ?_
  by_cases c1_0 : p2 = (1 : Int32)
  · replace hM := itp c1_0 hM
    refine lv_tableIn (tgt := 36) hx hb dX5_sayingAs_1 (by rw [c1_0]; decide) (by rw [c1_0]; decide) (by rw [c1_0]; first | done | rfl) (by decide) ?_
    refine lv_aload_n hx hb dX5_sayingAs_36 rfl (lv_at hl 0 rfl) ?_
    refine wk_get hx hb hts hin_X5 hown hK hP 5 0 10 (.ref (a0 4)) rfl rfl (by decide) (mi 1 rfl) rfl rfl dX5_sayingAs_37 ?_
    refine lv_iload_n hx hb dX5_sayingAs_40 rfl (lv_at hl 1 rfl) ?_
    obtain ⟨k2, hM⟩ := ck hM
    refine wk_iald hx hb hK hP 4 7 (T0 10) rfl k2 dX5_sayingAs_41 ?_
    refine rSR (wc := ([] : va_W)) (As := [.int ((T0 10) (p1).toNatClampNeg)]) (rest := []) hS (c_J6_bitCount_0f7a4 l g ((T0 10) (p1).toNatClampNeg)) gX5_sayingAs_J6_bitCount_0f7a4 rfl hd_J6_bitCount_0f7a4 ⟨Nat.le_of_ble_eq_true rfl, Nat.le_of_ble_eq_true rfl⟩ hK (hP_nil) rfl hl.1 rfl (Nat.le_of_ble_eq_true rfl) dX5_sayingAs_42 ⟨Nat.zero_le _, Nat.zero_le _⟩ ?_
    obtain rfl := Option.some.inj hM
    exact W.iret hx hb hr (fun t ht _ => ⟨rfl, ht⟩) (fun q hq => by cases hq) dX5_sayingAs_45
  replace hM := itn c1_0 hM
  by_cases c1_1 : p2 = (2 : Int32)
  · replace hM := itp c1_1 hM
    refine lv_tableIn (tgt := 46) hx hb dX5_sayingAs_1 (by rw [c1_1]; decide) (by rw [c1_1]; decide) (by rw [c1_1]; first | done | rfl) (by decide) ?_
    refine lv_aload_n hx hb dX5_sayingAs_46 rfl (lv_at hl 0 rfl) ?_
    refine wk_get hx hb hts hin_X5 hown hK hP 5 0 0 (.int (T0 0 0)) rfl rfl (by decide) (mi 2 rfl) rfl rfl dX5_sayingAs_47 ?_
    refine lv_aload_n hx hb dX5_sayingAs_50 rfl (lv_at hl 0 rfl) ?_
    refine lv_iload_n hx hb dX5_sayingAs_51 rfl (lv_at hl 1 rfl) ?_
    obtain ⟨q5, h4, hM⟩ := bd hM
    refine rVR (wc := (wX5 g a0 T0)) (As := [.int p1]) (rest := [.int (T0 0 0)]) (q0 := 0) hS (c_X5_barredTo l g a0 T0 p1 h4) gX5_sayingAs_X5_barredTo rfl hd_X5_barredTo ⟨Nat.le_of_ble_eq_true rfl, Nat.le_of_ble_eq_true rfl⟩ hK (hP_sub hP [0, 1, 2, 3, 4, 5, 6, 7] rfl) rfl rfl rfl rfl hl.1 rfl (Nat.le_of_ble_eq_true rfl) dX5_sayingAs_52 ⟨Nat.zero_le _, Nat.zero_le _⟩ ?_
    refine rSR (wc := ([] : va_W)) (As := [.int q5]) (rest := [.int (T0 0 0)]) hS (c_J6_bitCount_0f7a4 l g q5) gX5_sayingAs_J6_bitCount_0f7a4 rfl hd_J6_bitCount_0f7a4 ⟨Nat.le_of_ble_eq_true rfl, Nat.le_of_ble_eq_true rfl⟩ hK (hP_nil) rfl hl.1 rfl (Nat.le_of_ble_eq_true rfl) dX5_sayingAs_55 ⟨Nat.zero_le _, Nat.zero_le _⟩ ?_
    refine lv_isub hx hb dX5_sayingAs_58 ?_
    obtain rfl := Option.some.inj hM
    exact W.iret hx hb hr (fun t ht _ => ⟨rfl, ht⟩) (fun q hq => by cases hq) dX5_sayingAs_59
  replace hM := itn c1_1 hM
  by_cases c1_2 : p2 = (3 : Int32)
  · replace hM := itp c1_2 hM
    refine lv_tableIn (tgt := 60) hx hb dX5_sayingAs_1 (by rw [c1_2]; decide) (by rw [c1_2]; decide) (by rw [c1_2]; first | done | rfl) (by decide) ?_
    refine lv_aload_n hx hb dX5_sayingAs_60 rfl (lv_at hl 0 rfl) ?_
    refine lv_iload_n hx hb dX5_sayingAs_61 rfl (lv_at hl 1 rfl) ?_
    obtain ⟨q8, h7, hM⟩ := bd hM
    refine rVR (wc := (wX5 g a0 T0)) (As := [.int p1]) (rest := []) (q0 := 0) hS (c_X5_barredTo l g a0 T0 p1 h7) gX5_sayingAs_X5_barredTo rfl hd_X5_barredTo ⟨Nat.le_of_ble_eq_true rfl, Nat.le_of_ble_eq_true rfl⟩ hK (hP_sub hP [0, 1, 2, 3, 4, 5, 6, 7] rfl) rfl rfl rfl rfl hl.1 rfl (Nat.le_of_ble_eq_true rfl) dX5_sayingAs_62 ⟨Nat.zero_le _, Nat.zero_le _⟩ ?_
    obtain ⟨q10, h9, hM⟩ := bd hM
    refine rNR (wc := ([] : va_W)) (As := [.int q8]) (rest := []) hS (c_X6_firstOf l g q8 h9) gX5_sayingAs_X6_firstOf_n81 rfl (mi 19 rfl) (mi 20 rfl) 4 rfl hd_X6_firstOf ⟨Nat.le_of_ble_eq_true rfl, Nat.le_of_ble_eq_true rfl⟩ hK (hP_nil) rfl hl.1 rfl (Nat.le_of_ble_eq_true rfl) dX5_sayingAs_65 ⟨Nat.zero_le _, Nat.zero_le _⟩ ?_
    obtain rfl := Option.some.inj hM
    exact W.iret hx hb hr (fun t ht _ => ⟨rfl, ht⟩) (fun q hq => by cases hq) dX5_sayingAs_68
  replace hM := itn c1_2 hM
  by_cases c1_3 : p2 = (4 : Int32)
  · replace hM := itp c1_3 hM
    refine lv_tableIn (tgt := 69) hx hb dX5_sayingAs_1 (by rw [c1_3]; decide) (by rw [c1_3]; decide) (by rw [c1_3]; first | done | rfl) (by decide) ?_
    refine lv_aload_n hx hb dX5_sayingAs_69 rfl (lv_at hl 0 rfl) ?_
    refine wk_get hx hb hts hin_X5 hown hK hP 5 0 9 (.ref (a0 3)) rfl rfl (by decide) (mi 3 rfl) rfl rfl dX5_sayingAs_70 ?_
    refine lv_iload_n hx hb dX5_sayingAs_73 rfl (lv_at hl 1 rfl) ?_
    obtain ⟨k11, hM⟩ := ck hM
    refine wk_iald hx hb hK hP 3 7 (T0 9) rfl k11 dX5_sayingAs_74 ?_
    refine rSR (wc := ([] : va_W)) (As := [.int ((T0 9) (p1).toNatClampNeg)]) (rest := []) hS (c_J6_bitCount_0f7a4 l g ((T0 9) (p1).toNatClampNeg)) gX5_sayingAs_J6_bitCount_0f7a4 rfl hd_J6_bitCount_0f7a4 ⟨Nat.le_of_ble_eq_true rfl, Nat.le_of_ble_eq_true rfl⟩ hK (hP_nil) rfl hl.1 rfl (Nat.le_of_ble_eq_true rfl) dX5_sayingAs_75 ⟨Nat.zero_le _, Nat.zero_le _⟩ ?_
    obtain rfl := Option.some.inj hM
    exact W.iret hx hb hr (fun t ht _ => ⟨rfl, ht⟩) (fun q hq => by cases hq) dX5_sayingAs_78
  replace hM := itn c1_3 hM
  by_cases c1_4 : p2 = (5 : Int32)
  · replace hM := itp c1_4 hM
    refine lv_tableIn (tgt := 79) hx hb dX5_sayingAs_1 (by rw [c1_4]; decide) (by rw [c1_4]; decide) (by rw [c1_4]; first | done | rfl) (by decide) ?_
    refine lv_aload_n hx hb dX5_sayingAs_79 rfl (lv_at hl 0 rfl) ?_
    refine wk_get hx hb hts hin_X5 hown hK hP 5 0 7 (.ref (a0 1)) rfl rfl (by decide) (mi 4 rfl) rfl rfl dX5_sayingAs_80 ?_
    refine lv_iload_n hx hb dX5_sayingAs_83 rfl (lv_at hl 1 rfl) ?_
    obtain ⟨k13, hM⟩ := ck hM
    refine wk_iald hx hb hK hP 1 7 (T0 7) rfl k13 dX5_sayingAs_84 ?_
    obtain ⟨q15, h14, hM⟩ := bd hM
    refine rNR (wc := ([] : va_W)) (As := [.int ((T0 7) (p1).toNatClampNeg)]) (rest := []) hS (c_X6_firstOf l g ((T0 7) (p1).toNatClampNeg) h14) gX5_sayingAs_X6_firstOf_n81 rfl (mi 19 rfl) (mi 20 rfl) 4 rfl hd_X6_firstOf ⟨Nat.le_of_ble_eq_true rfl, Nat.le_of_ble_eq_true rfl⟩ hK (hP_nil) rfl hl.1 rfl (Nat.le_of_ble_eq_true rfl) dX5_sayingAs_85 ⟨Nat.zero_le _, Nat.zero_le _⟩ ?_
    obtain rfl := Option.some.inj hM
    exact W.iret hx hb hr (fun t ht _ => ⟨rfl, ht⟩) (fun q hq => by cases hq) dX5_sayingAs_88
  replace hM := itn c1_4 hM
  refine lv_tableOut (tgt := 89) hx hb dX5_sayingAs_1 (sw_out (lo := 1) (hi := 5) (by decide) (by decide) (fun k h1 h2 hk => by
            have hs : k = (1 : Int) ∨ k = (2 : Int) ∨ k = (3 : Int) ∨ k = (4 : Int) ∨ k = (5 : Int) := by omega
            rcases hs with hs | hs | hs | hs | hs <;> subst hs <;> first | exact c1_0 (Int32.toInt_inj.mp (hk.trans (by decide))) | exact c1_1 (Int32.toInt_inj.mp (hk.trans (by decide))) | exact c1_2 (Int32.toInt_inj.mp (hk.trans (by decide))) | exact c1_3 (Int32.toInt_inj.mp (hk.trans (by decide))) | exact c1_4 (Int32.toInt_inj.mp (hk.trans (by decide))))) (by decide) ?_
  refine lv_aload_n hx hb dX5_sayingAs_89 rfl (lv_at hl 0 rfl) ?_
  refine lv_iload_n hx hb dX5_sayingAs_90 rfl (lv_at hl 1 rfl) ?_
  obtain ⟨q17, h16, hM⟩ := bd hM
  refine rVR (wc := (wX5 g a0 T0)) (As := [.int p1]) (rest := []) (q0 := 0) hS (c_X5_sayableBy l g a0 T0 p1 h16) gX5_sayingAs_X5_sayableBy rfl hd_X5_sayableBy ⟨Nat.le_of_ble_eq_true rfl, Nat.le_of_ble_eq_true rfl⟩ hK (hP_sub hP [0, 1, 2, 3, 4, 5, 6, 7] rfl) rfl rfl rfl rfl hl.1 rfl (Nat.le_of_ble_eq_true rfl) dX5_sayingAs_91 ⟨Nat.zero_le _, Nat.zero_le _⟩ ?_
  obtain rfl := Option.some.inj hM
  exact W.iret hx hb hr (fun t ht _ => ⟨rfl, ht⟩) (fun q hq => by cases hq) dX5_sayingAs_94
theorem hd_X5_whoIsBarred : yX5_whoIsBarred.cls = RX5 ∧ yX5_whoIsBarred.cls ≠ "java/lang/invoke/MethodHandle" ∧ yX5_whoIsBarred.cls ≠ "java/lang/invoke/VarHandle" ∧ (parseMethodDescriptor yX5_whoIsBarred.desc).map (fun d => d.parameters.length) = some 1 := by decide +kernel
set_option maxHeartbeats 4000000 in
set_option maxRecDepth 100000 in
theorem c_X5_whoIsBarred (l : Launch) (g : Gm) (a0 : Nat → Nat) (T0 : TS) (p1 : Int32) {q : Int32} (hM : f_X5_whoIsBarred T0 p1 = some q) : MR l yX5_whoIsBarred wsX5_whoIsBarred 1 22 g [.ref (a0 0), .int p1] (wX5 g a0 T0) (some (.int q)) := by
  refine Met.ofW (cc := cX5_whoIsBarred) (maxL := 4) (ret := (some .int)) (by decide) rfl ?_
  intro p e s m args below meth c s₁ B hml hv
  obtain ⟨rfl, hP, hK⟩ := hv
  have hx := B.exec; have hb := B.bytes; have hr := B.returns
  have hts := atoms_spec (ws := wsX5_whoIsBarred) B.pre
  have hown : s.vm.findClass RX5 = some m.cls := findClass_of_methodNamed B.named
  have hlocks := B.notSynchronized
  have hS : CallFix p m c cX5_whoIsBarred 4 s _ wsX5_whoIsBarred RX5 := ⟨hx, hb, hml, hown, hts⟩
  have hin_X5 : ∀ w ∈ wsX50, w ∈ wsX5_whoIsBarred := fun w h => (List.mem_cons_of_mem _ (List.mem_append_right _ h))
  have hl := lv_entry ([.ref (a0 0), .int p1]) (n := 4) (Nat.le_of_ble_eq_true rfl)
  rw [lg_entry_eq]
  generalize (lg_sl ([.ref (a0 0), .int p1]) ++ List.replicate (4 - (lg_sl ([.ref (a0 0), .int p1])).length) Slot.unset).toArray = ls at hl ⊢
  have hl : lv_has ls 4 [(0, .ref (a0 0)), (1, .int p1)] := hl
  rw [f_X5_whoIsBarred] at hM
  refine lv_iconst (v := (0 : Int32)) hx hb dX5_whoIsBarred_0 (by decide) ?_
  refine lv_istore_n (lv' := [(2, .int (0 : Int32)), (0, .ref (a0 0)), (1, .int p1)]) hx hb dX5_whoIsBarred_1 rfl hl (by decide) rfl (fun ls hl => ?_)
  refine lv_iconst (v := (0 : Int32)) hx hb dX5_whoIsBarred_2 (by decide) ?_
  refine lv_istore_n (lv' := [(3, .int (0 : Int32)), (2, .int (0 : Int32)), (0, .ref (a0 0)), (1, .int p1)]) hx hb dX5_whoIsBarred_3 rfl hl (by decide) rfl (fun ls hl => ?_)
  obtain ⟨q3, hL4, hM⟩ := bd hM
  have hJ4 : ∀ (ls : Array Slot), lv_has ls 4 [(2, .int q3)] → W p l e (headSpec wsX5_whoIsBarred ({ frames := 1, cells := 0, slots := 0, locals := 22 } : Room)).room s m ([.ref (a0 0), .int p1] : List Value).toArray below meth c s.heap [] 0 0 (MQ below (QcR (some (.int q))) ([.ref (a0 0), .int p1] : List Value).toArray s 0 0 (fun _ => False)) (F0 m 33 ls []) := by
    intro ls hl
    refine lv_iload_n hx hb dX5_whoIsBarred_33 rfl (lv_at hl 0 rfl) ?_
    obtain rfl := Option.some.inj hM
    exact W.iret hx hb hr (fun t ht _ => ⟨rfl, ht⟩) (fun q hq => by cases hq) dX5_whoIsBarred_34
  have hW4 : ∀ (n : Nat) (v3_1 : Int32) (v2_2 : Int32), L_X5_whoIsBarred_4 T0 p1 n v3_1 v2_2 = some q3 → ∀ (ls : Array Slot), lv_has ls 4 [(3, .int v3_1), (2, .int v2_2), (0, .ref (a0 0)), (1, .int p1)] → W p l e (headSpec wsX5_whoIsBarred ({ frames := 1, cells := 0, slots := 0, locals := 22 } : Room)).room s m ([.ref (a0 0), .int p1] : List Value).toArray below meth c s.heap [] 0 0 (MQ below (QcR (some (.int q))) ([.ref (a0 0), .int p1] : List Value).toArray s 0 0 (fun _ => False)) (F0 m 4 ls []) := by
    intro n
    induction n with
    | zero => intro v3_1 v2_2 hM; rw [L_X5_whoIsBarred_4] at hM; exact nn hM
    | succ n ih4 =>
      intro v3_1 v2_2 hM ls hl
      rw [L_X5_whoIsBarred_4] at hM
      refine lv_iload_n hx hb dX5_whoIsBarred_4 rfl (lv_at hl 0 rfl) ?_
      refine lv_aload_n hx hb dX5_whoIsBarred_5 rfl (lv_at hl 2 rfl) ?_
      refine wk_get hx hb hts hin_X5 hown hK hP 5 0 1 (.int (T0 1 0)) rfl rfl (by decide) (mi 1 rfl) rfl rfl dX5_whoIsBarred_6 ?_
      refine lv_icmp_ge (tgt := 33) hx hb dX5_whoIsBarred_9 (by decide) (fun c4 => ?_) (fun c4 => ?_)
      · replace hM := itp c4 hM
        obtain rfl := Option.some.inj hM
        exact hJ4 _ (lv_sub hl [1] rfl)
      · replace hM := itn c4 hM
        refine lv_iload_n hx hb dX5_whoIsBarred_12 rfl (lv_at hl 1 rfl) ?_
        refine lv_iload_n hx hb dX5_whoIsBarred_13 rfl (lv_at hl 0 rfl) ?_
        refine lv_aload_n hx hb dX5_whoIsBarred_14 rfl (lv_at hl 2 rfl) ?_
        refine lv_iload_n hx hb dX5_whoIsBarred_15 rfl (lv_at hl 0 rfl) ?_
        obtain ⟨q6, h5, hM⟩ := bd hM
        refine rVR (wc := (wX5 g a0 T0)) (As := [.int v3_1]) (rest := [.int v3_1, .int v2_2]) (q0 := 0) hS (c_X5_barredTo l g a0 T0 v3_1 h5) gX5_whoIsBarred_X5_barredTo rfl hd_X5_barredTo ⟨Nat.le_of_ble_eq_true rfl, Nat.le_of_ble_eq_true rfl⟩ hK (hP_sub hP [0, 1, 2, 3, 4, 5, 6, 7] rfl) rfl rfl rfl rfl hl.1 rfl (Nat.le_of_ble_eq_true rfl) dX5_whoIsBarred_16 ⟨Nat.zero_le _, Nat.zero_le _⟩ ?_
        refine lv_iload_n hx hb dX5_whoIsBarred_19 rfl (lv_at hl 3 rfl) ?_
        refine rNR (wc := ([] : va_W)) (As := [.int q6, .int p1]) (rest := [.int v3_1, .int v2_2]) hS (c_X6_has l g q6 p1) gX5_whoIsBarred_X6_has_n65 rfl (mi 10 rfl) (mi 11 rfl) 6 rfl hd_X6_has ⟨Nat.le_of_ble_eq_true rfl, Nat.le_of_ble_eq_true rfl⟩ hK (hP_nil) rfl hl.1 rfl (Nat.le_of_ble_eq_true rfl) dX5_whoIsBarred_20 ⟨Nat.zero_le _, Nat.zero_le _⟩ ?_
        refine rNR (wc := ([] : va_W)) (As := [.int v2_2, .int v3_1, .int (f_X6_has q6 p1)]) (rest := []) hS (c_X6_with l g v2_2 v3_1 (f_X6_has q6 p1)) gX5_whoIsBarred_X6_with_n61 rfl (mi 13 rfl) (mi 11 rfl) 7 rfl hd_X6_with ⟨Nat.le_of_ble_eq_true rfl, Nat.le_of_ble_eq_true rfl⟩ hK (hP_nil) rfl hl.1 rfl (Nat.le_of_ble_eq_true rfl) dX5_whoIsBarred_23 ⟨Nat.zero_le _, Nat.zero_le _⟩ ?_
        refine lv_istore_n (lv' := [(2, .int (f_X6_with v2_2 v3_1 (f_X6_has q6 p1))), (3, .int v3_1), (0, .ref (a0 0)), (1, .int p1)]) hx hb dX5_whoIsBarred_26 rfl hl (by decide) rfl (fun ls hl => ?_)
        refine lv_iinc (v := (v3_1 + (1 : Int32))) (lv' := [(3, .int (v3_1 + (1 : Int32))), (2, .int (f_X6_with v2_2 v3_1 (f_X6_has q6 p1))), (0, .ref (a0 0)), (1, .int p1)]) hx hb dX5_whoIsBarred_27 hl (k := 1) rfl rfl (by decide) rfl (fun ls hl => ?_)
        refine lv_goto (tgt := 4) hx hb dX5_whoIsBarred_30 (by decide) ?_
        exact ih4 (v3_1 + (1 : Int32)) (f_X6_with v2_2 v3_1 (f_X6_has q6 p1)) hM _ (lv_sub hl [0, 1, 2, 3] rfl)
  exact hW4 300 (0 : Int32) (0 : Int32) hL4 _ (lv_sub hl [0, 1, 2, 3] rfl)
theorem hd_X5_sayingsBetween : yX5_sayingsBetween.cls = RX5 ∧ yX5_sayingsBetween.cls ≠ "java/lang/invoke/MethodHandle" ∧ yX5_sayingsBetween.cls ≠ "java/lang/invoke/VarHandle" ∧ (parseMethodDescriptor yX5_sayingsBetween.desc).map (fun d => d.parameters.length) = some 3 := by decide +kernel
set_option maxHeartbeats 4000000 in
set_option maxRecDepth 100000 in
theorem c_X5_sayingsBetween (l : Launch) (g : Gm) (a0 : Nat → Nat) (T0 : TS) (p1 : Int32) (p2 : Int32) (p3 : Int32) {q : Int32} (hM : f_X5_sayingsBetween T0 p1 p2 p3 = some q) : MR l yX5_sayingsBetween wsX5_sayingsBetween 2 45 g [.ref (a0 0), .int p1, .int p2, .int p3] (wX5 g a0 T0) (some (.int q)) := by
  refine Met.ofW (cc := cX5_sayingsBetween) (maxL := 9) (ret := (some .int)) (by decide) rfl ?_
  intro p e s m args below meth c s₁ B hml hv
  obtain ⟨rfl, hP, hK⟩ := hv
  have hx := B.exec; have hb := B.bytes; have hr := B.returns
  have hts := atoms_spec (ws := wsX5_sayingsBetween) B.pre
  have hown : s.vm.findClass RX5 = some m.cls := findClass_of_methodNamed B.named
  have hlocks := B.notSynchronized
  have hS : CallFix p m c cX5_sayingsBetween 9 s _ wsX5_sayingsBetween RX5 := ⟨hx, hb, hml, hown, hts⟩
  have hin_X5 : ∀ w ∈ wsX50, w ∈ wsX5_sayingsBetween := fun w h => (List.mem_cons_of_mem _ (List.mem_append_right _ h))
  have hl := lv_entry ([.ref (a0 0), .int p1, .int p2, .int p3]) (n := 9) (Nat.le_of_ble_eq_true rfl)
  rw [lg_entry_eq]
  generalize (lg_sl ([.ref (a0 0), .int p1, .int p2, .int p3]) ++ List.replicate (9 - (lg_sl ([.ref (a0 0), .int p1, .int p2, .int p3])).length) Slot.unset).toArray = ls at hl ⊢
  have hl : lv_has ls 9 [(0, .ref (a0 0)), (1, .int p1), (2, .int p2), (3, .int p3)] := hl
  rw [f_X5_sayingsBetween] at hM
  refine lv_aload_n hx hb dX5_sayingsBetween_0 rfl (lv_at hl 0 rfl) ?_
  refine lv_iload_n hx hb dX5_sayingsBetween_1 rfl (lv_at hl 3 rfl) ?_
  obtain ⟨q2, h1, hM⟩ := bd hM
  refine rVR (wc := (wX5 g a0 T0)) (As := [.int p3]) (rest := []) (q0 := 0) hS (c_X5_whoIsBarred l g a0 T0 p3 h1) gX5_sayingsBetween_X5_whoIsBarred rfl hd_X5_whoIsBarred ⟨Nat.le_of_ble_eq_true rfl, Nat.le_of_ble_eq_true rfl⟩ hK (hP_sub hP [0, 1, 2, 3, 4, 5, 6, 7] rfl) rfl rfl rfl rfl hl.1 rfl (Nat.le_of_ble_eq_true rfl) dX5_sayingsBetween_2 ⟨Nat.zero_le _, Nat.zero_le _⟩ ?_
  refine lv_istore (lv' := [(4, .int q2), (0, .ref (a0 0)), (1, .int p1), (2, .int p2), (3, .int p3)]) hx hb dX5_sayingsBetween_5 hl (by decide) rfl (fun ls hl => ?_)
  refine lv_iconst (v := (1 : Int32)) hx hb dX5_sayingsBetween_7 (by decide) ?_
  refine lv_iload_n hx hb dX5_sayingsBetween_8 rfl (lv_at hl 2 rfl) ?_
  refine lv_ishl hx hb dX5_sayingsBetween_9 ?_
  refine lv_istore (lv' := [(5, .int ((1 : Int32) <<< (p1 &&& 31))), (4, .int q2), (0, .ref (a0 0)), (1, .int p1), (2, .int p2), (3, .int p3)]) hx hb dX5_sayingsBetween_10 hl (by decide) rfl (fun ls hl => ?_)
  refine lv_iload hx hb dX5_sayingsBetween_12 (lv_at hl 0 rfl) ?_
  refine lv_istore (lv' := [(6, .int ((1 : Int32) <<< (p1 &&& 31))), (5, .int ((1 : Int32) <<< (p1 &&& 31))), (4, .int q2), (0, .ref (a0 0)), (1, .int p1), (2, .int p2), (3, .int p3)]) hx hb dX5_sayingsBetween_14 hl (by decide) rfl (fun ls hl => ?_)
  refine lv_iconst (v := (0 : Int32)) hx hb dX5_sayingsBetween_16 (by decide) ?_
  refine lv_istore (lv' := [(7, .int (0 : Int32)), (6, .int ((1 : Int32) <<< (p1 &&& 31))), (5, .int ((1 : Int32) <<< (p1 &&& 31))), (4, .int q2), (0, .ref (a0 0)), (1, .int p1), (2, .int p2), (3, .int p3)]) hx hb dX5_sayingsBetween_17 hl (by decide) rfl (fun ls hl => ?_)
  obtain ⟨q6, hL19, hM19⟩ := bd hM
  have hJ19 : ∀ (q6x : Unit), q6 = .inr q6x → ∀ (ls : Array Slot), lv_has ls 9 [] → W p l e (headSpec wsX5_sayingsBetween ({ frames := 2, cells := 0, slots := 0, locals := 45 } : Room)).room s m ([.ref (a0 0), .int p1, .int p2, .int p3] : List Value).toArray below meth c s.heap [] 0 0 (MQ below (QcR (some (.int q))) ([.ref (a0 0), .int p1, .int p2, .int p3] : List Value).toArray s 0 0 (fun _ => False)) (F0 m 75 ls []) := by
    intro q6x hX19 ls hl
    rw [hX19] at hM19
    have hM := eo_inr hM19
    refine lv_iconst (v := (-1 : Int32)) hx hb dX5_sayingsBetween_75 (by decide) ?_
    obtain rfl := Option.some.inj hM
    exact W.iret hx hb hr (fun t ht _ => ⟨rfl, ht⟩) (fun q hq => by cases hq) dX5_sayingsBetween_76
  have hW19 : ∀ (n : Nat) (v7_3 : Int32) (v6_4 : Int32) (v5_5 : Int32), L_X5_sayingsBetween_19 T0 p2 q2 n v7_3 v6_4 v5_5 = some q6 → ∀ (ls : Array Slot), lv_has ls 9 [(7, .int v7_3), (6, .int v6_4), (5, .int v5_5), (4, .int q2), (0, .ref (a0 0)), (2, .int p2)] → W p l e (headSpec wsX5_sayingsBetween ({ frames := 2, cells := 0, slots := 0, locals := 45 } : Room)).room s m ([.ref (a0 0), .int p1, .int p2, .int p3] : List Value).toArray below meth c s.heap [] 0 0 (MQ below (QcR (some (.int q))) ([.ref (a0 0), .int p1, .int p2, .int p3] : List Value).toArray s 0 0 (fun _ => False)) (F0 m 19 ls []) := by
    intro n
    induction n with
    | zero => intro v7_3 v6_4 v5_5 hM; rw [L_X5_sayingsBetween_19] at hM; exact nn hM
    | succ n ih19 =>
      intro v7_3 v6_4 v5_5 hM ls hl
      rw [L_X5_sayingsBetween_19] at hM
      refine lv_iload hx hb dX5_sayingsBetween_19 (lv_at hl 0 rfl) ?_
      refine lv_aload_n hx hb dX5_sayingsBetween_21 rfl (lv_at hl 4 rfl) ?_
      refine wk_get hx hb hts hin_X5 hown hK hP 5 0 1 (.int (T0 1 0)) rfl rfl (by decide) (mi 1 rfl) rfl rfl dX5_sayingsBetween_22 ?_
      refine lv_icmp_ge (tgt := 75) hx hb dX5_sayingsBetween_25 (by decide) (fun c7 => ?_) (fun c7 => ?_)
      · replace hM := itp c7 hM
        exact hJ19 _ (Option.some.inj hM).symm _ (lv_sub hl [] rfl)
      · replace hM := itn c7 hM
        refine lv_iload hx hb dX5_sayingsBetween_28 (lv_at hl 2 rfl) ?_
        refine lv_iload_n hx hb dX5_sayingsBetween_30 rfl (lv_at hl 5 rfl) ?_
        refine rNR (wc := ([] : va_W)) (As := [.int v5_5, .int p2]) (rest := []) hS (c_X6_has l g v5_5 p2) gX5_sayingsBetween_X6_has_n65 rfl (mi 14 rfl) (mi 15 rfl) 6 rfl hd_X6_has ⟨Nat.le_of_ble_eq_true rfl, Nat.le_of_ble_eq_true rfl⟩ hK (hP_nil) rfl hl.1 rfl (Nat.le_of_ble_eq_true rfl) dX5_sayingsBetween_31 ⟨Nat.zero_le _, Nat.zero_le _⟩ ?_
        refine lv_if_eq (tgt := 40) hx hb dX5_sayingsBetween_34 (by decide) (fun c9 => ?_) (fun c9 => ?_)
        · replace hM := itp c9 hM
          refine lv_aload_n hx hb dX5_sayingsBetween_40 rfl (lv_at hl 4 rfl) ?_
          refine lv_iload hx hb dX5_sayingsBetween_41 (lv_at hl 1 rfl) ?_
          obtain ⟨q11, h10, hM⟩ := bd hM
          refine rVR (wc := (wX5 g a0 T0)) (As := [.int v6_4]) (rest := []) (q0 := 0) hS (c_X5_hearersOf l g a0 T0 v6_4 h10) gX5_sayingsBetween_X5_hearersOf rfl hd_X5_hearersOf ⟨Nat.le_of_ble_eq_true rfl, Nat.le_of_ble_eq_true rfl⟩ hK (hP_sub hP [0, 1, 2, 3, 4, 5, 6, 7] rfl) rfl rfl rfl rfl hl.1 rfl (Nat.le_of_ble_eq_true rfl) dX5_sayingsBetween_43 ⟨Nat.zero_le _, Nat.zero_le _⟩ ?_
          refine lv_iload hx hb dX5_sayingsBetween_46 (lv_at hl 2 rfl) ?_
          refine lv_iconst (v := (-1 : Int32)) hx hb dX5_sayingsBetween_48 (by decide) ?_
          refine lv_ixor hx hb dX5_sayingsBetween_49 ?_
          refine lv_iand hx hb dX5_sayingsBetween_50 ?_
          refine lv_istore (lv' := [(8, .int (q11 &&& (v5_5 ^^^ (-1 : Int32)))), (7, .int v7_3), (6, .int v6_4), (5, .int v5_5), (4, .int q2), (0, .ref (a0 0)), (2, .int p2)]) hx hb dX5_sayingsBetween_51 hl (by decide) rfl (fun ls hl => ?_)
          refine lv_iload hx hb dX5_sayingsBetween_53 (lv_at hl 3 rfl) ?_
          refine lv_iload hx hb dX5_sayingsBetween_55 (lv_at hl 0 rfl) ?_
          refine lv_ior hx hb dX5_sayingsBetween_57 ?_
          refine lv_istore (lv' := [(5, .int (v5_5 ||| (q11 &&& (v5_5 ^^^ (-1 : Int32))))), (8, .int (q11 &&& (v5_5 ^^^ (-1 : Int32)))), (7, .int v7_3), (6, .int v6_4), (4, .int q2), (0, .ref (a0 0)), (2, .int p2)]) hx hb dX5_sayingsBetween_58 hl (by decide) rfl (fun ls hl => ?_)
          refine lv_iload hx hb dX5_sayingsBetween_60 (lv_at hl 1 rfl) ?_
          refine lv_iload hx hb dX5_sayingsBetween_62 (lv_at hl 4 rfl) ?_
          refine lv_iconst (v := (-1 : Int32)) hx hb dX5_sayingsBetween_64 (by decide) ?_
          refine lv_ixor hx hb dX5_sayingsBetween_65 ?_
          refine lv_iand hx hb dX5_sayingsBetween_66 ?_
          refine lv_istore (lv' := [(6, .int ((q11 &&& (v5_5 ^^^ (-1 : Int32))) &&& (q2 ^^^ (-1 : Int32)))), (5, .int (v5_5 ||| (q11 &&& (v5_5 ^^^ (-1 : Int32))))), (8, .int (q11 &&& (v5_5 ^^^ (-1 : Int32)))), (7, .int v7_3), (4, .int q2), (0, .ref (a0 0)), (2, .int p2)]) hx hb dX5_sayingsBetween_67 hl (by decide) rfl (fun ls hl => ?_)
          refine lv_iinc (v := (v7_3 + (1 : Int32))) (lv' := [(7, .int (v7_3 + (1 : Int32))), (6, .int ((q11 &&& (v5_5 ^^^ (-1 : Int32))) &&& (q2 ^^^ (-1 : Int32)))), (5, .int (v5_5 ||| (q11 &&& (v5_5 ^^^ (-1 : Int32))))), (8, .int (q11 &&& (v5_5 ^^^ (-1 : Int32)))), (4, .int q2), (0, .ref (a0 0)), (2, .int p2)]) hx hb dX5_sayingsBetween_69 hl (k := 3) rfl rfl (by decide) rfl (fun ls hl => ?_)
          refine lv_goto (tgt := 19) hx hb dX5_sayingsBetween_72 (by decide) ?_
          exact ih19 (v7_3 + (1 : Int32)) ((q11 &&& (v5_5 ^^^ (-1 : Int32))) &&& (q2 ^^^ (-1 : Int32))) (v5_5 ||| (q11 &&& (v5_5 ^^^ (-1 : Int32)))) hM _ (lv_sub hl [0, 1, 2, 4, 5, 6] rfl)
        · replace hM := itn c9 hM
          refine lv_iload hx hb dX5_sayingsBetween_37 (lv_at hl 0 rfl) ?_
          have hE := Option.some.inj hM
          have hM19' := hM19
          rw [← hE] at hM19'
          obtain rfl := eo_inl hM19'
          exact W.iret hx hb hr (fun t ht _ => ⟨rfl, ht⟩) (fun q hq => by cases hq) dX5_sayingsBetween_39
  exact hW19 300 (0 : Int32) ((1 : Int32) <<< (p1 &&& 31)) ((1 : Int32) <<< (p1 &&& 31)) hL19 _ (lv_sub hl [0, 1, 2, 3, 4, 6] rfl)
theorem hd_X5_settingOf : yX5_settingOf.cls = RX5 ∧ yX5_settingOf.cls ≠ "java/lang/invoke/MethodHandle" ∧ yX5_settingOf.cls ≠ "java/lang/invoke/VarHandle" ∧ (parseMethodDescriptor yX5_settingOf.desc).map (fun d => d.parameters.length) = some 1 := by decide +kernel
set_option maxHeartbeats 4000000 in
set_option maxRecDepth 100000 in
theorem c_X5_settingOf (l : Launch) (g : Gm) (a0 : Nat → Nat) (T0 : TS) (p1 : Int32) : MR l yX5_settingOf wsX5_settingOf 0 0 g [.ref (a0 0), .int p1] (wX5 g a0 T0) (some (.int (f_X5_settingOf T0 p1))) := by
  refine Met.ofW (cc := cX5_settingOf) (maxL := 2) (ret := (some .int)) (by decide) rfl ?_
  intro p e s m args below meth c s₁ B hml hv
  obtain ⟨rfl, hP, hK⟩ := hv
  have hx := B.exec; have hb := B.bytes; have hr := B.returns
  have hts := atoms_spec (ws := wsX5_settingOf) B.pre
  have hown : s.vm.findClass RX5 = some m.cls := findClass_of_methodNamed B.named
  have hlocks := B.notSynchronized
  have hS : CallFix p m c cX5_settingOf 2 s _ wsX5_settingOf RX5 := ⟨hx, hb, hml, hown, hts⟩
  have hin_X5 : ∀ w ∈ wsX50, w ∈ wsX5_settingOf := fun w h => (List.mem_cons_of_mem _ (List.mem_append_right _ h))
  have hl := lv_entry ([.ref (a0 0), .int p1]) (n := 2) (Nat.le_of_ble_eq_true rfl)
  rw [lg_entry_eq]
  generalize (lg_sl ([.ref (a0 0), .int p1]) ++ List.replicate (2 - (lg_sl ([.ref (a0 0), .int p1])).length) Slot.unset).toArray = ls at hl ⊢
  have hl : lv_has ls 2 [(0, .ref (a0 0)), (1, .int p1)] := hl
  obtain ⟨rr, hM⟩ : ∃ rr, f_X5_settingOf T0 p1 = rr := ⟨_, rfl⟩
  rw [hM]
  rw [f_X5_settingOf] at hM
  refine lv_iload_n hx hb dX5_settingOf_0 rfl (lv_at hl 1 rfl) ?_
  by_cases c1_0 : p1 = (0 : Int32)
  · replace hM := itp c1_0 hM
    refine lv_lookup (off := (27 : Int)) (tgt := 28) hx hb dX5_settingOf_1 (by decide) (by rw [c1_0]; first | done | decide) (by decide) ?_
    refine lv_aload_n hx hb dX5_settingOf_28 rfl (lv_at hl 0 rfl) ?_
    refine wk_get hx hb hts hin_X5 hown hK hP 5 0 2 (.int (T0 2 0)) rfl rfl (by decide) (mi 1 rfl) rfl rfl dX5_settingOf_29 ?_
    subst hM
    exact W.iret hx hb hr (fun t ht _ => ⟨rfl, ht⟩) (fun q hq => by cases hq) dX5_settingOf_32
  replace hM := itn c1_0 hM
  by_cases c1_1 : p1 = (1 : Int32)
  · replace hM := itp c1_1 hM
    refine lv_lookup (off := (32 : Int)) (tgt := 33) hx hb dX5_settingOf_1 (by decide) (by rw [c1_1]; first | done | decide) (by decide) ?_
    refine lv_aload_n hx hb dX5_settingOf_33 rfl (lv_at hl 0 rfl) ?_
    refine wk_get hx hb hts hin_X5 hown hK hP 5 0 3 (.int (T0 3 0)) rfl rfl (by decide) (mi 2 rfl) rfl rfl dX5_settingOf_34 ?_
    subst hM
    exact W.iret hx hb hr (fun t ht _ => ⟨rfl, ht⟩) (fun q hq => by cases hq) dX5_settingOf_37
  replace hM := itn c1_1 hM
  refine lv_lookup (off := (37 : Int)) (tgt := 38) hx hb dX5_settingOf_1 (by decide) (by show Op.lookupswitch.offset [(0, 27), (1, 32)] 37 _ = _; exact (lv_osw (a := 0) c1_0 (by decide)).trans ((lv_osw (a := 1) c1_1 (by decide)).trans (rfl))) (by decide) ?_
  refine lv_aload_n hx hb dX5_settingOf_38 rfl (lv_at hl 0 rfl) ?_
  refine wk_get hx hb hts hin_X5 hown hK hP 5 0 4 (.int (T0 4 0)) rfl rfl (by decide) (mi 3 rfl) rfl rfl dX5_settingOf_39 ?_
  subst hM
  exact W.iret hx hb hr (fun t ht _ => ⟨rfl, ht⟩) (fun q hq => by cases hq) dX5_settingOf_42
theorem hd_X5_showTo : yX5_showTo.cls = RX5 ∧ yX5_showTo.cls ≠ "java/lang/invoke/MethodHandle" ∧ yX5_showTo.cls ≠ "java/lang/invoke/VarHandle" ∧ (parseMethodDescriptor yX5_showTo.desc).map (fun d => d.parameters.length) = some 2 := by decide +kernel
set_option maxHeartbeats 4000000 in
set_option maxRecDepth 100000 in
theorem c_X5_showTo (l : Launch) (g : Gm) (a0 : Nat → Nat) (T0 : TS) (p1 : Int32) (p2 : Int32) {q : TS} (hM : f_X5_showTo T0 p1 p2 = some q) : MW l yX5_showTo wsX5_showTo 2 45 g [.ref (a0 0), .int p1, .int p2] (wX5 g a0 T0) none (wX5 g a0 q) := by
  intro sz
  refine Met.ofW (cc := cX5_showTo) (maxL := 4) (ret := none) (by decide) rfl ?_
  intro p e s m args below meth c s₁ B hml hv
  obtain ⟨rfl, hsz, hP, hK, hD0⟩ := hv
  have hx := B.exec; have hb := B.bytes; have hr := B.returns
  have hts := atoms_spec (ws := wsX5_showTo) B.pre
  have hown : s.vm.findClass RX5 = some m.cls := findClass_of_methodNamed B.named
  have hlocks := B.notSynchronized
  have hS : CallFix p m c cX5_showTo 4 s _ wsX5_showTo RX5 := ⟨hx, hb, hml, hown, hts⟩
  have hin_X5 : ∀ w ∈ wsX50, w ∈ wsX5_showTo := fun w h => (List.mem_cons_of_mem _ (List.mem_append_right _ h))
  subst hsz
  have hw := wk_start hP hD0
  have hA : ∀ q : Nat, s.heap.size ≤ q → va_A (wX5 g a0 T0) s.heap.size q := fun q h => Or.inr h
  generalize va_A (wX5 g a0 T0) s.heap.size = A at hw hA ⊢
  clear hP hD0
  have hl := lv_entry ([.ref (a0 0), .int p1, .int p2]) (n := 4) (Nat.le_of_ble_eq_true rfl)
  rw [lg_entry_eq]
  generalize (lg_sl ([.ref (a0 0), .int p1, .int p2]) ++ List.replicate (4 - (lg_sl ([.ref (a0 0), .int p1, .int p2])).length) Slot.unset).toArray = ls at hl ⊢
  have hl : lv_has ls 4 [(0, .ref (a0 0)), (1, .int p1), (2, .int p2)] := hl
  rw [f_X5_showTo] at hM
  refine lv_iconst (v := (0 : Int32)) hx hb dX5_showTo_0 (by decide) ?_
  refine lv_istore_n (lv' := [(3, .int (0 : Int32)), (0, .ref (a0 0)), (1, .int p1), (2, .int p2)]) hx hb dX5_showTo_1 rfl hl (by decide) rfl (fun ls hl => ?_)
  obtain ⟨q3, hL2, hM⟩ := bd hM
  have hJ2 : ∀ (H : Heap) (locs : List Loc), Wk g A s.heap H locs (wX5 g a0 q3) → ∀ (ls : Array Slot), lv_has ls 4 [] → W p l e (headSpec wsX5_showTo ({ frames := 2, cells := 0, slots := 0, locals := 45 } : Room)).room s m ([.ref (a0 0), .int p1, .int p2] : List Value).toArray below meth c H locs 0 0 (MQ below (QcW g none (wX5 g a0 q) A) ([.ref (a0 0), .int p1, .int p2] : List Value).toArray s 0 0 A) (F0 m 31 ls []) := by
    intro H locs hw ls hl
    obtain rfl := Option.some.inj hM
    exact W.vret hx hb hr (fun t ht _ => ⟨rfl, by rw [ht]; exact hw.1, hw.2.2.F ht⟩) hw.2.2.2.2 dX5_showTo_31
  have hW2 : ∀ (n : Nat) (v3_1 : Int32) (TL2 : TS), L_X5_showTo_2 p1 p2 n v3_1 TL2 = some q3 → ∀ (H : Heap) (locs : List Loc), Wk g A s.heap H locs (wX5 g a0 TL2) → ∀ (ls : Array Slot), lv_has ls 4 [(3, .int v3_1), (0, .ref (a0 0)), (1, .int p1), (2, .int p2)] → W p l e (headSpec wsX5_showTo ({ frames := 2, cells := 0, slots := 0, locals := 45 } : Room)).room s m ([.ref (a0 0), .int p1, .int p2] : List Value).toArray below meth c H locs 0 0 (MQ below (QcW g none (wX5 g a0 q) A) ([.ref (a0 0), .int p1, .int p2] : List Value).toArray s 0 0 A) (F0 m 2 ls []) := by
    intro n
    induction n with
    | zero => intro v3_1 TL2 hM; rw [L_X5_showTo_2] at hM; exact nn hM
    | succ n ih2 =>
      intro v3_1 TL2 hM H locs hw ls hl
      rw [L_X5_showTo_2] at hM
      refine lv_iload_n hx hb dX5_showTo_2 rfl (lv_at hl 0 rfl) ?_
      refine lv_aload_n hx hb dX5_showTo_3 rfl (lv_at hl 1 rfl) ?_
      refine wk_get hx hb hts hin_X5 hown hK hw.1 5 0 1 (.int (TL2 1 0)) rfl rfl (by decide) (mi 1 rfl) rfl rfl dX5_showTo_4 ?_
      refine lv_icmp_ge (tgt := 31) hx hb dX5_showTo_7 (by decide) (fun c4 => ?_) (fun c4 => ?_)
      · replace hM := itp c4 hM
        obtain rfl := Option.some.inj hM
        exact hJ2 _ _ hw _ (lv_sub hl [] rfl)
      · replace hM := itn c4 hM
        refine lv_iload_n hx hb dX5_showTo_10 rfl (lv_at hl 2 rfl) ?_
        refine lv_iload_n hx hb dX5_showTo_11 rfl (lv_at hl 0 rfl) ?_
        refine rNR (wc := ([] : va_W)) (As := [.int p1, .int v3_1]) (rest := []) hS (c_X6_has l g p1 v3_1) gX5_showTo_X6_has_n65 rfl (mi 2 rfl) (mi 3 rfl) 6 rfl hd_X6_has ⟨Nat.le_of_ble_eq_true rfl, Nat.le_of_ble_eq_true rfl⟩ hK (hP_nil) rfl hl.1 rfl (Nat.le_of_ble_eq_true rfl) dX5_showTo_12 ⟨Nat.zero_le _, Nat.zero_le _⟩ ?_
        refine lv_if_eq (tgt := 25) hx hb dX5_showTo_15 (by decide) (fun c6 => ?_) (fun c6 => ?_)
        · replace hM := itp c6 hM
          refine lv_iinc (v := (v3_1 + (1 : Int32))) (lv' := [(3, .int (v3_1 + (1 : Int32))), (0, .ref (a0 0)), (1, .int p1), (2, .int p2)]) hx hb dX5_showTo_25 hl (k := 0) rfl rfl (by decide) rfl (fun ls hl => ?_)
          refine lv_goto (tgt := 2) hx hb dX5_showTo_28 (by decide) ?_
          exact ih2 (v3_1 + (1 : Int32)) TL2 hM _ _ hw _ (lv_sub hl [0, 1, 2, 3] rfl)
        · replace hM := itn c6 hM
          refine lv_aload_n hx hb dX5_showTo_18 rfl (lv_at hl 1 rfl) ?_
          refine lv_iload_n hx hb dX5_showTo_19 rfl (lv_at hl 0 rfl) ?_
          refine lv_iload_n hx hb dX5_showTo_20 rfl (lv_at hl 3 rfl) ?_
          refine lv_iconst (v := (2 : Int32)) hx hb dX5_showTo_21 (by decide) ?_
          obtain ⟨q8, h7, hM⟩ := bd hM
          refine rVW (wc := (wX5 g a0 TL2)) (wq := (wX5 g a0 q8)) (As := [.int v3_1, .int p2, .int (2 : Int32)]) (rest := []) (q0 := 0) hS (c_X5_putSeen l g a0 TL2 v3_1 p2 (2 : Int32) h7) gX5_showTo_X5_putSeen rfl hd_X5_putSeen ⟨Nat.le_of_ble_eq_true rfl, Nat.le_of_ble_eq_true rfl⟩ hK hw hA [0, 1, 2, 3, 4, 5, 6, 7] rfl rfl rfl rfl rfl rfl rfl rfl hl.1 rfl (Nat.le_of_ble_eq_true rfl) dX5_showTo_22 ⟨Nat.zero_le _, Nat.zero_le _⟩ (fun H locs hw => ?_)
          refine lv_iinc (v := (v3_1 + (1 : Int32))) (lv' := [(3, .int (v3_1 + (1 : Int32))), (0, .ref (a0 0)), (1, .int p1), (2, .int p2)]) hx hb dX5_showTo_25 hl (k := 0) rfl rfl (by decide) rfl (fun ls hl => ?_)
          refine lv_goto (tgt := 2) hx hb dX5_showTo_28 (by decide) ?_
          exact ih2 (v3_1 + (1 : Int32)) q8 hM _ _ hw _ (lv_sub hl [0, 1, 2, 3] rfl)
  exact hW2 300 (0 : Int32) T0 hL2 _ _ hw _ (lv_sub hl [0, 1, 2, 3] rfl)
theorem hd_X5_whoIsUnheard : yX5_whoIsUnheard.cls = RX5 ∧ yX5_whoIsUnheard.cls ≠ "java/lang/invoke/MethodHandle" ∧ yX5_whoIsUnheard.cls ≠ "java/lang/invoke/VarHandle" ∧ (parseMethodDescriptor yX5_whoIsUnheard.desc).map (fun d => d.parameters.length) = some 0 := by decide +kernel
set_option maxHeartbeats 4000000 in
set_option maxRecDepth 100000 in
theorem c_X5_whoIsUnheard (l : Launch) (g : Gm) (a0 : Nat → Nat) (T0 : TS) {q : Int32} (hM : f_X5_whoIsUnheard T0 = some q) : MR l yX5_whoIsUnheard wsX5_whoIsUnheard 1 20 g [.ref (a0 0)] (wX5 g a0 T0) (some (.int q)) := by
  refine Met.ofW (cc := cX5_whoIsUnheard) (maxL := 3) (ret := (some .int)) (by decide) rfl ?_
  intro p e s m args below meth c s₁ B hml hv
  obtain ⟨rfl, hP, hK⟩ := hv
  have hx := B.exec; have hb := B.bytes; have hr := B.returns
  have hts := atoms_spec (ws := wsX5_whoIsUnheard) B.pre
  have hown : s.vm.findClass RX5 = some m.cls := findClass_of_methodNamed B.named
  have hlocks := B.notSynchronized
  have hS : CallFix p m c cX5_whoIsUnheard 3 s _ wsX5_whoIsUnheard RX5 := ⟨hx, hb, hml, hown, hts⟩
  have hin_X5 : ∀ w ∈ wsX50, w ∈ wsX5_whoIsUnheard := fun w h => (List.mem_cons_of_mem _ (List.mem_append_right _ h))
  have hl := lv_entry ([.ref (a0 0)]) (n := 3) (Nat.le_of_ble_eq_true rfl)
  rw [lg_entry_eq]
  generalize (lg_sl ([.ref (a0 0)]) ++ List.replicate (3 - (lg_sl ([.ref (a0 0)])).length) Slot.unset).toArray = ls at hl ⊢
  have hl : lv_has ls 3 [(0, .ref (a0 0))] := hl
  rw [f_X5_whoIsUnheard] at hM
  refine lv_iconst (v := (0 : Int32)) hx hb dX5_whoIsUnheard_0 (by decide) ?_
  refine lv_istore_n (lv' := [(1, .int (0 : Int32)), (0, .ref (a0 0))]) hx hb dX5_whoIsUnheard_1 rfl hl (by decide) rfl (fun ls hl => ?_)
  refine lv_iconst (v := (0 : Int32)) hx hb dX5_whoIsUnheard_2 (by decide) ?_
  refine lv_istore_n (lv' := [(2, .int (0 : Int32)), (1, .int (0 : Int32)), (0, .ref (a0 0))]) hx hb dX5_whoIsUnheard_3 rfl hl (by decide) rfl (fun ls hl => ?_)
  obtain ⟨q3, hL4, hM⟩ := bd hM
  have hJ4 : ∀ (ls : Array Slot), lv_has ls 3 [(1, .int q3), (0, .ref (a0 0))] → W p l e (headSpec wsX5_whoIsUnheard ({ frames := 1, cells := 0, slots := 0, locals := 20 } : Room)).room s m ([.ref (a0 0)] : List Value).toArray below meth c s.heap [] 0 0 (MQ below (QcR (some (.int q))) ([.ref (a0 0)] : List Value).toArray s 0 0 (fun _ => False)) (F0 m 27 ls []) := by
    intro ls hl
    refine lv_aload_n hx hb dX5_whoIsUnheard_27 rfl (lv_at hl 1 rfl) ?_
    refine rVR (wc := (wX5 g a0 T0)) (As := []) (rest := []) (q0 := 0) hS (c_X5_allPeople l g a0 T0) gX5_whoIsUnheard_X5_allPeople rfl hd_X5_allPeople ⟨Nat.le_of_ble_eq_true rfl, Nat.le_of_ble_eq_true rfl⟩ hK (hP_sub hP [0, 1, 2, 3, 4, 5, 6, 7] rfl) rfl rfl rfl rfl hl.1 rfl (Nat.le_of_ble_eq_true rfl) dX5_whoIsUnheard_28 ⟨Nat.zero_le _, Nat.zero_le _⟩ ?_
    refine lv_iload_n hx hb dX5_whoIsUnheard_31 rfl (lv_at hl 0 rfl) ?_
    refine lv_iconst (v := (-1 : Int32)) hx hb dX5_whoIsUnheard_32 (by decide) ?_
    refine lv_ixor hx hb dX5_whoIsUnheard_33 ?_
    refine lv_iand hx hb dX5_whoIsUnheard_34 ?_
    obtain rfl := Option.some.inj hM
    exact W.iret hx hb hr (fun t ht _ => ⟨rfl, ht⟩) (fun q hq => by cases hq) dX5_whoIsUnheard_35
  have hW4 : ∀ (n : Nat) (v2_1 : Int32) (v1_2 : Int32), L_X5_whoIsUnheard_4 T0 n v2_1 v1_2 = some q3 → ∀ (ls : Array Slot), lv_has ls 3 [(2, .int v2_1), (1, .int v1_2), (0, .ref (a0 0))] → W p l e (headSpec wsX5_whoIsUnheard ({ frames := 1, cells := 0, slots := 0, locals := 20 } : Room)).room s m ([.ref (a0 0)] : List Value).toArray below meth c s.heap [] 0 0 (MQ below (QcR (some (.int q))) ([.ref (a0 0)] : List Value).toArray s 0 0 (fun _ => False)) (F0 m 4 ls []) := by
    intro n
    induction n with
    | zero => intro v2_1 v1_2 hM; rw [L_X5_whoIsUnheard_4] at hM; exact nn hM
    | succ n ih4 =>
      intro v2_1 v1_2 hM ls hl
      rw [L_X5_whoIsUnheard_4] at hM
      refine lv_iload_n hx hb dX5_whoIsUnheard_4 rfl (lv_at hl 0 rfl) ?_
      refine lv_aload_n hx hb dX5_whoIsUnheard_5 rfl (lv_at hl 2 rfl) ?_
      refine wk_get hx hb hts hin_X5 hown hK hP 5 0 1 (.int (T0 1 0)) rfl rfl (by decide) (mi 1 rfl) rfl rfl dX5_whoIsUnheard_6 ?_
      refine lv_icmp_ge (tgt := 27) hx hb dX5_whoIsUnheard_9 (by decide) (fun c4 => ?_) (fun c4 => ?_)
      · replace hM := itp c4 hM
        obtain rfl := Option.some.inj hM
        exact hJ4 _ (lv_sub hl [1, 2] rfl)
      · replace hM := itn c4 hM
        refine lv_iload_n hx hb dX5_whoIsUnheard_12 rfl (lv_at hl 1 rfl) ?_
        refine lv_aload_n hx hb dX5_whoIsUnheard_13 rfl (lv_at hl 2 rfl) ?_
        refine wk_get hx hb hts hin_X5 hown hK hP 5 0 10 (.ref (a0 4)) rfl rfl (by decide) (mi 2 rfl) rfl rfl dX5_whoIsUnheard_14 ?_
        refine lv_iload_n hx hb dX5_whoIsUnheard_17 rfl (lv_at hl 0 rfl) ?_
        obtain ⟨k5, hM⟩ := ck hM
        refine wk_iald hx hb hK hP 4 7 (T0 10) rfl k5 dX5_whoIsUnheard_18 ?_
        refine lv_ior hx hb dX5_whoIsUnheard_19 ?_
        refine lv_istore_n (lv' := [(1, .int (v1_2 ||| ((T0 10) (v2_1).toNatClampNeg))), (2, .int v2_1), (0, .ref (a0 0))]) hx hb dX5_whoIsUnheard_20 rfl hl (by decide) rfl (fun ls hl => ?_)
        refine lv_iinc (v := (v2_1 + (1 : Int32))) (lv' := [(2, .int (v2_1 + (1 : Int32))), (1, .int (v1_2 ||| ((T0 10) (v2_1).toNatClampNeg))), (0, .ref (a0 0))]) hx hb dX5_whoIsUnheard_21 hl (k := 1) rfl rfl (by decide) rfl (fun ls hl => ?_)
        refine lv_goto (tgt := 4) hx hb dX5_whoIsUnheard_24 (by decide) ?_
        exact ih4 (v2_1 + (1 : Int32)) (v1_2 ||| ((T0 10) (v2_1).toNatClampNeg)) hM _ (lv_sub hl [0, 1, 2] rfl)
  exact hW4 300 (0 : Int32) (0 : Int32) hL4 _ (lv_sub hl [0, 1, 2] rfl)
theorem hd_X5_whoKnows : yX5_whoKnows.cls = RX5 ∧ yX5_whoKnows.cls ≠ "java/lang/invoke/MethodHandle" ∧ yX5_whoKnows.cls ≠ "java/lang/invoke/VarHandle" ∧ (parseMethodDescriptor yX5_whoKnows.desc).map (fun d => d.parameters.length) = some 1 := by decide +kernel
set_option maxHeartbeats 4000000 in
set_option maxRecDepth 100000 in
theorem c_X5_whoKnows (l : Launch) (g : Gm) (a0 : Nat → Nat) (T0 : TS) (p1 : Int32) {q : Int32} (hM : f_X5_whoKnows T0 p1 = some q) : MR l yX5_whoKnows wsX5_whoKnows 1 22 g [.ref (a0 0), .int p1] (wX5 g a0 T0) (some (.int q)) := by
  refine Met.ofW (cc := cX5_whoKnows) (maxL := 4) (ret := (some .int)) (by decide) rfl ?_
  intro p e s m args below meth c s₁ B hml hv
  obtain ⟨rfl, hP, hK⟩ := hv
  have hx := B.exec; have hb := B.bytes; have hr := B.returns
  have hts := atoms_spec (ws := wsX5_whoKnows) B.pre
  have hown : s.vm.findClass RX5 = some m.cls := findClass_of_methodNamed B.named
  have hlocks := B.notSynchronized
  have hS : CallFix p m c cX5_whoKnows 4 s _ wsX5_whoKnows RX5 := ⟨hx, hb, hml, hown, hts⟩
  have hin_X5 : ∀ w ∈ wsX50, w ∈ wsX5_whoKnows := fun w h => (List.mem_cons_of_mem _ (List.mem_append_right _ h))
  have hl := lv_entry ([.ref (a0 0), .int p1]) (n := 4) (Nat.le_of_ble_eq_true rfl)
  rw [lg_entry_eq]
  generalize (lg_sl ([.ref (a0 0), .int p1]) ++ List.replicate (4 - (lg_sl ([.ref (a0 0), .int p1])).length) Slot.unset).toArray = ls at hl ⊢
  have hl : lv_has ls 4 [(0, .ref (a0 0)), (1, .int p1)] := hl
  rw [f_X5_whoKnows] at hM
  refine lv_iconst (v := (0 : Int32)) hx hb dX5_whoKnows_0 (by decide) ?_
  refine lv_istore_n (lv' := [(2, .int (0 : Int32)), (0, .ref (a0 0)), (1, .int p1)]) hx hb dX5_whoKnows_1 rfl hl (by decide) rfl (fun ls hl => ?_)
  refine lv_iconst (v := (0 : Int32)) hx hb dX5_whoKnows_2 (by decide) ?_
  refine lv_istore_n (lv' := [(3, .int (0 : Int32)), (2, .int (0 : Int32)), (0, .ref (a0 0)), (1, .int p1)]) hx hb dX5_whoKnows_3 rfl hl (by decide) rfl (fun ls hl => ?_)
  obtain ⟨q3, hL4, hM⟩ := bd hM
  have hJ4 : ∀ (ls : Array Slot), lv_has ls 4 [(2, .int q3)] → W p l e (headSpec wsX5_whoKnows ({ frames := 1, cells := 0, slots := 0, locals := 22 } : Room)).room s m ([.ref (a0 0), .int p1] : List Value).toArray below meth c s.heap [] 0 0 (MQ below (QcR (some (.int q))) ([.ref (a0 0), .int p1] : List Value).toArray s 0 0 (fun _ => False)) (F0 m 33 ls []) := by
    intro ls hl
    refine lv_iload_n hx hb dX5_whoKnows_33 rfl (lv_at hl 0 rfl) ?_
    obtain rfl := Option.some.inj hM
    exact W.iret hx hb hr (fun t ht _ => ⟨rfl, ht⟩) (fun q hq => by cases hq) dX5_whoKnows_34
  have hW4 : ∀ (n : Nat) (v3_1 : Int32) (v2_2 : Int32), L_X5_whoKnows_4 T0 p1 n v3_1 v2_2 = some q3 → ∀ (ls : Array Slot), lv_has ls 4 [(3, .int v3_1), (2, .int v2_2), (0, .ref (a0 0)), (1, .int p1)] → W p l e (headSpec wsX5_whoKnows ({ frames := 1, cells := 0, slots := 0, locals := 22 } : Room)).room s m ([.ref (a0 0), .int p1] : List Value).toArray below meth c s.heap [] 0 0 (MQ below (QcR (some (.int q))) ([.ref (a0 0), .int p1] : List Value).toArray s 0 0 (fun _ => False)) (F0 m 4 ls []) := by
    intro n
    induction n with
    | zero => intro v3_1 v2_2 hM; rw [L_X5_whoKnows_4] at hM; exact nn hM
    | succ n ih4 =>
      intro v3_1 v2_2 hM ls hl
      rw [L_X5_whoKnows_4] at hM
      refine lv_iload_n hx hb dX5_whoKnows_4 rfl (lv_at hl 0 rfl) ?_
      refine lv_aload_n hx hb dX5_whoKnows_5 rfl (lv_at hl 2 rfl) ?_
      refine wk_get hx hb hts hin_X5 hown hK hP 5 0 1 (.int (T0 1 0)) rfl rfl (by decide) (mi 1 rfl) rfl rfl dX5_whoKnows_6 ?_
      refine lv_icmp_ge (tgt := 33) hx hb dX5_whoKnows_9 (by decide) (fun c4 => ?_) (fun c4 => ?_)
      · replace hM := itp c4 hM
        obtain rfl := Option.some.inj hM
        exact hJ4 _ (lv_sub hl [1] rfl)
      · replace hM := itn c4 hM
        refine lv_iload_n hx hb dX5_whoKnows_12 rfl (lv_at hl 1 rfl) ?_
        refine lv_iload_n hx hb dX5_whoKnows_13 rfl (lv_at hl 0 rfl) ?_
        refine lv_aload_n hx hb dX5_whoKnows_14 rfl (lv_at hl 2 rfl) ?_
        refine lv_iload_n hx hb dX5_whoKnows_15 rfl (lv_at hl 0 rfl) ?_
        obtain ⟨q6, h5, hM⟩ := bd hM
        refine rVR (wc := (wX5 g a0 T0)) (As := [.int v3_1]) (rest := [.int v3_1, .int v2_2]) (q0 := 0) hS (c_X5_knownTo l g a0 T0 v3_1 h5) gX5_whoKnows_X5_knownTo rfl hd_X5_knownTo ⟨Nat.le_of_ble_eq_true rfl, Nat.le_of_ble_eq_true rfl⟩ hK (hP_sub hP [0, 1, 2, 3, 4, 5, 6, 7] rfl) rfl rfl rfl rfl hl.1 rfl (Nat.le_of_ble_eq_true rfl) dX5_whoKnows_16 ⟨Nat.zero_le _, Nat.zero_le _⟩ ?_
        refine lv_iload_n hx hb dX5_whoKnows_19 rfl (lv_at hl 3 rfl) ?_
        refine rNR (wc := ([] : va_W)) (As := [.int q6, .int p1]) (rest := [.int v3_1, .int v2_2]) hS (c_X6_has l g q6 p1) gX5_whoKnows_X6_has_n65 rfl (mi 10 rfl) (mi 11 rfl) 6 rfl hd_X6_has ⟨Nat.le_of_ble_eq_true rfl, Nat.le_of_ble_eq_true rfl⟩ hK (hP_nil) rfl hl.1 rfl (Nat.le_of_ble_eq_true rfl) dX5_whoKnows_20 ⟨Nat.zero_le _, Nat.zero_le _⟩ ?_
        refine rNR (wc := ([] : va_W)) (As := [.int v2_2, .int v3_1, .int (f_X6_has q6 p1)]) (rest := []) hS (c_X6_with l g v2_2 v3_1 (f_X6_has q6 p1)) gX5_whoKnows_X6_with_n61 rfl (mi 13 rfl) (mi 11 rfl) 7 rfl hd_X6_with ⟨Nat.le_of_ble_eq_true rfl, Nat.le_of_ble_eq_true rfl⟩ hK (hP_nil) rfl hl.1 rfl (Nat.le_of_ble_eq_true rfl) dX5_whoKnows_23 ⟨Nat.zero_le _, Nat.zero_le _⟩ ?_
        refine lv_istore_n (lv' := [(2, .int (f_X6_with v2_2 v3_1 (f_X6_has q6 p1))), (3, .int v3_1), (0, .ref (a0 0)), (1, .int p1)]) hx hb dX5_whoKnows_26 rfl hl (by decide) rfl (fun ls hl => ?_)
        refine lv_iinc (v := (v3_1 + (1 : Int32))) (lv' := [(3, .int (v3_1 + (1 : Int32))), (2, .int (f_X6_with v2_2 v3_1 (f_X6_has q6 p1))), (0, .ref (a0 0)), (1, .int p1)]) hx hb dX5_whoKnows_27 hl (k := 1) rfl rfl (by decide) rfl (fun ls hl => ?_)
        refine lv_goto (tgt := 4) hx hb dX5_whoKnows_30 (by decide) ?_
        exact ih4 (v3_1 + (1 : Int32)) (f_X6_with v2_2 v3_1 (f_X6_has q6 p1)) hM _ (lv_sub hl [0, 1, 2, 3] rfl)
  exact hW4 300 (0 : Int32) (0 : Int32) hL4 _ (lv_sub hl [0, 1, 2, 3] rfl)
