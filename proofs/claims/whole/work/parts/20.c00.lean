theorem hd_X6_with : yX6_with.cls ≠ "java/lang/invoke/MethodHandle" ∧ yX6_with.cls ≠ "java/lang/invoke/VarHandle" ∧ (parseMethodDescriptor yX6_with.desc).map (fun d => d.parameters.length) = some 3 := by decide +kernel
set_option maxHeartbeats 4000000 in
set_option maxRecDepth 100000 in
theorem c_X6_with (l : Launch) (g : Gm) (p0 : Int32) (p1 : Int32) (p2 : Int32) : MR l yX6_with wsX6_with 0 0 g [.int p0, .int p1, .int p2] ([] : va_W) (some (.int (f_X6_with p0 p1 p2))) := by
  refine Met.ofW (cc := cX6_with) (maxL := 3) (ret := (some .int)) (by decide) rfl ?_
  intro p e s m args below meth c s₁ B hml hv
  obtain ⟨rfl, hP, hK⟩ := hv
  have hx := B.exec; have hb := B.bytes; have hr := B.returns
  have hts := atoms_spec (ws := wsX6_with) B.pre
  have hown : s.vm.findClass RX6 = some m.cls := findClass_of_methodNamed B.named
  have hlocks := B.notSynchronized
  have hS : CallFix p m c cX6_with 3 s _ wsX6_with RX6 := ⟨hx, hb, hml, hown, hts⟩
  have hl := lv_entry ([.int p0, .int p1, .int p2]) (n := 3) (Nat.le_of_ble_eq_true rfl)
  rw [lg_entry_eq]
  generalize (lg_sl ([.int p0, .int p1, .int p2]) ++ List.replicate (3 - (lg_sl ([.int p0, .int p1, .int p2])).length) Slot.unset).toArray = ls at hl ⊢
  have hl : lv_has ls 3 [(0, .int p0), (1, .int p1), (2, .int p2)] := hl
  obtain ⟨rr, hM⟩ : ∃ rr, f_X6_with p0 p1 p2 = rr := ⟨_, rfl⟩
  rw [hM]
  rw [f_X6_with] at hM
  refine lv_iload_n hx hb dX6_with_0 rfl (lv_at hl 2 rfl) ?_
  have hJ7 : ∀ (x6 : Int32) (ls : Array Slot), x6 = (if p2 = 0 then (p0 &&& (((1 : Int32) <<< (p1 &&& 31)) ^^^ (-1 : Int32))) else (p0 ||| ((1 : Int32) <<< (p1 &&& 31)))) → lv_has ls 3 [] → W p l e (headSpec wsX6_with ({ frames := 0, cells := 0, slots := 0, locals := 0 } : Room)).room s m ([.int p0, .int p1, .int p2] : List Value).toArray below meth c s.heap [] 0 0 (MQ below (QcR (some (.int rr))) ([.int p0, .int p1, .int p2] : List Value).toArray s 0 0 (fun _ => False)) (F0 m 19 ls [.int x6]) := by
    intro x6 ls hxx6 hl
    subst hxx6
    subst hM
    exact W.iret hx hb hr (fun t ht _ => ⟨rfl, ht⟩) (fun q hq => by cases hq) dX6_with_19
  refine lv_if_eq (tgt := 12) hx hb dX6_with_1 (by decide) (fun c1 => ?_) (fun c1 => ?_)
  · refine lv_iload_n hx hb dX6_with_12 rfl (lv_at hl 0 rfl) ?_
    refine lv_iconst (v := (1 : Int32)) hx hb dX6_with_13 (by decide) ?_
    refine lv_iload_n hx hb dX6_with_14 rfl (lv_at hl 1 rfl) ?_
    refine lv_ishl hx hb dX6_with_15 ?_
    refine lv_iconst (v := (-1 : Int32)) hx hb dX6_with_16 (by decide) ?_
    refine lv_ixor hx hb dX6_with_17 ?_
    refine lv_iand hx hb dX6_with_18 ?_
    exact hJ7 _ _ (by first | rfl | (simp only [if_pos c1])) (lv_sub hl [] rfl)
  · refine lv_iload_n hx hb dX6_with_4 rfl (lv_at hl 0 rfl) ?_
    refine lv_iconst (v := (1 : Int32)) hx hb dX6_with_5 (by decide) ?_
    refine lv_iload_n hx hb dX6_with_6 rfl (lv_at hl 1 rfl) ?_
    refine lv_ishl hx hb dX6_with_7 ?_
    refine lv_ior hx hb dX6_with_8 ?_
    refine lv_goto (tgt := 19) hx hb dX6_with_9 (by decide) ?_
    exact hJ7 _ _ (by first | rfl | (simp only [if_neg c1])) (lv_sub hl [] rfl)
theorem hd_X5_allBlind : yX5_allBlind.cls = RX5 ∧ yX5_allBlind.cls ≠ "java/lang/invoke/MethodHandle" ∧ yX5_allBlind.cls ≠ "java/lang/invoke/VarHandle" ∧ (parseMethodDescriptor yX5_allBlind.desc).map (fun d => d.parameters.length) = some 0 := by decide +kernel
set_option maxHeartbeats 4000000 in
set_option maxRecDepth 100000 in
theorem c_X5_allBlind (l : Launch) (g : Gm) (a0 : Nat → Nat) (T0 : TS) {q : Int32} (hM : f_X5_allBlind T0 = some q) : MR l yX5_allBlind wsX5_allBlind 1 22 g [.ref (a0 0)] (wX5 g a0 T0) (some (.int q)) := by
  refine Met.ofW (cc := cX5_allBlind) (maxL := 3) (ret := (some .int)) (by decide) rfl ?_
  intro p e s m args below meth c s₁ B hml hv
  obtain ⟨rfl, hP, hK⟩ := hv
  have hx := B.exec; have hb := B.bytes; have hr := B.returns
  have hts := atoms_spec (ws := wsX5_allBlind) B.pre
  have hown : s.vm.findClass RX5 = some m.cls := findClass_of_methodNamed B.named
  have hlocks := B.notSynchronized
  have hS : CallFix p m c cX5_allBlind 3 s _ wsX5_allBlind RX5 := ⟨hx, hb, hml, hown, hts⟩
  have hin_X5 : ∀ w ∈ wsX50, w ∈ wsX5_allBlind := fun w h => (List.mem_cons_of_mem _ (List.mem_append_right _ h))
  have hl := lv_entry ([.ref (a0 0)]) (n := 3) (Nat.le_of_ble_eq_true rfl)
  rw [lg_entry_eq]
  generalize (lg_sl ([.ref (a0 0)]) ++ List.replicate (3 - (lg_sl ([.ref (a0 0)])).length) Slot.unset).toArray = ls at hl ⊢
  have hl : lv_has ls 3 [(0, .ref (a0 0))] := hl
  rw [f_X5_allBlind] at hM
  refine lv_iconst (v := (0 : Int32)) hx hb dX5_allBlind_0 (by decide) ?_
  refine lv_istore_n (lv' := [(1, .int (0 : Int32)), (0, .ref (a0 0))]) hx hb dX5_allBlind_1 rfl hl (by decide) rfl (fun ls hl => ?_)
  refine lv_iconst (v := (0 : Int32)) hx hb dX5_allBlind_2 (by decide) ?_
  refine lv_istore_n (lv' := [(2, .int (0 : Int32)), (1, .int (0 : Int32)), (0, .ref (a0 0))]) hx hb dX5_allBlind_3 rfl hl (by decide) rfl (fun ls hl => ?_)
  obtain ⟨q3, hL4, hM⟩ := bd hM
  have hJ4 : ∀ (ls : Array Slot), lv_has ls 3 [(1, .int q3)] → W p l e (headSpec wsX5_allBlind ({ frames := 1, cells := 0, slots := 0, locals := 22 } : Room)).room s m ([.ref (a0 0)] : List Value).toArray below meth c s.heap [] 0 0 (MQ below (QcR (some (.int q))) ([.ref (a0 0)] : List Value).toArray s 0 0 (fun _ => False)) (F0 m 39 ls []) := by
    intro ls hl
    refine lv_iload_n hx hb dX5_allBlind_39 rfl (lv_at hl 0 rfl) ?_
    obtain rfl := Option.some.inj hM
    exact W.iret hx hb hr (fun t ht _ => ⟨rfl, ht⟩) (fun q hq => by cases hq) dX5_allBlind_40
  have hW4 : ∀ (n : Nat) (v2_1 : Int32) (v1_2 : Int32), L_X5_allBlind_4 T0 n v2_1 v1_2 = some q3 → ∀ (ls : Array Slot), lv_has ls 3 [(2, .int v2_1), (1, .int v1_2), (0, .ref (a0 0))] → W p l e (headSpec wsX5_allBlind ({ frames := 1, cells := 0, slots := 0, locals := 22 } : Room)).room s m ([.ref (a0 0)] : List Value).toArray below meth c s.heap [] 0 0 (MQ below (QcR (some (.int q))) ([.ref (a0 0)] : List Value).toArray s 0 0 (fun _ => False)) (F0 m 4 ls []) := by
    intro n
    induction n with
    | zero => intro v2_1 v1_2 hM; rw [L_X5_allBlind_4] at hM; exact nn hM
    | succ n ih4 =>
      intro v2_1 v1_2 hM ls hl
      rw [L_X5_allBlind_4] at hM
      refine lv_iload_n hx hb dX5_allBlind_4 rfl (lv_at hl 0 rfl) ?_
      refine lv_aload_n hx hb dX5_allBlind_5 rfl (lv_at hl 2 rfl) ?_
      refine wk_get hx hb hts hin_X5 hown hK hP 5 0 1 (.int (T0 1 0)) rfl rfl (by decide) (mi 1 rfl) rfl rfl dX5_allBlind_6 ?_
      refine lv_icmp_ge (tgt := 39) hx hb dX5_allBlind_9 (by decide) (fun c4 => ?_) (fun c4 => ?_)
      · replace hM := itp c4 hM
        obtain rfl := Option.some.inj hM
        exact hJ4 _ (lv_sub hl [1] rfl)
      · replace hM := itn c4 hM
        refine lv_iload_n hx hb dX5_allBlind_12 rfl (lv_at hl 1 rfl) ?_
        refine lv_iload_n hx hb dX5_allBlind_13 rfl (lv_at hl 0 rfl) ?_
        refine lv_aload_n hx hb dX5_allBlind_14 rfl (lv_at hl 2 rfl) ?_
        refine wk_get hx hb hts hin_X5 hown hK hP 5 0 11 (.ref (a0 5)) rfl rfl (by decide) (mi 2 rfl) rfl rfl dX5_allBlind_15 ?_
        refine lv_iload_n hx hb dX5_allBlind_18 rfl (lv_at hl 0 rfl) ?_
        obtain ⟨k5, hM⟩ := ck hM
        refine wk_iald hx hb hK hP 5 7 (T0 11) rfl k5 dX5_allBlind_19 ?_
        refine lv_iconst (v := (4 : Int32)) hx hb dX5_allBlind_20 (by decide) ?_
        have hJ13 : ∀ (x12 : Int32) (ls : Array Slot), x12 = (if ((T0 11) (v2_1).toNatClampNeg) = (4 : Int32) then (1 : Int32) else (0 : Int32)) → lv_has ls 3 [(2, .int v2_1), (0, .ref (a0 0))] → W p l e (headSpec wsX5_allBlind ({ frames := 1, cells := 0, slots := 0, locals := 22 } : Room)).room s m ([.ref (a0 0)] : List Value).toArray below meth c s.heap [] 0 0 (MQ below (QcR (some (.int q))) ([.ref (a0 0)] : List Value).toArray s 0 0 (fun _ => False)) (F0 m 29 ls [.int x12, .int v2_1, .int v1_2]) := by
          intro x12 ls hxx12 hl
          subst hxx12
          refine rNR (wc := ([] : va_W)) (As := [.int v1_2, .int v2_1, .int (if ((T0 11) (v2_1).toNatClampNeg) = (4 : Int32) then (1 : Int32) else (0 : Int32))]) (rest := []) hS (c_X6_with l g v1_2 v2_1 (if ((T0 11) (v2_1).toNatClampNeg) = (4 : Int32) then (1 : Int32) else (0 : Int32))) gX5_allBlind_X6_with_n61 rfl (mi 3 rfl) (mi 4 rfl) 7 rfl hd_X6_with ⟨Nat.le_of_ble_eq_true rfl, Nat.le_of_ble_eq_true rfl⟩ hK (hP_nil) rfl hl.1 rfl (Nat.le_of_ble_eq_true rfl) dX5_allBlind_29 ⟨Nat.zero_le _, Nat.zero_le _⟩ ?_
          refine lv_istore_n (lv' := [(1, .int (f_X6_with v1_2 v2_1 (if ((T0 11) (v2_1).toNatClampNeg) = (4 : Int32) then (1 : Int32) else (0 : Int32)))), (2, .int v2_1), (0, .ref (a0 0))]) hx hb dX5_allBlind_32 rfl hl (by decide) rfl (fun ls hl => ?_)
          refine lv_iinc (v := (v2_1 + (1 : Int32))) (lv' := [(2, .int (v2_1 + (1 : Int32))), (1, .int (f_X6_with v1_2 v2_1 (if ((T0 11) (v2_1).toNatClampNeg) = (4 : Int32) then (1 : Int32) else (0 : Int32)))), (0, .ref (a0 0))]) hx hb dX5_allBlind_33 hl (k := 1) rfl rfl (by decide) rfl (fun ls hl => ?_)
          refine lv_goto (tgt := 4) hx hb dX5_allBlind_36 (by decide) ?_
          exact ih4 (v2_1 + (1 : Int32)) (f_X6_with v1_2 v2_1 (if ((T0 11) (v2_1).toNatClampNeg) = (4 : Int32) then (1 : Int32) else (0 : Int32))) hM _ (lv_sub hl [0, 1, 2] rfl)
        refine lv_icmp_ne (tgt := 28) hx hb dX5_allBlind_21 (by decide) (fun c6 => ?_) (fun c6 => ?_)
        · refine lv_iconst (v := (0 : Int32)) hx hb dX5_allBlind_28 (by decide) ?_
          exact hJ13 _ _ (by first | rfl | (simp only [if_neg c6])) (lv_sub hl [0, 2] rfl)
        · refine lv_iconst (v := (1 : Int32)) hx hb dX5_allBlind_24 (by decide) ?_
          refine lv_goto (tgt := 29) hx hb dX5_allBlind_25 (by decide) ?_
          exact hJ13 _ _ (by first | rfl | (simp only [if_pos c6])) (lv_sub hl [0, 2] rfl)
  exact hW4 300 (0 : Int32) (0 : Int32) hL4 _ (lv_sub hl [0, 1, 2] rfl)
theorem hd_X5_allPeople : yX5_allPeople.cls = RX5 ∧ yX5_allPeople.cls ≠ "java/lang/invoke/MethodHandle" ∧ yX5_allPeople.cls ≠ "java/lang/invoke/VarHandle" ∧ (parseMethodDescriptor yX5_allPeople.desc).map (fun d => d.parameters.length) = some 0 := by decide +kernel
set_option maxHeartbeats 4000000 in
set_option maxRecDepth 100000 in
theorem c_X5_allPeople (l : Launch) (g : Gm) (a0 : Nat → Nat) (T0 : TS) : MR l yX5_allPeople wsX5_allPeople 0 0 g [.ref (a0 0)] (wX5 g a0 T0) (some (.int (f_X5_allPeople T0))) := by
  refine Met.ofW (cc := cX5_allPeople) (maxL := 1) (ret := (some .int)) (by decide) rfl ?_
  intro p e s m args below meth c s₁ B hml hv
  obtain ⟨rfl, hP, hK⟩ := hv
  have hx := B.exec; have hb := B.bytes; have hr := B.returns
  have hts := atoms_spec (ws := wsX5_allPeople) B.pre
  have hown : s.vm.findClass RX5 = some m.cls := findClass_of_methodNamed B.named
  have hlocks := B.notSynchronized
  have hS : CallFix p m c cX5_allPeople 1 s _ wsX5_allPeople RX5 := ⟨hx, hb, hml, hown, hts⟩
  have hin_X5 : ∀ w ∈ wsX50, w ∈ wsX5_allPeople := fun w h => (List.mem_cons_of_mem _ (List.mem_append_right _ h))
  have hl := lv_entry ([.ref (a0 0)]) (n := 1) (Nat.le_of_ble_eq_true rfl)
  rw [lg_entry_eq]
  generalize (lg_sl ([.ref (a0 0)]) ++ List.replicate (1 - (lg_sl ([.ref (a0 0)])).length) Slot.unset).toArray = ls at hl ⊢
  have hl : lv_has ls 1 [(0, .ref (a0 0))] := hl
  obtain ⟨rr, hM⟩ : ∃ rr, f_X5_allPeople T0 = rr := ⟨_, rfl⟩
  rw [hM]
  rw [f_X5_allPeople] at hM
  refine lv_iconst (v := (1 : Int32)) hx hb dX5_allPeople_0 (by decide) ?_
  refine lv_aload_n hx hb dX5_allPeople_1 rfl (lv_at hl 0 rfl) ?_
  refine wk_get hx hb hts hin_X5 hown hK hP 5 0 1 (.int (T0 1 0)) rfl rfl (by decide) (mi 1 rfl) rfl rfl dX5_allPeople_2 ?_
  refine lv_ishl hx hb dX5_allPeople_5 ?_
  refine lv_iconst (v := (1 : Int32)) hx hb dX5_allPeople_6 (by decide) ?_
  refine lv_isub hx hb dX5_allPeople_7 ?_
  subst hM
  exact W.iret hx hb hr (fun t ht _ => ⟨rfl, ht⟩) (fun q hq => by cases hq) dX5_allPeople_8
theorem hd_X5_allSights : yX5_allSights.cls = RX5 ∧ yX5_allSights.cls ≠ "java/lang/invoke/MethodHandle" ∧ yX5_allSights.cls ≠ "java/lang/invoke/VarHandle" ∧ (parseMethodDescriptor yX5_allSights.desc).map (fun d => d.parameters.length) = some 0 := by decide +kernel
set_option maxHeartbeats 4000000 in
set_option maxRecDepth 100000 in
theorem c_X5_allSights (l : Launch) (g : Gm) (a0 : Nat → Nat) (T0 : TS) : MR l yX5_allSights wsX5_allSights 0 0 g [.ref (a0 0)] (wX5 g a0 T0) (some (.int (f_X5_allSights T0))) := by
  refine Met.ofW (cc := cX5_allSights) (maxL := 1) (ret := (some .int)) (by decide) rfl ?_
  intro p e s m args below meth c s₁ B hml hv
  obtain ⟨rfl, hP, hK⟩ := hv
  have hx := B.exec; have hb := B.bytes; have hr := B.returns
  have hts := atoms_spec (ws := wsX5_allSights) B.pre
  have hown : s.vm.findClass RX5 = some m.cls := findClass_of_methodNamed B.named
  have hlocks := B.notSynchronized
  have hS : CallFix p m c cX5_allSights 1 s _ wsX5_allSights RX5 := ⟨hx, hb, hml, hown, hts⟩
  have hin_X5 : ∀ w ∈ wsX50, w ∈ wsX5_allSights := fun w h => (List.mem_cons_of_mem _ (List.mem_append_right _ h))
  have hl := lv_entry ([.ref (a0 0)]) (n := 1) (Nat.le_of_ble_eq_true rfl)
  rw [lg_entry_eq]
  generalize (lg_sl ([.ref (a0 0)]) ++ List.replicate (1 - (lg_sl ([.ref (a0 0)])).length) Slot.unset).toArray = ls at hl ⊢
  have hl : lv_has ls 1 [(0, .ref (a0 0))] := hl
  obtain ⟨rr, hM⟩ : ∃ rr, f_X5_allSights T0 = rr := ⟨_, rfl⟩
  rw [hM]
  rw [f_X5_allSights] at hM
  refine lv_iconst (v := (1 : Int32)) hx hb dX5_allSights_0 (by decide) ?_
  refine lv_aload_n hx hb dX5_allSights_1 rfl (lv_at hl 0 rfl) ?_
  refine wk_get hx hb hts hin_X5 hown hK hP 5 0 0 (.int (T0 0 0)) rfl rfl (by decide) (mi 1 rfl) rfl rfl dX5_allSights_2 ?_
  refine lv_ishl hx hb dX5_allSights_5 ?_
  refine lv_iconst (v := (1 : Int32)) hx hb dX5_allSights_6 (by decide) ?_
  refine lv_isub hx hb dX5_allSights_7 ?_
  subst hM
  exact W.iret hx hb hr (fun t ht _ => ⟨rfl, ht⟩) (fun q hq => by cases hq) dX5_allSights_8
theorem hd_X5_barredTo : yX5_barredTo.cls = RX5 ∧ yX5_barredTo.cls ≠ "java/lang/invoke/MethodHandle" ∧ yX5_barredTo.cls ≠ "java/lang/invoke/VarHandle" ∧ (parseMethodDescriptor yX5_barredTo.desc).map (fun d => d.parameters.length) = some 1 := by decide +kernel
set_option maxHeartbeats 4000000 in
set_option maxRecDepth 100000 in
theorem c_X5_barredTo (l : Launch) (g : Gm) (a0 : Nat → Nat) (T0 : TS) (p1 : Int32) {q : Int32} (hM : f_X5_barredTo T0 p1 = some q) : MR l yX5_barredTo wsX5_barredTo 0 0 g [.ref (a0 0), .int p1] (wX5 g a0 T0) (some (.int q)) := by
  refine Met.ofW (cc := cX5_barredTo) (maxL := 2) (ret := (some .int)) (by decide) rfl ?_
  intro p e s m args below meth c s₁ B hml hv
  obtain ⟨rfl, hP, hK⟩ := hv
  have hx := B.exec; have hb := B.bytes; have hr := B.returns
  have hts := atoms_spec (ws := wsX5_barredTo) B.pre
  have hown : s.vm.findClass RX5 = some m.cls := findClass_of_methodNamed B.named
  have hlocks := B.notSynchronized
  have hS : CallFix p m c cX5_barredTo 2 s _ wsX5_barredTo RX5 := ⟨hx, hb, hml, hown, hts⟩
  have hin_X5 : ∀ w ∈ wsX50, w ∈ wsX5_barredTo := fun w h => (List.mem_cons_of_mem _ (List.mem_append_right _ h))
  have hl := lv_entry ([.ref (a0 0), .int p1]) (n := 2) (Nat.le_of_ble_eq_true rfl)
  rw [lg_entry_eq]
  generalize (lg_sl ([.ref (a0 0), .int p1]) ++ List.replicate (2 - (lg_sl ([.ref (a0 0), .int p1])).length) Slot.unset).toArray = ls at hl ⊢
  have hl : lv_has ls 2 [(0, .ref (a0 0)), (1, .int p1)] := hl
  rw [f_X5_barredTo] at hM
  refine lv_aload_n hx hb dX5_barredTo_0 rfl (lv_at hl 0 rfl) ?_
  refine wk_get hx hb hts hin_X5 hown hK hP 5 0 2 (.int (T0 2 0)) rfl rfl (by decide) (mi 1 rfl) rfl rfl dX5_barredTo_1 ?_
  refine lv_iconst (v := (1 : Int32)) hx hb dX5_barredTo_4 (by decide) ?_
  refine lv_icmp_ne (tgt := 24) hx hb dX5_barredTo_5 (by decide) (fun c1 => ?_) (fun c1 => ?_)
  · replace hM := itn c1 hM
    refine lv_aload_n hx hb dX5_barredTo_24 rfl (lv_at hl 0 rfl) ?_
    refine wk_get hx hb hts hin_X5 hown hK hP 5 0 7 (.ref (a0 1)) rfl rfl (by decide) (mi 2 rfl) rfl rfl dX5_barredTo_25 ?_
    refine lv_iload_n hx hb dX5_barredTo_28 rfl (lv_at hl 1 rfl) ?_
    obtain ⟨k3, hM⟩ := ck hM
    refine wk_iald hx hb hK hP 1 7 (T0 7) rfl k3 dX5_barredTo_29 ?_
    obtain rfl := Option.some.inj hM
    exact W.iret hx hb hr (fun t ht _ => ⟨rfl, ht⟩) (fun q hq => by cases hq) dX5_barredTo_30
  · replace hM := itp c1 hM
    refine lv_aload_n hx hb dX5_barredTo_8 rfl (lv_at hl 0 rfl) ?_
    refine wk_get hx hb hts hin_X5 hown hK hP 5 0 7 (.ref (a0 1)) rfl rfl (by decide) (mi 2 rfl) rfl rfl dX5_barredTo_9 ?_
    refine lv_iload_n hx hb dX5_barredTo_12 rfl (lv_at hl 1 rfl) ?_
    obtain ⟨k2, hM⟩ := ck hM
    refine wk_iald hx hb hK hP 1 7 (T0 7) rfl k2 dX5_barredTo_13 ?_
    refine lv_aload_n hx hb dX5_barredTo_14 rfl (lv_at hl 0 rfl) ?_
    refine wk_get hx hb hts hin_X5 hown hK hP 5 0 8 (.ref (a0 2)) rfl rfl (by decide) (mi 3 rfl) rfl rfl dX5_barredTo_15 ?_
    refine lv_iload_n hx hb dX5_barredTo_18 rfl (lv_at hl 1 rfl) ?_
    refine wk_iald hx hb hK hP 2 7 (T0 8) rfl k2 dX5_barredTo_19 ?_
    refine lv_ior hx hb dX5_barredTo_20 ?_
    refine lv_goto (tgt := 30) hx hb dX5_barredTo_21 (by decide) ?_
    obtain rfl := Option.some.inj hM
    exact W.iret hx hb hr (fun t ht _ => ⟨rfl, ht⟩) (fun q hq => by cases hq) dX5_barredTo_30
theorem hd_X5_become : yX5_become.cls = RX5 ∧ yX5_become.cls ≠ "java/lang/invoke/MethodHandle" ∧ yX5_become.cls ≠ "java/lang/invoke/VarHandle" ∧ (parseMethodDescriptor yX5_become.desc).map (fun d => d.parameters.length) = some 1 := by decide +kernel
set_option maxHeartbeats 4000000 in
set_option maxRecDepth 100000 in
theorem c_X5_become (l : Launch) (g : Gm) (a0 : Nat → Nat) (a1 : Nat → Nat) (T0 : TS) (T1 : TS) {q : TS} (hM : f_X5_become T0 T1 = some q) : MW l yX5_become wsX5_become 1 80 g [.ref (a0 0), .ref (a1 0)] ((wX5 g a0 T0) ++ (wX5 g a1 T1)) none ((wX5 g a0 q) ++ (wX5 g a1 T1)) := by
  intro sz
  refine Met.ofW (cc := cX5_become) (maxL := 2) (ret := none) (by decide) rfl ?_
  intro p e s m args below meth c s₁ B hml hv
  obtain ⟨rfl, hsz, hP, hK, hD0⟩ := hv
  have hx := B.exec; have hb := B.bytes; have hr := B.returns
  have hts := atoms_spec (ws := wsX5_become) B.pre
  have hown : s.vm.findClass RX5 = some m.cls := findClass_of_methodNamed B.named
  have hlocks := B.notSynchronized
  have hS : CallFix p m c cX5_become 2 s _ wsX5_become RX5 := ⟨hx, hb, hml, hown, hts⟩
  have hin_X5 : ∀ w ∈ wsX50, w ∈ wsX5_become := fun w h => (List.mem_cons_of_mem _ (List.mem_append_right _ h))
  subst hsz
  have hw := wk_start hP hD0
  have hA : ∀ q : Nat, s.heap.size ≤ q → va_A ((wX5 g a0 T0) ++ (wX5 g a1 T1)) s.heap.size q := fun q h => Or.inr h
  generalize va_A ((wX5 g a0 T0) ++ (wX5 g a1 T1)) s.heap.size = A at hw hA ⊢
  clear hP hD0
  have hl := lv_entry ([.ref (a0 0), .ref (a1 0)]) (n := 2) (Nat.le_of_ble_eq_true rfl)
  rw [lg_entry_eq]
  generalize (lg_sl ([.ref (a0 0), .ref (a1 0)]) ++ List.replicate (2 - (lg_sl ([.ref (a0 0), .ref (a1 0)])).length) Slot.unset).toArray = ls at hl ⊢
  have hl : lv_has ls 2 [(0, .ref (a0 0)), (1, .ref (a1 0))] := hl
  rw [f_X5_become] at hM
  refine lv_aload_n hx hb dX5_become_0 rfl (lv_at hl 0 rfl) ?_
  refine lv_aload_n hx hb dX5_become_1 rfl (lv_at hl 1 rfl) ?_
  refine wk_get hx hb hts hin_X5 hown hK hw.1 5 8 0 (.int (T1 0 0)) rfl rfl (by decide) (mi 1 rfl) rfl rfl dX5_become_2 ?_
  refine wk_put (wq := ((wX5 g a0 (up T0 0 (fun _ => (T1 0 0)))) ++ (wX5 g a1 T1))) hx hb hts hin_X5 tyX5 tyX5_ok nmX5 hown hK hw 5 0 0 rfl rfl (by decide) (mi 1 rfl) rfl rfl rfl rfl (Nat.le_of_ble_eq_true rfl) dX5_become_5 rfl (fun H locs hw => ?_)
  refine lv_aload_n hx hb dX5_become_8 rfl (lv_at hl 0 rfl) ?_
  refine lv_aload_n hx hb dX5_become_9 rfl (lv_at hl 1 rfl) ?_
  refine wk_get hx hb hts hin_X5 hown hK hw.1 5 8 1 (.int (T1 1 0)) rfl rfl (by decide) (mi 2 rfl) rfl rfl dX5_become_10 ?_
  refine wk_put (wq := ((wX5 g a0 (up (up T0 0 (fun _ => (T1 0 0))) 1 (fun _ => (T1 1 0)))) ++ (wX5 g a1 T1))) hx hb hts hin_X5 tyX5 tyX5_ok nmX5 hown hK hw 5 0 1 rfl rfl (by decide) (mi 2 rfl) rfl rfl rfl rfl (Nat.le_of_ble_eq_true rfl) dX5_become_13 rfl (fun H locs hw => ?_)
  refine lv_aload_n hx hb dX5_become_16 rfl (lv_at hl 0 rfl) ?_
  refine lv_aload_n hx hb dX5_become_17 rfl (lv_at hl 1 rfl) ?_
  refine wk_get hx hb hts hin_X5 hown hK hw.1 5 8 2 (.int (T1 2 0)) rfl rfl (by decide) (mi 3 rfl) rfl rfl dX5_become_18 ?_
  refine wk_put (wq := ((wX5 g a0 (up (up (up T0 0 (fun _ => (T1 0 0))) 1 (fun _ => (T1 1 0))) 2 (fun _ => (T1 2 0)))) ++ (wX5 g a1 T1))) hx hb hts hin_X5 tyX5 tyX5_ok nmX5 hown hK hw 5 0 2 rfl rfl (by decide) (mi 3 rfl) rfl rfl rfl rfl (Nat.le_of_ble_eq_true rfl) dX5_become_21 rfl (fun H locs hw => ?_)
  refine lv_aload_n hx hb dX5_become_24 rfl (lv_at hl 0 rfl) ?_
  refine lv_aload_n hx hb dX5_become_25 rfl (lv_at hl 1 rfl) ?_
  refine wk_get hx hb hts hin_X5 hown hK hw.1 5 8 3 (.int (T1 3 0)) rfl rfl (by decide) (mi 4 rfl) rfl rfl dX5_become_26 ?_
  refine wk_put (wq := ((wX5 g a0 (up (up (up (up T0 0 (fun _ => (T1 0 0))) 1 (fun _ => (T1 1 0))) 2 (fun _ => (T1 2 0))) 3 (fun _ => (T1 3 0)))) ++ (wX5 g a1 T1))) hx hb hts hin_X5 tyX5 tyX5_ok nmX5 hown hK hw 5 0 3 rfl rfl (by decide) (mi 4 rfl) rfl rfl rfl rfl (Nat.le_of_ble_eq_true rfl) dX5_become_29 rfl (fun H locs hw => ?_)
  refine lv_aload_n hx hb dX5_become_32 rfl (lv_at hl 0 rfl) ?_
  refine lv_aload_n hx hb dX5_become_33 rfl (lv_at hl 1 rfl) ?_
  refine wk_get hx hb hts hin_X5 hown hK hw.1 5 8 4 (.int (T1 4 0)) rfl rfl (by decide) (mi 5 rfl) rfl rfl dX5_become_34 ?_
  refine wk_put (wq := ((wX5 g a0 (up (up (up (up (up T0 0 (fun _ => (T1 0 0))) 1 (fun _ => (T1 1 0))) 2 (fun _ => (T1 2 0))) 3 (fun _ => (T1 3 0))) 4 (fun _ => (T1 4 0)))) ++ (wX5 g a1 T1))) hx hb hts hin_X5 tyX5 tyX5_ok nmX5 hown hK hw 5 0 4 rfl rfl (by decide) (mi 5 rfl) rfl rfl rfl rfl (Nat.le_of_ble_eq_true rfl) dX5_become_37 rfl (fun H locs hw => ?_)
  refine lv_aload_n hx hb dX5_become_40 rfl (lv_at hl 0 rfl) ?_
  refine lv_aload_n hx hb dX5_become_41 rfl (lv_at hl 1 rfl) ?_
  refine wk_get hx hb hts hin_X5 hown hK hw.1 5 8 5 (.int (T1 5 0)) rfl rfl (by decide) (mi 6 rfl) rfl rfl dX5_become_42 ?_
  refine wk_put (wq := ((wX5 g a0 (up (up (up (up (up (up T0 0 (fun _ => (T1 0 0))) 1 (fun _ => (T1 1 0))) 2 (fun _ => (T1 2 0))) 3 (fun _ => (T1 3 0))) 4 (fun _ => (T1 4 0))) 5 (fun _ => (T1 5 0)))) ++ (wX5 g a1 T1))) hx hb hts hin_X5 tyX5 tyX5_ok nmX5 hown hK hw 5 0 5 rfl rfl (by decide) (mi 6 rfl) rfl rfl rfl rfl (Nat.le_of_ble_eq_true rfl) dX5_become_45 rfl (fun H locs hw => ?_)
  refine lv_aload_n hx hb dX5_become_48 rfl (lv_at hl 0 rfl) ?_
  refine lv_aload_n hx hb dX5_become_49 rfl (lv_at hl 1 rfl) ?_
  refine wk_get hx hb hts hin_X5 hown hK hw.1 5 8 6 (.int (T1 6 0)) rfl rfl (by decide) (mi 7 rfl) rfl rfl dX5_become_50 ?_
  refine wk_put (wq := ((wX5 g a0 (up (up (up (up (up (up (up T0 0 (fun _ => (T1 0 0))) 1 (fun _ => (T1 1 0))) 2 (fun _ => (T1 2 0))) 3 (fun _ => (T1 3 0))) 4 (fun _ => (T1 4 0))) 5 (fun _ => (T1 5 0))) 6 (fun _ => (T1 6 0)))) ++ (wX5 g a1 T1))) hx hb hts hin_X5 tyX5 tyX5_ok nmX5 hown hK hw 5 0 6 rfl rfl (by decide) (mi 7 rfl) rfl rfl rfl rfl (Nat.le_of_ble_eq_true rfl) dX5_become_53 rfl (fun H locs hw => ?_)
  refine lv_aload_n hx hb dX5_become_56 rfl (lv_at hl 1 rfl) ?_
  refine wk_get hx hb hts hin_X5 hown hK hw.1 5 8 7 (.ref (a1 1)) rfl rfl (by decide) (mi 8 rfl) rfl rfl dX5_become_57 ?_
  refine lv_iconst (v := (0 : Int32)) hx hb dX5_become_60 (by decide) ?_
  refine lv_aload_n hx hb dX5_become_61 rfl (lv_at hl 0 rfl) ?_
  refine wk_get hx hb hts hin_X5 hown hK hw.1 5 0 7 (.ref (a0 1)) rfl rfl (by decide) (mi 8 rfl) rfl rfl dX5_become_62 ?_
  refine lv_iconst (v := (0 : Int32)) hx hb dX5_become_65 (by decide) ?_
  refine lv_bipush (v := (7 : Int32)) hx hb dX5_become_66 (by decide) ?_
  refine wk_copyi (wq := ((wX5 g a0 (up (up (up (up (up (up (up (up T0 0 (fun _ => (T1 0 0))) 1 (fun _ => (T1 1 0))) 2 (fun _ => (T1 2 0))) 3 (fun _ => (T1 3 0))) 4 (fun _ => (T1 4 0))) 5 (fun _ => (T1 5 0))) 6 (fun _ => (T1 6 0))) 7 (va_cpy (T1 7) (T0 7) ((0 : Int32)).toNatClampNeg ((0 : Int32)).toNatClampNeg ((7 : Int32)).toNatClampNeg))) ++ (wX5 g a1 T1))) hx hb (hml.trans hl.1.symm) hown (hts _ (mi 9 rfl)) (hts _ (mi 10 rfl)) (hts _ (mi 11 rfl)) (hts _ (mi 12 rfl)) hK hw 9 1 7 7 (T1 7) (T0 7) rfl rfl (by decide) (Nat.le_of_ble_eq_true rfl) (Nat.le_of_ble_eq_true rfl) dX5_become_68 rfl (fun H locs hw => ?_)
  refine lv_aload_n hx hb dX5_become_71 rfl (lv_at hl 1 rfl) ?_
  refine wk_get hx hb hts hin_X5 hown hK hw.1 5 8 8 (.ref (a1 2)) rfl rfl (by decide) (mi 13 rfl) rfl rfl dX5_become_72 ?_
  refine lv_iconst (v := (0 : Int32)) hx hb dX5_become_75 (by decide) ?_
  refine lv_aload_n hx hb dX5_become_76 rfl (lv_at hl 0 rfl) ?_
  refine wk_get hx hb hts hin_X5 hown hK hw.1 5 0 8 (.ref (a0 2)) rfl rfl (by decide) (mi 13 rfl) rfl rfl dX5_become_77 ?_
  refine lv_iconst (v := (0 : Int32)) hx hb dX5_become_80 (by decide) ?_
  refine lv_bipush (v := (7 : Int32)) hx hb dX5_become_81 (by decide) ?_
  refine wk_copyi (wq := ((wX5 g a0 (up (up (up (up (up (up (up (up (up T0 0 (fun _ => (T1 0 0))) 1 (fun _ => (T1 1 0))) 2 (fun _ => (T1 2 0))) 3 (fun _ => (T1 3 0))) 4 (fun _ => (T1 4 0))) 5 (fun _ => (T1 5 0))) 6 (fun _ => (T1 6 0))) 7 (va_cpy (T1 7) (T0 7) ((0 : Int32)).toNatClampNeg ((0 : Int32)).toNatClampNeg ((7 : Int32)).toNatClampNeg)) 8 (va_cpy (T1 8) (T0 8) ((0 : Int32)).toNatClampNeg ((0 : Int32)).toNatClampNeg ((7 : Int32)).toNatClampNeg))) ++ (wX5 g a1 T1))) hx hb (hml.trans hl.1.symm) hown (hts _ (mi 9 rfl)) (hts _ (mi 10 rfl)) (hts _ (mi 11 rfl)) (hts _ (mi 12 rfl)) hK hw 10 2 7 7 (T1 8) (T0 8) rfl rfl (by decide) (Nat.le_of_ble_eq_true rfl) (Nat.le_of_ble_eq_true rfl) dX5_become_83 rfl (fun H locs hw => ?_)
  refine lv_aload_n hx hb dX5_become_86 rfl (lv_at hl 1 rfl) ?_
  refine wk_get hx hb hts hin_X5 hown hK hw.1 5 8 9 (.ref (a1 3)) rfl rfl (by decide) (mi 14 rfl) rfl rfl dX5_become_87 ?_
  refine lv_iconst (v := (0 : Int32)) hx hb dX5_become_90 (by decide) ?_
  refine lv_aload_n hx hb dX5_become_91 rfl (lv_at hl 0 rfl) ?_
  refine wk_get hx hb hts hin_X5 hown hK hw.1 5 0 9 (.ref (a0 3)) rfl rfl (by decide) (mi 14 rfl) rfl rfl dX5_become_92 ?_
  refine lv_iconst (v := (0 : Int32)) hx hb dX5_become_95 (by decide) ?_
  refine lv_bipush (v := (7 : Int32)) hx hb dX5_become_96 (by decide) ?_
  refine wk_copyi (wq := ((wX5 g a0 (up (up (up (up (up (up (up (up (up (up T0 0 (fun _ => (T1 0 0))) 1 (fun _ => (T1 1 0))) 2 (fun _ => (T1 2 0))) 3 (fun _ => (T1 3 0))) 4 (fun _ => (T1 4 0))) 5 (fun _ => (T1 5 0))) 6 (fun _ => (T1 6 0))) 7 (va_cpy (T1 7) (T0 7) ((0 : Int32)).toNatClampNeg ((0 : Int32)).toNatClampNeg ((7 : Int32)).toNatClampNeg)) 8 (va_cpy (T1 8) (T0 8) ((0 : Int32)).toNatClampNeg ((0 : Int32)).toNatClampNeg ((7 : Int32)).toNatClampNeg)) 9 (va_cpy (T1 9) (T0 9) ((0 : Int32)).toNatClampNeg ((0 : Int32)).toNatClampNeg ((7 : Int32)).toNatClampNeg))) ++ (wX5 g a1 T1))) hx hb (hml.trans hl.1.symm) hown (hts _ (mi 9 rfl)) (hts _ (mi 10 rfl)) (hts _ (mi 11 rfl)) (hts _ (mi 12 rfl)) hK hw 11 3 7 7 (T1 9) (T0 9) rfl rfl (by decide) (Nat.le_of_ble_eq_true rfl) (Nat.le_of_ble_eq_true rfl) dX5_become_98 rfl (fun H locs hw => ?_)
  refine lv_aload_n hx hb dX5_become_101 rfl (lv_at hl 1 rfl) ?_
  refine wk_get hx hb hts hin_X5 hown hK hw.1 5 8 10 (.ref (a1 4)) rfl rfl (by decide) (mi 15 rfl) rfl rfl dX5_become_102 ?_
  refine lv_iconst (v := (0 : Int32)) hx hb dX5_become_105 (by decide) ?_
  refine lv_aload_n hx hb dX5_become_106 rfl (lv_at hl 0 rfl) ?_
  refine wk_get hx hb hts hin_X5 hown hK hw.1 5 0 10 (.ref (a0 4)) rfl rfl (by decide) (mi 15 rfl) rfl rfl dX5_become_107 ?_
  refine lv_iconst (v := (0 : Int32)) hx hb dX5_become_110 (by decide) ?_
  refine lv_bipush (v := (7 : Int32)) hx hb dX5_become_111 (by decide) ?_
  refine wk_copyi (wq := ((wX5 g a0 (up (up (up (up (up (up (up (up (up (up (up T0 0 (fun _ => (T1 0 0))) 1 (fun _ => (T1 1 0))) 2 (fun _ => (T1 2 0))) 3 (fun _ => (T1 3 0))) 4 (fun _ => (T1 4 0))) 5 (fun _ => (T1 5 0))) 6 (fun _ => (T1 6 0))) 7 (va_cpy (T1 7) (T0 7) ((0 : Int32)).toNatClampNeg ((0 : Int32)).toNatClampNeg ((7 : Int32)).toNatClampNeg)) 8 (va_cpy (T1 8) (T0 8) ((0 : Int32)).toNatClampNeg ((0 : Int32)).toNatClampNeg ((7 : Int32)).toNatClampNeg)) 9 (va_cpy (T1 9) (T0 9) ((0 : Int32)).toNatClampNeg ((0 : Int32)).toNatClampNeg ((7 : Int32)).toNatClampNeg)) 10 (va_cpy (T1 10) (T0 10) ((0 : Int32)).toNatClampNeg ((0 : Int32)).toNatClampNeg ((7 : Int32)).toNatClampNeg))) ++ (wX5 g a1 T1))) hx hb (hml.trans hl.1.symm) hown (hts _ (mi 9 rfl)) (hts _ (mi 10 rfl)) (hts _ (mi 11 rfl)) (hts _ (mi 12 rfl)) hK hw 12 4 7 7 (T1 10) (T0 10) rfl rfl (by decide) (Nat.le_of_ble_eq_true rfl) (Nat.le_of_ble_eq_true rfl) dX5_become_113 rfl (fun H locs hw => ?_)
  refine lv_aload_n hx hb dX5_become_116 rfl (lv_at hl 1 rfl) ?_
  refine wk_get hx hb hts hin_X5 hown hK hw.1 5 8 11 (.ref (a1 5)) rfl rfl (by decide) (mi 16 rfl) rfl rfl dX5_become_117 ?_
  refine lv_iconst (v := (0 : Int32)) hx hb dX5_become_120 (by decide) ?_
  refine lv_aload_n hx hb dX5_become_121 rfl (lv_at hl 0 rfl) ?_
  refine wk_get hx hb hts hin_X5 hown hK hw.1 5 0 11 (.ref (a0 5)) rfl rfl (by decide) (mi 16 rfl) rfl rfl dX5_become_122 ?_
  refine lv_iconst (v := (0 : Int32)) hx hb dX5_become_125 (by decide) ?_
  refine lv_bipush (v := (7 : Int32)) hx hb dX5_become_126 (by decide) ?_
  refine wk_copyi (wq := ((wX5 g a0 (up (up (up (up (up (up (up (up (up (up (up (up T0 0 (fun _ => (T1 0 0))) 1 (fun _ => (T1 1 0))) 2 (fun _ => (T1 2 0))) 3 (fun _ => (T1 3 0))) 4 (fun _ => (T1 4 0))) 5 (fun _ => (T1 5 0))) 6 (fun _ => (T1 6 0))) 7 (va_cpy (T1 7) (T0 7) ((0 : Int32)).toNatClampNeg ((0 : Int32)).toNatClampNeg ((7 : Int32)).toNatClampNeg)) 8 (va_cpy (T1 8) (T0 8) ((0 : Int32)).toNatClampNeg ((0 : Int32)).toNatClampNeg ((7 : Int32)).toNatClampNeg)) 9 (va_cpy (T1 9) (T0 9) ((0 : Int32)).toNatClampNeg ((0 : Int32)).toNatClampNeg ((7 : Int32)).toNatClampNeg)) 10 (va_cpy (T1 10) (T0 10) ((0 : Int32)).toNatClampNeg ((0 : Int32)).toNatClampNeg ((7 : Int32)).toNatClampNeg)) 11 (va_cpy (T1 11) (T0 11) ((0 : Int32)).toNatClampNeg ((0 : Int32)).toNatClampNeg ((7 : Int32)).toNatClampNeg))) ++ (wX5 g a1 T1))) hx hb (hml.trans hl.1.symm) hown (hts _ (mi 9 rfl)) (hts _ (mi 10 rfl)) (hts _ (mi 11 rfl)) (hts _ (mi 12 rfl)) hK hw 13 5 7 7 (T1 11) (T0 11) rfl rfl (by decide) (Nat.le_of_ble_eq_true rfl) (Nat.le_of_ble_eq_true rfl) dX5_become_128 rfl (fun H locs hw => ?_)
  refine lv_aload_n hx hb dX5_become_131 rfl (lv_at hl 1 rfl) ?_
  refine wk_get hx hb hts hin_X5 hown hK hw.1 5 8 12 (.ref (a1 6)) rfl rfl (by decide) (mi 17 rfl) rfl rfl dX5_become_132 ?_
  refine lv_iconst (v := (0 : Int32)) hx hb dX5_become_135 (by decide) ?_
  refine lv_aload_n hx hb dX5_become_136 rfl (lv_at hl 0 rfl) ?_
  refine wk_get hx hb hts hin_X5 hown hK hw.1 5 0 12 (.ref (a0 6)) rfl rfl (by decide) (mi 17 rfl) rfl rfl dX5_become_137 ?_
  refine lv_iconst (v := (0 : Int32)) hx hb dX5_become_140 (by decide) ?_
  refine lv_bipush (v := (7 : Int32)) hx hb dX5_become_141 (by decide) ?_
  refine wk_copyi (wq := ((wX5 g a0 (up (up (up (up (up (up (up (up (up (up (up (up (up T0 0 (fun _ => (T1 0 0))) 1 (fun _ => (T1 1 0))) 2 (fun _ => (T1 2 0))) 3 (fun _ => (T1 3 0))) 4 (fun _ => (T1 4 0))) 5 (fun _ => (T1 5 0))) 6 (fun _ => (T1 6 0))) 7 (va_cpy (T1 7) (T0 7) ((0 : Int32)).toNatClampNeg ((0 : Int32)).toNatClampNeg ((7 : Int32)).toNatClampNeg)) 8 (va_cpy (T1 8) (T0 8) ((0 : Int32)).toNatClampNeg ((0 : Int32)).toNatClampNeg ((7 : Int32)).toNatClampNeg)) 9 (va_cpy (T1 9) (T0 9) ((0 : Int32)).toNatClampNeg ((0 : Int32)).toNatClampNeg ((7 : Int32)).toNatClampNeg)) 10 (va_cpy (T1 10) (T0 10) ((0 : Int32)).toNatClampNeg ((0 : Int32)).toNatClampNeg ((7 : Int32)).toNatClampNeg)) 11 (va_cpy (T1 11) (T0 11) ((0 : Int32)).toNatClampNeg ((0 : Int32)).toNatClampNeg ((7 : Int32)).toNatClampNeg)) 12 (va_cpy (T1 12) (T0 12) ((0 : Int32)).toNatClampNeg ((0 : Int32)).toNatClampNeg ((7 : Int32)).toNatClampNeg))) ++ (wX5 g a1 T1))) hx hb (hml.trans hl.1.symm) hown (hts _ (mi 9 rfl)) (hts _ (mi 10 rfl)) (hts _ (mi 11 rfl)) (hts _ (mi 12 rfl)) hK hw 14 6 7 7 (T1 12) (T0 12) rfl rfl (by decide) (Nat.le_of_ble_eq_true rfl) (Nat.le_of_ble_eq_true rfl) dX5_become_143 rfl (fun H locs hw => ?_)
  obtain rfl := Option.some.inj hM
  exact W.vret hx hb hr (fun t ht _ => ⟨rfl, by rw [ht]; exact hw.1, hw.2.2.F ht⟩) hw.2.2.2.2 dX5_become_146
theorem hd_X5_cutOff : yX5_cutOff.cls = RX5 ∧ yX5_cutOff.cls ≠ "java/lang/invoke/MethodHandle" ∧ yX5_cutOff.cls ≠ "java/lang/invoke/VarHandle" ∧ (parseMethodDescriptor yX5_cutOff.desc).map (fun d => d.parameters.length) = some 1 := by decide +kernel
set_option maxHeartbeats 4000000 in
set_option maxRecDepth 100000 in
theorem c_X5_cutOff (l : Launch) (g : Gm) (a0 : Nat → Nat) (T0 : TS) (p1 : Int32) {q : TS} (hM : f_X5_cutOff T0 p1 = some q) : MW l yX5_cutOff wsX5_cutOff 1 22 g [.ref (a0 0), .int p1] (wX5 g a0 T0) none (wX5 g a0 q) := by
  intro sz
  refine Met.ofW (cc := cX5_cutOff) (maxL := 3) (ret := none) (by decide) rfl ?_
  intro p e s m args below meth c s₁ B hml hv
  obtain ⟨rfl, hsz, hP, hK, hD0⟩ := hv
  have hx := B.exec; have hb := B.bytes; have hr := B.returns
  have hts := atoms_spec (ws := wsX5_cutOff) B.pre
  have hown : s.vm.findClass RX5 = some m.cls := findClass_of_methodNamed B.named
  have hlocks := B.notSynchronized
  have hS : CallFix p m c cX5_cutOff 3 s _ wsX5_cutOff RX5 := ⟨hx, hb, hml, hown, hts⟩
  have hin_X5 : ∀ w ∈ wsX50, w ∈ wsX5_cutOff := fun w h => (List.mem_cons_of_mem _ (List.mem_append_right _ h))
  subst hsz
  have hw := wk_start hP hD0
  have hA : ∀ q : Nat, s.heap.size ≤ q → va_A (wX5 g a0 T0) s.heap.size q := fun q h => Or.inr h
  generalize va_A (wX5 g a0 T0) s.heap.size = A at hw hA ⊢
  clear hP hD0
  have hl := lv_entry ([.ref (a0 0), .int p1]) (n := 3) (Nat.le_of_ble_eq_true rfl)
  rw [lg_entry_eq]
  generalize (lg_sl ([.ref (a0 0), .int p1]) ++ List.replicate (3 - (lg_sl ([.ref (a0 0), .int p1])).length) Slot.unset).toArray = ls at hl ⊢
  have hl : lv_has ls 3 [(0, .ref (a0 0)), (1, .int p1)] := hl
  rw [f_X5_cutOff] at hM
  refine lv_aload_n hx hb dX5_cutOff_0 rfl (lv_at hl 0 rfl) ?_
  refine wk_get hx hb hts hin_X5 hown hK hw.1 5 0 10 (.ref (a0 4)) rfl rfl (by decide) (mi 1 rfl) rfl rfl dX5_cutOff_1 ?_
  refine lv_iload_n hx hb dX5_cutOff_4 rfl (lv_at hl 1 rfl) ?_
  refine lv_iconst (v := (0 : Int32)) hx hb dX5_cutOff_5 (by decide) ?_
  obtain ⟨k1, hM⟩ := ck hM
  refine wk_iast (wq := (wX5 g a0 (up T0 10 (upd (T0 10) (p1).toNatClampNeg (0 : Int32))))) hx hb hK hw 4 7 (T0 10) rfl k1 dX5_cutOff_6 rfl (fun H locs hw => ?_)
  refine lv_iconst (v := (0 : Int32)) hx hb dX5_cutOff_7 (by decide) ?_
  refine lv_istore_n (lv' := [(2, .int (0 : Int32)), (0, .ref (a0 0)), (1, .int p1)]) hx hb dX5_cutOff_8 rfl hl (by decide) rfl (fun ls hl => ?_)
  obtain ⟨q4, hL9, hM⟩ := bd hM
  have hJ9 : ∀ (H : Heap) (locs : List Loc), Wk g A s.heap H locs (wX5 g a0 q4) → ∀ (ls : Array Slot), lv_has ls 3 [] → W p l e (headSpec wsX5_cutOff ({ frames := 1, cells := 0, slots := 0, locals := 22 } : Room)).room s m ([.ref (a0 0), .int p1] : List Value).toArray below meth c H locs 0 0 (MQ below (QcW g none (wX5 g a0 q) A) ([.ref (a0 0), .int p1] : List Value).toArray s 0 0 A) (F0 m 40 ls []) := by
    intro H locs hw ls hl
    obtain rfl := Option.some.inj hM
    exact W.vret hx hb hr (fun t ht _ => ⟨rfl, by rw [ht]; exact hw.1, hw.2.2.F ht⟩) hw.2.2.2.2 dX5_cutOff_40
  have hW9 : ∀ (n : Nat) (v2_2 : Int32) (TL3 : TS), L_X5_cutOff_9 p1 n v2_2 TL3 = some q4 → ∀ (H : Heap) (locs : List Loc), Wk g A s.heap H locs (wX5 g a0 TL3) → ∀ (ls : Array Slot), lv_has ls 3 [(2, .int v2_2), (0, .ref (a0 0)), (1, .int p1)] → W p l e (headSpec wsX5_cutOff ({ frames := 1, cells := 0, slots := 0, locals := 22 } : Room)).room s m ([.ref (a0 0), .int p1] : List Value).toArray below meth c H locs 0 0 (MQ below (QcW g none (wX5 g a0 q) A) ([.ref (a0 0), .int p1] : List Value).toArray s 0 0 A) (F0 m 9 ls []) := by
    intro n
    induction n with
    | zero => intro v2_2 TL3 hM; rw [L_X5_cutOff_9] at hM; exact nn hM
    | succ n ih9 =>
      intro v2_2 TL3 hM H locs hw ls hl
      rw [L_X5_cutOff_9] at hM
      refine lv_iload_n hx hb dX5_cutOff_9 rfl (lv_at hl 0 rfl) ?_
      refine lv_aload_n hx hb dX5_cutOff_10 rfl (lv_at hl 1 rfl) ?_
      refine wk_get hx hb hts hin_X5 hown hK hw.1 5 0 1 (.int (TL3 1 0)) rfl rfl (by decide) (mi 2 rfl) rfl rfl dX5_cutOff_11 ?_
      refine lv_icmp_ge (tgt := 40) hx hb dX5_cutOff_14 (by decide) (fun c5 => ?_) (fun c5 => ?_)
      · replace hM := itp c5 hM
        obtain rfl := Option.some.inj hM
        exact hJ9 _ _ hw _ (lv_sub hl [] rfl)
      · replace hM := itn c5 hM
        refine lv_aload_n hx hb dX5_cutOff_17 rfl (lv_at hl 1 rfl) ?_
        refine wk_get hx hb hts hin_X5 hown hK hw.1 5 0 10 (.ref (a0 4)) rfl rfl (by decide) (mi 1 rfl) rfl rfl dX5_cutOff_18 ?_
        refine lv_iload_n hx hb dX5_cutOff_21 rfl (lv_at hl 0 rfl) ?_
        refine lv_aload_n hx hb dX5_cutOff_22 rfl (lv_at hl 1 rfl) ?_
        refine wk_get hx hb hts hin_X5 hown hK hw.1 5 0 10 (.ref (a0 4)) rfl rfl (by decide) (mi 1 rfl) rfl rfl dX5_cutOff_23 ?_
        refine lv_iload_n hx hb dX5_cutOff_26 rfl (lv_at hl 0 rfl) ?_
        obtain ⟨k6, hM⟩ := ck hM
        refine wk_iald hx hb hK hw.1 4 7 (TL3 10) rfl k6 dX5_cutOff_27 ?_
        refine lv_iload_n hx hb dX5_cutOff_28 rfl (lv_at hl 2 rfl) ?_
        refine lv_iconst (v := (0 : Int32)) hx hb dX5_cutOff_29 (by decide) ?_
        refine rNR (wc := ([] : va_W)) (As := [.int ((TL3 10) (v2_2).toNatClampNeg), .int p1, .int (0 : Int32)]) (rest := [.int v2_2, .ref (a0 4)]) hS (c_X6_with l g ((TL3 10) (v2_2).toNatClampNeg) p1 (0 : Int32)) gX5_cutOff_X6_with_n61 rfl (mi 3 rfl) (mi 4 rfl) 7 rfl hd_X6_with ⟨Nat.le_of_ble_eq_true rfl, Nat.le_of_ble_eq_true rfl⟩ hK (hP_nil) rfl hl.1 rfl (Nat.le_of_ble_eq_true rfl) dX5_cutOff_30 ⟨Nat.zero_le _, Nat.zero_le _⟩ ?_
        refine wk_iast (wq := (wX5 g a0 (up TL3 10 (upd (TL3 10) (v2_2).toNatClampNeg (f_X6_with ((TL3 10) (v2_2).toNatClampNeg) p1 (0 : Int32)))))) hx hb hK hw 4 7 (TL3 10) rfl k6 dX5_cutOff_33 rfl (fun H locs hw => ?_)
        refine lv_iinc (v := (v2_2 + (1 : Int32))) (lv' := [(2, .int (v2_2 + (1 : Int32))), (0, .ref (a0 0)), (1, .int p1)]) hx hb dX5_cutOff_34 hl (k := 0) rfl rfl (by decide) rfl (fun ls hl => ?_)
        refine lv_goto (tgt := 9) hx hb dX5_cutOff_37 (by decide) ?_
        exact ih9 (v2_2 + (1 : Int32)) (up TL3 10 (upd (TL3 10) (v2_2).toNatClampNeg (f_X6_with ((TL3 10) (v2_2).toNatClampNeg) p1 (0 : Int32)))) hM _ _ hw _ (lv_sub hl [0, 1, 2] rfl)
  exact hW9 300 (0 : Int32) (up T0 10 (upd (T0 10) (p1).toNatClampNeg (0 : Int32))) hL9 _ _ hw _ (lv_sub hl [0, 1, 2] rfl)
theorem hd_X5_drawBelow : yX5_drawBelow.cls = RX5 ∧ yX5_drawBelow.cls ≠ "java/lang/invoke/MethodHandle" ∧ yX5_drawBelow.cls ≠ "java/lang/invoke/VarHandle" ∧ (parseMethodDescriptor yX5_drawBelow.desc).map (fun d => d.parameters.length) = some 1 := by decide +kernel
set_option maxHeartbeats 4000000 in
set_option maxRecDepth 100000 in
theorem c_X5_drawBelow (l : Launch) (g : Gm) (a0 : Nat → Nat) (T0 : TS) (p1 : Int32) {q : (Int32 × TS)} (hM : f_X5_drawBelow T0 p1 = some q) : MW l yX5_drawBelow wsX5_drawBelow 0 0 g [.ref (a0 0), .int p1] (wX5 g a0 T0) (some (.int q.1)) (wX5 g a0 q.2) := by
  intro sz
  refine Met.ofW (cc := cX5_drawBelow) (maxL := 2) (ret := (some .int)) (by decide) rfl ?_
  intro p e s m args below meth c s₁ B hml hv
  obtain ⟨rfl, hsz, hP, hK, hD0⟩ := hv
  have hx := B.exec; have hb := B.bytes; have hr := B.returns
  have hts := atoms_spec (ws := wsX5_drawBelow) B.pre
  have hown : s.vm.findClass RX5 = some m.cls := findClass_of_methodNamed B.named
  have hlocks := B.notSynchronized
  have hS : CallFix p m c cX5_drawBelow 2 s _ wsX5_drawBelow RX5 := ⟨hx, hb, hml, hown, hts⟩
  have hin_X5 : ∀ w ∈ wsX50, w ∈ wsX5_drawBelow := fun w h => (List.mem_cons_of_mem _ (List.mem_append_right _ h))
  subst hsz
  have hw := wk_start hP hD0
  have hA : ∀ q : Nat, s.heap.size ≤ q → va_A (wX5 g a0 T0) s.heap.size q := fun q h => Or.inr h
  generalize va_A (wX5 g a0 T0) s.heap.size = A at hw hA ⊢
  clear hP hD0
  have hl := lv_entry ([.ref (a0 0), .int p1]) (n := 2) (Nat.le_of_ble_eq_true rfl)
  rw [lg_entry_eq]
  generalize (lg_sl ([.ref (a0 0), .int p1]) ++ List.replicate (2 - (lg_sl ([.ref (a0 0), .int p1])).length) Slot.unset).toArray = ls at hl ⊢
  have hl : lv_has ls 2 [(0, .ref (a0 0)), (1, .int p1)] := hl
  rw [f_X5_drawBelow] at hM
  refine lv_aload_n hx hb dX5_drawBelow_0 rfl (lv_at hl 0 rfl) ?_
  refine lv_aload_n hx hb dX5_drawBelow_1 rfl (lv_at hl 0 rfl) ?_
  refine wk_get hx hb hts hin_X5 hown hK hw.1 5 0 6 (.int (T0 6 0)) rfl rfl (by decide) (mi 1 rfl) rfl rfl dX5_drawBelow_2 ?_
  refine lv_ldc (v := (1103515245 : Int32)) hx hb hown (hts _ (mi 2 rfl)) dX5_drawBelow_5 ?_
  refine lv_imul hx hb dX5_drawBelow_7 ?_
  refine lv_sipush (v := (12345 : Int32)) hx hb dX5_drawBelow_8 (by decide) ?_
  refine lv_iadd hx hb dX5_drawBelow_11 ?_
  refine wk_put (wq := (wX5 g a0 (up T0 6 (fun _ => (((T0 6 0) * (1103515245 : Int32)) + (12345 : Int32)))))) hx hb hts hin_X5 tyX5 tyX5_ok nmX5 hown hK hw 5 0 6 rfl rfl (by decide) (mi 1 rfl) rfl rfl rfl rfl (Nat.le_of_ble_eq_true rfl) dX5_drawBelow_12 rfl (fun H locs hw => ?_)
  refine lv_iload_n hx hb dX5_drawBelow_15 rfl (lv_at hl 1 rfl) ?_
  refine lv_if_le (tgt := 31) hx hb dX5_drawBelow_16 (by decide) (fun c1 => ?_) (fun c1 => ?_)
  · replace hM := itp c1 hM
    refine lv_iconst (v := (0 : Int32)) hx hb dX5_drawBelow_31 (by decide) ?_
    obtain rfl := Option.some.inj hM
    exact W.iret hx hb hr (fun t ht _ => ⟨rfl, by rw [ht]; exact hw.1, hw.2.2.F ht⟩) hw.2.2.2.2 dX5_drawBelow_32
  · replace hM := itn c1 hM
    refine lv_aload_n hx hb dX5_drawBelow_19 rfl (lv_at hl 0 rfl) ?_
    refine wk_get hx hb hts hin_X5 hown hK hw.1 5 0 6 (.int (((T0 6 0) * (1103515245 : Int32)) + (12345 : Int32))) rfl rfl (by decide) (mi 1 rfl) rfl rfl dX5_drawBelow_20 ?_
    refine lv_bipush (v := (16 : Int32)) hx hb dX5_drawBelow_23 (by decide) ?_
    refine lv_iushr (v := (((((T0 6 0) * (1103515245 : Int32)) + (12345 : Int32))).toUInt32 >>> (((16 : Int32)).toUInt32 &&& Int32.toUInt32 31)).toInt32) hx hb dX5_drawBelow_25 rfl ?_
    refine lv_iload_n hx hb dX5_drawBelow_26 rfl (lv_at hl 1 rfl) ?_
    obtain ⟨k2, hM⟩ := ck hM
    refine lv_irem hx hb dX5_drawBelow_27 k2 ?_
    refine lv_goto (tgt := 32) hx hb dX5_drawBelow_28 (by decide) ?_
    obtain rfl := Option.some.inj hM
    exact W.iret hx hb hr (fun t ht _ => ⟨rfl, by rw [ht]; exact hw.1, hw.2.2.F ht⟩) hw.2.2.2.2 dX5_drawBelow_32
theorem hd_X5_knownTo : yX5_knownTo.cls = RX5 ∧ yX5_knownTo.cls ≠ "java/lang/invoke/MethodHandle" ∧ yX5_knownTo.cls ≠ "java/lang/invoke/VarHandle" ∧ (parseMethodDescriptor yX5_knownTo.desc).map (fun d => d.parameters.length) = some 1 := by decide +kernel
set_option maxHeartbeats 4000000 in
set_option maxRecDepth 100000 in
theorem c_X5_knownTo (l : Launch) (g : Gm) (a0 : Nat → Nat) (T0 : TS) (p1 : Int32) {q : Int32} (hM : f_X5_knownTo T0 p1 = some q) : MR l yX5_knownTo wsX5_knownTo 0 0 g [.ref (a0 0), .int p1] (wX5 g a0 T0) (some (.int q)) := by
  refine Met.ofW (cc := cX5_knownTo) (maxL := 2) (ret := (some .int)) (by decide) rfl ?_
  intro p e s m args below meth c s₁ B hml hv
  obtain ⟨rfl, hP, hK⟩ := hv
  have hx := B.exec; have hb := B.bytes; have hr := B.returns
  have hts := atoms_spec (ws := wsX5_knownTo) B.pre
  have hown : s.vm.findClass RX5 = some m.cls := findClass_of_methodNamed B.named
  have hlocks := B.notSynchronized
  have hS : CallFix p m c cX5_knownTo 2 s _ wsX5_knownTo RX5 := ⟨hx, hb, hml, hown, hts⟩
  have hin_X5 : ∀ w ∈ wsX50, w ∈ wsX5_knownTo := fun w h => (List.mem_cons_of_mem _ (List.mem_append_right _ h))
  have hl := lv_entry ([.ref (a0 0), .int p1]) (n := 2) (Nat.le_of_ble_eq_true rfl)
  rw [lg_entry_eq]
  generalize (lg_sl ([.ref (a0 0), .int p1]) ++ List.replicate (2 - (lg_sl ([.ref (a0 0), .int p1])).length) Slot.unset).toArray = ls at hl ⊢
  have hl : lv_has ls 2 [(0, .ref (a0 0)), (1, .int p1)] := hl
  rw [f_X5_knownTo] at hM
  refine lv_aload_n hx hb dX5_knownTo_0 rfl (lv_at hl 0 rfl) ?_
  refine wk_get hx hb hts hin_X5 hown hK hP 5 0 7 (.ref (a0 1)) rfl rfl (by decide) (mi 1 rfl) rfl rfl dX5_knownTo_1 ?_
  refine lv_iload_n hx hb dX5_knownTo_4 rfl (lv_at hl 1 rfl) ?_
  obtain ⟨k1, hM⟩ := ck hM
  refine wk_iald hx hb hK hP 1 7 (T0 7) rfl k1 dX5_knownTo_5 ?_
  refine lv_aload_n hx hb dX5_knownTo_6 rfl (lv_at hl 0 rfl) ?_
  refine wk_get hx hb hts hin_X5 hown hK hP 5 0 8 (.ref (a0 2)) rfl rfl (by decide) (mi 2 rfl) rfl rfl dX5_knownTo_7 ?_
  refine lv_iload_n hx hb dX5_knownTo_10 rfl (lv_at hl 1 rfl) ?_
  refine wk_iald hx hb hK hP 2 7 (T0 8) rfl k1 dX5_knownTo_11 ?_
  refine lv_ior hx hb dX5_knownTo_12 ?_
  refine lv_aload_n hx hb dX5_knownTo_13 rfl (lv_at hl 0 rfl) ?_
  refine wk_get hx hb hts hin_X5 hown hK hP 5 0 9 (.ref (a0 3)) rfl rfl (by decide) (mi 3 rfl) rfl rfl dX5_knownTo_14 ?_
  refine lv_iload_n hx hb dX5_knownTo_17 rfl (lv_at hl 1 rfl) ?_
  refine wk_iald hx hb hK hP 3 7 (T0 9) rfl k1 dX5_knownTo_18 ?_
  refine lv_ior hx hb dX5_knownTo_19 ?_
  obtain rfl := Option.some.inj hM
  exact W.iret hx hb hr (fun t ht _ => ⟨rfl, ht⟩) (fun q hq => by cases hq) dX5_knownTo_20
theorem hd_X5_factOf : yX5_factOf.cls = RX5 ∧ yX5_factOf.cls ≠ "java/lang/invoke/MethodHandle" ∧ yX5_factOf.cls ≠ "java/lang/invoke/VarHandle" ∧ (parseMethodDescriptor yX5_factOf.desc).map (fun d => d.parameters.length) = some 2 := by decide +kernel
set_option maxHeartbeats 4000000 in
set_option maxRecDepth 100000 in
theorem c_X5_factOf (l : Launch) (g : Gm) (a0 : Nat → Nat) (T0 : TS) (p1 : Int32) (p2 : Int32) {q : Int32} (hM : f_X5_factOf T0 p1 p2 = some q) : MR l yX5_factOf wsX5_factOf 1 21 g [.ref (a0 0), .int p1, .int p2] (wX5 g a0 T0) (some (.int q)) := by
  refine Met.ofW (cc := cX5_factOf) (maxL := 3) (ret := (some .int)) (by decide) rfl ?_
  intro p e s m args below meth c s₁ B hml hv
  obtain ⟨rfl, hP, hK⟩ := hv
  have hx := B.exec; have hb := B.bytes; have hr := B.returns
  have hts := atoms_spec (ws := wsX5_factOf) B.pre
  have hown : s.vm.findClass RX5 = some m.cls := findClass_of_methodNamed B.named
  have hlocks := B.notSynchronized
  have hS : CallFix p m c cX5_factOf 3 s _ wsX5_factOf RX5 := ⟨hx, hb, hml, hown, hts⟩
  have hin_X5 : ∀ w ∈ wsX50, w ∈ wsX5_factOf := fun w h => (List.mem_cons_of_mem _ (List.mem_append_right _ h))
  have hl := lv_entry ([.ref (a0 0), .int p1, .int p2]) (n := 3) (Nat.le_of_ble_eq_true rfl)
  rw [lg_entry_eq]
  generalize (lg_sl ([.ref (a0 0), .int p1, .int p2]) ++ List.replicate (3 - (lg_sl ([.ref (a0 0), .int p1, .int p2])).length) Slot.unset).toArray = ls at hl ⊢
  have hl : lv_has ls 3 [(0, .ref (a0 0)), (1, .int p1), (2, .int p2)] := hl
  rw [f_X5_factOf] at hM
  refine lv_iload_n hx hb dX5_factOf_0 rfl (lv_at hl 2 rfl) ?_
  by_cases c1_0 : p2 = (0 : Int32)
  · replace hM := itp c1_0 hM
    refine lv_tableIn (tgt := 44) hx hb dX5_factOf_1 (by rw [c1_0]; decide) (by rw [c1_0]; decide) (by rw [c1_0]; first | done | rfl) (by decide) ?_
    refine lv_aload_n hx hb dX5_factOf_44 rfl (lv_at hl 0 rfl) ?_
    refine wk_get hx hb hts hin_X5 hown hK hP 5 0 11 (.ref (a0 5)) rfl rfl (by decide) (mi 1 rfl) rfl rfl dX5_factOf_45 ?_
    refine lv_iload_n hx hb dX5_factOf_48 rfl (lv_at hl 1 rfl) ?_
    obtain ⟨k2, hM⟩ := ck hM
    refine wk_iald hx hb hK hP 5 7 (T0 11) rfl k2 dX5_factOf_49 ?_
    obtain rfl := Option.some.inj hM
    exact W.iret hx hb hr (fun t ht _ => ⟨rfl, ht⟩) (fun q hq => by cases hq) dX5_factOf_50
  replace hM := itn c1_0 hM
  by_cases c1_1 : p2 = (1 : Int32)
  · replace hM := itp c1_1 hM
    refine lv_tableIn (tgt := 51) hx hb dX5_factOf_1 (by rw [c1_1]; decide) (by rw [c1_1]; decide) (by rw [c1_1]; first | done | rfl) (by decide) ?_
    refine lv_aload_n hx hb dX5_factOf_51 rfl (lv_at hl 0 rfl) ?_
    refine wk_get hx hb hts hin_X5 hown hK hP 5 0 12 (.ref (a0 6)) rfl rfl (by decide) (mi 2 rfl) rfl rfl dX5_factOf_52 ?_
    refine lv_iload_n hx hb dX5_factOf_55 rfl (lv_at hl 1 rfl) ?_
    obtain ⟨k3, hM⟩ := ck hM
    refine wk_iald hx hb hK hP 6 7 (T0 12) rfl k3 dX5_factOf_56 ?_
    obtain rfl := Option.some.inj hM
    exact W.iret hx hb hr (fun t ht _ => ⟨rfl, ht⟩) (fun q hq => by cases hq) dX5_factOf_57
  replace hM := itn c1_1 hM
  by_cases c1_2 : p2 = (2 : Int32)
  · replace hM := itp c1_2 hM
    refine lv_tableIn (tgt := 58) hx hb dX5_factOf_1 (by rw [c1_2]; decide) (by rw [c1_2]; decide) (by rw [c1_2]; first | done | rfl) (by decide) ?_
    refine lv_aload_n hx hb dX5_factOf_58 rfl (lv_at hl 0 rfl) ?_
    refine wk_get hx hb hts hin_X5 hown hK hP 5 0 7 (.ref (a0 1)) rfl rfl (by decide) (mi 3 rfl) rfl rfl dX5_factOf_59 ?_
    refine lv_iload_n hx hb dX5_factOf_62 rfl (lv_at hl 1 rfl) ?_
    obtain ⟨k4, hM⟩ := ck hM
    refine wk_iald hx hb hK hP 1 7 (T0 7) rfl k4 dX5_factOf_63 ?_
    obtain rfl := Option.some.inj hM
    exact W.iret hx hb hr (fun t ht _ => ⟨rfl, ht⟩) (fun q hq => by cases hq) dX5_factOf_64
  replace hM := itn c1_2 hM
  by_cases c1_3 : p2 = (3 : Int32)
  · replace hM := itp c1_3 hM
    refine lv_tableIn (tgt := 65) hx hb dX5_factOf_1 (by rw [c1_3]; decide) (by rw [c1_3]; decide) (by rw [c1_3]; first | done | rfl) (by decide) ?_
    refine lv_aload_n hx hb dX5_factOf_65 rfl (lv_at hl 0 rfl) ?_
    refine wk_get hx hb hts hin_X5 hown hK hP 5 0 8 (.ref (a0 2)) rfl rfl (by decide) (mi 4 rfl) rfl rfl dX5_factOf_66 ?_
    refine lv_iload_n hx hb dX5_factOf_69 rfl (lv_at hl 1 rfl) ?_
    obtain ⟨k5, hM⟩ := ck hM
    refine wk_iald hx hb hK hP 2 7 (T0 8) rfl k5 dX5_factOf_70 ?_
    obtain rfl := Option.some.inj hM
    exact W.iret hx hb hr (fun t ht _ => ⟨rfl, ht⟩) (fun q hq => by cases hq) dX5_factOf_71
  replace hM := itn c1_3 hM
  by_cases c1_4 : p2 = (4 : Int32)
  · replace hM := itp c1_4 hM
    refine lv_tableIn (tgt := 72) hx hb dX5_factOf_1 (by rw [c1_4]; decide) (by rw [c1_4]; decide) (by rw [c1_4]; first | done | rfl) (by decide) ?_
    refine lv_aload_n hx hb dX5_factOf_72 rfl (lv_at hl 0 rfl) ?_
    refine wk_get hx hb hts hin_X5 hown hK hP 5 0 9 (.ref (a0 3)) rfl rfl (by decide) (mi 5 rfl) rfl rfl dX5_factOf_73 ?_
    refine lv_iload_n hx hb dX5_factOf_76 rfl (lv_at hl 1 rfl) ?_
    obtain ⟨k6, hM⟩ := ck hM
    refine wk_iald hx hb hK hP 3 7 (T0 9) rfl k6 dX5_factOf_77 ?_
    obtain rfl := Option.some.inj hM
    exact W.iret hx hb hr (fun t ht _ => ⟨rfl, ht⟩) (fun q hq => by cases hq) dX5_factOf_78
  replace hM := itn c1_4 hM
  by_cases c1_5 : p2 = (5 : Int32)
  · replace hM := itp c1_5 hM
    refine lv_tableIn (tgt := 79) hx hb dX5_factOf_1 (by rw [c1_5]; decide) (by rw [c1_5]; decide) (by rw [c1_5]; first | done | rfl) (by decide) ?_
    refine lv_aload_n hx hb dX5_factOf_79 rfl (lv_at hl 0 rfl) ?_
    refine wk_get hx hb hts hin_X5 hown hK hP 5 0 10 (.ref (a0 4)) rfl rfl (by decide) (mi 6 rfl) rfl rfl dX5_factOf_80 ?_
    refine lv_iload_n hx hb dX5_factOf_83 rfl (lv_at hl 1 rfl) ?_
    obtain ⟨k7, hM⟩ := ck hM
    refine wk_iald hx hb hK hP 4 7 (T0 10) rfl k7 dX5_factOf_84 ?_
    obtain rfl := Option.some.inj hM
    exact W.iret hx hb hr (fun t ht _ => ⟨rfl, ht⟩) (fun q hq => by cases hq) dX5_factOf_85
  replace hM := itn c1_5 hM
  by_cases c1_6 : p2 = (6 : Int32)
  · replace hM := itp c1_6 hM
    refine lv_tableIn (tgt := 86) hx hb dX5_factOf_1 (by rw [c1_6]; decide) (by rw [c1_6]; decide) (by rw [c1_6]; first | done | rfl) (by decide) ?_
    refine lv_aload_n hx hb dX5_factOf_86 rfl (lv_at hl 0 rfl) ?_
    refine lv_iload_n hx hb dX5_factOf_87 rfl (lv_at hl 1 rfl) ?_
    obtain ⟨q9, h8, hM⟩ := bd hM
    refine rVR (wc := (wX5 g a0 T0)) (As := [.int p1]) (rest := []) (q0 := 0) hS (c_X5_knownTo l g a0 T0 p1 h8) gX5_factOf_X5_knownTo rfl hd_X5_knownTo ⟨Nat.le_of_ble_eq_true rfl, Nat.le_of_ble_eq_true rfl⟩ hK (va_P.pm hP (pm_1_0 _)) rfl rfl rfl rfl hl.1 rfl (Nat.le_of_ble_eq_true rfl) dX5_factOf_88 ⟨Nat.zero_le _, Nat.zero_le _⟩ ?_
    obtain rfl := Option.some.inj hM
    exact W.iret hx hb hr (fun t ht _ => ⟨rfl, ht⟩) (fun q hq => by cases hq) dX5_factOf_91
  replace hM := itn c1_6 hM
  refine lv_tableOut (tgt := 92) hx hb dX5_factOf_1 (sw_out (lo := 0) (hi := 6) (by decide) (by decide) (fun k h1 h2 hk => by
            have hs : k = (0 : Int) ∨ k = (1 : Int) ∨ k = (2 : Int) ∨ k = (3 : Int) ∨ k = (4 : Int) ∨ k = (5 : Int) ∨ k = (6 : Int) := by omega
            rcases hs with hs | hs | hs | hs | hs | hs | hs <;> subst hs <;> first | exact c1_0 (Int32.toInt_inj.mp (hk.trans (by decide))) | exact c1_1 (Int32.toInt_inj.mp (hk.trans (by decide))) | exact c1_2 (Int32.toInt_inj.mp (hk.trans (by decide))) | exact c1_3 (Int32.toInt_inj.mp (hk.trans (by decide))) | exact c1_4 (Int32.toInt_inj.mp (hk.trans (by decide))) | exact c1_5 (Int32.toInt_inj.mp (hk.trans (by decide))) | exact c1_6 (Int32.toInt_inj.mp (hk.trans (by decide))))) (by decide) ?_
  refine lv_aload_n hx hb dX5_factOf_92 rfl (lv_at hl 0 rfl) ?_
  refine lv_iload_n hx hb dX5_factOf_93 rfl (lv_at hl 1 rfl) ?_
  obtain ⟨q11, h10, hM⟩ := bd hM
  refine rVR (wc := (wX5 g a0 T0)) (As := [.int p1]) (rest := []) (q0 := 0) hS (c_X5_barredTo l g a0 T0 p1 h10) gX5_factOf_X5_barredTo rfl hd_X5_barredTo ⟨Nat.le_of_ble_eq_true rfl, Nat.le_of_ble_eq_true rfl⟩ hK (va_P.pm hP (pm_1_0 _)) rfl rfl rfl rfl hl.1 rfl (Nat.le_of_ble_eq_true rfl) dX5_factOf_94 ⟨Nat.zero_le _, Nat.zero_le _⟩ ?_
  obtain rfl := Option.some.inj hM
  exact W.iret hx hb hr (fun t ht _ => ⟨rfl, ht⟩) (fun q hq => by cases hq) dX5_factOf_97
theorem hd_X5_hearersOf : yX5_hearersOf.cls = RX5 ∧ yX5_hearersOf.cls ≠ "java/lang/invoke/MethodHandle" ∧ yX5_hearersOf.cls ≠ "java/lang/invoke/VarHandle" ∧ (parseMethodDescriptor yX5_hearersOf.desc).map (fun d => d.parameters.length) = some 1 := by decide +kernel
set_option maxHeartbeats 4000000 in
set_option maxRecDepth 100000 in
theorem c_X5_hearersOf (l : Launch) (g : Gm) (a0 : Nat → Nat) (T0 : TS) (p1 : Int32) {q : Int32} (hM : f_X5_hearersOf T0 p1 = some q) : MR l yX5_hearersOf wsX5_hearersOf 1 22 g [.ref (a0 0), .int p1] (wX5 g a0 T0) (some (.int q)) := by
  refine Met.ofW (cc := cX5_hearersOf) (maxL := 4) (ret := (some .int)) (by decide) rfl ?_
  intro p e s m args below meth c s₁ B hml hv
  obtain ⟨rfl, hP, hK⟩ := hv
  have hx := B.exec; have hb := B.bytes; have hr := B.returns
  have hts := atoms_spec (ws := wsX5_hearersOf) B.pre
  have hown : s.vm.findClass RX5 = some m.cls := findClass_of_methodNamed B.named
  have hlocks := B.notSynchronized
  have hS : CallFix p m c cX5_hearersOf 4 s _ wsX5_hearersOf RX5 := ⟨hx, hb, hml, hown, hts⟩
  have hin_X5 : ∀ w ∈ wsX50, w ∈ wsX5_hearersOf := fun w h => (List.mem_cons_of_mem _ (List.mem_append_right _ h))
  have hl := lv_entry ([.ref (a0 0), .int p1]) (n := 4) (Nat.le_of_ble_eq_true rfl)
  rw [lg_entry_eq]
  generalize (lg_sl ([.ref (a0 0), .int p1]) ++ List.replicate (4 - (lg_sl ([.ref (a0 0), .int p1])).length) Slot.unset).toArray = ls at hl ⊢
  have hl : lv_has ls 4 [(0, .ref (a0 0)), (1, .int p1)] := hl
  rw [f_X5_hearersOf] at hM
  refine lv_iconst (v := (0 : Int32)) hx hb dX5_hearersOf_0 (by decide) ?_
  refine lv_istore_n (lv' := [(2, .int (0 : Int32)), (0, .ref (a0 0)), (1, .int p1)]) hx hb dX5_hearersOf_1 rfl hl (by decide) rfl (fun ls hl => ?_)
  refine lv_iconst (v := (0 : Int32)) hx hb dX5_hearersOf_2 (by decide) ?_
  refine lv_istore_n (lv' := [(3, .int (0 : Int32)), (2, .int (0 : Int32)), (0, .ref (a0 0)), (1, .int p1)]) hx hb dX5_hearersOf_3 rfl hl (by decide) rfl (fun ls hl => ?_)
  obtain ⟨q3, hL4, hM⟩ := bd hM
  have hJ4 : ∀ (ls : Array Slot), lv_has ls 4 [(2, .int q3)] → W p l e (headSpec wsX5_hearersOf ({ frames := 1, cells := 0, slots := 0, locals := 22 } : Room)).room s m ([.ref (a0 0), .int p1] : List Value).toArray below meth c s.heap [] 0 0 (MQ below (QcR (some (.int q))) ([.ref (a0 0), .int p1] : List Value).toArray s 0 0 (fun _ => False)) (F0 m 40 ls []) := by
    intro ls hl
    refine lv_iload_n hx hb dX5_hearersOf_40 rfl (lv_at hl 0 rfl) ?_
    obtain rfl := Option.some.inj hM
    exact W.iret hx hb hr (fun t ht _ => ⟨rfl, ht⟩) (fun q hq => by cases hq) dX5_hearersOf_41
  have hW4 : ∀ (n : Nat) (v3_1 : Int32) (v2_2 : Int32), L_X5_hearersOf_4 T0 p1 n v3_1 v2_2 = some q3 → ∀ (ls : Array Slot), lv_has ls 4 [(3, .int v3_1), (2, .int v2_2), (0, .ref (a0 0)), (1, .int p1)] → W p l e (headSpec wsX5_hearersOf ({ frames := 1, cells := 0, slots := 0, locals := 22 } : Room)).room s m ([.ref (a0 0), .int p1] : List Value).toArray below meth c s.heap [] 0 0 (MQ below (QcR (some (.int q))) ([.ref (a0 0), .int p1] : List Value).toArray s 0 0 (fun _ => False)) (F0 m 4 ls []) := by
    intro n
    induction n with
    | zero => intro v3_1 v2_2 hM; rw [L_X5_hearersOf_4] at hM; exact nn hM
    | succ n ih4 =>
      intro v3_1 v2_2 hM ls hl
      rw [L_X5_hearersOf_4] at hM
      refine lv_iload_n hx hb dX5_hearersOf_4 rfl (lv_at hl 0 rfl) ?_
      refine lv_aload_n hx hb dX5_hearersOf_5 rfl (lv_at hl 2 rfl) ?_
      refine wk_get hx hb hts hin_X5 hown hK hP 5 0 1 (.int (T0 1 0)) rfl rfl (by decide) (mi 1 rfl) rfl rfl dX5_hearersOf_6 ?_
      refine lv_icmp_ge (tgt := 40) hx hb dX5_hearersOf_9 (by decide) (fun c4 => ?_) (fun c4 => ?_)
      · replace hM := itp c4 hM
        obtain rfl := Option.some.inj hM
        exact hJ4 _ (lv_sub hl [1] rfl)
      · replace hM := itn c4 hM
        refine lv_iload_n hx hb dX5_hearersOf_12 rfl (lv_at hl 1 rfl) ?_
        refine lv_iload_n hx hb dX5_hearersOf_13 rfl (lv_at hl 0 rfl) ?_
        refine lv_aload_n hx hb dX5_hearersOf_14 rfl (lv_at hl 2 rfl) ?_
        refine wk_get hx hb hts hin_X5 hown hK hP 5 0 10 (.ref (a0 4)) rfl rfl (by decide) (mi 2 rfl) rfl rfl dX5_hearersOf_15 ?_
        refine lv_iload_n hx hb dX5_hearersOf_18 rfl (lv_at hl 0 rfl) ?_
        obtain ⟨k5, hM⟩ := ck hM
        refine wk_iald hx hb hK hP 4 7 (T0 10) rfl k5 dX5_hearersOf_19 ?_
        refine lv_iload_n hx hb dX5_hearersOf_20 rfl (lv_at hl 3 rfl) ?_
        refine lv_iand hx hb dX5_hearersOf_21 ?_
        have hJ13 : ∀ (x12 : Int32) (ls : Array Slot), x12 = (if (((T0 10) (v3_1).toNatClampNeg) &&& p1) = 0 then (0 : Int32) else (1 : Int32)) → lv_has ls 4 [(3, .int v3_1), (0, .ref (a0 0)), (1, .int p1)] → W p l e (headSpec wsX5_hearersOf ({ frames := 1, cells := 0, slots := 0, locals := 22 } : Room)).room s m ([.ref (a0 0), .int p1] : List Value).toArray below meth c s.heap [] 0 0 (MQ below (QcR (some (.int q))) ([.ref (a0 0), .int p1] : List Value).toArray s 0 0 (fun _ => False)) (F0 m 30 ls [.int x12, .int v3_1, .int v2_2]) := by
          intro x12 ls hxx12 hl
          subst hxx12
          refine rNR (wc := ([] : va_W)) (As := [.int v2_2, .int v3_1, .int (if (((T0 10) (v3_1).toNatClampNeg) &&& p1) = 0 then (0 : Int32) else (1 : Int32))]) (rest := []) hS (c_X6_with l g v2_2 v3_1 (if (((T0 10) (v3_1).toNatClampNeg) &&& p1) = 0 then (0 : Int32) else (1 : Int32))) gX5_hearersOf_X6_with_n61 rfl (mi 3 rfl) (mi 4 rfl) 7 rfl hd_X6_with ⟨Nat.le_of_ble_eq_true rfl, Nat.le_of_ble_eq_true rfl⟩ hK (hP_nil) rfl hl.1 rfl (Nat.le_of_ble_eq_true rfl) dX5_hearersOf_30 ⟨Nat.zero_le _, Nat.zero_le _⟩ ?_
          refine lv_istore_n (lv' := [(2, .int (f_X6_with v2_2 v3_1 (if (((T0 10) (v3_1).toNatClampNeg) &&& p1) = 0 then (0 : Int32) else (1 : Int32)))), (3, .int v3_1), (0, .ref (a0 0)), (1, .int p1)]) hx hb dX5_hearersOf_33 rfl hl (by decide) rfl (fun ls hl => ?_)
          refine lv_iinc (v := (v3_1 + (1 : Int32))) (lv' := [(3, .int (v3_1 + (1 : Int32))), (2, .int (f_X6_with v2_2 v3_1 (if (((T0 10) (v3_1).toNatClampNeg) &&& p1) = 0 then (0 : Int32) else (1 : Int32)))), (0, .ref (a0 0)), (1, .int p1)]) hx hb dX5_hearersOf_34 hl (k := 1) rfl rfl (by decide) rfl (fun ls hl => ?_)
          refine lv_goto (tgt := 4) hx hb dX5_hearersOf_37 (by decide) ?_
          exact ih4 (v3_1 + (1 : Int32)) (f_X6_with v2_2 v3_1 (if (((T0 10) (v3_1).toNatClampNeg) &&& p1) = 0 then (0 : Int32) else (1 : Int32))) hM _ (lv_sub hl [0, 1, 2, 3] rfl)
        refine lv_if_eq (tgt := 29) hx hb dX5_hearersOf_22 (by decide) (fun c6 => ?_) (fun c6 => ?_)
        · refine lv_iconst (v := (0 : Int32)) hx hb dX5_hearersOf_29 (by decide) ?_
          exact hJ13 _ _ (by first | rfl | (simp only [if_pos c6])) (lv_sub hl [0, 2, 3] rfl)
        · refine lv_iconst (v := (1 : Int32)) hx hb dX5_hearersOf_25 (by decide) ?_
          refine lv_goto (tgt := 30) hx hb dX5_hearersOf_26 (by decide) ?_
          exact hJ13 _ _ (by first | rfl | (simp only [if_neg c6])) (lv_sub hl [0, 2, 3] rfl)
  exact hW4 300 (0 : Int32) (0 : Int32) hL4 _ (lv_sub hl [0, 1, 2, 3] rfl)
theorem hd_X6_has : yX6_has.cls ≠ "java/lang/invoke/MethodHandle" ∧ yX6_has.cls ≠ "java/lang/invoke/VarHandle" ∧ (parseMethodDescriptor yX6_has.desc).map (fun d => d.parameters.length) = some 2 := by decide +kernel
set_option maxHeartbeats 4000000 in
set_option maxRecDepth 100000 in
theorem c_X6_has (l : Launch) (g : Gm) (p0 : Int32) (p1 : Int32) : MR l yX6_has wsX6_has 0 0 g [.int p0, .int p1] ([] : va_W) (some (.int (f_X6_has p0 p1))) := by
  refine Met.ofW (cc := cX6_has) (maxL := 2) (ret := (some .boolean)) (by decide) rfl ?_
  intro p e s m args below meth c s₁ B hml hv
  obtain ⟨rfl, hP, hK⟩ := hv
  have hx := B.exec; have hb := B.bytes; have hr := B.returns
  have hts := atoms_spec (ws := wsX6_has) B.pre
  have hown : s.vm.findClass RX6 = some m.cls := findClass_of_methodNamed B.named
  have hlocks := B.notSynchronized
  have hS : CallFix p m c cX6_has 2 s _ wsX6_has RX6 := ⟨hx, hb, hml, hown, hts⟩
  have hl := lv_entry ([.int p0, .int p1]) (n := 2) (Nat.le_of_ble_eq_true rfl)
  rw [lg_entry_eq]
  generalize (lg_sl ([.int p0, .int p1]) ++ List.replicate (2 - (lg_sl ([.int p0, .int p1])).length) Slot.unset).toArray = ls at hl ⊢
  have hl : lv_has ls 2 [(0, .int p0), (1, .int p1)] := hl
  obtain ⟨rr, hM⟩ : ∃ rr, f_X6_has p0 p1 = rr := ⟨_, rfl⟩
  rw [hM]
  rw [f_X6_has] at hM
  refine lv_iload_n hx hb dX6_has_0 rfl (lv_at hl 0 rfl) ?_
  refine lv_iload_n hx hb dX6_has_1 rfl (lv_at hl 1 rfl) ?_
  refine lv_ishr hx hb dX6_has_2 ?_
  refine lv_iconst (v := (1 : Int32)) hx hb dX6_has_3 (by decide) ?_
  refine lv_iand hx hb dX6_has_4 ?_
  have hJ7 : ∀ (x6 : Int32) (ls : Array Slot), x6 = (if ((p0 >>> (p1 &&& 31)) &&& (1 : Int32)) = 0 then (0 : Int32) else (1 : Int32)) → lv_has ls 2 [] → W p l e (headSpec wsX6_has ({ frames := 0, cells := 0, slots := 0, locals := 0 } : Room)).room s m ([.int p0, .int p1] : List Value).toArray below meth c s.heap [] 0 0 (MQ below (QcR (some (.int rr))) ([.int p0, .int p1] : List Value).toArray s 0 0 (fun _ => False)) (F0 m 13 ls [.int x6]) := by
    intro x6 ls hxx6 hl
    subst hxx6
    subst hM
    exact W.zret hx hb hr (nz (by repeat (first | exact Or.inl rfl | exact Or.inr rfl | split))) (fun t ht _ => ⟨rfl, ht⟩) (fun q hq => by cases hq) dX6_has_13
  refine lv_if_eq (tgt := 12) hx hb dX6_has_5 (by decide) (fun c1 => ?_) (fun c1 => ?_)
  · refine lv_iconst (v := (0 : Int32)) hx hb dX6_has_12 (by decide) ?_
    exact hJ7 _ _ (by first | rfl | (simp only [if_pos c1])) (lv_sub hl [] rfl)
  · refine lv_iconst (v := (1 : Int32)) hx hb dX6_has_8 (by decide) ?_
    refine lv_goto (tgt := 13) hx hb dX6_has_9 (by decide) ?_
    exact hJ7 _ _ (by first | rfl | (simp only [if_neg c1])) (lv_sub hl [] rfl)
theorem hd_X5_howSeen : yX5_howSeen.cls = RX5 ∧ yX5_howSeen.cls ≠ "java/lang/invoke/MethodHandle" ∧ yX5_howSeen.cls ≠ "java/lang/invoke/VarHandle" ∧ (parseMethodDescriptor yX5_howSeen.desc).map (fun d => d.parameters.length) = some 2 := by decide +kernel
set_option maxHeartbeats 4000000 in
set_option maxRecDepth 100000 in
theorem c_X5_howSeen (l : Launch) (g : Gm) (a0 : Nat → Nat) (T0 : TS) (p1 : Int32) (p2 : Int32) {q : Int32} (hM : f_X5_howSeen T0 p1 p2 = some q) : MR l yX5_howSeen wsX5_howSeen 1 21 g [.ref (a0 0), .int p1, .int p2] (wX5 g a0 T0) (some (.int q)) := by
  refine Met.ofW (cc := cX5_howSeen) (maxL := 3) (ret := (some .int)) (by decide) rfl ?_
  intro p e s m args below meth c s₁ B hml hv
  obtain ⟨rfl, hP, hK⟩ := hv
  have hx := B.exec; have hb := B.bytes; have hr := B.returns
  have hts := atoms_spec (ws := wsX5_howSeen) B.pre
  have hown : s.vm.findClass RX5 = some m.cls := findClass_of_methodNamed B.named
  have hlocks := B.notSynchronized
  have hS : CallFix p m c cX5_howSeen 3 s _ wsX5_howSeen RX5 := ⟨hx, hb, hml, hown, hts⟩
  have hin_X5 : ∀ w ∈ wsX50, w ∈ wsX5_howSeen := fun w h => (List.mem_cons_of_mem _ (List.mem_append_right _ h))
  have hl := lv_entry ([.ref (a0 0), .int p1, .int p2]) (n := 3) (Nat.le_of_ble_eq_true rfl)
  rw [lg_entry_eq]
  generalize (lg_sl ([.ref (a0 0), .int p1, .int p2]) ++ List.replicate (3 - (lg_sl ([.ref (a0 0), .int p1, .int p2])).length) Slot.unset).toArray = ls at hl ⊢
  have hl : lv_has ls 3 [(0, .ref (a0 0)), (1, .int p1), (2, .int p2)] := hl
  rw [f_X5_howSeen] at hM
  refine lv_aload_n hx hb dX5_howSeen_0 rfl (lv_at hl 0 rfl) ?_
  refine wk_get hx hb hts hin_X5 hown hK hP 5 0 7 (.ref (a0 1)) rfl rfl (by decide) (mi 1 rfl) rfl rfl dX5_howSeen_1 ?_
  refine lv_iload_n hx hb dX5_howSeen_4 rfl (lv_at hl 1 rfl) ?_
  obtain ⟨k1, hM⟩ := ck hM
  refine wk_iald hx hb hK hP 1 7 (T0 7) rfl k1 dX5_howSeen_5 ?_
  refine lv_iload_n hx hb dX5_howSeen_6 rfl (lv_at hl 2 rfl) ?_
  refine rNR (wc := ([] : va_W)) (As := [.int ((T0 7) (p1).toNatClampNeg), .int p2]) (rest := []) hS (c_X6_has l g ((T0 7) (p1).toNatClampNeg) p2) gX5_howSeen_X6_has_n65 rfl (mi 3 rfl) (mi 4 rfl) 6 rfl hd_X6_has ⟨Nat.le_of_ble_eq_true rfl, Nat.le_of_ble_eq_true rfl⟩ hK (hP_nil) rfl hl.1 rfl (Nat.le_of_ble_eq_true rfl) dX5_howSeen_7 ⟨Nat.zero_le _, Nat.zero_le _⟩ ?_
  refine lv_if_eq (tgt := 15) hx hb dX5_howSeen_10 (by decide) (fun c3 => ?_) (fun c3 => ?_)
  · replace hM := itp c3 hM
    refine lv_aload_n hx hb dX5_howSeen_15 rfl (lv_at hl 0 rfl) ?_
    refine wk_get hx hb hts hin_X5 hown hK hP 5 0 8 (.ref (a0 2)) rfl rfl (by decide) (mi 2 rfl) rfl rfl dX5_howSeen_16 ?_
    refine lv_iload_n hx hb dX5_howSeen_19 rfl (lv_at hl 1 rfl) ?_
    refine wk_iald hx hb hK hP 2 7 (T0 8) rfl k1 dX5_howSeen_20 ?_
    refine lv_iload_n hx hb dX5_howSeen_21 rfl (lv_at hl 2 rfl) ?_
    refine rNR (wc := ([] : va_W)) (As := [.int ((T0 8) (p1).toNatClampNeg), .int p2]) (rest := []) hS (c_X6_has l g ((T0 8) (p1).toNatClampNeg) p2) gX5_howSeen_X6_has_n65 rfl (mi 3 rfl) (mi 4 rfl) 6 rfl hd_X6_has ⟨Nat.le_of_ble_eq_true rfl, Nat.le_of_ble_eq_true rfl⟩ hK (hP_nil) rfl hl.1 rfl (Nat.le_of_ble_eq_true rfl) dX5_howSeen_22 ⟨Nat.zero_le _, Nat.zero_le _⟩ ?_
    have hJ11 : ∀ (x10 : Int32) (ls : Array Slot), x10 = (if (f_X6_has ((T0 8) (p1).toNatClampNeg) p2) = 0 then (0 : Int32) else (1 : Int32)) → lv_has ls 3 [] → W p l e (headSpec wsX5_howSeen ({ frames := 1, cells := 0, slots := 0, locals := 21 } : Room)).room s m ([.ref (a0 0), .int p1, .int p2] : List Value).toArray below meth c s.heap [] 0 0 (MQ below (QcR (some (.int q))) ([.ref (a0 0), .int p1, .int p2] : List Value).toArray s 0 0 (fun _ => False)) (F0 m 33 ls [.int x10]) := by
      intro x10 ls hxx10 hl
      subst hxx10
      obtain rfl := Option.some.inj hM
      exact W.iret hx hb hr (fun t ht _ => ⟨rfl, ht⟩) (fun q hq => by cases hq) dX5_howSeen_33
    refine lv_if_eq (tgt := 32) hx hb dX5_howSeen_25 (by decide) (fun c5 => ?_) (fun c5 => ?_)
    · refine lv_iconst (v := (0 : Int32)) hx hb dX5_howSeen_32 (by decide) ?_
      exact hJ11 _ _ (by first | rfl | (simp only [if_pos c5])) (lv_sub hl [] rfl)
    · refine lv_iconst (v := (1 : Int32)) hx hb dX5_howSeen_28 (by decide) ?_
      refine lv_goto (tgt := 33) hx hb dX5_howSeen_29 (by decide) ?_
      exact hJ11 _ _ (by first | rfl | (simp only [if_neg c5])) (lv_sub hl [] rfl)
  · replace hM := itn c3 hM
    refine lv_iconst (v := (2 : Int32)) hx hb dX5_howSeen_13 (by decide) ?_
    obtain rfl := Option.some.inj hM
    exact W.iret hx hb hr (fun t ht _ => ⟨rfl, ht⟩) (fun q hq => by cases hq) dX5_howSeen_14
theorem hd_X5_isFull : yX5_isFull.cls = RX5 ∧ yX5_isFull.cls ≠ "java/lang/invoke/MethodHandle" ∧ yX5_isFull.cls ≠ "java/lang/invoke/VarHandle" ∧ (parseMethodDescriptor yX5_isFull.desc).map (fun d => d.parameters.length) = some 0 := by decide +kernel
set_option maxHeartbeats 4000000 in
set_option maxRecDepth 100000 in
theorem c_X5_isFull (l : Launch) (g : Gm) (a0 : Nat → Nat) (T0 : TS) : MR l yX5_isFull wsX5_isFull 0 0 g [.ref (a0 0)] (wX5 g a0 T0) (some (.int (f_X5_isFull T0))) := by
  refine Met.ofW (cc := cX5_isFull) (maxL := 1) (ret := (some .boolean)) (by decide) rfl ?_
  intro p e s m args below meth c s₁ B hml hv
  obtain ⟨rfl, hP, hK⟩ := hv
  have hx := B.exec; have hb := B.bytes; have hr := B.returns
  have hts := atoms_spec (ws := wsX5_isFull) B.pre
  have hown : s.vm.findClass RX5 = some m.cls := findClass_of_methodNamed B.named
  have hlocks := B.notSynchronized
  have hS : CallFix p m c cX5_isFull 1 s _ wsX5_isFull RX5 := ⟨hx, hb, hml, hown, hts⟩
  have hin_X5 : ∀ w ∈ wsX50, w ∈ wsX5_isFull := fun w h => (List.mem_cons_of_mem _ (List.mem_append_right _ h))
  have hl := lv_entry ([.ref (a0 0)]) (n := 1) (Nat.le_of_ble_eq_true rfl)
  rw [lg_entry_eq]
  generalize (lg_sl ([.ref (a0 0)]) ++ List.replicate (1 - (lg_sl ([.ref (a0 0)])).length) Slot.unset).toArray = ls at hl ⊢
  have hl : lv_has ls 1 [(0, .ref (a0 0))] := hl
  obtain ⟨rr, hM⟩ : ∃ rr, f_X5_isFull T0 = rr := ⟨_, rfl⟩
  rw [hM]
  rw [f_X5_isFull] at hM
  refine lv_aload_n hx hb dX5_isFull_0 rfl (lv_at hl 0 rfl) ?_
  refine wk_get hx hb hts hin_X5 hown hK hP 5 0 1 (.int (T0 1 0)) rfl rfl (by decide) (mi 1 rfl) rfl rfl dX5_isFull_1 ?_
  refine lv_bipush (v := (7 : Int32)) hx hb dX5_isFull_4 (by decide) ?_
  have hJ7 : ∀ (x6 : Int32) (ls : Array Slot), x6 = (if (T0 1 0) < (7 : Int32) then (0 : Int32) else (1 : Int32)) → lv_has ls 1 [] → W p l e (headSpec wsX5_isFull ({ frames := 0, cells := 0, slots := 0, locals := 0 } : Room)).room s m ([.ref (a0 0)] : List Value).toArray below meth c s.heap [] 0 0 (MQ below (QcR (some (.int rr))) ([.ref (a0 0)] : List Value).toArray s 0 0 (fun _ => False)) (F0 m 14 ls [.int x6]) := by
    intro x6 ls hxx6 hl
    subst hxx6
    subst hM
    exact W.zret hx hb hr (nz (by repeat (first | exact Or.inl rfl | exact Or.inr rfl | split))) (fun t ht _ => ⟨rfl, ht⟩) (fun q hq => by cases hq) dX5_isFull_14
  refine lv_icmp_lt (tgt := 13) hx hb dX5_isFull_6 (by decide) (fun c1 => ?_) (fun c1 => ?_)
  · refine lv_iconst (v := (0 : Int32)) hx hb dX5_isFull_13 (by decide) ?_
    exact hJ7 _ _ (by first | rfl | (simp only [if_pos c1])) (lv_sub hl [] rfl)
  · refine lv_iconst (v := (1 : Int32)) hx hb dX5_isFull_9 (by decide) ?_
    refine lv_goto (tgt := 14) hx hb dX5_isFull_10 (by decide) ?_
    exact hJ7 _ _ (by first | rfl | (simp only [if_neg c1])) (lv_sub hl [] rfl)
theorem hd_X5_isOfKind : yX5_isOfKind.cls = RX5 ∧ yX5_isOfKind.cls ≠ "java/lang/invoke/MethodHandle" ∧ yX5_isOfKind.cls ≠ "java/lang/invoke/VarHandle" ∧ (parseMethodDescriptor yX5_isOfKind.desc).map (fun d => d.parameters.length) = some 2 := by decide +kernel
set_option maxHeartbeats 4000000 in
set_option maxRecDepth 100000 in
theorem c_X5_isOfKind (l : Launch) (g : Gm) (a0 : Nat → Nat) (T0 : TS) (p1 : Int32) (p2 : Int32) {q : Int32} (hM : f_X5_isOfKind T0 p1 p2 = some q) : MR l yX5_isOfKind wsX5_isOfKind 0 0 g [.ref (a0 0), .int p1, .int p2] (wX5 g a0 T0) (some (.int q)) := by
  refine Met.ofW (cc := cX5_isOfKind) (maxL := 3) (ret := (some .boolean)) (by decide) rfl ?_
  intro p e s m args below meth c s₁ B hml hv
  obtain ⟨rfl, hP, hK⟩ := hv
  have hx := B.exec; have hb := B.bytes; have hr := B.returns
  have hts := atoms_spec (ws := wsX5_isOfKind) B.pre
  have hown : s.vm.findClass RX5 = some m.cls := findClass_of_methodNamed B.named
  have hlocks := B.notSynchronized
  have hS : CallFix p m c cX5_isOfKind 3 s _ wsX5_isOfKind RX5 := ⟨hx, hb, hml, hown, hts⟩
  have hin_X5 : ∀ w ∈ wsX50, w ∈ wsX5_isOfKind := fun w h => (List.mem_cons_of_mem _ (List.mem_append_right _ h))
  have hl := lv_entry ([.ref (a0 0), .int p1, .int p2]) (n := 3) (Nat.le_of_ble_eq_true rfl)
  rw [lg_entry_eq]
  generalize (lg_sl ([.ref (a0 0), .int p1, .int p2]) ++ List.replicate (3 - (lg_sl ([.ref (a0 0), .int p1, .int p2])).length) Slot.unset).toArray = ls at hl ⊢
  have hl : lv_has ls 3 [(0, .ref (a0 0)), (1, .int p1), (2, .int p2)] := hl
  rw [f_X5_isOfKind] at hM
  refine lv_iload_n hx hb dX5_isOfKind_0 rfl (lv_at hl 2 rfl) ?_
  refine lv_aload_n hx hb dX5_isOfKind_1 rfl (lv_at hl 0 rfl) ?_
  refine wk_get hx hb hts hin_X5 hown hK hP 5 0 11 (.ref (a0 5)) rfl rfl (by decide) (mi 1 rfl) rfl rfl dX5_isOfKind_2 ?_
  refine lv_iload_n hx hb dX5_isOfKind_5 rfl (lv_at hl 1 rfl) ?_
  obtain ⟨k1, hM⟩ := ck hM
  refine wk_iald hx hb hK hP 5 7 (T0 11) rfl k1 dX5_isOfKind_6 ?_
  have hJ11 : ∀ (x10 : Int32) (ls : Array Slot), x10 = (if p2 = ((T0 11) (p1).toNatClampNeg) then (1 : Int32) else (if p2 = 0 then (1 : Int32) else (if p2 = (2 : Int32) then (if ((T0 11) (p1).toNatClampNeg) = (3 : Int32) then (1 : Int32) else (0 : Int32)) else (0 : Int32)))) → lv_has ls 3 [] → W p l e (headSpec wsX5_isOfKind ({ frames := 0, cells := 0, slots := 0, locals := 0 } : Room)).room s m ([.ref (a0 0), .int p1, .int p2] : List Value).toArray below meth c s.heap [] 0 0 (MQ below (QcR (some (.int q))) ([.ref (a0 0), .int p1, .int p2] : List Value).toArray s 0 0 (fun _ => False)) (F0 m 34 ls [.int x10]) := by
    intro x10 ls hxx10 hl
    subst hxx10
    obtain rfl := Option.some.inj hM
    exact W.zret hx hb hr (nz (by repeat (first | exact Or.inl rfl | exact Or.inr rfl | split))) (fun t ht _ => ⟨rfl, ht⟩) (fun q hq => by cases hq) dX5_isOfKind_34
  refine lv_icmp_eq (tgt := 29) hx hb dX5_isOfKind_7 (by decide) (fun c2 => ?_) (fun c2 => ?_)
  · refine lv_iconst (v := (1 : Int32)) hx hb dX5_isOfKind_29 (by decide) ?_
    refine lv_goto (tgt := 34) hx hb dX5_isOfKind_30 (by decide) ?_
    exact hJ11 _ _ (by first | rfl | (simp only [if_pos c2])) (lv_sub hl [] rfl)
  · refine lv_iload_n hx hb dX5_isOfKind_10 rfl (lv_at hl 2 rfl) ?_
    refine lv_if_eq (tgt := 29) hx hb dX5_isOfKind_11 (by decide) (fun c3 => ?_) (fun c3 => ?_)
    · refine lv_iconst (v := (1 : Int32)) hx hb dX5_isOfKind_29 (by decide) ?_
      refine lv_goto (tgt := 34) hx hb dX5_isOfKind_30 (by decide) ?_
      exact hJ11 _ _ (by first | rfl | (simp only [if_neg c2, if_pos c3])) (lv_sub hl [] rfl)
    · refine lv_iload_n hx hb dX5_isOfKind_14 rfl (lv_at hl 2 rfl) ?_
      refine lv_iconst (v := (2 : Int32)) hx hb dX5_isOfKind_15 (by decide) ?_
      refine lv_icmp_ne (tgt := 33) hx hb dX5_isOfKind_16 (by decide) (fun c4 => ?_) (fun c4 => ?_)
      · refine lv_iconst (v := (0 : Int32)) hx hb dX5_isOfKind_33 (by decide) ?_
        exact hJ11 _ _ (by first | rfl | (simp only [if_neg c2, if_neg c3, if_neg c4])) (lv_sub hl [] rfl)
      · refine lv_aload_n hx hb dX5_isOfKind_19 rfl (lv_at hl 0 rfl) ?_
        refine wk_get hx hb hts hin_X5 hown hK hP 5 0 11 (.ref (a0 5)) rfl rfl (by decide) (mi 1 rfl) rfl rfl dX5_isOfKind_20 ?_
        refine lv_iload_n hx hb dX5_isOfKind_23 rfl (lv_at hl 1 rfl) ?_
        refine wk_iald hx hb hK hP 5 7 (T0 11) rfl k1 dX5_isOfKind_24 ?_
        refine lv_iconst (v := (3 : Int32)) hx hb dX5_isOfKind_25 (by decide) ?_
        refine lv_icmp_ne (tgt := 33) hx hb dX5_isOfKind_26 (by decide) (fun c5 => ?_) (fun c5 => ?_)
        · refine lv_iconst (v := (0 : Int32)) hx hb dX5_isOfKind_33 (by decide) ?_
          exact hJ11 _ _ (by first | rfl | (simp only [if_neg c2, if_neg c3, if_pos c4, if_neg c5])) (lv_sub hl [] rfl)
        · refine lv_iconst (v := (1 : Int32)) hx hb dX5_isOfKind_29 (by decide) ?_
          refine lv_goto (tgt := 34) hx hb dX5_isOfKind_30 (by decide) ?_
          exact hJ11 _ _ (by first | rfl | (simp only [if_neg c2, if_neg c3, if_pos c4, if_pos c5])) (lv_sub hl [] rfl)
theorem hd_X5_isOne : yX5_isOne.cls = RX5 ∧ yX5_isOne.cls ≠ "java/lang/invoke/MethodHandle" ∧ yX5_isOne.cls ≠ "java/lang/invoke/VarHandle" ∧ (parseMethodDescriptor yX5_isOne.desc).map (fun d => d.parameters.length) = some 1 := by decide +kernel
set_option maxHeartbeats 4000000 in
set_option maxRecDepth 100000 in
theorem c_X5_isOne (l : Launch) (g : Gm) (a0 : Nat → Nat) (T0 : TS) (p1 : Int32) : MR l yX5_isOne wsX5_isOne 0 0 g [.ref (a0 0), .int p1] (wX5 g a0 T0) (some (.int (f_X5_isOne T0 p1))) := by
  refine Met.ofW (cc := cX5_isOne) (maxL := 2) (ret := (some .boolean)) (by decide) rfl ?_
  intro p e s m args below meth c s₁ B hml hv
  obtain ⟨rfl, hP, hK⟩ := hv
  have hx := B.exec; have hb := B.bytes; have hr := B.returns
  have hts := atoms_spec (ws := wsX5_isOne) B.pre
  have hown : s.vm.findClass RX5 = some m.cls := findClass_of_methodNamed B.named
  have hlocks := B.notSynchronized
  have hS : CallFix p m c cX5_isOne 2 s _ wsX5_isOne RX5 := ⟨hx, hb, hml, hown, hts⟩
  have hin_X5 : ∀ w ∈ wsX50, w ∈ wsX5_isOne := fun w h => (List.mem_cons_of_mem _ (List.mem_append_right _ h))
  have hl := lv_entry ([.ref (a0 0), .int p1]) (n := 2) (Nat.le_of_ble_eq_true rfl)
  rw [lg_entry_eq]
  generalize (lg_sl ([.ref (a0 0), .int p1]) ++ List.replicate (2 - (lg_sl ([.ref (a0 0), .int p1])).length) Slot.unset).toArray = ls at hl ⊢
  have hl : lv_has ls 2 [(0, .ref (a0 0)), (1, .int p1)] := hl
  obtain ⟨rr, hM⟩ : ∃ rr, f_X5_isOne T0 p1 = rr := ⟨_, rfl⟩
  rw [hM]
  rw [f_X5_isOne] at hM
  refine lv_iload_n hx hb dX5_isOne_0 rfl (lv_at hl 1 rfl) ?_
  have hJ8 : ∀ (x7 : Int32) (ls : Array Slot), x7 = (if p1 < 0 then (0 : Int32) else (if (T0 1 0) ≤ p1 then (0 : Int32) else (1 : Int32))) → lv_has ls 2 [] → W p l e (headSpec wsX5_isOne ({ frames := 0, cells := 0, slots := 0, locals := 0 } : Room)).room s m ([.ref (a0 0), .int p1] : List Value).toArray below meth c s.heap [] 0 0 (MQ below (QcR (some (.int rr))) ([.ref (a0 0), .int p1] : List Value).toArray s 0 0 (fun _ => False)) (F0 m 17 ls [.int x7]) := by
    intro x7 ls hxx7 hl
    subst hxx7
    subst hM
    exact W.zret hx hb hr (nz (by repeat (first | exact Or.inl rfl | exact Or.inr rfl | split))) (fun t ht _ => ⟨rfl, ht⟩) (fun q hq => by cases hq) dX5_isOne_17
  refine lv_if_lt (tgt := 16) hx hb dX5_isOne_1 (by decide) (fun c1 => ?_) (fun c1 => ?_)
  · refine lv_iconst (v := (0 : Int32)) hx hb dX5_isOne_16 (by decide) ?_
    exact hJ8 _ _ (by first | rfl | (simp only [if_pos c1])) (lv_sub hl [] rfl)
  · refine lv_iload_n hx hb dX5_isOne_4 rfl (lv_at hl 1 rfl) ?_
    refine lv_aload_n hx hb dX5_isOne_5 rfl (lv_at hl 0 rfl) ?_
    refine wk_get hx hb hts hin_X5 hown hK hP 5 0 1 (.int (T0 1 0)) rfl rfl (by decide) (mi 1 rfl) rfl rfl dX5_isOne_6 ?_
    refine lv_icmp_ge (tgt := 16) hx hb dX5_isOne_9 (by decide) (fun c2 => ?_) (fun c2 => ?_)
    · refine lv_iconst (v := (0 : Int32)) hx hb dX5_isOne_16 (by decide) ?_
      exact hJ8 _ _ (by first | rfl | (simp only [if_neg c1, if_pos c2])) (lv_sub hl [] rfl)
    · refine lv_iconst (v := (1 : Int32)) hx hb dX5_isOne_12 (by decide) ?_
      refine lv_goto (tgt := 17) hx hb dX5_isOne_13 (by decide) ?_
      exact hJ8 _ _ (by first | rfl | (simp only [if_neg c1, if_neg c2])) (lv_sub hl [] rfl)
theorem hd_X5_isSight : yX5_isSight.cls = RX5 ∧ yX5_isSight.cls ≠ "java/lang/invoke/MethodHandle" ∧ yX5_isSight.cls ≠ "java/lang/invoke/VarHandle" ∧ (parseMethodDescriptor yX5_isSight.desc).map (fun d => d.parameters.length) = some 1 := by decide +kernel
set_option maxHeartbeats 4000000 in
set_option maxRecDepth 100000 in
theorem c_X5_isSight (l : Launch) (g : Gm) (a0 : Nat → Nat) (T0 : TS) (p1 : Int32) : MR l yX5_isSight wsX5_isSight 0 0 g [.ref (a0 0), .int p1] (wX5 g a0 T0) (some (.int (f_X5_isSight T0 p1))) := by
  refine Met.ofW (cc := cX5_isSight) (maxL := 2) (ret := (some .boolean)) (by decide) rfl ?_
  intro p e s m args below meth c s₁ B hml hv
  obtain ⟨rfl, hP, hK⟩ := hv
  have hx := B.exec; have hb := B.bytes; have hr := B.returns
  have hts := atoms_spec (ws := wsX5_isSight) B.pre
  have hown : s.vm.findClass RX5 = some m.cls := findClass_of_methodNamed B.named
  have hlocks := B.notSynchronized
  have hS : CallFix p m c cX5_isSight 2 s _ wsX5_isSight RX5 := ⟨hx, hb, hml, hown, hts⟩
  have hin_X5 : ∀ w ∈ wsX50, w ∈ wsX5_isSight := fun w h => (List.mem_cons_of_mem _ (List.mem_append_right _ h))
  have hl := lv_entry ([.ref (a0 0), .int p1]) (n := 2) (Nat.le_of_ble_eq_true rfl)
  rw [lg_entry_eq]
  generalize (lg_sl ([.ref (a0 0), .int p1]) ++ List.replicate (2 - (lg_sl ([.ref (a0 0), .int p1])).length) Slot.unset).toArray = ls at hl ⊢
  have hl : lv_has ls 2 [(0, .ref (a0 0)), (1, .int p1)] := hl
  obtain ⟨rr, hM⟩ : ∃ rr, f_X5_isSight T0 p1 = rr := ⟨_, rfl⟩
  rw [hM]
  rw [f_X5_isSight] at hM
  refine lv_iload_n hx hb dX5_isSight_0 rfl (lv_at hl 1 rfl) ?_
  have hJ8 : ∀ (x7 : Int32) (ls : Array Slot), x7 = (if p1 < 0 then (0 : Int32) else (if (T0 0 0) ≤ p1 then (0 : Int32) else (1 : Int32))) → lv_has ls 2 [] → W p l e (headSpec wsX5_isSight ({ frames := 0, cells := 0, slots := 0, locals := 0 } : Room)).room s m ([.ref (a0 0), .int p1] : List Value).toArray below meth c s.heap [] 0 0 (MQ below (QcR (some (.int rr))) ([.ref (a0 0), .int p1] : List Value).toArray s 0 0 (fun _ => False)) (F0 m 17 ls [.int x7]) := by
    intro x7 ls hxx7 hl
    subst hxx7
    subst hM
    exact W.zret hx hb hr (nz (by repeat (first | exact Or.inl rfl | exact Or.inr rfl | split))) (fun t ht _ => ⟨rfl, ht⟩) (fun q hq => by cases hq) dX5_isSight_17
  refine lv_if_lt (tgt := 16) hx hb dX5_isSight_1 (by decide) (fun c1 => ?_) (fun c1 => ?_)
  · refine lv_iconst (v := (0 : Int32)) hx hb dX5_isSight_16 (by decide) ?_
    exact hJ8 _ _ (by first | rfl | (simp only [if_pos c1])) (lv_sub hl [] rfl)
  · refine lv_iload_n hx hb dX5_isSight_4 rfl (lv_at hl 1 rfl) ?_
    refine lv_aload_n hx hb dX5_isSight_5 rfl (lv_at hl 0 rfl) ?_
    refine wk_get hx hb hts hin_X5 hown hK hP 5 0 0 (.int (T0 0 0)) rfl rfl (by decide) (mi 1 rfl) rfl rfl dX5_isSight_6 ?_
    refine lv_icmp_ge (tgt := 16) hx hb dX5_isSight_9 (by decide) (fun c2 => ?_) (fun c2 => ?_)
    · refine lv_iconst (v := (0 : Int32)) hx hb dX5_isSight_16 (by decide) ?_
      exact hJ8 _ _ (by first | rfl | (simp only [if_neg c1, if_pos c2])) (lv_sub hl [] rfl)
    · refine lv_iconst (v := (1 : Int32)) hx hb dX5_isSight_12 (by decide) ?_
      refine lv_goto (tgt := 17) hx hb dX5_isSight_13 (by decide) ?_
      exact hJ8 _ _ (by first | rfl | (simp only [if_neg c1, if_neg c2])) (lv_sub hl [] rfl)
theorem hd_X5_join : yX5_join.cls = RX5 ∧ yX5_join.cls ≠ "java/lang/invoke/MethodHandle" ∧ yX5_join.cls ≠ "java/lang/invoke/VarHandle" ∧ (parseMethodDescriptor yX5_join.desc).map (fun d => d.parameters.length) = some 2 := by decide +kernel
set_option maxHeartbeats 4000000 in
set_option maxRecDepth 100000 in
theorem c_X5_join (l : Launch) (g : Gm) (a0 : Nat → Nat) (T0 : TS) (p1 : Int32) (p2 : Int32) {q : (Int32 × TS)} (hM : f_X5_join T0 p1 p2 = some q) : MW l yX5_join wsX5_join 0 0 g [.ref (a0 0), .int p1, .int p2] (wX5 g a0 T0) (some (.int q.1)) (wX5 g a0 q.2) := by
  intro sz
  refine Met.ofW (cc := cX5_join) (maxL := 4) (ret := (some .int)) (by decide) rfl ?_
  intro p e s m args below meth c s₁ B hml hv
  obtain ⟨rfl, hsz, hP, hK, hD0⟩ := hv
  have hx := B.exec; have hb := B.bytes; have hr := B.returns
  have hts := atoms_spec (ws := wsX5_join) B.pre
  have hown : s.vm.findClass RX5 = some m.cls := findClass_of_methodNamed B.named
  have hlocks := B.notSynchronized
  have hS : CallFix p m c cX5_join 4 s _ wsX5_join RX5 := ⟨hx, hb, hml, hown, hts⟩
  have hin_X5 : ∀ w ∈ wsX50, w ∈ wsX5_join := fun w h => (List.mem_cons_of_mem _ (List.mem_append_right _ h))
  subst hsz
  have hw := wk_start hP hD0
  have hA : ∀ q : Nat, s.heap.size ≤ q → va_A (wX5 g a0 T0) s.heap.size q := fun q h => Or.inr h
  generalize va_A (wX5 g a0 T0) s.heap.size = A at hw hA ⊢
  clear hP hD0
  have hl := lv_entry ([.ref (a0 0), .int p1, .int p2]) (n := 4) (Nat.le_of_ble_eq_true rfl)
  rw [lg_entry_eq]
  generalize (lg_sl ([.ref (a0 0), .int p1, .int p2]) ++ List.replicate (4 - (lg_sl ([.ref (a0 0), .int p1, .int p2])).length) Slot.unset).toArray = ls at hl ⊢
  have hl : lv_has ls 4 [(0, .ref (a0 0)), (1, .int p1), (2, .int p2)] := hl
  rw [f_X5_join] at hM
  refine lv_aload_n hx hb dX5_join_0 rfl (lv_at hl 0 rfl) ?_
  refine wk_get hx hb hts hin_X5 hown hK hw.1 5 0 1 (.int (T0 1 0)) rfl rfl (by decide) (mi 1 rfl) rfl rfl dX5_join_1 ?_
  refine lv_istore_n (lv' := [(3, .int (T0 1 0)), (0, .ref (a0 0)), (1, .int p1), (2, .int p2)]) hx hb dX5_join_4 rfl hl (by decide) rfl (fun ls hl => ?_)
  refine lv_aload_n hx hb dX5_join_5 rfl (lv_at hl 1 rfl) ?_
  refine wk_get hx hb hts hin_X5 hown hK hw.1 5 0 11 (.ref (a0 5)) rfl rfl (by decide) (mi 2 rfl) rfl rfl dX5_join_6 ?_
  refine lv_iload_n hx hb dX5_join_9 rfl (lv_at hl 0 rfl) ?_
  refine lv_iload_n hx hb dX5_join_10 rfl (lv_at hl 2 rfl) ?_
  obtain ⟨k1, hM⟩ := ck hM
  refine wk_iast (wq := (wX5 g a0 (up T0 11 (upd (T0 11) ((T0 1 0)).toNatClampNeg p1)))) hx hb hK hw 5 7 (T0 11) rfl k1 dX5_join_11 rfl (fun H locs hw => ?_)
  refine lv_aload_n hx hb dX5_join_12 rfl (lv_at hl 1 rfl) ?_
  refine wk_get hx hb hts hin_X5 hown hK hw.1 5 0 12 (.ref (a0 6)) rfl rfl (by decide) (mi 3 rfl) rfl rfl dX5_join_13 ?_
  refine lv_iload_n hx hb dX5_join_16 rfl (lv_at hl 0 rfl) ?_
  refine lv_iload_n hx hb dX5_join_17 rfl (lv_at hl 3 rfl) ?_
  refine wk_iast (wq := (wX5 g a0 (up (up T0 11 (upd (T0 11) ((T0 1 0)).toNatClampNeg p1)) 12 (upd (T0 12) ((T0 1 0)).toNatClampNeg p2)))) hx hb hK hw 6 7 (T0 12) rfl k1 dX5_join_18 rfl (fun H locs hw => ?_)
  refine lv_aload_n hx hb dX5_join_19 rfl (lv_at hl 1 rfl) ?_
  refine wk_get hx hb hts hin_X5 hown hK hw.1 5 0 7 (.ref (a0 1)) rfl rfl (by decide) (mi 4 rfl) rfl rfl dX5_join_20 ?_
  refine lv_iload_n hx hb dX5_join_23 rfl (lv_at hl 0 rfl) ?_
  refine lv_iconst (v := (0 : Int32)) hx hb dX5_join_24 (by decide) ?_
  refine wk_iast (wq := (wX5 g a0 (up (up (up T0 11 (upd (T0 11) ((T0 1 0)).toNatClampNeg p1)) 12 (upd (T0 12) ((T0 1 0)).toNatClampNeg p2)) 7 (upd (T0 7) ((T0 1 0)).toNatClampNeg (0 : Int32))))) hx hb hK hw 1 7 (T0 7) rfl k1 dX5_join_25 rfl (fun H locs hw => ?_)
  refine lv_aload_n hx hb dX5_join_26 rfl (lv_at hl 1 rfl) ?_
  refine wk_get hx hb hts hin_X5 hown hK hw.1 5 0 8 (.ref (a0 2)) rfl rfl (by decide) (mi 5 rfl) rfl rfl dX5_join_27 ?_
  refine lv_iload_n hx hb dX5_join_30 rfl (lv_at hl 0 rfl) ?_
  refine lv_iconst (v := (0 : Int32)) hx hb dX5_join_31 (by decide) ?_
  refine wk_iast (wq := (wX5 g a0 (up (up (up (up T0 11 (upd (T0 11) ((T0 1 0)).toNatClampNeg p1)) 12 (upd (T0 12) ((T0 1 0)).toNatClampNeg p2)) 7 (upd (T0 7) ((T0 1 0)).toNatClampNeg (0 : Int32))) 8 (upd (T0 8) ((T0 1 0)).toNatClampNeg (0 : Int32))))) hx hb hK hw 2 7 (T0 8) rfl k1 dX5_join_32 rfl (fun H locs hw => ?_)
  refine lv_aload_n hx hb dX5_join_33 rfl (lv_at hl 1 rfl) ?_
  refine wk_get hx hb hts hin_X5 hown hK hw.1 5 0 9 (.ref (a0 3)) rfl rfl (by decide) (mi 6 rfl) rfl rfl dX5_join_34 ?_
  refine lv_iload_n hx hb dX5_join_37 rfl (lv_at hl 0 rfl) ?_
  refine lv_iconst (v := (0 : Int32)) hx hb dX5_join_38 (by decide) ?_
  refine wk_iast (wq := (wX5 g a0 (up (up (up (up (up T0 11 (upd (T0 11) ((T0 1 0)).toNatClampNeg p1)) 12 (upd (T0 12) ((T0 1 0)).toNatClampNeg p2)) 7 (upd (T0 7) ((T0 1 0)).toNatClampNeg (0 : Int32))) 8 (upd (T0 8) ((T0 1 0)).toNatClampNeg (0 : Int32))) 9 (upd (T0 9) ((T0 1 0)).toNatClampNeg (0 : Int32))))) hx hb hK hw 3 7 (T0 9) rfl k1 dX5_join_39 rfl (fun H locs hw => ?_)
  refine lv_aload_n hx hb dX5_join_40 rfl (lv_at hl 1 rfl) ?_
  refine wk_get hx hb hts hin_X5 hown hK hw.1 5 0 10 (.ref (a0 4)) rfl rfl (by decide) (mi 7 rfl) rfl rfl dX5_join_41 ?_
  refine lv_iload_n hx hb dX5_join_44 rfl (lv_at hl 0 rfl) ?_
  refine lv_iconst (v := (0 : Int32)) hx hb dX5_join_45 (by decide) ?_
  refine wk_iast (wq := (wX5 g a0 (up (up (up (up (up (up T0 11 (upd (T0 11) ((T0 1 0)).toNatClampNeg p1)) 12 (upd (T0 12) ((T0 1 0)).toNatClampNeg p2)) 7 (upd (T0 7) ((T0 1 0)).toNatClampNeg (0 : Int32))) 8 (upd (T0 8) ((T0 1 0)).toNatClampNeg (0 : Int32))) 9 (upd (T0 9) ((T0 1 0)).toNatClampNeg (0 : Int32))) 10 (upd (T0 10) ((T0 1 0)).toNatClampNeg (0 : Int32))))) hx hb hK hw 4 7 (T0 10) rfl k1 dX5_join_46 rfl (fun H locs hw => ?_)
  refine lv_aload_n hx hb dX5_join_47 rfl (lv_at hl 1 rfl) ?_
  refine lv_dup hx hb dX5_join_48 rfl ?_
  refine wk_get hx hb hts hin_X5 hown hK hw.1 5 0 1 (.int (T0 1 0)) rfl rfl (by decide) (mi 1 rfl) rfl rfl dX5_join_49 ?_
  refine lv_iconst (v := (1 : Int32)) hx hb dX5_join_52 (by decide) ?_
  refine lv_iadd hx hb dX5_join_53 ?_
  refine wk_put (wq := (wX5 g a0 (up (up (up (up (up (up (up T0 11 (upd (T0 11) ((T0 1 0)).toNatClampNeg p1)) 12 (upd (T0 12) ((T0 1 0)).toNatClampNeg p2)) 7 (upd (T0 7) ((T0 1 0)).toNatClampNeg (0 : Int32))) 8 (upd (T0 8) ((T0 1 0)).toNatClampNeg (0 : Int32))) 9 (upd (T0 9) ((T0 1 0)).toNatClampNeg (0 : Int32))) 10 (upd (T0 10) ((T0 1 0)).toNatClampNeg (0 : Int32))) 1 (fun _ => ((T0 1 0) + (1 : Int32)))))) hx hb hts hin_X5 tyX5 tyX5_ok nmX5 hown hK hw 5 0 1 rfl rfl (by decide) (mi 1 rfl) rfl rfl rfl rfl (Nat.le_of_ble_eq_true rfl) dX5_join_54 rfl (fun H locs hw => ?_)
  refine lv_iload_n hx hb dX5_join_57 rfl (lv_at hl 0 rfl) ?_
  obtain rfl := Option.some.inj hM
  exact W.iret hx hb hr (fun t ht _ => ⟨rfl, by rw [ht]; exact hw.1, hw.2.2.F ht⟩) hw.2.2.2.2 dX5_join_58
theorem hd_X5_kindOf : yX5_kindOf.cls = RX5 ∧ yX5_kindOf.cls ≠ "java/lang/invoke/MethodHandle" ∧ yX5_kindOf.cls ≠ "java/lang/invoke/VarHandle" ∧ (parseMethodDescriptor yX5_kindOf.desc).map (fun d => d.parameters.length) = some 1 := by decide +kernel
set_option maxHeartbeats 4000000 in
set_option maxRecDepth 100000 in
theorem c_X5_kindOf (l : Launch) (g : Gm) (a0 : Nat → Nat) (T0 : TS) (p1 : Int32) {q : Int32} (hM : f_X5_kindOf T0 p1 = some q) : MR l yX5_kindOf wsX5_kindOf 0 0 g [.ref (a0 0), .int p1] (wX5 g a0 T0) (some (.int q)) := by
  refine Met.ofW (cc := cX5_kindOf) (maxL := 2) (ret := (some .int)) (by decide) rfl ?_
  intro p e s m args below meth c s₁ B hml hv
  obtain ⟨rfl, hP, hK⟩ := hv
  have hx := B.exec; have hb := B.bytes; have hr := B.returns
  have hts := atoms_spec (ws := wsX5_kindOf) B.pre
  have hown : s.vm.findClass RX5 = some m.cls := findClass_of_methodNamed B.named
  have hlocks := B.notSynchronized
  have hS : CallFix p m c cX5_kindOf 2 s _ wsX5_kindOf RX5 := ⟨hx, hb, hml, hown, hts⟩
  have hin_X5 : ∀ w ∈ wsX50, w ∈ wsX5_kindOf := fun w h => (List.mem_cons_of_mem _ (List.mem_append_right _ h))
  have hl := lv_entry ([.ref (a0 0), .int p1]) (n := 2) (Nat.le_of_ble_eq_true rfl)
  rw [lg_entry_eq]
  generalize (lg_sl ([.ref (a0 0), .int p1]) ++ List.replicate (2 - (lg_sl ([.ref (a0 0), .int p1])).length) Slot.unset).toArray = ls at hl ⊢
  have hl : lv_has ls 2 [(0, .ref (a0 0)), (1, .int p1)] := hl
  rw [f_X5_kindOf] at hM
  refine lv_aload_n hx hb dX5_kindOf_0 rfl (lv_at hl 0 rfl) ?_
  refine wk_get hx hb hts hin_X5 hown hK hP 5 0 11 (.ref (a0 5)) rfl rfl (by decide) (mi 1 rfl) rfl rfl dX5_kindOf_1 ?_
  refine lv_iload_n hx hb dX5_kindOf_4 rfl (lv_at hl 1 rfl) ?_
  obtain ⟨k1, hM⟩ := ck hM
  refine wk_iald hx hb hK hP 5 7 (T0 11) rfl k1 dX5_kindOf_5 ?_
  obtain rfl := Option.some.inj hM
  exact W.iret hx hb hr (fun t ht _ => ⟨rfl, ht⟩) (fun q hq => by cases hq) dX5_kindOf_6
theorem hd_J6_bitCount_0f7a4 : yJ6_bitCount_0f7a4.cls ≠ "java/lang/invoke/MethodHandle" ∧ yJ6_bitCount_0f7a4.cls ≠ "java/lang/invoke/VarHandle" ∧ (parseMethodDescriptor yJ6_bitCount_0f7a4.desc).map (fun d => d.parameters.length) = some 1 := by decide +kernel
set_option maxHeartbeats 4000000 in
set_option maxRecDepth 100000 in
theorem c_J6_bitCount_0f7a4 (l : Launch) (g : Gm) (p0 : Int32) : MR l yJ6_bitCount_0f7a4 wsJ6_bitCount_0f7a4 0 0 g [.int p0] ([] : va_W) (some (.int (f_J6_bitCount_0f7a4 p0))) := by
  refine Met.ofW (cc := cJ6_bitCount_0f7a4) (maxL := 1) (ret := (some .int)) (by decide) rfl ?_
  intro p e s m args below meth c s₁ B hml hv
  obtain ⟨rfl, hP, hK⟩ := hv
  have hx := B.exec; have hb := B.bytes; have hr := B.returns
  have hts := atoms_spec (ws := wsJ6_bitCount_0f7a4) B.pre
  have hown : s.vm.findClass RJ6 = some m.cls := findClass_of_methodNamed B.named
  have hlocks := B.notSynchronized
  have hS : CallFix p m c cJ6_bitCount_0f7a4 1 s _ wsJ6_bitCount_0f7a4 RJ6 := ⟨hx, hb, hml, hown, hts⟩
  have hl := lv_entry ([.int p0]) (n := 1) (Nat.le_of_ble_eq_true rfl)
  rw [lg_entry_eq]
  generalize (lg_sl ([.int p0]) ++ List.replicate (1 - (lg_sl ([.int p0])).length) Slot.unset).toArray = ls at hl ⊢
  have hl : lv_has ls 1 [(0, .int p0)] := hl
  obtain ⟨rr, hM⟩ : ∃ rr, f_J6_bitCount_0f7a4 p0 = rr := ⟨_, rfl⟩
  rw [hM]
  rw [f_J6_bitCount_0f7a4] at hM
  refine lv_iload_n hx hb dJ6_bitCount_0f7a4_0 rfl (lv_at hl 0 rfl) ?_
  refine lv_iload_n hx hb dJ6_bitCount_0f7a4_1 rfl (lv_at hl 0 rfl) ?_
  refine lv_iconst (v := (1 : Int32)) hx hb dJ6_bitCount_0f7a4_2 (by decide) ?_
  refine lv_iushr (v := ((p0).toUInt32 >>> (((1 : Int32)).toUInt32 &&& Int32.toUInt32 31)).toInt32) hx hb dJ6_bitCount_0f7a4_3 rfl ?_
  refine lv_ldcw (v := (1431655765 : Int32)) hx hb hown (hts _ (mi 1 rfl)) dJ6_bitCount_0f7a4_4 ?_
  refine lv_iand hx hb dJ6_bitCount_0f7a4_7 ?_
  refine lv_isub hx hb dJ6_bitCount_0f7a4_8 ?_
  refine lv_istore_n (lv' := [(0, .int (bk1 p0))]) hx hb dJ6_bitCount_0f7a4_9 rfl hl (by decide) rfl (fun ls hl => ?_)
  refine lv_iload_n hx hb dJ6_bitCount_0f7a4_10 rfl (lv_at hl 0 rfl) ?_
  refine lv_ldcw (v := (858993459 : Int32)) hx hb hown (hts _ (mi 2 rfl)) dJ6_bitCount_0f7a4_11 ?_
  refine lv_iand hx hb dJ6_bitCount_0f7a4_14 ?_
  refine lv_iload_n hx hb dJ6_bitCount_0f7a4_15 rfl (lv_at hl 0 rfl) ?_
  refine lv_iconst (v := (2 : Int32)) hx hb dJ6_bitCount_0f7a4_16 (by decide) ?_
  refine lv_iushr (v := (((bk1 p0)).toUInt32 >>> (((2 : Int32)).toUInt32 &&& Int32.toUInt32 31)).toInt32) hx hb dJ6_bitCount_0f7a4_17 rfl ?_
  refine lv_ldcw (v := (858993459 : Int32)) hx hb hown (hts _ (mi 2 rfl)) dJ6_bitCount_0f7a4_18 ?_
  refine lv_iand hx hb dJ6_bitCount_0f7a4_21 ?_
  refine lv_iadd hx hb dJ6_bitCount_0f7a4_22 ?_
  refine lv_istore_n (lv' := [(0, .int (bk2 (bk1 p0)))]) hx hb dJ6_bitCount_0f7a4_23 rfl hl (by decide) rfl (fun ls hl => ?_)
  refine lv_iload_n hx hb dJ6_bitCount_0f7a4_24 rfl (lv_at hl 0 rfl) ?_
  refine lv_iload_n hx hb dJ6_bitCount_0f7a4_25 rfl (lv_at hl 0 rfl) ?_
  refine lv_iconst (v := (4 : Int32)) hx hb dJ6_bitCount_0f7a4_26 (by decide) ?_
  refine lv_iushr (v := (((bk2 (bk1 p0))).toUInt32 >>> (((4 : Int32)).toUInt32 &&& Int32.toUInt32 31)).toInt32) hx hb dJ6_bitCount_0f7a4_27 rfl ?_
  refine lv_iadd hx hb dJ6_bitCount_0f7a4_28 ?_
  refine lv_ldcw (v := (252645135 : Int32)) hx hb hown (hts _ (mi 3 rfl)) dJ6_bitCount_0f7a4_29 ?_
  refine lv_iand hx hb dJ6_bitCount_0f7a4_32 ?_
  refine lv_istore_n (lv' := [(0, .int (bk3 (bk2 (bk1 p0))))]) hx hb dJ6_bitCount_0f7a4_33 rfl hl (by decide) rfl (fun ls hl => ?_)
  refine lv_iload_n hx hb dJ6_bitCount_0f7a4_34 rfl (lv_at hl 0 rfl) ?_
  refine lv_iload_n hx hb dJ6_bitCount_0f7a4_35 rfl (lv_at hl 0 rfl) ?_
  refine lv_bipush (v := (8 : Int32)) hx hb dJ6_bitCount_0f7a4_36 (by decide) ?_
  refine lv_iushr (v := (((bk3 (bk2 (bk1 p0)))).toUInt32 >>> (((8 : Int32)).toUInt32 &&& Int32.toUInt32 31)).toInt32) hx hb dJ6_bitCount_0f7a4_38 rfl ?_
  refine lv_iadd hx hb dJ6_bitCount_0f7a4_39 ?_
  refine lv_istore_n (lv' := [(0, .int (bk4 (bk3 (bk2 (bk1 p0)))))]) hx hb dJ6_bitCount_0f7a4_40 rfl hl (by decide) rfl (fun ls hl => ?_)
  refine lv_iload_n hx hb dJ6_bitCount_0f7a4_41 rfl (lv_at hl 0 rfl) ?_
  refine lv_iload_n hx hb dJ6_bitCount_0f7a4_42 rfl (lv_at hl 0 rfl) ?_
  refine lv_bipush (v := (16 : Int32)) hx hb dJ6_bitCount_0f7a4_43 (by decide) ?_
  refine lv_iushr (v := (((bk4 (bk3 (bk2 (bk1 p0))))).toUInt32 >>> (((16 : Int32)).toUInt32 &&& Int32.toUInt32 31)).toInt32) hx hb dJ6_bitCount_0f7a4_45 rfl ?_
  refine lv_iadd hx hb dJ6_bitCount_0f7a4_46 ?_
  refine lv_istore_n (lv' := [(0, .int (bk5 (bk4 (bk3 (bk2 (bk1 p0))))))]) hx hb dJ6_bitCount_0f7a4_47 rfl hl (by decide) rfl (fun ls hl => ?_)
  refine lv_iload_n hx hb dJ6_bitCount_0f7a4_48 rfl (lv_at hl 0 rfl) ?_
  refine lv_bipush (v := (63 : Int32)) hx hb dJ6_bitCount_0f7a4_49 (by decide) ?_
  refine lv_iand hx hb dJ6_bitCount_0f7a4_51 ?_
  subst hM
  exact W.iret hx hb hr (fun t ht _ => ⟨rfl, ht⟩) (fun q hq => by cases hq) dJ6_bitCount_0f7a4_52

