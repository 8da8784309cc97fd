theorem hd_X6_element : yX6_element.cls = RX6 ∧ yX6_element.cls ≠ "java/lang/invoke/MethodHandle" ∧ yX6_element.cls ≠ "java/lang/invoke/VarHandle" ∧ (parseMethodDescriptor yX6_element.desc).map (fun d => d.parameters.length) = some 2 := by decide +kernel
set_option maxHeartbeats 4000000 in
set_option maxRecDepth 100000 in
theorem c_X6_element (l : Launch) (g : Gm) (a0 : Nat → Nat) (a1 : Nat → Nat) (a2 : Nat → Nat) (a3 : Nat → Nat) (a4 : Nat → Nat) (a5 : Nat → Nat) (a6 : Nat → Nat) (a7 : Nat → Nat) (a8 : Nat → Nat) (Z0 : TS) (T1 : TS) (T2 : TS) (T3 : TS) (G4 : TS) (R4 : LTS) (P5 : TS) (O7 : TS) (B7 : TS) (p1 : Int32) (p2 : Int32) {q : Int64} (hM : f_X6_element Z0 T1 T2 T3 G4 R4 P5 O7 B7 p1 p2 = some q) : MR l yX6_element wsX6_element 3 64 g [.ref (a0 0), .int p1, .int p2] ((wX6 g a0 (a1 0) (a2 0) (a3 0) (a4 0) (a5 0) (a6 0) (a7 0) (a8 0) Z0) ++ ((wX5 g a1 T1) ++ ((wX5 g a2 T2) ++ ((wX5 g a3 T3) ++ ((wX3 g a4 G4 R4) ++ ((wX4 g a5 P5) ++ ((wX2 g a6 (a1 0) (a3 0)) ++ ((wX1 g a7 (a1 0) (a3 0) O7 B7) ++ (wX0 g a8 (a1 0) (a3 0) (a4 0)))))))))) (some (.long q)) := by
  refine Met.ofW (cc := cX6_element) (maxL := 3) (ret := (some .long)) (by decide) rfl ?_
  intro p e s m args below meth c s₁ B hml hv
  obtain ⟨rfl, hP, hK⟩ := hv
  have hx := B.exec; have hb := B.bytes; have hr := B.returns
  have hts := atoms_spec (ws := wsX6_element) B.pre
  have hown : s.vm.findClass RX6 = some m.cls := findClass_of_methodNamed B.named
  have hlocks := B.notSynchronized
  have hS : CallFix p m c cX6_element 3 s _ wsX6_element RX6 := ⟨hx, hb, hml, hown, hts⟩
  have hin_X6 : ∀ w ∈ wsX60, w ∈ wsX6_element := fun w h => (List.mem_cons_of_mem _ (List.mem_append_left _ (List.mem_append_right _ h)))
  have hl := lv_entry ([.ref (a0 0), .int p1, .int p2]) (n := 3) (Nat.le_of_ble_eq_true rfl)
  rw [lg_entry_eq]
  generalize (lg_sl ([.ref (a0 0), .int p1, .int p2]) ++ List.replicate (3 - (lg_sl ([.ref (a0 0), .int p1, .int p2])).length) Slot.unset).toArray = ls at hl ⊢
  have hl : lv_has ls 3 [(0, .ref (a0 0)), (1, .int p1), (2, .int p2)] := hl
  rw [f_X6_element] at hM
  refine lv_aload_n hx hb dX6_element_0 rfl (lv_at hl 0 rfl) ?_
  refine wk_get hx hb hts hin_X6 hown hK hP 6 0 3 (.ref (a4 0)) rfl rfl (by decide) (mi 1 rfl) rfl rfl dX6_element_1 ?_
  refine lv_iload_n hx hb dX6_element_4 rfl (lv_at hl 1 rfl) ?_
  refine lv_iload_n hx hb dX6_element_5 rfl (lv_at hl 2 rfl) ?_
  obtain ⟨q2, h1, hM⟩ := bd hM
  refine rVR (wc := (wX3 g a4 G4 R4)) (As := [.int p1, .int p2]) (rest := []) (q0 := 0) hS (c_X3_elementOf l g a4 G4 R4 p1 p2 h1) gX6_element_X3_elementOf rfl hd_X3_elementOf ⟨Nat.le_of_ble_eq_true rfl, Nat.le_of_ble_eq_true rfl⟩ hK (va_P.pm hP (pm_9_4 _ _ _ _ _ _ _ _ _)) rfl rfl rfl rfl hl.1 rfl (Nat.le_of_ble_eq_true rfl) dX6_element_6 ⟨Nat.zero_le _, Nat.zero_le _⟩ ?_
  obtain rfl := Option.some.inj hM
  exact W.lret hx hb hr (fun t ht _ => ⟨rfl, ht⟩) (fun q hq => by cases hq) dX6_element_9
theorem hd_X6_troubleWithEvening : yX6_troubleWithEvening.cls = RX6 ∧ yX6_troubleWithEvening.cls ≠ "java/lang/invoke/MethodHandle" ∧ yX6_troubleWithEvening.cls ≠ "java/lang/invoke/VarHandle" ∧ (parseMethodDescriptor yX6_troubleWithEvening.desc).map (fun d => d.parameters.length) = some 2 := by decide +kernel
set_option maxHeartbeats 4000000 in
set_option maxRecDepth 100000 in
theorem c_X6_troubleWithEvening (l : Launch) (g : Gm) (a0 : Nat → Nat) (a1 : Nat → Nat) (a2 : Nat → Nat) (a3 : Nat → Nat) (a4 : Nat → Nat) (a5 : Nat → Nat) (a6 : Nat → Nat) (a7 : Nat → Nat) (a8 : Nat → Nat) (Z0 : TS) (T1 : TS) (T2 : TS) (T3 : TS) (G4 : TS) (R4 : LTS) (P5 : TS) (O7 : TS) (B7 : TS) (p1 : Int32) (p2 : Int32) {q : Int32} (hM : f_X6_troubleWithEvening Z0 T1 T2 T3 G4 R4 P5 O7 B7 p1 p2 = some q) : MR l yX6_troubleWithEvening wsX6_troubleWithEvening 3 64 g [.ref (a0 0), .int p1, .int p2] ((wX6 g a0 (a1 0) (a2 0) (a3 0) (a4 0) (a5 0) (a6 0) (a7 0) (a8 0) Z0) ++ ((wX5 g a1 T1) ++ ((wX5 g a2 T2) ++ ((wX5 g a3 T3) ++ ((wX3 g a4 G4 R4) ++ ((wX4 g a5 P5) ++ ((wX2 g a6 (a1 0) (a3 0)) ++ ((wX1 g a7 (a1 0) (a3 0) O7 B7) ++ (wX0 g a8 (a1 0) (a3 0) (a4 0)))))))))) (some (.int q)) := by
  refine Met.ofW (cc := cX6_troubleWithEvening) (maxL := 3) (ret := (some .int)) (by decide) rfl ?_
  intro p e s m args below meth c s₁ B hml hv
  obtain ⟨rfl, hP, hK⟩ := hv
  have hx := B.exec; have hb := B.bytes; have hr := B.returns
  have hts := atoms_spec (ws := wsX6_troubleWithEvening) B.pre
  have hown : s.vm.findClass RX6 = some m.cls := findClass_of_methodNamed B.named
  have hlocks := B.notSynchronized
  have hS : CallFix p m c cX6_troubleWithEvening 3 s _ wsX6_troubleWithEvening RX6 := ⟨hx, hb, hml, hown, hts⟩
  have hin_X6 : ∀ w ∈ wsX60, w ∈ wsX6_troubleWithEvening := fun w h => (List.mem_cons_of_mem _ (List.mem_append_left _ (List.mem_append_right _ h)))
  have hl := lv_entry ([.ref (a0 0), .int p1, .int p2]) (n := 3) (Nat.le_of_ble_eq_true rfl)
  rw [lg_entry_eq]
  generalize (lg_sl ([.ref (a0 0), .int p1, .int p2]) ++ List.replicate (3 - (lg_sl ([.ref (a0 0), .int p1, .int p2])).length) Slot.unset).toArray = ls at hl ⊢
  have hl : lv_has ls 3 [(0, .ref (a0 0)), (1, .int p1), (2, .int p2)] := hl
  rw [f_X6_troubleWithEvening] at hM
  refine lv_iload_n hx hb dX6_troubleWithEvening_0 rfl (lv_at hl 2 rfl) ?_
  refine lv_iconst (v := (0 : Int32)) hx hb dX6_troubleWithEvening_1 (by decide) ?_
  refine lv_bipush (v := (40 : Int32)) hx hb dX6_troubleWithEvening_2 (by decide) ?_
  refine rSR (wc := ([] : va_W)) (As := [.int p2, .int (0 : Int32), .int (40 : Int32)]) (rest := []) hS (c_X6_isWithin l g p2 (0 : Int32) (40 : Int32)) gX6_troubleWithEvening_X6_isWithin rfl hd_X6_isWithin ⟨Nat.le_of_ble_eq_true rfl, Nat.le_of_ble_eq_true rfl⟩ hK (hP_nil) rfl hl.1 rfl (Nat.le_of_ble_eq_true rfl) dX6_troubleWithEvening_4 ⟨Nat.zero_le _, Nat.zero_le _⟩ ?_
  refine lv_if_eq (tgt := 22) hx hb dX6_troubleWithEvening_7 (by decide) (fun c2 => ?_) (fun c2 => ?_)
  · replace hM := itp c2 hM
    refine lv_bipush (v := (-2 : Int32)) hx hb dX6_troubleWithEvening_22 (by decide) ?_
    obtain rfl := Option.some.inj hM
    exact W.iret hx hb hr (fun t ht _ => ⟨rfl, ht⟩) (fun q hq => by cases hq) dX6_troubleWithEvening_24
  · replace hM := itn c2 hM
    refine lv_aload_n hx hb dX6_troubleWithEvening_10 rfl (lv_at hl 0 rfl) ?_
    refine wk_get hx hb hts hin_X6 hown hK hP 6 0 3 (.ref (a4 0)) rfl rfl (by decide) (mi 1 rfl) rfl rfl dX6_troubleWithEvening_11 ?_
    refine lv_iload_n hx hb dX6_troubleWithEvening_14 rfl (lv_at hl 1 rfl) ?_
    refine lv_iload_n hx hb dX6_troubleWithEvening_15 rfl (lv_at hl 2 rfl) ?_
    obtain ⟨q4, h3, hM⟩ := bd hM
    refine rVR (wc := (wX3 g a4 G4 R4)) (As := [.int p1, .int p2]) (rest := []) (q0 := 0) hS (c_X3_troubleWithRow l g a4 G4 R4 p1 p2 h3) gX6_troubleWithEvening_X3_troubleWithRow rfl hd_X3_troubleWithRow ⟨Nat.le_of_ble_eq_true rfl, Nat.le_of_ble_eq_true rfl⟩ hK (va_P.pm hP (pm_9_4 _ _ _ _ _ _ _ _ _)) rfl rfl rfl rfl hl.1 rfl (Nat.le_of_ble_eq_true rfl) dX6_troubleWithEvening_16 ⟨Nat.zero_le _, Nat.zero_le _⟩ ?_
    refine lv_goto (tgt := 24) hx hb dX6_troubleWithEvening_19 (by decide) ?_
    obtain rfl := Option.some.inj hM
    exact W.iret hx hb hr (fun t ht _ => ⟨rfl, ht⟩) (fun q hq => by cases hq) dX6_troubleWithEvening_24
theorem hd_X6_evening : yX6_evening.cls = RX6 ∧ yX6_evening.cls ≠ "java/lang/invoke/MethodHandle" ∧ yX6_evening.cls ≠ "java/lang/invoke/VarHandle" ∧ (parseMethodDescriptor yX6_evening.desc).map (fun d => d.parameters.length) = some 2 := by decide +kernel
set_option maxHeartbeats 4000000 in
set_option maxRecDepth 100000 in
theorem c_X6_evening (l : Launch) (g : Gm) (a0 : Nat → Nat) (a1 : Nat → Nat) (a2 : Nat → Nat) (a3 : Nat → Nat) (a4 : Nat → Nat) (a5 : Nat → Nat) (a6 : Nat → Nat) (a7 : Nat → Nat) (a8 : Nat → Nat) (Z0 : TS) (T1 : TS) (T2 : TS) (T3 : TS) (G4 : TS) (R4 : LTS) (P5 : TS) (O7 : TS) (B7 : TS) (p1 : Int32) (p2 : Int32) {q : (Int32 × TS × TS × TS)} (hM : f_X6_evening Z0 T1 T2 T3 G4 R4 P5 O7 B7 p1 p2 = some q) : MW l yX6_evening wsX6_evening 5 126 g [.ref (a0 0), .int p1, .int p2] ((wX6 g a0 (a1 0) (a2 0) (a3 0) (a4 0) (a5 0) (a6 0) (a7 0) (a8 0) Z0) ++ ((wX5 g a1 T1) ++ ((wX5 g a2 T2) ++ ((wX5 g a3 T3) ++ ((wX3 g a4 G4 R4) ++ ((wX4 g a5 P5) ++ ((wX2 g a6 (a1 0) (a3 0)) ++ ((wX1 g a7 (a1 0) (a3 0) O7 B7) ++ (wX0 g a8 (a1 0) (a3 0) (a4 0)))))))))) (some (.int q.1)) ((wX6 g a0 (a1 0) (a2 0) (a3 0) (a4 0) (a5 0) (a6 0) (a7 0) (a8 0) q.2.1) ++ ((wX5 g a1 q.2.2.1) ++ ((wX5 g a2 T2) ++ ((wX5 g a3 q.2.2.2) ++ ((wX3 g a4 G4 R4) ++ ((wX4 g a5 P5) ++ ((wX2 g a6 (a1 0) (a3 0)) ++ ((wX1 g a7 (a1 0) (a3 0) O7 B7) ++ (wX0 g a8 (a1 0) (a3 0) (a4 0)))))))))) := by
  intro sz
  refine Met.ofW (cc := cX6_evening) (maxL := 4) (ret := (some .int)) (by decide) rfl ?_
  intro p e s m args below meth c s₁ B hml hv
  obtain ⟨rfl, hsz, hP, hK, hD0⟩ := hv
  have hx := B.exec; have hb := B.bytes; have hr := B.returns
  have hts := atoms_spec (ws := wsX6_evening) B.pre
  have hown : s.vm.findClass RX6 = some m.cls := findClass_of_methodNamed B.named
  have hlocks := B.notSynchronized
  have hS : CallFix p m c cX6_evening 4 s _ wsX6_evening RX6 := ⟨hx, hb, hml, hown, hts⟩
  have hin_X6 : ∀ w ∈ wsX60, w ∈ wsX6_evening := fun w h => (List.mem_cons_of_mem _ (List.mem_append_left _ (List.mem_append_left _ (List.mem_append_left _ (List.mem_append_right _ h)))))
  subst hsz
  have hw := wk_start hP hD0
  have hA : ∀ q : Nat, s.heap.size ≤ q → va_A ((wX6 g a0 (a1 0) (a2 0) (a3 0) (a4 0) (a5 0) (a6 0) (a7 0) (a8 0) Z0) ++ ((wX5 g a1 T1) ++ ((wX5 g a2 T2) ++ ((wX5 g a3 T3) ++ ((wX3 g a4 G4 R4) ++ ((wX4 g a5 P5) ++ ((wX2 g a6 (a1 0) (a3 0)) ++ ((wX1 g a7 (a1 0) (a3 0) O7 B7) ++ (wX0 g a8 (a1 0) (a3 0) (a4 0)))))))))) s.heap.size q := fun q h => Or.inr h
  generalize va_A ((wX6 g a0 (a1 0) (a2 0) (a3 0) (a4 0) (a5 0) (a6 0) (a7 0) (a8 0) Z0) ++ ((wX5 g a1 T1) ++ ((wX5 g a2 T2) ++ ((wX5 g a3 T3) ++ ((wX3 g a4 G4 R4) ++ ((wX4 g a5 P5) ++ ((wX2 g a6 (a1 0) (a3 0)) ++ ((wX1 g a7 (a1 0) (a3 0) O7 B7) ++ (wX0 g a8 (a1 0) (a3 0) (a4 0)))))))))) s.heap.size = A at hw hA ⊢
  clear hP hD0
  have hl := lv_entry ([.ref (a0 0), .int p1, .int p2]) (n := 4) (Nat.le_of_ble_eq_true rfl)
  rw [lg_entry_eq]
  generalize (lg_sl ([.ref (a0 0), .int p1, .int p2]) ++ List.replicate (4 - (lg_sl ([.ref (a0 0), .int p1, .int p2])).length) Slot.unset).toArray = ls at hl ⊢
  have hl : lv_has ls 4 [(0, .ref (a0 0)), (1, .int p1), (2, .int p2)] := hl
  rw [f_X6_evening] at hM
  refine lv_aload_n hx hb dX6_evening_0 rfl (lv_at hl 0 rfl) ?_
  refine lv_iload_n hx hb dX6_evening_1 rfl (lv_at hl 1 rfl) ?_
  refine lv_iload_n hx hb dX6_evening_2 rfl (lv_at hl 2 rfl) ?_
  obtain ⟨q2, h1, hM⟩ := bd hM
  refine rVR (wc := ((wX6 g a0 (a1 0) (a2 0) (a3 0) (a4 0) (a5 0) (a6 0) (a7 0) (a8 0) Z0) ++ ((wX5 g a1 T1) ++ ((wX5 g a2 T2) ++ ((wX5 g a3 T3) ++ ((wX3 g a4 G4 R4) ++ ((wX4 g a5 P5) ++ ((wX2 g a6 (a1 0) (a3 0)) ++ ((wX1 g a7 (a1 0) (a3 0) O7 B7) ++ (wX0 g a8 (a1 0) (a3 0) (a4 0))))))))))) (As := [.int p1, .int p2]) (rest := []) (q0 := 0) hS (c_X6_troubleWithEvening l g a0 a1 a2 a3 a4 a5 a6 a7 a8 Z0 T1 T2 T3 G4 R4 P5 O7 B7 p1 p2 h1) gX6_evening_X6_troubleWithEvening rfl hd_X6_troubleWithEvening ⟨Nat.le_of_ble_eq_true rfl, Nat.le_of_ble_eq_true rfl⟩ hK (va_P.pm hw.1 (pm_9_0_1_2_3_4_5_6_7_8 _ _ _ _ _ _ _ _ _)) rfl rfl rfl rfl hl.1 rfl (Nat.le_of_ble_eq_true rfl) dX6_evening_3 ⟨Nat.zero_le _, Nat.zero_le _⟩ ?_
  refine lv_istore_n (lv' := [(3, .int q2), (0, .ref (a0 0)), (1, .int p1), (2, .int p2)]) hx hb dX6_evening_6 rfl hl (by decide) rfl (fun ls hl => ?_)
  refine lv_iload_n hx hb dX6_evening_7 rfl (lv_at hl 0 rfl) ?_
  refine lv_if_eq (tgt := 17) hx hb dX6_evening_8 (by decide) (fun c3 => ?_) (fun c3 => ?_)
  · replace hM := itp c3 hM
    refine lv_aload_n hx hb dX6_evening_17 rfl (lv_at hl 1 rfl) ?_
    refine wk_get hx hb hts hin_X6 hown hK hw.1 6 0 7 (.ref (a8 0)) rfl rfl (by decide) (mi 1 rfl) rfl rfl dX6_evening_18 ?_
    refine lv_iload_n hx hb dX6_evening_21 rfl (lv_at hl 2 rfl) ?_
    refine lv_iload_n hx hb dX6_evening_22 rfl (lv_at hl 3 rfl) ?_
    obtain ⟨q5, h4, hM⟩ := bd hM
    refine rVWp (wc := ((wX0 g a8 (a1 0) (a3 0) (a4 0)) ++ ((wX5 g a1 T1) ++ ((wX5 g a3 T3) ++ (wX3 g a4 G4 R4))))) (wq := ((wX6 g a0 (a1 0) (a2 0) (a3 0) (a4 0) (a5 0) (a6 0) (a7 0) (a8 0) Z0) ++ ((wX5 g a1 T1) ++ ((wX5 g a2 T2) ++ ((wX5 g a3 q5.2) ++ ((wX3 g a4 G4 R4) ++ ((wX4 g a5 P5) ++ ((wX2 g a6 (a1 0) (a3 0)) ++ ((wX1 g a7 (a1 0) (a3 0) O7 B7) ++ (wX0 g a8 (a1 0) (a3 0) (a4 0))))))))))) (As := [.int p1, .int p2]) (rest := []) (q0 := 0) hS (c_X0_firstWrong l g a8 a1 a3 a4 T1 T3 G4 R4 p1 p2 h4) gX6_evening_X0_firstWrong rfl hd_X0_firstWrong ⟨Nat.le_of_ble_eq_true rfl, Nat.le_of_ble_eq_true rfl⟩ hK hw hA (pm_9_8_1_3_4 _ _ _ _ _ _ _ _ _) rfl (pm_9_8_1_3_4 _ _ _ _ _ _ _ _ _) rfl rfl rfl rfl hl.1 rfl (Nat.le_of_ble_eq_true rfl) dX6_evening_23 ⟨Nat.zero_le _, Nat.zero_le _⟩ (fun H locs hw => ?_)
    refine lv_iconst (v := (-1 : Int32)) hx hb dX6_evening_26 (by decide) ?_
    refine lv_icmp_eq (tgt := 37) hx hb dX6_evening_27 (by decide) (fun c6 => ?_) (fun c6 => ?_)
    · replace hM := itp c6 hM
      refine lv_aload_n hx hb dX6_evening_37 rfl (lv_at hl 1 rfl) ?_
      refine wk_get hx hb hts hin_X6 hown hK hw.1 6 0 0 (.ref (a1 0)) rfl rfl (by decide) (mi 2 rfl) rfl rfl dX6_evening_38 ?_
      refine lv_aload_n hx hb dX6_evening_41 rfl (lv_at hl 1 rfl) ?_
      refine wk_get hx hb hts hin_X6 hown hK hw.1 6 0 2 (.ref (a3 0)) rfl rfl (by decide) (mi 3 rfl) rfl rfl dX6_evening_42 ?_
      obtain ⟨q8, h7, hM⟩ := bd hM
      refine rVWp (wc := ((wX5 g a1 T1) ++ (wX5 g a3 q5.2))) (wq := ((wX6 g a0 (a1 0) (a2 0) (a3 0) (a4 0) (a5 0) (a6 0) (a7 0) (a8 0) Z0) ++ ((wX5 g a1 q8) ++ ((wX5 g a2 T2) ++ ((wX5 g a3 q5.2) ++ ((wX3 g a4 G4 R4) ++ ((wX4 g a5 P5) ++ ((wX2 g a6 (a1 0) (a3 0)) ++ ((wX1 g a7 (a1 0) (a3 0) O7 B7) ++ (wX0 g a8 (a1 0) (a3 0) (a4 0))))))))))) (As := [.ref (a3 0)]) (rest := []) (q0 := 0) hS (c_X5_become l g a1 a3 T1 q5.2 h7) gX6_evening_X5_become rfl hd_X5_become ⟨Nat.le_of_ble_eq_true rfl, Nat.le_of_ble_eq_true rfl⟩ hK hw hA (pm_9_1_3 _ _ _ _ _ _ _ _ _) rfl (pm_9_1_3 _ _ _ _ _ _ _ _ _) rfl rfl rfl rfl hl.1 rfl (Nat.le_of_ble_eq_true rfl) dX6_evening_45 ⟨Nat.zero_le _, Nat.zero_le _⟩ (fun H locs hw => ?_)
      refine lv_aload_n hx hb dX6_evening_48 rfl (lv_at hl 1 rfl) ?_
      refine wk_get hx hb hts hin_X6 hown hK hw.1 6 0 0 (.ref (a1 0)) rfl rfl (by decide) (mi 2 rfl) rfl rfl dX6_evening_49 ?_
      obtain ⟨q10, h9, hM⟩ := bd hM
      refine rVR (wc := (wX5 g a1 q8)) (As := []) (rest := []) (q0 := 0) hS (c_X5_knownInAll l g a1 q8 h9) gX6_evening_X5_knownInAll rfl hd_X5_knownInAll ⟨Nat.le_of_ble_eq_true rfl, Nat.le_of_ble_eq_true rfl⟩ hK (va_P.pm hw.1 (pm_9_1 _ _ _ _ _ _ _ _ _)) rfl rfl rfl rfl hl.1 rfl (Nat.le_of_ble_eq_true rfl) dX6_evening_52 ⟨Nat.zero_le _, Nat.zero_le _⟩ ?_
      obtain rfl := Option.some.inj hM
      exact W.iret hx hb hr (fun t ht _ => ⟨rfl, by rw [ht]; exact hw.1, hw.2.2.F ht⟩) hw.2.2.2.2 dX6_evening_55
    · replace hM := itn c6 hM
      refine lv_aload_n hx hb dX6_evening_30 rfl (lv_at hl 1 rfl) ?_
      refine lv_bipush (v := (-5 : Int32)) hx hb dX6_evening_31 (by decide) ?_
      obtain ⟨q12, h11, hM⟩ := bd hM
      refine rVWp (wc := ((wX6 g a0 (a1 0) (a2 0) (a3 0) (a4 0) (a5 0) (a6 0) (a7 0) (a8 0) Z0) ++ ((wX5 g a1 T1) ++ ((wX5 g a2 T2) ++ ((wX5 g a3 q5.2) ++ ((wX3 g a4 G4 R4) ++ ((wX4 g a5 P5) ++ ((wX2 g a6 (a1 0) (a3 0)) ++ ((wX1 g a7 (a1 0) (a3 0) O7 B7) ++ (wX0 g a8 (a1 0) (a3 0) (a4 0))))))))))) (wq := ((wX6 g a0 (a1 0) (a2 0) (a3 0) (a4 0) (a5 0) (a6 0) (a7 0) (a8 0) q12.2) ++ ((wX5 g a1 T1) ++ ((wX5 g a2 T2) ++ ((wX5 g a3 q5.2) ++ ((wX3 g a4 G4 R4) ++ ((wX4 g a5 P5) ++ ((wX2 g a6 (a1 0) (a3 0)) ++ ((wX1 g a7 (a1 0) (a3 0) O7 B7) ++ (wX0 g a8 (a1 0) (a3 0) (a4 0))))))))))) (As := [.int (-5 : Int32)]) (rest := []) (q0 := 0) hS (c_X6_refuse l g a0 a1 a2 a3 a4 a5 a6 a7 a8 Z0 T1 T2 q5.2 G4 R4 P5 O7 B7 (-5 : Int32) h11) gX6_evening_X6_refuse rfl hd_X6_refuse ⟨Nat.le_of_ble_eq_true rfl, Nat.le_of_ble_eq_true rfl⟩ hK hw hA (pm_9_0_1_2_3_4_5_6_7_8 _ _ _ _ _ _ _ _ _) rfl (pm_9_0_1_2_3_4_5_6_7_8 _ _ _ _ _ _ _ _ _) rfl rfl rfl rfl hl.1 rfl (Nat.le_of_ble_eq_true rfl) dX6_evening_33 ⟨Nat.zero_le _, Nat.zero_le _⟩ (fun H locs hw => ?_)
      obtain rfl := Option.some.inj hM
      exact W.iret hx hb hr (fun t ht _ => ⟨rfl, by rw [ht]; exact hw.1, hw.2.2.F ht⟩) hw.2.2.2.2 dX6_evening_36
  · replace hM := itn c3 hM
    refine lv_aload_n hx hb dX6_evening_11 rfl (lv_at hl 1 rfl) ?_
    refine lv_iload_n hx hb dX6_evening_12 rfl (lv_at hl 0 rfl) ?_
    obtain ⟨q14, h13, hM⟩ := bd hM
    refine rVWp (wc := ((wX6 g a0 (a1 0) (a2 0) (a3 0) (a4 0) (a5 0) (a6 0) (a7 0) (a8 0) Z0) ++ ((wX5 g a1 T1) ++ ((wX5 g a2 T2) ++ ((wX5 g a3 T3) ++ ((wX3 g a4 G4 R4) ++ ((wX4 g a5 P5) ++ ((wX2 g a6 (a1 0) (a3 0)) ++ ((wX1 g a7 (a1 0) (a3 0) O7 B7) ++ (wX0 g a8 (a1 0) (a3 0) (a4 0))))))))))) (wq := ((wX6 g a0 (a1 0) (a2 0) (a3 0) (a4 0) (a5 0) (a6 0) (a7 0) (a8 0) q14.2) ++ ((wX5 g a1 T1) ++ ((wX5 g a2 T2) ++ ((wX5 g a3 T3) ++ ((wX3 g a4 G4 R4) ++ ((wX4 g a5 P5) ++ ((wX2 g a6 (a1 0) (a3 0)) ++ ((wX1 g a7 (a1 0) (a3 0) O7 B7) ++ (wX0 g a8 (a1 0) (a3 0) (a4 0))))))))))) (As := [.int q2]) (rest := []) (q0 := 0) hS (c_X6_refuse l g a0 a1 a2 a3 a4 a5 a6 a7 a8 Z0 T1 T2 T3 G4 R4 P5 O7 B7 q2 h13) gX6_evening_X6_refuse rfl hd_X6_refuse ⟨Nat.le_of_ble_eq_true rfl, Nat.le_of_ble_eq_true rfl⟩ hK hw hA (pm_9_0_1_2_3_4_5_6_7_8 _ _ _ _ _ _ _ _ _) rfl (pm_9_0_1_2_3_4_5_6_7_8 _ _ _ _ _ _ _ _ _) rfl rfl rfl rfl hl.1 rfl (Nat.le_of_ble_eq_true rfl) dX6_evening_13 ⟨Nat.zero_le _, Nat.zero_le _⟩ (fun H locs hw => ?_)
    obtain rfl := Option.some.inj hM
    exact W.iret hx hb hr (fun t ht _ => ⟨rfl, by rw [ht]; exact hw.1, hw.2.2.F ht⟩) hw.2.2.2.2 dX6_evening_16
theorem hd_X6_troubleWithSayings : yX6_troubleWithSayings.cls = RX6 ∧ yX6_troubleWithSayings.cls ≠ "java/lang/invoke/MethodHandle" ∧ yX6_troubleWithSayings.cls ≠ "java/lang/invoke/VarHandle" ∧ (parseMethodDescriptor yX6_troubleWithSayings.desc).map (fun d => d.parameters.length) = some 2 := by decide +kernel
set_option maxHeartbeats 4000000 in
set_option maxRecDepth 100000 in
theorem c_X6_troubleWithSayings (l : Launch) (g : Gm) (a0 : Nat → Nat) (a1 : Nat → Nat) (a2 : Nat → Nat) (a3 : Nat → Nat) (a4 : Nat → Nat) (a5 : Nat → Nat) (a6 : Nat → Nat) (a7 : Nat → Nat) (a8 : Nat → Nat) (Z0 : TS) (T1 : TS) (T2 : TS) (T3 : TS) (G4 : TS) (R4 : LTS) (P5 : TS) (O7 : TS) (B7 : TS) (p1 : Int32) (p2 : Int32) {q : Int32} (hM : f_X6_troubleWithSayings Z0 T1 T2 T3 G4 R4 P5 O7 B7 p1 p2 = some q) : MR l yX6_troubleWithSayings wsX6_troubleWithSayings 4 87 g [.ref (a0 0), .int p1, .int p2] ((wX6 g a0 (a1 0) (a2 0) (a3 0) (a4 0) (a5 0) (a6 0) (a7 0) (a8 0) Z0) ++ ((wX5 g a1 T1) ++ ((wX5 g a2 T2) ++ ((wX5 g a3 T3) ++ ((wX3 g a4 G4 R4) ++ ((wX4 g a5 P5) ++ ((wX2 g a6 (a1 0) (a3 0)) ++ ((wX1 g a7 (a1 0) (a3 0) O7 B7) ++ (wX0 g a8 (a1 0) (a3 0) (a4 0)))))))))) (some (.int q)) := by
  refine Met.ofW (cc := cX6_troubleWithSayings) (maxL := 4) (ret := (some .int)) (by decide) rfl ?_
  intro p e s m args below meth c s₁ B hml hv
  obtain ⟨rfl, hP, hK⟩ := hv
  have hx := B.exec; have hb := B.bytes; have hr := B.returns
  have hts := atoms_spec (ws := wsX6_troubleWithSayings) B.pre
  have hown : s.vm.findClass RX6 = some m.cls := findClass_of_methodNamed B.named
  have hlocks := B.notSynchronized
  have hS : CallFix p m c cX6_troubleWithSayings 4 s _ wsX6_troubleWithSayings RX6 := ⟨hx, hb, hml, hown, hts⟩
  have hin_X6 : ∀ w ∈ wsX60, w ∈ wsX6_troubleWithSayings := fun w h => (List.mem_cons_of_mem _ (List.mem_append_left _ (List.mem_append_left _ (List.mem_append_left _ (List.mem_append_right _ h)))))
  have hl := lv_entry ([.ref (a0 0), .int p1, .int p2]) (n := 4) (Nat.le_of_ble_eq_true rfl)
  rw [lg_entry_eq]
  generalize (lg_sl ([.ref (a0 0), .int p1, .int p2]) ++ List.replicate (4 - (lg_sl ([.ref (a0 0), .int p1, .int p2])).length) Slot.unset).toArray = ls at hl ⊢
  have hl : lv_has ls 4 [(0, .ref (a0 0)), (1, .int p1), (2, .int p2)] := hl
  rw [f_X6_troubleWithSayings] at hM
  refine lv_aload_n hx hb dX6_troubleWithSayings_0 rfl (lv_at hl 0 rfl) ?_
  refine lv_iload_n hx hb dX6_troubleWithSayings_1 rfl (lv_at hl 1 rfl) ?_
  refine lv_iload_n hx hb dX6_troubleWithSayings_2 rfl (lv_at hl 2 rfl) ?_
  obtain ⟨q2, h1, hM⟩ := bd hM
  refine rVR (wc := ((wX6 g a0 (a1 0) (a2 0) (a3 0) (a4 0) (a5 0) (a6 0) (a7 0) (a8 0) Z0) ++ ((wX5 g a1 T1) ++ ((wX5 g a2 T2) ++ ((wX5 g a3 T3) ++ ((wX3 g a4 G4 R4) ++ ((wX4 g a5 P5) ++ ((wX2 g a6 (a1 0) (a3 0)) ++ ((wX1 g a7 (a1 0) (a3 0) O7 B7) ++ (wX0 g a8 (a1 0) (a3 0) (a4 0))))))))))) (As := [.int p1, .int p2]) (rest := []) (q0 := 0) hS (c_X6_troubleWithEvening l g a0 a1 a2 a3 a4 a5 a6 a7 a8 Z0 T1 T2 T3 G4 R4 P5 O7 B7 p1 p2 h1) gX6_troubleWithSayings_X6_troubleWithEvening rfl hd_X6_troubleWithEvening ⟨Nat.le_of_ble_eq_true rfl, Nat.le_of_ble_eq_true rfl⟩ hK (va_P.pm hP (pm_9_0_1_2_3_4_5_6_7_8 _ _ _ _ _ _ _ _ _)) rfl rfl rfl rfl hl.1 rfl (Nat.le_of_ble_eq_true rfl) dX6_troubleWithSayings_3 ⟨Nat.zero_le _, Nat.zero_le _⟩ ?_
  refine lv_istore_n (lv' := [(3, .int q2), (0, .ref (a0 0)), (1, .int p1), (2, .int p2)]) hx hb dX6_troubleWithSayings_6 rfl hl (by decide) rfl (fun ls hl => ?_)
  refine lv_iload_n hx hb dX6_troubleWithSayings_7 rfl (lv_at hl 0 rfl) ?_
  refine lv_if_eq (tgt := 13) hx hb dX6_troubleWithSayings_8 (by decide) (fun c3 => ?_) (fun c3 => ?_)
  · replace hM := itp c3 hM
    refine lv_aload_n hx hb dX6_troubleWithSayings_13 rfl (lv_at hl 1 rfl) ?_
    refine wk_get hx hb hts hin_X6 hown hK hP 6 0 7 (.ref (a8 0)) rfl rfl (by decide) (mi 1 rfl) rfl rfl dX6_troubleWithSayings_14 ?_
    refine lv_iload_n hx hb dX6_troubleWithSayings_17 rfl (lv_at hl 2 rfl) ?_
    refine lv_iload_n hx hb dX6_troubleWithSayings_18 rfl (lv_at hl 3 rfl) ?_
    obtain ⟨q5, h4, hM⟩ := bd hM
    refine rVR (wc := ((wX0 g a8 (a1 0) (a3 0) (a4 0)) ++ ((wX5 g a1 T1) ++ ((wX5 g a3 T3) ++ (wX3 g a4 G4 R4))))) (As := [.int p1, .int p2]) (rest := []) (q0 := 0) hS (c_X0_areSayings l g a8 a1 a3 a4 T1 T3 G4 R4 p1 p2 h4) gX6_troubleWithSayings_X0_areSayings rfl hd_X0_areSayings ⟨Nat.le_of_ble_eq_true rfl, Nat.le_of_ble_eq_true rfl⟩ hK (va_P.pm hP (pm_9_8_1_3_4 _ _ _ _ _ _ _ _ _)) rfl rfl rfl rfl hl.1 rfl (Nat.le_of_ble_eq_true rfl) dX6_troubleWithSayings_19 ⟨Nat.zero_le _, Nat.zero_le _⟩ ?_
    have hJ12 : ∀ (x11 : Int32) (ls : Array Slot), x11 = (if q5 = 0 then (-2 : Int32) else (0 : Int32)) → lv_has ls 4 [] → W p l e (headSpec wsX6_troubleWithSayings ({ frames := 4, cells := 0, slots := 0, locals := 87 } : Room)).room s m ([.ref (a0 0), .int p1, .int p2] : List Value).toArray below meth c s.heap [] 0 0 (MQ below (QcR (some (.int q))) ([.ref (a0 0), .int p1, .int p2] : List Value).toArray s 0 0 (fun _ => False)) (F0 m 31 ls [.int x11]) := by
      intro x11 ls hxx11 hl
      subst hxx11
      obtain rfl := Option.some.inj hM
      exact W.iret hx hb hr (fun t ht _ => ⟨rfl, ht⟩) (fun q hq => by cases hq) dX6_troubleWithSayings_31
    refine lv_if_eq (tgt := 29) hx hb dX6_troubleWithSayings_22 (by decide) (fun c6 => ?_) (fun c6 => ?_)
    · refine lv_bipush (v := (-2 : Int32)) hx hb dX6_troubleWithSayings_29 (by decide) ?_
      exact hJ12 _ _ (by first | rfl | (simp only [if_pos c6])) (lv_sub hl [] rfl)
    · refine lv_iconst (v := (0 : Int32)) hx hb dX6_troubleWithSayings_25 (by decide) ?_
      refine lv_goto (tgt := 31) hx hb dX6_troubleWithSayings_26 (by decide) ?_
      exact hJ12 _ _ (by first | rfl | (simp only [if_neg c6])) (lv_sub hl [] rfl)
  · replace hM := itn c3 hM
    refine lv_iload_n hx hb dX6_troubleWithSayings_11 rfl (lv_at hl 0 rfl) ?_
    obtain rfl := Option.some.inj hM
    exact W.iret hx hb hr (fun t ht _ => ⟨rfl, ht⟩) (fun q hq => by cases hq) dX6_troubleWithSayings_12
theorem hd_X6_falsely : yX6_falsely.cls = RX6 ∧ yX6_falsely.cls ≠ "java/lang/invoke/MethodHandle" ∧ yX6_falsely.cls ≠ "java/lang/invoke/VarHandle" ∧ (parseMethodDescriptor yX6_falsely.desc).map (fun d => d.parameters.length) = some 2 := by decide +kernel
set_option maxHeartbeats 4000000 in
set_option maxRecDepth 100000 in
theorem c_X6_falsely (l : Launch) (g : Gm) (a0 : Nat → Nat) (a1 : Nat → Nat) (a2 : Nat → Nat) (a3 : Nat → Nat) (a4 : Nat → Nat) (a5 : Nat → Nat) (a6 : Nat → Nat) (a7 : Nat → Nat) (a8 : Nat → Nat) (Z0 : TS) (T1 : TS) (T2 : TS) (T3 : TS) (G4 : TS) (R4 : LTS) (P5 : TS) (O7 : TS) (B7 : TS) (p1 : Int32) (p2 : Int32) {q : (Int32 × TS)} (hM : f_X6_falsely Z0 T1 T2 T3 G4 R4 P5 O7 B7 p1 p2 = some q) : MW l yX6_falsely wsX6_falsely 5 110 g [.ref (a0 0), .int p1, .int p2] ((wX6 g a0 (a1 0) (a2 0) (a3 0) (a4 0) (a5 0) (a6 0) (a7 0) (a8 0) Z0) ++ ((wX5 g a1 T1) ++ ((wX5 g a2 T2) ++ ((wX5 g a3 T3) ++ ((wX3 g a4 G4 R4) ++ ((wX4 g a5 P5) ++ ((wX2 g a6 (a1 0) (a3 0)) ++ ((wX1 g a7 (a1 0) (a3 0) O7 B7) ++ (wX0 g a8 (a1 0) (a3 0) (a4 0)))))))))) (some (.int q.1)) ((wX6 g a0 (a1 0) (a2 0) (a3 0) (a4 0) (a5 0) (a6 0) (a7 0) (a8 0) q.2) ++ ((wX5 g a1 T1) ++ ((wX5 g a2 T2) ++ ((wX5 g a3 T3) ++ ((wX3 g a4 G4 R4) ++ ((wX4 g a5 P5) ++ ((wX2 g a6 (a1 0) (a3 0)) ++ ((wX1 g a7 (a1 0) (a3 0) O7 B7) ++ (wX0 g a8 (a1 0) (a3 0) (a4 0)))))))))) := by
  intro sz
  refine Met.ofW (cc := cX6_falsely) (maxL := 4) (ret := (some .int)) (by decide) rfl ?_
  intro p e s m args below meth c s₁ B hml hv
  obtain ⟨rfl, hsz, hP, hK, hD0⟩ := hv
  have hx := B.exec; have hb := B.bytes; have hr := B.returns
  have hts := atoms_spec (ws := wsX6_falsely) B.pre
  have hown : s.vm.findClass RX6 = some m.cls := findClass_of_methodNamed B.named
  have hlocks := B.notSynchronized
  have hS : CallFix p m c cX6_falsely 4 s _ wsX6_falsely RX6 := ⟨hx, hb, hml, hown, hts⟩
  have hin_X6 : ∀ w ∈ wsX60, w ∈ wsX6_falsely := fun w h => (List.mem_cons_of_mem _ (List.mem_append_left _ (List.mem_append_left _ (List.mem_append_left _ (List.mem_append_right _ h)))))
  subst hsz
  have hw := wk_start hP hD0
  have hA : ∀ q : Nat, s.heap.size ≤ q → va_A ((wX6 g a0 (a1 0) (a2 0) (a3 0) (a4 0) (a5 0) (a6 0) (a7 0) (a8 0) Z0) ++ ((wX5 g a1 T1) ++ ((wX5 g a2 T2) ++ ((wX5 g a3 T3) ++ ((wX3 g a4 G4 R4) ++ ((wX4 g a5 P5) ++ ((wX2 g a6 (a1 0) (a3 0)) ++ ((wX1 g a7 (a1 0) (a3 0) O7 B7) ++ (wX0 g a8 (a1 0) (a3 0) (a4 0)))))))))) s.heap.size q := fun q h => Or.inr h
  generalize va_A ((wX6 g a0 (a1 0) (a2 0) (a3 0) (a4 0) (a5 0) (a6 0) (a7 0) (a8 0) Z0) ++ ((wX5 g a1 T1) ++ ((wX5 g a2 T2) ++ ((wX5 g a3 T3) ++ ((wX3 g a4 G4 R4) ++ ((wX4 g a5 P5) ++ ((wX2 g a6 (a1 0) (a3 0)) ++ ((wX1 g a7 (a1 0) (a3 0) O7 B7) ++ (wX0 g a8 (a1 0) (a3 0) (a4 0)))))))))) s.heap.size = A at hw hA ⊢
  clear hP hD0
  have hl := lv_entry ([.ref (a0 0), .int p1, .int p2]) (n := 4) (Nat.le_of_ble_eq_true rfl)
  rw [lg_entry_eq]
  generalize (lg_sl ([.ref (a0 0), .int p1, .int p2]) ++ List.replicate (4 - (lg_sl ([.ref (a0 0), .int p1, .int p2])).length) Slot.unset).toArray = ls at hl ⊢
  have hl : lv_has ls 4 [(0, .ref (a0 0)), (1, .int p1), (2, .int p2)] := hl
  rw [f_X6_falsely] at hM
  refine lv_aload_n hx hb dX6_falsely_0 rfl (lv_at hl 0 rfl) ?_
  refine lv_iload_n hx hb dX6_falsely_1 rfl (lv_at hl 1 rfl) ?_
  refine lv_iload_n hx hb dX6_falsely_2 rfl (lv_at hl 2 rfl) ?_
  obtain ⟨q2, h1, hM⟩ := bd hM
  refine rVR (wc := ((wX6 g a0 (a1 0) (a2 0) (a3 0) (a4 0) (a5 0) (a6 0) (a7 0) (a8 0) Z0) ++ ((wX5 g a1 T1) ++ ((wX5 g a2 T2) ++ ((wX5 g a3 T3) ++ ((wX3 g a4 G4 R4) ++ ((wX4 g a5 P5) ++ ((wX2 g a6 (a1 0) (a3 0)) ++ ((wX1 g a7 (a1 0) (a3 0) O7 B7) ++ (wX0 g a8 (a1 0) (a3 0) (a4 0))))))))))) (As := [.int p1, .int p2]) (rest := []) (q0 := 0) hS (c_X6_troubleWithSayings l g a0 a1 a2 a3 a4 a5 a6 a7 a8 Z0 T1 T2 T3 G4 R4 P5 O7 B7 p1 p2 h1) gX6_falsely_X6_troubleWithSayings rfl hd_X6_troubleWithSayings ⟨Nat.le_of_ble_eq_true rfl, Nat.le_of_ble_eq_true rfl⟩ hK (va_P.pm hw.1 (pm_9_0_1_2_3_4_5_6_7_8 _ _ _ _ _ _ _ _ _)) rfl rfl rfl rfl hl.1 rfl (Nat.le_of_ble_eq_true rfl) dX6_falsely_3 ⟨Nat.zero_le _, Nat.zero_le _⟩ ?_
  refine lv_istore_n (lv' := [(3, .int q2), (0, .ref (a0 0)), (1, .int p1), (2, .int p2)]) hx hb dX6_falsely_6 rfl hl (by decide) rfl (fun ls hl => ?_)
  refine lv_iload_n hx hb dX6_falsely_7 rfl (lv_at hl 0 rfl) ?_
  refine lv_if_eq (tgt := 19) hx hb dX6_falsely_8 (by decide) (fun c3 => ?_) (fun c3 => ?_)
  · replace hM := itp c3 hM
    refine lv_aload_n hx hb dX6_falsely_19 rfl (lv_at hl 1 rfl) ?_
    refine wk_get hx hb hts hin_X6 hown hK hw.1 6 0 7 (.ref (a8 0)) rfl rfl (by decide) (mi 1 rfl) rfl rfl dX6_falsely_20 ?_
    refine lv_iload_n hx hb dX6_falsely_23 rfl (lv_at hl 2 rfl) ?_
    refine lv_iload_n hx hb dX6_falsely_24 rfl (lv_at hl 3 rfl) ?_
    obtain ⟨q5, h4, hM⟩ := bd hM
    refine rVR (wc := ((wX0 g a8 (a1 0) (a3 0) (a4 0)) ++ ((wX5 g a1 T1) ++ ((wX5 g a3 T3) ++ (wX3 g a4 G4 R4))))) (As := [.int p1, .int p2]) (rest := []) (q0 := 0) hS (c_X0_falseSayings l g a8 a1 a3 a4 T1 T3 G4 R4 p1 p2 h4) gX6_falsely_X0_falseSayings rfl hd_X0_falseSayings ⟨Nat.le_of_ble_eq_true rfl, Nat.le_of_ble_eq_true rfl⟩ hK (va_P.pm hw.1 (pm_9_8_1_3_4 _ _ _ _ _ _ _ _ _)) rfl rfl rfl rfl hl.1 rfl (Nat.le_of_ble_eq_true rfl) dX6_falsely_25 ⟨Nat.zero_le _, Nat.zero_le _⟩ ?_
    obtain rfl := Option.some.inj hM
    exact W.iret hx hb hr (fun t ht _ => ⟨rfl, by rw [ht]; exact hw.1, hw.2.2.F ht⟩) hw.2.2.2.2 dX6_falsely_28
  · replace hM := itn c3 hM
    refine lv_aload_n hx hb dX6_falsely_11 rfl (lv_at hl 1 rfl) ?_
    refine lv_iload_n hx hb dX6_falsely_12 rfl (lv_at hl 0 rfl) ?_
    obtain ⟨q7, h6, hM⟩ := bd hM
    refine rVWp (wc := ((wX6 g a0 (a1 0) (a2 0) (a3 0) (a4 0) (a5 0) (a6 0) (a7 0) (a8 0) Z0) ++ ((wX5 g a1 T1) ++ ((wX5 g a2 T2) ++ ((wX5 g a3 T3) ++ ((wX3 g a4 G4 R4) ++ ((wX4 g a5 P5) ++ ((wX2 g a6 (a1 0) (a3 0)) ++ ((wX1 g a7 (a1 0) (a3 0) O7 B7) ++ (wX0 g a8 (a1 0) (a3 0) (a4 0))))))))))) (wq := ((wX6 g a0 (a1 0) (a2 0) (a3 0) (a4 0) (a5 0) (a6 0) (a7 0) (a8 0) q7.2) ++ ((wX5 g a1 T1) ++ ((wX5 g a2 T2) ++ ((wX5 g a3 T3) ++ ((wX3 g a4 G4 R4) ++ ((wX4 g a5 P5) ++ ((wX2 g a6 (a1 0) (a3 0)) ++ ((wX1 g a7 (a1 0) (a3 0) O7 B7) ++ (wX0 g a8 (a1 0) (a3 0) (a4 0))))))))))) (As := [.int q2]) (rest := []) (q0 := 0) hS (c_X6_refuse l g a0 a1 a2 a3 a4 a5 a6 a7 a8 Z0 T1 T2 T3 G4 R4 P5 O7 B7 q2 h6) gX6_falsely_X6_refuse rfl hd_X6_refuse ⟨Nat.le_of_ble_eq_true rfl, Nat.le_of_ble_eq_true rfl⟩ hK hw hA (pm_9_0_1_2_3_4_5_6_7_8 _ _ _ _ _ _ _ _ _) rfl (pm_9_0_1_2_3_4_5_6_7_8 _ _ _ _ _ _ _ _ _) rfl rfl rfl rfl hl.1 rfl (Nat.le_of_ble_eq_true rfl) dX6_falsely_13 ⟨Nat.zero_le _, Nat.zero_le _⟩ (fun H locs hw => ?_)
    refine lv_goto (tgt := 28) hx hb dX6_falsely_16 (by decide) ?_
    obtain rfl := Option.some.inj hM
    exact W.iret hx hb hr (fun t ht _ => ⟨rfl, by rw [ht]; exact hw.1, hw.2.2.F ht⟩) hw.2.2.2.2 dX6_falsely_28
theorem hd_X6_feed : yX6_feed.cls = RX6 ∧ yX6_feed.cls ≠ "java/lang/invoke/MethodHandle" ∧ yX6_feed.cls ≠ "java/lang/invoke/VarHandle" ∧ (parseMethodDescriptor yX6_feed.desc).map (fun d => d.parameters.length) = some 1 := by decide +kernel
set_option maxHeartbeats 4000000 in
set_option maxRecDepth 100000 in
theorem c_X6_feed (l : Launch) (g : Gm) (a0 : Nat → Nat) (a1 : Nat → Nat) (a2 : Nat → Nat) (a3 : Nat → Nat) (a4 : Nat → Nat) (a5 : Nat → Nat) (a6 : Nat → Nat) (a7 : Nat → Nat) (a8 : Nat → Nat) (Z0 : TS) (T1 : TS) (T2 : TS) (T3 : TS) (G4 : TS) (R4 : LTS) (P5 : TS) (O7 : TS) (B7 : TS) (p1 : Int32) {q : (Int32 × TS × TS)} (hM : f_X6_feed Z0 T1 T2 T3 G4 R4 P5 O7 B7 p1 = some q) : MW l yX6_feed wsX6_feed 1 22 g [.ref (a0 0), .int p1] ((wX6 g a0 (a1 0) (a2 0) (a3 0) (a4 0) (a5 0) (a6 0) (a7 0) (a8 0) Z0) ++ ((wX5 g a1 T1) ++ ((wX5 g a2 T2) ++ ((wX5 g a3 T3) ++ ((wX3 g a4 G4 R4) ++ ((wX4 g a5 P5) ++ ((wX2 g a6 (a1 0) (a3 0)) ++ ((wX1 g a7 (a1 0) (a3 0) O7 B7) ++ (wX0 g a8 (a1 0) (a3 0) (a4 0)))))))))) (some (.int q.1)) ((wX6 g a0 (a1 0) (a2 0) (a3 0) (a4 0) (a5 0) (a6 0) (a7 0) (a8 0) q.2.1) ++ ((wX5 g a1 T1) ++ ((wX5 g a2 T2) ++ ((wX5 g a3 T3) ++ ((wX3 g a4 G4 R4) ++ ((wX4 g a5 q.2.2) ++ ((wX2 g a6 (a1 0) (a3 0)) ++ ((wX1 g a7 (a1 0) (a3 0) O7 B7) ++ (wX0 g a8 (a1 0) (a3 0) (a4 0)))))))))) := by
  intro sz
  refine Met.ofW (cc := cX6_feed) (maxL := 2) (ret := (some .int)) (by decide) rfl ?_
  intro p e s m args below meth c s₁ B hml hv
  obtain ⟨rfl, hsz, hP, hK, hD0⟩ := hv
  have hx := B.exec; have hb := B.bytes; have hr := B.returns
  have hts := atoms_spec (ws := wsX6_feed) B.pre
  have hown : s.vm.findClass RX6 = some m.cls := findClass_of_methodNamed B.named
  have hlocks := B.notSynchronized
  have hS : CallFix p m c cX6_feed 2 s _ wsX6_feed RX6 := ⟨hx, hb, hml, hown, hts⟩
  have hin_X4 : ∀ w ∈ wsX40, w ∈ wsX6_feed := fun w h => (List.mem_cons_of_mem _ (List.mem_append_right _ h))
  have hin_X6 : ∀ w ∈ wsX60, w ∈ wsX6_feed := fun w h => (List.mem_cons_of_mem _ (List.mem_append_left _ (List.mem_append_right _ h)))
  subst hsz
  have hw := wk_start hP hD0
  have hA : ∀ q : Nat, s.heap.size ≤ q → va_A ((wX6 g a0 (a1 0) (a2 0) (a3 0) (a4 0) (a5 0) (a6 0) (a7 0) (a8 0) Z0) ++ ((wX5 g a1 T1) ++ ((wX5 g a2 T2) ++ ((wX5 g a3 T3) ++ ((wX3 g a4 G4 R4) ++ ((wX4 g a5 P5) ++ ((wX2 g a6 (a1 0) (a3 0)) ++ ((wX1 g a7 (a1 0) (a3 0) O7 B7) ++ (wX0 g a8 (a1 0) (a3 0) (a4 0)))))))))) s.heap.size q := fun q h => Or.inr h
  generalize va_A ((wX6 g a0 (a1 0) (a2 0) (a3 0) (a4 0) (a5 0) (a6 0) (a7 0) (a8 0) Z0) ++ ((wX5 g a1 T1) ++ ((wX5 g a2 T2) ++ ((wX5 g a3 T3) ++ ((wX3 g a4 G4 R4) ++ ((wX4 g a5 P5) ++ ((wX2 g a6 (a1 0) (a3 0)) ++ ((wX1 g a7 (a1 0) (a3 0) O7 B7) ++ (wX0 g a8 (a1 0) (a3 0) (a4 0)))))))))) s.heap.size = A at hw hA ⊢
  clear hP hD0
  have hl := lv_entry ([.ref (a0 0), .int p1]) (n := 2) (Nat.le_of_ble_eq_true rfl)
  rw [lg_entry_eq]
  generalize (lg_sl ([.ref (a0 0), .int p1]) ++ List.replicate (2 - (lg_sl ([.ref (a0 0), .int p1])).length) Slot.unset).toArray = ls at hl ⊢
  have hl : lv_has ls 2 [(0, .ref (a0 0)), (1, .int p1)] := hl
  rw [f_X6_feed] at hM
  refine lv_iload_n hx hb dX6_feed_0 rfl (lv_at hl 1 rfl) ?_
  refine lv_iconst (v := (0 : Int32)) hx hb dX6_feed_1 (by decide) ?_
  refine lv_sipush (v := (255 : Int32)) hx hb dX6_feed_2 (by decide) ?_
  refine rSR (wc := ([] : va_W)) (As := [.int p1, .int (0 : Int32), .int (255 : Int32)]) (rest := []) hS (c_X6_isWithin l g p1 (0 : Int32) (255 : Int32)) gX6_feed_X6_isWithin rfl hd_X6_isWithin ⟨Nat.le_of_ble_eq_true rfl, Nat.le_of_ble_eq_true rfl⟩ hK (hP_nil) rfl hl.1 rfl (Nat.le_of_ble_eq_true rfl) dX6_feed_5 ⟨Nat.zero_le _, Nat.zero_le _⟩ ?_
  refine lv_if_ne (tgt := 18) hx hb dX6_feed_8 (by decide) (fun c2 => ?_) (fun c2 => ?_)
  · replace hM := itn c2 hM
    refine lv_aload_n hx hb dX6_feed_18 rfl (lv_at hl 0 rfl) ?_
    refine wk_get hx hb hts hin_X6 hown hK hw.1 6 0 4 (.ref (a5 0)) rfl rfl (by decide) (mi 1 rfl) rfl rfl dX6_feed_19 ?_
    refine wk_get hx hb hts hin_X4 hown hK hw.1 4 38 0 (.int (P5 0 0)) rfl rfl (by decide) (mi 2 rfl) rfl rfl dX6_feed_22 ?_
    refine lv_sipush (v := (250 : Int32)) hx hb dX6_feed_25 (by decide) ?_
    refine lv_icmp_lt (tgt := 38) hx hb dX6_feed_28 (by decide) (fun c5 => ?_) (fun c5 => ?_)
    · replace hM := itp c5 hM
      refine lv_aload_n hx hb dX6_feed_38 rfl (lv_at hl 0 rfl) ?_
      refine wk_get hx hb hts hin_X6 hown hK hw.1 6 0 4 (.ref (a5 0)) rfl rfl (by decide) (mi 1 rfl) rfl rfl dX6_feed_39 ?_
      refine lv_iload_n hx hb dX6_feed_42 rfl (lv_at hl 1 rfl) ?_
      obtain ⟨q7, h6, hM⟩ := bd hM
      refine rVWp (wc := (wX4 g a5 P5)) (wq := ((wX6 g a0 (a1 0) (a2 0) (a3 0) (a4 0) (a5 0) (a6 0) (a7 0) (a8 0) Z0) ++ ((wX5 g a1 T1) ++ ((wX5 g a2 T2) ++ ((wX5 g a3 T3) ++ ((wX3 g a4 G4 R4) ++ ((wX4 g a5 q7) ++ ((wX2 g a6 (a1 0) (a3 0)) ++ ((wX1 g a7 (a1 0) (a3 0) O7 B7) ++ (wX0 g a8 (a1 0) (a3 0) (a4 0))))))))))) (As := [.int p1]) (rest := []) (q0 := 0) hS (c_X4_put l g a5 P5 p1 h6) gX6_feed_X4_put rfl hd_X4_put ⟨Nat.le_of_ble_eq_true rfl, Nat.le_of_ble_eq_true rfl⟩ hK hw hA (pm_9_5 _ _ _ _ _ _ _ _ _) rfl (pm_9_5 _ _ _ _ _ _ _ _ _) rfl rfl rfl rfl hl.1 rfl (Nat.le_of_ble_eq_true rfl) dX6_feed_43 ⟨Nat.zero_le _, Nat.zero_le _⟩ (fun H locs hw => ?_)
      refine lv_aload_n hx hb dX6_feed_46 rfl (lv_at hl 0 rfl) ?_
      refine wk_get hx hb hts hin_X6 hown hK hw.1 6 0 4 (.ref (a5 0)) rfl rfl (by decide) (mi 1 rfl) rfl rfl dX6_feed_47 ?_
      refine wk_get hx hb hts hin_X4 hown hK hw.1 4 38 0 (.int (q7 0 0)) rfl rfl (by decide) (mi 2 rfl) rfl rfl dX6_feed_50 ?_
      obtain rfl := Option.some.inj hM
      exact W.iret hx hb hr (fun t ht _ => ⟨rfl, by rw [ht]; exact hw.1, hw.2.2.F ht⟩) hw.2.2.2.2 dX6_feed_53
    · replace hM := itn c5 hM
      refine lv_aload_n hx hb dX6_feed_31 rfl (lv_at hl 0 rfl) ?_
      refine lv_bipush (v := (-6 : Int32)) hx hb dX6_feed_32 (by decide) ?_
      obtain ⟨q9, h8, hM⟩ := bd hM
      refine rVWp (wc := ((wX6 g a0 (a1 0) (a2 0) (a3 0) (a4 0) (a5 0) (a6 0) (a7 0) (a8 0) Z0) ++ ((wX5 g a1 T1) ++ ((wX5 g a2 T2) ++ ((wX5 g a3 T3) ++ ((wX3 g a4 G4 R4) ++ ((wX4 g a5 P5) ++ ((wX2 g a6 (a1 0) (a3 0)) ++ ((wX1 g a7 (a1 0) (a3 0) O7 B7) ++ (wX0 g a8 (a1 0) (a3 0) (a4 0))))))))))) (wq := ((wX6 g a0 (a1 0) (a2 0) (a3 0) (a4 0) (a5 0) (a6 0) (a7 0) (a8 0) q9.2) ++ ((wX5 g a1 T1) ++ ((wX5 g a2 T2) ++ ((wX5 g a3 T3) ++ ((wX3 g a4 G4 R4) ++ ((wX4 g a5 P5) ++ ((wX2 g a6 (a1 0) (a3 0)) ++ ((wX1 g a7 (a1 0) (a3 0) O7 B7) ++ (wX0 g a8 (a1 0) (a3 0) (a4 0))))))))))) (As := [.int (-6 : Int32)]) (rest := []) (q0 := 0) hS (c_X6_refuse l g a0 a1 a2 a3 a4 a5 a6 a7 a8 Z0 T1 T2 T3 G4 R4 P5 O7 B7 (-6 : Int32) h8) gX6_feed_X6_refuse rfl hd_X6_refuse ⟨Nat.le_of_ble_eq_true rfl, Nat.le_of_ble_eq_true rfl⟩ hK hw hA (pm_9_0_1_2_3_4_5_6_7_8 _ _ _ _ _ _ _ _ _) rfl (pm_9_0_1_2_3_4_5_6_7_8 _ _ _ _ _ _ _ _ _) rfl rfl rfl rfl hl.1 rfl (Nat.le_of_ble_eq_true rfl) dX6_feed_34 ⟨Nat.zero_le _, Nat.zero_le _⟩ (fun H locs hw => ?_)
      obtain rfl := Option.some.inj hM
      exact W.iret hx hb hr (fun t ht _ => ⟨rfl, by rw [ht]; exact hw.1, hw.2.2.F ht⟩) hw.2.2.2.2 dX6_feed_37
  · replace hM := itp c2 hM
    refine lv_aload_n hx hb dX6_feed_11 rfl (lv_at hl 0 rfl) ?_
    refine lv_bipush (v := (-2 : Int32)) hx hb dX6_feed_12 (by decide) ?_
    obtain ⟨q4, h3, hM⟩ := bd hM
    refine rVWp (wc := ((wX6 g a0 (a1 0) (a2 0) (a3 0) (a4 0) (a5 0) (a6 0) (a7 0) (a8 0) Z0) ++ ((wX5 g a1 T1) ++ ((wX5 g a2 T2) ++ ((wX5 g a3 T3) ++ ((wX3 g a4 G4 R4) ++ ((wX4 g a5 P5) ++ ((wX2 g a6 (a1 0) (a3 0)) ++ ((wX1 g a7 (a1 0) (a3 0) O7 B7) ++ (wX0 g a8 (a1 0) (a3 0) (a4 0))))))))))) (wq := ((wX6 g a0 (a1 0) (a2 0) (a3 0) (a4 0) (a5 0) (a6 0) (a7 0) (a8 0) q4.2) ++ ((wX5 g a1 T1) ++ ((wX5 g a2 T2) ++ ((wX5 g a3 T3) ++ ((wX3 g a4 G4 R4) ++ ((wX4 g a5 P5) ++ ((wX2 g a6 (a1 0) (a3 0)) ++ ((wX1 g a7 (a1 0) (a3 0) O7 B7) ++ (wX0 g a8 (a1 0) (a3 0) (a4 0))))))))))) (As := [.int (-2 : Int32)]) (rest := []) (q0 := 0) hS (c_X6_refuse l g a0 a1 a2 a3 a4 a5 a6 a7 a8 Z0 T1 T2 T3 G4 R4 P5 O7 B7 (-2 : Int32) h3) gX6_feed_X6_refuse rfl hd_X6_refuse ⟨Nat.le_of_ble_eq_true rfl, Nat.le_of_ble_eq_true rfl⟩ hK hw hA (pm_9_0_1_2_3_4_5_6_7_8 _ _ _ _ _ _ _ _ _) rfl (pm_9_0_1_2_3_4_5_6_7_8 _ _ _ _ _ _ _ _ _) rfl rfl rfl rfl hl.1 rfl (Nat.le_of_ble_eq_true rfl) dX6_feed_14 ⟨Nat.zero_le _, Nat.zero_le _⟩ (fun H locs hw => ?_)
    obtain rfl := Option.some.inj hM
    exact W.iret hx hb hr (fun t ht _ => ⟨rfl, by rw [ht]; exact hw.1, hw.2.2.F ht⟩) hw.2.2.2.2 dX6_feed_17
theorem hd_X6_first : yX6_first.cls = RX6 ∧ yX6_first.cls ≠ "java/lang/invoke/MethodHandle" ∧ yX6_first.cls ≠ "java/lang/invoke/VarHandle" ∧ (parseMethodDescriptor yX6_first.desc).map (fun d => d.parameters.length) = some 2 := by decide +kernel
set_option maxHeartbeats 4000000 in
set_option maxRecDepth 100000 in
theorem c_X6_first (l : Launch) (g : Gm) (a0 : Nat → Nat) (a1 : Nat → Nat) (a2 : Nat → Nat) (a3 : Nat → Nat) (a4 : Nat → Nat) (a5 : Nat → Nat) (a6 : Nat → Nat) (a7 : Nat → Nat) (a8 : Nat → Nat) (Z0 : TS) (T1 : TS) (T2 : TS) (T3 : TS) (G4 : TS) (R4 : LTS) (P5 : TS) (O7 : TS) (B7 : TS) (p1 : Int32) (p2 : Int32) {q : (Int32 × TS × TS)} (hM : f_X6_first Z0 T1 T2 T3 G4 R4 P5 O7 B7 p1 p2 = some q) : MW l yX6_first wsX6_first 5 127 g [.ref (a0 0), .int p1, .int p2] ((wX6 g a0 (a1 0) (a2 0) (a3 0) (a4 0) (a5 0) (a6 0) (a7 0) (a8 0) Z0) ++ ((wX5 g a1 T1) ++ ((wX5 g a2 T2) ++ ((wX5 g a3 T3) ++ ((wX3 g a4 G4 R4) ++ ((wX4 g a5 P5) ++ ((wX2 g a6 (a1 0) (a3 0)) ++ ((wX1 g a7 (a1 0) (a3 0) O7 B7) ++ (wX0 g a8 (a1 0) (a3 0) (a4 0)))))))))) (some (.int q.1)) ((wX6 g a0 (a1 0) (a2 0) (a3 0) (a4 0) (a5 0) (a6 0) (a7 0) (a8 0) q.2.1) ++ ((wX5 g a1 T1) ++ ((wX5 g a2 T2) ++ ((wX5 g a3 q.2.2) ++ ((wX3 g a4 G4 R4) ++ ((wX4 g a5 P5) ++ ((wX2 g a6 (a1 0) (a3 0)) ++ ((wX1 g a7 (a1 0) (a3 0) O7 B7) ++ (wX0 g a8 (a1 0) (a3 0) (a4 0)))))))))) := by
  intro sz
  refine Met.ofW (cc := cX6_first) (maxL := 3) (ret := (some .int)) (by decide) rfl ?_
  intro p e s m args below meth c s₁ B hml hv
  obtain ⟨rfl, hsz, hP, hK, hD0⟩ := hv
  have hx := B.exec; have hb := B.bytes; have hr := B.returns
  have hts := atoms_spec (ws := wsX6_first) B.pre
  have hown : s.vm.findClass RX6 = some m.cls := findClass_of_methodNamed B.named
  have hlocks := B.notSynchronized
  have hS : CallFix p m c cX6_first 3 s _ wsX6_first RX6 := ⟨hx, hb, hml, hown, hts⟩
  have hin_X5 : ∀ w ∈ wsX50, w ∈ wsX6_first := fun w h => (List.mem_cons_of_mem _ (List.mem_append_left _ (List.mem_append_right _ h)))
  have hin_X6 : ∀ w ∈ wsX60, w ∈ wsX6_first := fun w h => (List.mem_cons_of_mem _ (List.mem_append_left _ (List.mem_append_left _ (List.mem_append_right _ h))))
  subst hsz
  have hw := wk_start hP hD0
  have hA : ∀ q : Nat, s.heap.size ≤ q → va_A ((wX6 g a0 (a1 0) (a2 0) (a3 0) (a4 0) (a5 0) (a6 0) (a7 0) (a8 0) Z0) ++ ((wX5 g a1 T1) ++ ((wX5 g a2 T2) ++ ((wX5 g a3 T3) ++ ((wX3 g a4 G4 R4) ++ ((wX4 g a5 P5) ++ ((wX2 g a6 (a1 0) (a3 0)) ++ ((wX1 g a7 (a1 0) (a3 0) O7 B7) ++ (wX0 g a8 (a1 0) (a3 0) (a4 0)))))))))) s.heap.size q := fun q h => Or.inr h
  generalize va_A ((wX6 g a0 (a1 0) (a2 0) (a3 0) (a4 0) (a5 0) (a6 0) (a7 0) (a8 0) Z0) ++ ((wX5 g a1 T1) ++ ((wX5 g a2 T2) ++ ((wX5 g a3 T3) ++ ((wX3 g a4 G4 R4) ++ ((wX4 g a5 P5) ++ ((wX2 g a6 (a1 0) (a3 0)) ++ ((wX1 g a7 (a1 0) (a3 0) O7 B7) ++ (wX0 g a8 (a1 0) (a3 0) (a4 0)))))))))) s.heap.size = A at hw hA ⊢
  clear hP hD0
  have hl := lv_entry ([.ref (a0 0), .int p1, .int p2]) (n := 3) (Nat.le_of_ble_eq_true rfl)
  rw [lg_entry_eq]
  generalize (lg_sl ([.ref (a0 0), .int p1, .int p2]) ++ List.replicate (3 - (lg_sl ([.ref (a0 0), .int p1, .int p2])).length) Slot.unset).toArray = ls at hl ⊢
  have hl : lv_has ls 3 [(0, .ref (a0 0)), (1, .int p1), (2, .int p2)] := hl
  rw [f_X6_first] at hM
  refine lv_aload_n hx hb dX6_first_0 rfl (lv_at hl 0 rfl) ?_
  refine wk_get hx hb hts hin_X6 hown hK hw.1 6 0 0 (.ref (a1 0)) rfl rfl (by decide) (mi 1 rfl) rfl rfl dX6_first_1 ?_
  refine lv_iload_n hx hb dX6_first_4 rfl (lv_at hl 1 rfl) ?_
  refine rVR (wc := (wX5 g a1 T1)) (As := [.int p1]) (rest := []) (q0 := 0) hS (c_X5_isSight l g a1 T1 p1) gX6_first_X5_isSight rfl hd_X5_isSight ⟨Nat.le_of_ble_eq_true rfl, Nat.le_of_ble_eq_true rfl⟩ hK (va_P.pm hw.1 (pm_9_1 _ _ _ _ _ _ _ _ _)) rfl rfl rfl rfl hl.1 rfl (Nat.le_of_ble_eq_true rfl) dX6_first_5 ⟨Nat.zero_le _, Nat.zero_le _⟩ ?_
  refine lv_if_eq (tgt := 18) hx hb dX6_first_8 (by decide) (fun c2 => ?_) (fun c2 => ?_)
  · replace hM := itp c2 hM
    refine lv_aload_n hx hb dX6_first_18 rfl (lv_at hl 0 rfl) ?_
    refine lv_bipush (v := (-2 : Int32)) hx hb dX6_first_19 (by decide) ?_
    obtain ⟨q4, h3, hM⟩ := bd hM
    refine rVWp (wc := ((wX6 g a0 (a1 0) (a2 0) (a3 0) (a4 0) (a5 0) (a6 0) (a7 0) (a8 0) Z0) ++ ((wX5 g a1 T1) ++ ((wX5 g a2 T2) ++ ((wX5 g a3 T3) ++ ((wX3 g a4 G4 R4) ++ ((wX4 g a5 P5) ++ ((wX2 g a6 (a1 0) (a3 0)) ++ ((wX1 g a7 (a1 0) (a3 0) O7 B7) ++ (wX0 g a8 (a1 0) (a3 0) (a4 0))))))))))) (wq := ((wX6 g a0 (a1 0) (a2 0) (a3 0) (a4 0) (a5 0) (a6 0) (a7 0) (a8 0) q4.2) ++ ((wX5 g a1 T1) ++ ((wX5 g a2 T2) ++ ((wX5 g a3 T3) ++ ((wX3 g a4 G4 R4) ++ ((wX4 g a5 P5) ++ ((wX2 g a6 (a1 0) (a3 0)) ++ ((wX1 g a7 (a1 0) (a3 0) O7 B7) ++ (wX0 g a8 (a1 0) (a3 0) (a4 0))))))))))) (As := [.int (-2 : Int32)]) (rest := []) (q0 := 0) hS (c_X6_refuse l g a0 a1 a2 a3 a4 a5 a6 a7 a8 Z0 T1 T2 T3 G4 R4 P5 O7 B7 (-2 : Int32) h3) gX6_first_X6_refuse rfl hd_X6_refuse ⟨Nat.le_of_ble_eq_true rfl, Nat.le_of_ble_eq_true rfl⟩ hK hw hA (pm_9_0_1_2_3_4_5_6_7_8 _ _ _ _ _ _ _ _ _) rfl (pm_9_0_1_2_3_4_5_6_7_8 _ _ _ _ _ _ _ _ _) rfl rfl rfl rfl hl.1 rfl (Nat.le_of_ble_eq_true rfl) dX6_first_21 ⟨Nat.zero_le _, Nat.zero_le _⟩ (fun H locs hw => ?_)
    obtain rfl := Option.some.inj hM
    exact W.iret hx hb hr (fun t ht _ => ⟨rfl, by rw [ht]; exact hw.1, hw.2.2.F ht⟩) hw.2.2.2.2 dX6_first_24
  · replace hM := itn c2 hM
    refine lv_iload_n hx hb dX6_first_11 rfl (lv_at hl 2 rfl) ?_
    refine rSR (wc := ([] : va_W)) (As := [.int p2]) (rest := []) hS (c_X6_isRounds l g p2) gX6_first_X6_isRounds rfl hd_X6_isRounds ⟨Nat.le_of_ble_eq_true rfl, Nat.le_of_ble_eq_true rfl⟩ hK (hP_nil) rfl hl.1 rfl (Nat.le_of_ble_eq_true rfl) dX6_first_12 ⟨Nat.zero_le _, Nat.zero_le _⟩ ?_
    refine lv_if_ne (tgt := 25) hx hb dX6_first_15 (by decide) (fun c6 => ?_) (fun c6 => ?_)
    · replace hM := itn c6 hM
      refine lv_aload_n hx hb dX6_first_25 rfl (lv_at hl 0 rfl) ?_
      refine wk_get hx hb hts hin_X6 hown hK hw.1 6 0 0 (.ref (a1 0)) rfl rfl (by decide) (mi 1 rfl) rfl rfl dX6_first_26 ?_
      refine wk_get hx hb hts hin_X5 hown hK hw.1 5 2 1 (.int (T1 1 0)) rfl rfl (by decide) (mi 2 rfl) rfl rfl dX6_first_29 ?_
      refine lv_if_ne (tgt := 42) hx hb dX6_first_32 (by decide) (fun c9 => ?_) (fun c9 => ?_)
      · replace hM := itn c9 hM
        refine lv_aload_n hx hb dX6_first_42 rfl (lv_at hl 0 rfl) ?_
        refine wk_get hx hb hts hin_X6 hown hK hw.1 6 0 5 (.ref (a6 0)) rfl rfl (by decide) (mi 3 rfl) rfl rfl dX6_first_43 ?_
        refine lv_iload_n hx hb dX6_first_46 rfl (lv_at hl 1 rfl) ?_
        refine lv_iload_n hx hb dX6_first_47 rfl (lv_at hl 2 rfl) ?_
        obtain ⟨q13, h12, hM⟩ := bd hM
        refine rVWp (wc := ((wX2 g a6 (a1 0) (a3 0)) ++ ((wX5 g a1 T1) ++ (wX5 g a3 T3)))) (wq := ((wX6 g a0 (a1 0) (a2 0) (a3 0) (a4 0) (a5 0) (a6 0) (a7 0) (a8 0) Z0) ++ ((wX5 g a1 T1) ++ ((wX5 g a2 T2) ++ ((wX5 g a3 q13.2) ++ ((wX3 g a4 G4 R4) ++ ((wX4 g a5 P5) ++ ((wX2 g a6 (a1 0) (a3 0)) ++ ((wX1 g a7 (a1 0) (a3 0) O7 B7) ++ (wX0 g a8 (a1 0) (a3 0) (a4 0))))))))))) (As := [.int p1, .int p2]) (rest := []) (q0 := 0) hS (c_X2_bestToTell l g a6 a1 a3 T1 T3 p1 p2 h12) gX6_first_X2_bestToTell rfl hd_X2_bestToTell ⟨Nat.le_of_ble_eq_true rfl, Nat.le_of_ble_eq_true rfl⟩ hK hw hA (pm_9_6_1_3 _ _ _ _ _ _ _ _ _) rfl (pm_9_6_1_3 _ _ _ _ _ _ _ _ _) rfl rfl rfl rfl hl.1 rfl (Nat.le_of_ble_eq_true rfl) dX6_first_48 ⟨Nat.zero_le _, Nat.zero_le _⟩ (fun H locs hw => ?_)
        obtain rfl := Option.some.inj hM
        exact W.iret hx hb hr (fun t ht _ => ⟨rfl, by rw [ht]; exact hw.1, hw.2.2.F ht⟩) hw.2.2.2.2 dX6_first_51
      · replace hM := itp c9 hM
        refine lv_aload_n hx hb dX6_first_35 rfl (lv_at hl 0 rfl) ?_
        refine lv_bipush (v := (-5 : Int32)) hx hb dX6_first_36 (by decide) ?_
        obtain ⟨q11, h10, hM⟩ := bd hM
        refine rVWp (wc := ((wX6 g a0 (a1 0) (a2 0) (a3 0) (a4 0) (a5 0) (a6 0) (a7 0) (a8 0) Z0) ++ ((wX5 g a1 T1) ++ ((wX5 g a2 T2) ++ ((wX5 g a3 T3) ++ ((wX3 g a4 G4 R4) ++ ((wX4 g a5 P5) ++ ((wX2 g a6 (a1 0) (a3 0)) ++ ((wX1 g a7 (a1 0) (a3 0) O7 B7) ++ (wX0 g a8 (a1 0) (a3 0) (a4 0))))))))))) (wq := ((wX6 g a0 (a1 0) (a2 0) (a3 0) (a4 0) (a5 0) (a6 0) (a7 0) (a8 0) q11.2) ++ ((wX5 g a1 T1) ++ ((wX5 g a2 T2) ++ ((wX5 g a3 T3) ++ ((wX3 g a4 G4 R4) ++ ((wX4 g a5 P5) ++ ((wX2 g a6 (a1 0) (a3 0)) ++ ((wX1 g a7 (a1 0) (a3 0) O7 B7) ++ (wX0 g a8 (a1 0) (a3 0) (a4 0))))))))))) (As := [.int (-5 : Int32)]) (rest := []) (q0 := 0) hS (c_X6_refuse l g a0 a1 a2 a3 a4 a5 a6 a7 a8 Z0 T1 T2 T3 G4 R4 P5 O7 B7 (-5 : Int32) h10) gX6_first_X6_refuse rfl hd_X6_refuse ⟨Nat.le_of_ble_eq_true rfl, Nat.le_of_ble_eq_true rfl⟩ hK hw hA (pm_9_0_1_2_3_4_5_6_7_8 _ _ _ _ _ _ _ _ _) rfl (pm_9_0_1_2_3_4_5_6_7_8 _ _ _ _ _ _ _ _ _) rfl rfl rfl rfl hl.1 rfl (Nat.le_of_ble_eq_true rfl) dX6_first_38 ⟨Nat.zero_le _, Nat.zero_le _⟩ (fun H locs hw => ?_)
        obtain rfl := Option.some.inj hM
        exact W.iret hx hb hr (fun t ht _ => ⟨rfl, by rw [ht]; exact hw.1, hw.2.2.F ht⟩) hw.2.2.2.2 dX6_first_41
    · replace hM := itp c6 hM
      refine lv_aload_n hx hb dX6_first_18 rfl (lv_at hl 0 rfl) ?_
      refine lv_bipush (v := (-2 : Int32)) hx hb dX6_first_19 (by decide) ?_
      obtain ⟨q8, h7, hM⟩ := bd hM
      refine rVWp (wc := ((wX6 g a0 (a1 0) (a2 0) (a3 0) (a4 0) (a5 0) (a6 0) (a7 0) (a8 0) Z0) ++ ((wX5 g a1 T1) ++ ((wX5 g a2 T2) ++ ((wX5 g a3 T3) ++ ((wX3 g a4 G4 R4) ++ ((wX4 g a5 P5) ++ ((wX2 g a6 (a1 0) (a3 0)) ++ ((wX1 g a7 (a1 0) (a3 0) O7 B7) ++ (wX0 g a8 (a1 0) (a3 0) (a4 0))))))))))) (wq := ((wX6 g a0 (a1 0) (a2 0) (a3 0) (a4 0) (a5 0) (a6 0) (a7 0) (a8 0) q8.2) ++ ((wX5 g a1 T1) ++ ((wX5 g a2 T2) ++ ((wX5 g a3 T3) ++ ((wX3 g a4 G4 R4) ++ ((wX4 g a5 P5) ++ ((wX2 g a6 (a1 0) (a3 0)) ++ ((wX1 g a7 (a1 0) (a3 0) O7 B7) ++ (wX0 g a8 (a1 0) (a3 0) (a4 0))))))))))) (As := [.int (-2 : Int32)]) (rest := []) (q0 := 0) hS (c_X6_refuse l g a0 a1 a2 a3 a4 a5 a6 a7 a8 Z0 T1 T2 T3 G4 R4 P5 O7 B7 (-2 : Int32) h7) gX6_first_X6_refuse rfl hd_X6_refuse ⟨Nat.le_of_ble_eq_true rfl, Nat.le_of_ble_eq_true rfl⟩ hK hw hA (pm_9_0_1_2_3_4_5_6_7_8 _ _ _ _ _ _ _ _ _) rfl (pm_9_0_1_2_3_4_5_6_7_8 _ _ _ _ _ _ _ _ _) rfl rfl rfl rfl hl.1 rfl (Nat.le_of_ble_eq_true rfl) dX6_first_21 ⟨Nat.zero_le _, Nat.zero_le _⟩ (fun H locs hw => ?_)
      obtain rfl := Option.some.inj hM
      exact W.iret hx hb hr (fun t ht _ => ⟨rfl, by rw [ht]; exact hw.1, hw.2.2.F ht⟩) hw.2.2.2.2 dX6_first_24
theorem hd_X6_free : yX6_free.cls = RX6 ∧ yX6_free.cls ≠ "java/lang/invoke/MethodHandle" ∧ yX6_free.cls ≠ "java/lang/invoke/VarHandle" ∧ (parseMethodDescriptor yX6_free.desc).map (fun d => d.parameters.length) = some 3 := by decide +kernel
set_option maxHeartbeats 4000000 in
set_option maxRecDepth 100000 in
theorem c_X6_free (l : Launch) (g : Gm) (a0 : Nat → Nat) (a1 : Nat → Nat) (a2 : Nat → Nat) (a3 : Nat → Nat) (a4 : Nat → Nat) (a5 : Nat → Nat) (a6 : Nat → Nat) (a7 : Nat → Nat) (a8 : Nat → Nat) (Z0 : TS) (T1 : TS) (T2 : TS) (T3 : TS) (G4 : TS) (R4 : LTS) (P5 : TS) (O7 : TS) (B7 : TS) (p1 : Int32) (p2 : Int32) (p3 : Int32) {q : (Int32 × TS × TS)} (hM : f_X6_free Z0 T1 T2 T3 G4 R4 P5 O7 B7 p1 p2 p3 = some q) : MW l yX6_free wsX6_free 6 138 g [.ref (a0 0), .int p1, .int p2, .int p3] ((wX6 g a0 (a1 0) (a2 0) (a3 0) (a4 0) (a5 0) (a6 0) (a7 0) (a8 0) Z0) ++ ((wX5 g a1 T1) ++ ((wX5 g a2 T2) ++ ((wX5 g a3 T3) ++ ((wX3 g a4 G4 R4) ++ ((wX4 g a5 P5) ++ ((wX2 g a6 (a1 0) (a3 0)) ++ ((wX1 g a7 (a1 0) (a3 0) O7 B7) ++ (wX0 g a8 (a1 0) (a3 0) (a4 0)))))))))) (some (.int q.1)) ((wX6 g a0 (a1 0) (a2 0) (a3 0) (a4 0) (a5 0) (a6 0) (a7 0) (a8 0) q.2.1) ++ ((wX5 g a1 T1) ++ ((wX5 g a2 T2) ++ ((wX5 g a3 q.2.2) ++ ((wX3 g a4 G4 R4) ++ ((wX4 g a5 P5) ++ ((wX2 g a6 (a1 0) (a3 0)) ++ ((wX1 g a7 (a1 0) (a3 0) O7 B7) ++ (wX0 g a8 (a1 0) (a3 0) (a4 0)))))))))) := by
  intro sz
  refine Met.ofW (cc := cX6_free) (maxL := 5) (ret := (some .int)) (by decide) rfl ?_
  intro p e s m args below meth c s₁ B hml hv
  obtain ⟨rfl, hsz, hP, hK, hD0⟩ := hv
  have hx := B.exec; have hb := B.bytes; have hr := B.returns
  have hts := atoms_spec (ws := wsX6_free) B.pre
  have hown : s.vm.findClass RX6 = some m.cls := findClass_of_methodNamed B.named
  have hlocks := B.notSynchronized
  have hS : CallFix p m c cX6_free 5 s _ wsX6_free RX6 := ⟨hx, hb, hml, hown, hts⟩
  have hin_X6 : ∀ w ∈ wsX60, w ∈ wsX6_free := fun w h => (List.mem_cons_of_mem _ (List.mem_append_left _ (List.mem_append_left _ (List.mem_append_left _ (List.mem_append_right _ h)))))
  subst hsz
  have hw := wk_start hP hD0
  have hA : ∀ q : Nat, s.heap.size ≤ q → va_A ((wX6 g a0 (a1 0) (a2 0) (a3 0) (a4 0) (a5 0) (a6 0) (a7 0) (a8 0) Z0) ++ ((wX5 g a1 T1) ++ ((wX5 g a2 T2) ++ ((wX5 g a3 T3) ++ ((wX3 g a4 G4 R4) ++ ((wX4 g a5 P5) ++ ((wX2 g a6 (a1 0) (a3 0)) ++ ((wX1 g a7 (a1 0) (a3 0) O7 B7) ++ (wX0 g a8 (a1 0) (a3 0) (a4 0)))))))))) s.heap.size q := fun q h => Or.inr h
  generalize va_A ((wX6 g a0 (a1 0) (a2 0) (a3 0) (a4 0) (a5 0) (a6 0) (a7 0) (a8 0) Z0) ++ ((wX5 g a1 T1) ++ ((wX5 g a2 T2) ++ ((wX5 g a3 T3) ++ ((wX3 g a4 G4 R4) ++ ((wX4 g a5 P5) ++ ((wX2 g a6 (a1 0) (a3 0)) ++ ((wX1 g a7 (a1 0) (a3 0) O7 B7) ++ (wX0 g a8 (a1 0) (a3 0) (a4 0)))))))))) s.heap.size = A at hw hA ⊢
  clear hP hD0
  have hl := lv_entry ([.ref (a0 0), .int p1, .int p2, .int p3]) (n := 5) (Nat.le_of_ble_eq_true rfl)
  rw [lg_entry_eq]
  generalize (lg_sl ([.ref (a0 0), .int p1, .int p2, .int p3]) ++ List.replicate (5 - (lg_sl ([.ref (a0 0), .int p1, .int p2, .int p3])).length) Slot.unset).toArray = ls at hl ⊢
  have hl : lv_has ls 5 [(0, .ref (a0 0)), (1, .int p1), (2, .int p2), (3, .int p3)] := hl
  rw [f_X6_free] at hM
  refine lv_aload_n hx hb dX6_free_0 rfl (lv_at hl 0 rfl) ?_
  refine wk_get hx hb hts hin_X6 hown hK hw.1 6 0 0 (.ref (a1 0)) rfl rfl (by decide) (mi 1 rfl) rfl rfl dX6_free_1 ?_
  refine lv_iload_n hx hb dX6_free_4 rfl (lv_at hl 3 rfl) ?_
  refine rVR (wc := (wX5 g a1 T1)) (As := [.int p3]) (rest := []) (q0 := 0) hS (c_X5_isSight l g a1 T1 p3) gX6_free_X5_isSight rfl hd_X5_isSight ⟨Nat.le_of_ble_eq_true rfl, Nat.le_of_ble_eq_true rfl⟩ hK (va_P.pm hw.1 (pm_9_1 _ _ _ _ _ _ _ _ _)) rfl rfl rfl rfl hl.1 rfl (Nat.le_of_ble_eq_true rfl) dX6_free_5 ⟨Nat.zero_le _, Nat.zero_le _⟩ ?_
  refine lv_if_eq (tgt := 20) hx hb dX6_free_8 (by decide) (fun c2 => ?_) (fun c2 => ?_)
  · replace hM := itp c2 hM
    refine lv_bipush (v := (-2 : Int32)) hx hb dX6_free_20 (by decide) ?_
    refine lv_istore (lv' := [(4, .int (-2 : Int32)), (0, .ref (a0 0)), (1, .int p1), (2, .int p2), (3, .int p3)]) hx hb dX6_free_22 hl (by decide) rfl (fun ls hl => ?_)
    refine lv_iload hx hb dX6_free_24 (lv_at hl 0 rfl) ?_
    refine lv_if_eq (tgt := 36) hx hb dX6_free_26 (by decide) (fun c3 => ?_) (fun c3 => ?_)
    · replace hM := itp c3 hM
      refine lv_aload_n hx hb dX6_free_36 rfl (lv_at hl 1 rfl) ?_
      refine wk_get hx hb hts hin_X6 hown hK hw.1 6 0 7 (.ref (a8 0)) rfl rfl (by decide) (mi 2 rfl) rfl rfl dX6_free_37 ?_
      refine lv_iload_n hx hb dX6_free_40 rfl (lv_at hl 2 rfl) ?_
      refine lv_iload_n hx hb dX6_free_41 rfl (lv_at hl 3 rfl) ?_
      refine lv_iload_n hx hb dX6_free_42 rfl (lv_at hl 4 rfl) ?_
      obtain ⟨q5, h4, hM⟩ := bd hM
      refine rVR (wc := ((wX0 g a8 (a1 0) (a3 0) (a4 0)) ++ ((wX5 g a1 T1) ++ ((wX5 g a3 T3) ++ (wX3 g a4 G4 R4))))) (As := [.int p1, .int p2, .int p3]) (rest := []) (q0 := 0) hS (c_X0_silentOf l g a8 a1 a3 a4 T1 T3 G4 R4 p1 p2 p3 h4) gX6_free_X0_silentOf rfl hd_X0_silentOf ⟨Nat.le_of_ble_eq_true rfl, Nat.le_of_ble_eq_true rfl⟩ hK (va_P.pm hw.1 (pm_9_8_1_3_4 _ _ _ _ _ _ _ _ _)) rfl rfl rfl rfl hl.1 rfl (Nat.le_of_ble_eq_true rfl) dX6_free_43 ⟨Nat.zero_le _, Nat.zero_le _⟩ ?_
      refine lv_aload_n hx hb dX6_free_46 rfl (lv_at hl 1 rfl) ?_
      refine wk_get hx hb hts hin_X6 hown hK hw.1 6 0 0 (.ref (a1 0)) rfl rfl (by decide) (mi 1 rfl) rfl rfl dX6_free_47 ?_
      refine lv_iload_n hx hb dX6_free_50 rfl (lv_at hl 4 rfl) ?_
      obtain ⟨q7, h6, hM⟩ := bd hM
      refine rVR (wc := (wX5 g a1 T1)) (As := [.int p3]) (rest := [.int q5]) (q0 := 0) hS (c_X5_whoIsBarred l g a1 T1 p3 h6) gX6_free_X5_whoIsBarred rfl hd_X5_whoIsBarred ⟨Nat.le_of_ble_eq_true rfl, Nat.le_of_ble_eq_true rfl⟩ hK (va_P.pm hw.1 (pm_9_1 _ _ _ _ _ _ _ _ _)) rfl rfl rfl rfl hl.1 rfl (Nat.le_of_ble_eq_true rfl) dX6_free_51 ⟨Nat.zero_le _, Nat.zero_le _⟩ ?_
      refine lv_iconst (v := (-1 : Int32)) hx hb dX6_free_54 (by decide) ?_
      refine lv_ixor hx hb dX6_free_55 ?_
      refine lv_iand hx hb dX6_free_56 ?_
      refine lv_aload_n hx hb dX6_free_57 rfl (lv_at hl 1 rfl) ?_
      refine wk_get hx hb hts hin_X6 hown hK hw.1 6 0 7 (.ref (a8 0)) rfl rfl (by decide) (mi 2 rfl) rfl rfl dX6_free_58 ?_
      refine lv_iload_n hx hb dX6_free_61 rfl (lv_at hl 2 rfl) ?_
      refine lv_iload_n hx hb dX6_free_62 rfl (lv_at hl 3 rfl) ?_
      refine lv_iload_n hx hb dX6_free_63 rfl (lv_at hl 4 rfl) ?_
      obtain ⟨q9, h8, hM⟩ := bd hM
      refine rVWp (wc := ((wX0 g a8 (a1 0) (a3 0) (a4 0)) ++ ((wX5 g a1 T1) ++ ((wX5 g a3 T3) ++ (wX3 g a4 G4 R4))))) (wq := ((wX6 g a0 (a1 0) (a2 0) (a3 0) (a4 0) (a5 0) (a6 0) (a7 0) (a8 0) Z0) ++ ((wX5 g a1 T1) ++ ((wX5 g a2 T2) ++ ((wX5 g a3 q9.2) ++ ((wX3 g a4 G4 R4) ++ ((wX4 g a5 P5) ++ ((wX2 g a6 (a1 0) (a3 0)) ++ ((wX1 g a7 (a1 0) (a3 0) O7 B7) ++ (wX0 g a8 (a1 0) (a3 0) (a4 0))))))))))) (As := [.int p1, .int p2, .int p3]) (rest := [.int (q5 &&& (q7 ^^^ (-1 : Int32)))]) (q0 := 0) hS (c_X0_mouthsBehind l g a8 a1 a3 a4 T1 T3 G4 R4 p1 p2 p3 h8) gX6_free_X0_mouthsBehind rfl hd_X0_mouthsBehind ⟨Nat.le_of_ble_eq_true rfl, Nat.le_of_ble_eq_true rfl⟩ hK hw hA (pm_9_8_1_3_4 _ _ _ _ _ _ _ _ _) rfl (pm_9_8_1_3_4 _ _ _ _ _ _ _ _ _) rfl rfl rfl rfl hl.1 rfl (Nat.le_of_ble_eq_true rfl) dX6_free_64 ⟨Nat.zero_le _, Nat.zero_le _⟩ (fun H locs hw => ?_)
      refine lv_iand hx hb dX6_free_67 ?_
      obtain rfl := Option.some.inj hM
      exact W.iret hx hb hr (fun t ht _ => ⟨rfl, by rw [ht]; exact hw.1, hw.2.2.F ht⟩) hw.2.2.2.2 dX6_free_68
    · replace hM := itn c3 hM
      refine lv_aload_n hx hb dX6_free_29 rfl (lv_at hl 1 rfl) ?_
      refine lv_iload hx hb dX6_free_30 (lv_at hl 0 rfl) ?_
      obtain ⟨q11, h10, hM⟩ := bd hM
      refine rVWp (wc := ((wX6 g a0 (a1 0) (a2 0) (a3 0) (a4 0) (a5 0) (a6 0) (a7 0) (a8 0) Z0) ++ ((wX5 g a1 T1) ++ ((wX5 g a2 T2) ++ ((wX5 g a3 T3) ++ ((wX3 g a4 G4 R4) ++ ((wX4 g a5 P5) ++ ((wX2 g a6 (a1 0) (a3 0)) ++ ((wX1 g a7 (a1 0) (a3 0) O7 B7) ++ (wX0 g a8 (a1 0) (a3 0) (a4 0))))))))))) (wq := ((wX6 g a0 (a1 0) (a2 0) (a3 0) (a4 0) (a5 0) (a6 0) (a7 0) (a8 0) q11.2) ++ ((wX5 g a1 T1) ++ ((wX5 g a2 T2) ++ ((wX5 g a3 T3) ++ ((wX3 g a4 G4 R4) ++ ((wX4 g a5 P5) ++ ((wX2 g a6 (a1 0) (a3 0)) ++ ((wX1 g a7 (a1 0) (a3 0) O7 B7) ++ (wX0 g a8 (a1 0) (a3 0) (a4 0))))))))))) (As := [.int (-2 : Int32)]) (rest := []) (q0 := 0) hS (c_X6_refuse l g a0 a1 a2 a3 a4 a5 a6 a7 a8 Z0 T1 T2 T3 G4 R4 P5 O7 B7 (-2 : Int32) h10) gX6_free_X6_refuse rfl hd_X6_refuse ⟨Nat.le_of_ble_eq_true rfl, Nat.le_of_ble_eq_true rfl⟩ hK hw hA (pm_9_0_1_2_3_4_5_6_7_8 _ _ _ _ _ _ _ _ _) rfl (pm_9_0_1_2_3_4_5_6_7_8 _ _ _ _ _ _ _ _ _) rfl rfl rfl rfl hl.1 rfl (Nat.le_of_ble_eq_true rfl) dX6_free_32 ⟨Nat.zero_le _, Nat.zero_le _⟩ (fun H locs hw => ?_)
      obtain rfl := Option.some.inj hM
      exact W.iret hx hb hr (fun t ht _ => ⟨rfl, by rw [ht]; exact hw.1, hw.2.2.F ht⟩) hw.2.2.2.2 dX6_free_35
  · replace hM := itn c2 hM
    refine lv_aload_n hx hb dX6_free_11 rfl (lv_at hl 0 rfl) ?_
    refine lv_iload_n hx hb dX6_free_12 rfl (lv_at hl 1 rfl) ?_
    refine lv_iload_n hx hb dX6_free_13 rfl (lv_at hl 2 rfl) ?_
    obtain ⟨q13, h12, hM⟩ := bd hM
    refine rVR (wc := ((wX6 g a0 (a1 0) (a2 0) (a3 0) (a4 0) (a5 0) (a6 0) (a7 0) (a8 0) Z0) ++ ((wX5 g a1 T1) ++ ((wX5 g a2 T2) ++ ((wX5 g a3 T3) ++ ((wX3 g a4 G4 R4) ++ ((wX4 g a5 P5) ++ ((wX2 g a6 (a1 0) (a3 0)) ++ ((wX1 g a7 (a1 0) (a3 0) O7 B7) ++ (wX0 g a8 (a1 0) (a3 0) (a4 0))))))))))) (As := [.int p1, .int p2]) (rest := []) (q0 := 0) hS (c_X6_troubleWithSayings l g a0 a1 a2 a3 a4 a5 a6 a7 a8 Z0 T1 T2 T3 G4 R4 P5 O7 B7 p1 p2 h12) gX6_free_X6_troubleWithSayings rfl hd_X6_troubleWithSayings ⟨Nat.le_of_ble_eq_true rfl, Nat.le_of_ble_eq_true rfl⟩ hK (va_P.pm hw.1 (pm_9_0_1_2_3_4_5_6_7_8 _ _ _ _ _ _ _ _ _)) rfl rfl rfl rfl hl.1 rfl (Nat.le_of_ble_eq_true rfl) dX6_free_14 ⟨Nat.zero_le _, Nat.zero_le _⟩ ?_
    refine lv_goto (tgt := 22) hx hb dX6_free_17 (by decide) ?_
    refine lv_istore (lv' := [(4, .int q13), (0, .ref (a0 0)), (1, .int p1), (2, .int p2), (3, .int p3)]) hx hb dX6_free_22 hl (by decide) rfl (fun ls hl => ?_)
    refine lv_iload hx hb dX6_free_24 (lv_at hl 0 rfl) ?_
    refine lv_if_eq (tgt := 36) hx hb dX6_free_26 (by decide) (fun c14 => ?_) (fun c14 => ?_)
    · replace hM := itp c14 hM
      refine lv_aload_n hx hb dX6_free_36 rfl (lv_at hl 1 rfl) ?_
      refine wk_get hx hb hts hin_X6 hown hK hw.1 6 0 7 (.ref (a8 0)) rfl rfl (by decide) (mi 2 rfl) rfl rfl dX6_free_37 ?_
      refine lv_iload_n hx hb dX6_free_40 rfl (lv_at hl 2 rfl) ?_
      refine lv_iload_n hx hb dX6_free_41 rfl (lv_at hl 3 rfl) ?_
      refine lv_iload_n hx hb dX6_free_42 rfl (lv_at hl 4 rfl) ?_
      obtain ⟨q16, h15, hM⟩ := bd hM
      refine rVR (wc := ((wX0 g a8 (a1 0) (a3 0) (a4 0)) ++ ((wX5 g a1 T1) ++ ((wX5 g a3 T3) ++ (wX3 g a4 G4 R4))))) (As := [.int p1, .int p2, .int p3]) (rest := []) (q0 := 0) hS (c_X0_silentOf l g a8 a1 a3 a4 T1 T3 G4 R4 p1 p2 p3 h15) gX6_free_X0_silentOf rfl hd_X0_silentOf ⟨Nat.le_of_ble_eq_true rfl, Nat.le_of_ble_eq_true rfl⟩ hK (va_P.pm hw.1 (pm_9_8_1_3_4 _ _ _ _ _ _ _ _ _)) rfl rfl rfl rfl hl.1 rfl (Nat.le_of_ble_eq_true rfl) dX6_free_43 ⟨Nat.zero_le _, Nat.zero_le _⟩ ?_
      refine lv_aload_n hx hb dX6_free_46 rfl (lv_at hl 1 rfl) ?_
      refine wk_get hx hb hts hin_X6 hown hK hw.1 6 0 0 (.ref (a1 0)) rfl rfl (by decide) (mi 1 rfl) rfl rfl dX6_free_47 ?_
      refine lv_iload_n hx hb dX6_free_50 rfl (lv_at hl 4 rfl) ?_
      obtain ⟨q18, h17, hM⟩ := bd hM
      refine rVR (wc := (wX5 g a1 T1)) (As := [.int p3]) (rest := [.int q16]) (q0 := 0) hS (c_X5_whoIsBarred l g a1 T1 p3 h17) gX6_free_X5_whoIsBarred rfl hd_X5_whoIsBarred ⟨Nat.le_of_ble_eq_true rfl, Nat.le_of_ble_eq_true rfl⟩ hK (va_P.pm hw.1 (pm_9_1 _ _ _ _ _ _ _ _ _)) rfl rfl rfl rfl hl.1 rfl (Nat.le_of_ble_eq_true rfl) dX6_free_51 ⟨Nat.zero_le _, Nat.zero_le _⟩ ?_
      refine lv_iconst (v := (-1 : Int32)) hx hb dX6_free_54 (by decide) ?_
      refine lv_ixor hx hb dX6_free_55 ?_
      refine lv_iand hx hb dX6_free_56 ?_
      refine lv_aload_n hx hb dX6_free_57 rfl (lv_at hl 1 rfl) ?_
      refine wk_get hx hb hts hin_X6 hown hK hw.1 6 0 7 (.ref (a8 0)) rfl rfl (by decide) (mi 2 rfl) rfl rfl dX6_free_58 ?_
      refine lv_iload_n hx hb dX6_free_61 rfl (lv_at hl 2 rfl) ?_
      refine lv_iload_n hx hb dX6_free_62 rfl (lv_at hl 3 rfl) ?_
      refine lv_iload_n hx hb dX6_free_63 rfl (lv_at hl 4 rfl) ?_
      obtain ⟨q20, h19, hM⟩ := bd hM
      refine rVWp (wc := ((wX0 g a8 (a1 0) (a3 0) (a4 0)) ++ ((wX5 g a1 T1) ++ ((wX5 g a3 T3) ++ (wX3 g a4 G4 R4))))) (wq := ((wX6 g a0 (a1 0) (a2 0) (a3 0) (a4 0) (a5 0) (a6 0) (a7 0) (a8 0) Z0) ++ ((wX5 g a1 T1) ++ ((wX5 g a2 T2) ++ ((wX5 g a3 q20.2) ++ ((wX3 g a4 G4 R4) ++ ((wX4 g a5 P5) ++ ((wX2 g a6 (a1 0) (a3 0)) ++ ((wX1 g a7 (a1 0) (a3 0) O7 B7) ++ (wX0 g a8 (a1 0) (a3 0) (a4 0))))))))))) (As := [.int p1, .int p2, .int p3]) (rest := [.int (q16 &&& (q18 ^^^ (-1 : Int32)))]) (q0 := 0) hS (c_X0_mouthsBehind l g a8 a1 a3 a4 T1 T3 G4 R4 p1 p2 p3 h19) gX6_free_X0_mouthsBehind rfl hd_X0_mouthsBehind ⟨Nat.le_of_ble_eq_true rfl, Nat.le_of_ble_eq_true rfl⟩ hK hw hA (pm_9_8_1_3_4 _ _ _ _ _ _ _ _ _) rfl (pm_9_8_1_3_4 _ _ _ _ _ _ _ _ _) rfl rfl rfl rfl hl.1 rfl (Nat.le_of_ble_eq_true rfl) dX6_free_64 ⟨Nat.zero_le _, Nat.zero_le _⟩ (fun H locs hw => ?_)
      refine lv_iand hx hb dX6_free_67 ?_
      obtain rfl := Option.some.inj hM
      exact W.iret hx hb hr (fun t ht _ => ⟨rfl, by rw [ht]; exact hw.1, hw.2.2.F ht⟩) hw.2.2.2.2 dX6_free_68
    · replace hM := itn c14 hM
      refine lv_aload_n hx hb dX6_free_29 rfl (lv_at hl 1 rfl) ?_
      refine lv_iload hx hb dX6_free_30 (lv_at hl 0 rfl) ?_
      obtain ⟨q22, h21, hM⟩ := bd hM
      refine rVWp (wc := ((wX6 g a0 (a1 0) (a2 0) (a3 0) (a4 0) (a5 0) (a6 0) (a7 0) (a8 0) Z0) ++ ((wX5 g a1 T1) ++ ((wX5 g a2 T2) ++ ((wX5 g a3 T3) ++ ((wX3 g a4 G4 R4) ++ ((wX4 g a5 P5) ++ ((wX2 g a6 (a1 0) (a3 0)) ++ ((wX1 g a7 (a1 0) (a3 0) O7 B7) ++ (wX0 g a8 (a1 0) (a3 0) (a4 0))))))))))) (wq := ((wX6 g a0 (a1 0) (a2 0) (a3 0) (a4 0) (a5 0) (a6 0) (a7 0) (a8 0) q22.2) ++ ((wX5 g a1 T1) ++ ((wX5 g a2 T2) ++ ((wX5 g a3 T3) ++ ((wX3 g a4 G4 R4) ++ ((wX4 g a5 P5) ++ ((wX2 g a6 (a1 0) (a3 0)) ++ ((wX1 g a7 (a1 0) (a3 0) O7 B7) ++ (wX0 g a8 (a1 0) (a3 0) (a4 0))))))))))) (As := [.int q13]) (rest := []) (q0 := 0) hS (c_X6_refuse l g a0 a1 a2 a3 a4 a5 a6 a7 a8 Z0 T1 T2 T3 G4 R4 P5 O7 B7 q13 h21) gX6_free_X6_refuse rfl hd_X6_refuse ⟨Nat.le_of_ble_eq_true rfl, Nat.le_of_ble_eq_true rfl⟩ hK hw hA (pm_9_0_1_2_3_4_5_6_7_8 _ _ _ _ _ _ _ _ _) rfl (pm_9_0_1_2_3_4_5_6_7_8 _ _ _ _ _ _ _ _ _) rfl rfl rfl rfl hl.1 rfl (Nat.le_of_ble_eq_true rfl) dX6_free_32 ⟨Nat.zero_le _, Nat.zero_le _⟩ (fun H locs hw => ?_)
      obtain rfl := Option.some.inj hM
      exact W.iret hx hb hr (fun t ht _ => ⟨rfl, by rw [ht]; exact hw.1, hw.2.2.F ht⟩) hw.2.2.2.2 dX6_free_35
theorem hd_X6_hear : yX6_hear.cls = RX6 ∧ yX6_hear.cls ≠ "java/lang/invoke/MethodHandle" ∧ yX6_hear.cls ≠ "java/lang/invoke/VarHandle" ∧ (parseMethodDescriptor yX6_hear.desc).map (fun d => d.parameters.length) = some 3 := by decide +kernel
set_option maxHeartbeats 4000000 in
set_option maxRecDepth 100000 in
theorem c_X6_hear (l : Launch) (g : Gm) (a0 : Nat → Nat) (a1 : Nat → Nat) (a2 : Nat → Nat) (a3 : Nat → Nat) (a4 : Nat → Nat) (a5 : Nat → Nat) (a6 : Nat → Nat) (a7 : Nat → Nat) (a8 : Nat → Nat) (Z0 : TS) (T1 : TS) (T2 : TS) (T3 : TS) (G4 : TS) (R4 : LTS) (P5 : TS) (O7 : TS) (B7 : TS) (p1 : Int32) (p2 : Int32) (p3 : Int32) {q : (Int32 × TS × TS)} (hM : f_X6_hear Z0 T1 T2 T3 G4 R4 P5 O7 B7 p1 p2 p3 = some q) : MW l yX6_hear wsX6_hear 2 45 g [.ref (a0 0), .int p1, .int p2, .int p3] ((wX6 g a0 (a1 0) (a2 0) (a3 0) (a4 0) (a5 0) (a6 0) (a7 0) (a8 0) Z0) ++ ((wX5 g a1 T1) ++ ((wX5 g a2 T2) ++ ((wX5 g a3 T3) ++ ((wX3 g a4 G4 R4) ++ ((wX4 g a5 P5) ++ ((wX2 g a6 (a1 0) (a3 0)) ++ ((wX1 g a7 (a1 0) (a3 0) O7 B7) ++ (wX0 g a8 (a1 0) (a3 0) (a4 0)))))))))) (some (.int q.1)) ((wX6 g a0 (a1 0) (a2 0) (a3 0) (a4 0) (a5 0) (a6 0) (a7 0) (a8 0) q.2.1) ++ ((wX5 g a1 q.2.2) ++ ((wX5 g a2 T2) ++ ((wX5 g a3 T3) ++ ((wX3 g a4 G4 R4) ++ ((wX4 g a5 P5) ++ ((wX2 g a6 (a1 0) (a3 0)) ++ ((wX1 g a7 (a1 0) (a3 0) O7 B7) ++ (wX0 g a8 (a1 0) (a3 0) (a4 0)))))))))) := by
  intro sz
  refine Met.ofW (cc := cX6_hear) (maxL := 5) (ret := (some .int)) (by decide) rfl ?_
  intro p e s m args below meth c s₁ B hml hv
  obtain ⟨rfl, hsz, hP, hK, hD0⟩ := hv
  have hx := B.exec; have hb := B.bytes; have hr := B.returns
  have hts := atoms_spec (ws := wsX6_hear) B.pre
  have hown : s.vm.findClass RX6 = some m.cls := findClass_of_methodNamed B.named
  have hlocks := B.notSynchronized
  have hS : CallFix p m c cX6_hear 5 s _ wsX6_hear RX6 := ⟨hx, hb, hml, hown, hts⟩
  have hin_X5 : ∀ w ∈ wsX50, w ∈ wsX6_hear := fun w h => (List.mem_cons_of_mem _ (List.mem_append_right _ h))
  have hin_X6 : ∀ w ∈ wsX60, w ∈ wsX6_hear := fun w h => (List.mem_cons_of_mem _ (List.mem_append_left _ (List.mem_append_right _ h)))
  subst hsz
  have hw := wk_start hP hD0
  have hA : ∀ q : Nat, s.heap.size ≤ q → va_A ((wX6 g a0 (a1 0) (a2 0) (a3 0) (a4 0) (a5 0) (a6 0) (a7 0) (a8 0) Z0) ++ ((wX5 g a1 T1) ++ ((wX5 g a2 T2) ++ ((wX5 g a3 T3) ++ ((wX3 g a4 G4 R4) ++ ((wX4 g a5 P5) ++ ((wX2 g a6 (a1 0) (a3 0)) ++ ((wX1 g a7 (a1 0) (a3 0) O7 B7) ++ (wX0 g a8 (a1 0) (a3 0) (a4 0)))))))))) s.heap.size q := fun q h => Or.inr h
  generalize va_A ((wX6 g a0 (a1 0) (a2 0) (a3 0) (a4 0) (a5 0) (a6 0) (a7 0) (a8 0) Z0) ++ ((wX5 g a1 T1) ++ ((wX5 g a2 T2) ++ ((wX5 g a3 T3) ++ ((wX3 g a4 G4 R4) ++ ((wX4 g a5 P5) ++ ((wX2 g a6 (a1 0) (a3 0)) ++ ((wX1 g a7 (a1 0) (a3 0) O7 B7) ++ (wX0 g a8 (a1 0) (a3 0) (a4 0)))))))))) s.heap.size = A at hw hA ⊢
  clear hP hD0
  have hl := lv_entry ([.ref (a0 0), .int p1, .int p2, .int p3]) (n := 5) (Nat.le_of_ble_eq_true rfl)
  rw [lg_entry_eq]
  generalize (lg_sl ([.ref (a0 0), .int p1, .int p2, .int p3]) ++ List.replicate (5 - (lg_sl ([.ref (a0 0), .int p1, .int p2, .int p3])).length) Slot.unset).toArray = ls at hl ⊢
  have hl : lv_has ls 5 [(0, .ref (a0 0)), (1, .int p1), (2, .int p2), (3, .int p3)] := hl
  rw [f_X6_hear] at hM
  refine lv_aload_n hx hb dX6_hear_0 rfl (lv_at hl 0 rfl) ?_
  refine wk_get hx hb hts hin_X6 hown hK hw.1 6 0 0 (.ref (a1 0)) rfl rfl (by decide) (mi 1 rfl) rfl rfl dX6_hear_1 ?_
  refine lv_iload_n hx hb dX6_hear_4 rfl (lv_at hl 1 rfl) ?_
  refine rVR (wc := (wX5 g a1 T1)) (As := [.int p1]) (rest := []) (q0 := 0) hS (c_X5_isOne l g a1 T1 p1) gX6_hear_X5_isOne rfl hd_X5_isOne ⟨Nat.le_of_ble_eq_true rfl, Nat.le_of_ble_eq_true rfl⟩ hK (va_P.pm hw.1 (pm_9_1 _ _ _ _ _ _ _ _ _)) rfl rfl rfl rfl hl.1 rfl (Nat.le_of_ble_eq_true rfl) dX6_hear_5 ⟨Nat.zero_le _, Nat.zero_le _⟩ ?_
  refine lv_if_eq (tgt := 22) hx hb dX6_hear_8 (by decide) (fun c2 => ?_) (fun c2 => ?_)
  · replace hM := itp c2 hM
    refine lv_aload_n hx hb dX6_hear_22 rfl (lv_at hl 0 rfl) ?_
    refine lv_bipush (v := (-2 : Int32)) hx hb dX6_hear_23 (by decide) ?_
    obtain ⟨q4, h3, hM⟩ := bd hM
    refine rVWp (wc := ((wX6 g a0 (a1 0) (a2 0) (a3 0) (a4 0) (a5 0) (a6 0) (a7 0) (a8 0) Z0) ++ ((wX5 g a1 T1) ++ ((wX5 g a2 T2) ++ ((wX5 g a3 T3) ++ ((wX3 g a4 G4 R4) ++ ((wX4 g a5 P5) ++ ((wX2 g a6 (a1 0) (a3 0)) ++ ((wX1 g a7 (a1 0) (a3 0) O7 B7) ++ (wX0 g a8 (a1 0) (a3 0) (a4 0))))))))))) (wq := ((wX6 g a0 (a1 0) (a2 0) (a3 0) (a4 0) (a5 0) (a6 0) (a7 0) (a8 0) q4.2) ++ ((wX5 g a1 T1) ++ ((wX5 g a2 T2) ++ ((wX5 g a3 T3) ++ ((wX3 g a4 G4 R4) ++ ((wX4 g a5 P5) ++ ((wX2 g a6 (a1 0) (a3 0)) ++ ((wX1 g a7 (a1 0) (a3 0) O7 B7) ++ (wX0 g a8 (a1 0) (a3 0) (a4 0))))))))))) (As := [.int (-2 : Int32)]) (rest := []) (q0 := 0) hS (c_X6_refuse l g a0 a1 a2 a3 a4 a5 a6 a7 a8 Z0 T1 T2 T3 G4 R4 P5 O7 B7 (-2 : Int32) h3) gX6_hear_X6_refuse rfl hd_X6_refuse ⟨Nat.le_of_ble_eq_true rfl, Nat.le_of_ble_eq_true rfl⟩ hK hw hA (pm_9_0_1_2_3_4_5_6_7_8 _ _ _ _ _ _ _ _ _) rfl (pm_9_0_1_2_3_4_5_6_7_8 _ _ _ _ _ _ _ _ _) rfl rfl rfl rfl hl.1 rfl (Nat.le_of_ble_eq_true rfl) dX6_hear_25 ⟨Nat.zero_le _, Nat.zero_le _⟩ (fun H locs hw => ?_)
    obtain rfl := Option.some.inj hM
    exact W.iret hx hb hr (fun t ht _ => ⟨rfl, by rw [ht]; exact hw.1, hw.2.2.F ht⟩) hw.2.2.2.2 dX6_hear_28
  · replace hM := itn c2 hM
    refine lv_aload_n hx hb dX6_hear_11 rfl (lv_at hl 0 rfl) ?_
    refine wk_get hx hb hts hin_X6 hown hK hw.1 6 0 0 (.ref (a1 0)) rfl rfl (by decide) (mi 1 rfl) rfl rfl dX6_hear_12 ?_
    refine lv_iload_n hx hb dX6_hear_15 rfl (lv_at hl 2 rfl) ?_
    refine rVR (wc := (wX5 g a1 T1)) (As := [.int p2]) (rest := []) (q0 := 0) hS (c_X5_isSight l g a1 T1 p2) gX6_hear_X5_isSight rfl hd_X5_isSight ⟨Nat.le_of_ble_eq_true rfl, Nat.le_of_ble_eq_true rfl⟩ hK (va_P.pm hw.1 (pm_9_1 _ _ _ _ _ _ _ _ _)) rfl rfl rfl rfl hl.1 rfl (Nat.le_of_ble_eq_true rfl) dX6_hear_16 ⟨Nat.zero_le _, Nat.zero_le _⟩ ?_
    refine lv_if_ne (tgt := 29) hx hb dX6_hear_19 (by decide) (fun c6 => ?_) (fun c6 => ?_)
    · replace hM := itn c6 hM
      refine lv_aload_n hx hb dX6_hear_29 rfl (lv_at hl 0 rfl) ?_
      refine wk_get hx hb hts hin_X6 hown hK hw.1 6 0 0 (.ref (a1 0)) rfl rfl (by decide) (mi 1 rfl) rfl rfl dX6_hear_30 ?_
      refine wk_get hx hb hts hin_X5 hown hK hw.1 5 2 9 (.ref (a1 3)) rfl rfl (by decide) (mi 2 rfl) rfl rfl dX6_hear_33 ?_
      refine lv_iload_n hx hb dX6_hear_36 rfl (lv_at hl 1 rfl) ?_
      obtain ⟨k9, hM⟩ := ck hM
      refine wk_iald hx hb hK hw.1 5 7 (T1 9) rfl k9 dX6_hear_37 ?_
      refine lv_iload_n hx hb dX6_hear_38 rfl (lv_at hl 2 rfl) ?_
      refine rSR (wc := ([] : va_W)) (As := [.int ((T1 9) (p1).toNatClampNeg), .int p2]) (rest := []) hS (c_X6_has l g ((T1 9) (p1).toNatClampNeg) p2) gX6_hear_X6_has rfl hd_X6_has ⟨Nat.le_of_ble_eq_true rfl, Nat.le_of_ble_eq_true rfl⟩ hK (hP_nil) rfl hl.1 rfl (Nat.le_of_ble_eq_true rfl) dX6_hear_39 ⟨Nat.zero_le _, Nat.zero_le _⟩ ?_
      refine lv_istore (lv' := [(4, .int (f_X6_has ((T1 9) (p1).toNatClampNeg) p2)), (0, .ref (a0 0)), (1, .int p1), (2, .int p2), (3, .int p3)]) hx hb dX6_hear_42 hl (by decide) rfl (fun ls hl => ?_)
      refine lv_aload_n hx hb dX6_hear_44 rfl (lv_at hl 1 rfl) ?_
      refine wk_get hx hb hts hin_X6 hown hK hw.1 6 0 0 (.ref (a1 0)) rfl rfl (by decide) (mi 1 rfl) rfl rfl dX6_hear_45 ?_
      refine lv_iload_n hx hb dX6_hear_48 rfl (lv_at hl 2 rfl) ?_
      refine lv_iload_n hx hb dX6_hear_49 rfl (lv_at hl 3 rfl) ?_
      refine lv_iload_n hx hb dX6_hear_50 rfl (lv_at hl 4 rfl) ?_
      obtain ⟨q12, h11, hM⟩ := bd hM
      refine rVWp (wc := (wX5 g a1 T1)) (wq := ((wX6 g a0 (a1 0) (a2 0) (a3 0) (a4 0) (a5 0) (a6 0) (a7 0) (a8 0) Z0) ++ ((wX5 g a1 q12) ++ ((wX5 g a2 T2) ++ ((wX5 g a3 T3) ++ ((wX3 g a4 G4 R4) ++ ((wX4 g a5 P5) ++ ((wX2 g a6 (a1 0) (a3 0)) ++ ((wX1 g a7 (a1 0) (a3 0) O7 B7) ++ (wX0 g a8 (a1 0) (a3 0) (a4 0))))))))))) (As := [.int p1, .int p2, .int p3]) (rest := []) (q0 := 0) hS (c_X5_putHeard l g a1 T1 p1 p2 p3 h11) gX6_hear_X5_putHeard rfl hd_X5_putHeard ⟨Nat.le_of_ble_eq_true rfl, Nat.le_of_ble_eq_true rfl⟩ hK hw hA (pm_9_1 _ _ _ _ _ _ _ _ _) rfl (pm_9_1 _ _ _ _ _ _ _ _ _) rfl rfl rfl rfl hl.1 rfl (Nat.le_of_ble_eq_true rfl) dX6_hear_51 ⟨Nat.zero_le _, Nat.zero_le _⟩ (fun H locs hw => ?_)
      refine lv_iload hx hb dX6_hear_54 (lv_at hl 0 rfl) ?_
      refine lv_iload_n hx hb dX6_hear_56 rfl (lv_at hl 4 rfl) ?_
      have hJ19 : ∀ (H : Heap) (locs : List Loc) (x18 : Int32) (ls : Array Slot), Wk g A s.heap H locs ((wX6 g a0 (a1 0) (a2 0) (a3 0) (a4 0) (a5 0) (a6 0) (a7 0) (a8 0) Z0) ++ ((wX5 g a1 q12) ++ ((wX5 g a2 T2) ++ ((wX5 g a3 T3) ++ ((wX3 g a4 G4 R4) ++ ((wX4 g a5 P5) ++ ((wX2 g a6 (a1 0) (a3 0)) ++ ((wX1 g a7 (a1 0) (a3 0) O7 B7) ++ (wX0 g a8 (a1 0) (a3 0) (a4 0)))))))))) → x18 = (if (f_X6_has ((T1 9) (p1).toNatClampNeg) p2) = p3 then (0 : Int32) else (1 : Int32)) → lv_has ls 5 [] → W p l e (headSpec wsX6_hear ({ frames := 2, cells := 0, slots := 0, locals := 45 } : Room)).room s m ([.ref (a0 0), .int p1, .int p2, .int p3] : List Value).toArray below meth c H locs 0 0 (MQ below (QcW g (some (.int q.1)) ((wX6 g a0 (a1 0) (a2 0) (a3 0) (a4 0) (a5 0) (a6 0) (a7 0) (a8 0) q.2.1) ++ ((wX5 g a1 q.2.2) ++ ((wX5 g a2 T2) ++ ((wX5 g a3 T3) ++ ((wX3 g a4 G4 R4) ++ ((wX4 g a5 P5) ++ ((wX2 g a6 (a1 0) (a3 0)) ++ ((wX1 g a7 (a1 0) (a3 0) O7 B7) ++ (wX0 g a8 (a1 0) (a3 0) (a4 0)))))))))) A) ([.ref (a0 0), .int p1, .int p2, .int p3] : List Value).toArray s 0 0 A) (F0 m 65 ls [.int x18]) := by
        intro H locs x18 ls hw hxx18 hl
        subst hxx18
        obtain rfl := Option.some.inj hM
        exact W.iret hx hb hr (fun t ht _ => ⟨rfl, by rw [ht]; exact hw.1, hw.2.2.F ht⟩) hw.2.2.2.2 dX6_hear_65
      refine lv_icmp_ne (tgt := 64) hx hb dX6_hear_57 (by decide) (fun c13 => ?_) (fun c13 => ?_)
      · refine lv_iconst (v := (1 : Int32)) hx hb dX6_hear_64 (by decide) ?_
        exact hJ19 _ _ _ _ hw (by first | rfl | (simp only [if_neg c13])) (lv_sub hl [] rfl)
      · refine lv_iconst (v := (0 : Int32)) hx hb dX6_hear_60 (by decide) ?_
        refine lv_goto (tgt := 65) hx hb dX6_hear_61 (by decide) ?_
        exact hJ19 _ _ _ _ hw (by first | rfl | (simp only [if_pos c13])) (lv_sub hl [] rfl)
    · replace hM := itp c6 hM
      refine lv_aload_n hx hb dX6_hear_22 rfl (lv_at hl 0 rfl) ?_
      refine lv_bipush (v := (-2 : Int32)) hx hb dX6_hear_23 (by decide) ?_
      obtain ⟨q8, h7, hM⟩ := bd hM
      refine rVWp (wc := ((wX6 g a0 (a1 0) (a2 0) (a3 0) (a4 0) (a5 0) (a6 0) (a7 0) (a8 0) Z0) ++ ((wX5 g a1 T1) ++ ((wX5 g a2 T2) ++ ((wX5 g a3 T3) ++ ((wX3 g a4 G4 R4) ++ ((wX4 g a5 P5) ++ ((wX2 g a6 (a1 0) (a3 0)) ++ ((wX1 g a7 (a1 0) (a3 0) O7 B7) ++ (wX0 g a8 (a1 0) (a3 0) (a4 0))))))))))) (wq := ((wX6 g a0 (a1 0) (a2 0) (a3 0) (a4 0) (a5 0) (a6 0) (a7 0) (a8 0) q8.2) ++ ((wX5 g a1 T1) ++ ((wX5 g a2 T2) ++ ((wX5 g a3 T3) ++ ((wX3 g a4 G4 R4) ++ ((wX4 g a5 P5) ++ ((wX2 g a6 (a1 0) (a3 0)) ++ ((wX1 g a7 (a1 0) (a3 0) O7 B7) ++ (wX0 g a8 (a1 0) (a3 0) (a4 0))))))))))) (As := [.int (-2 : Int32)]) (rest := []) (q0 := 0) hS (c_X6_refuse l g a0 a1 a2 a3 a4 a5 a6 a7 a8 Z0 T1 T2 T3 G4 R4 P5 O7 B7 (-2 : Int32) h7) gX6_hear_X6_refuse rfl hd_X6_refuse ⟨Nat.le_of_ble_eq_true rfl, Nat.le_of_ble_eq_true rfl⟩ hK hw hA (pm_9_0_1_2_3_4_5_6_7_8 _ _ _ _ _ _ _ _ _) rfl (pm_9_0_1_2_3_4_5_6_7_8 _ _ _ _ _ _ _ _ _) rfl rfl rfl rfl hl.1 rfl (Nat.le_of_ble_eq_true rfl) dX6_hear_25 ⟨Nat.zero_le _, Nat.zero_le _⟩ (fun H locs hw => ?_)
      obtain rfl := Option.some.inj hM
      exact W.iret hx hb hr (fun t ht _ => ⟨rfl, by rw [ht]; exact hw.1, hw.2.2.F ht⟩) hw.2.2.2.2 dX6_hear_28
theorem hd_X6_heard : yX6_heard.cls = RX6 ∧ yX6_heard.cls ≠ "java/lang/invoke/MethodHandle" ∧ yX6_heard.cls ≠ "java/lang/invoke/VarHandle" ∧ (parseMethodDescriptor yX6_heard.desc).map (fun d => d.parameters.length) = some 3 := by decide +kernel
set_option maxHeartbeats 4000000 in
set_option maxRecDepth 100000 in
theorem c_X6_heard (l : Launch) (g : Gm) (a0 : Nat → Nat) (a1 : Nat → Nat) (a2 : Nat → Nat) (a3 : Nat → Nat) (a4 : Nat → Nat) (a5 : Nat → Nat) (a6 : Nat → Nat) (a7 : Nat → Nat) (a8 : Nat → Nat) (Z0 : TS) (T1 : TS) (T2 : TS) (T3 : TS) (G4 : TS) (R4 : LTS) (P5 : TS) (O7 : TS) (B7 : TS) (p1 : Int32) (p2 : Int32) (p3 : Int32) {q : (Int32 × TS × TS)} (hM : f_X6_heard Z0 T1 T2 T3 G4 R4 P5 O7 B7 p1 p2 p3 = some q) : MW l yX6_heard wsX6_heard 5 126 g [.ref (a0 0), .int p1, .int p2, .int p3] ((wX6 g a0 (a1 0) (a2 0) (a3 0) (a4 0) (a5 0) (a6 0) (a7 0) (a8 0) Z0) ++ ((wX5 g a1 T1) ++ ((wX5 g a2 T2) ++ ((wX5 g a3 T3) ++ ((wX3 g a4 G4 R4) ++ ((wX4 g a5 P5) ++ ((wX2 g a6 (a1 0) (a3 0)) ++ ((wX1 g a7 (a1 0) (a3 0) O7 B7) ++ (wX0 g a8 (a1 0) (a3 0) (a4 0)))))))))) (some (.int q.1)) ((wX6 g a0 (a1 0) (a2 0) (a3 0) (a4 0) (a5 0) (a6 0) (a7 0) (a8 0) q.2.1) ++ ((wX5 g a1 T1) ++ ((wX5 g a2 T2) ++ ((wX5 g a3 q.2.2) ++ ((wX3 g a4 G4 R4) ++ ((wX4 g a5 P5) ++ ((wX2 g a6 (a1 0) (a3 0)) ++ ((wX1 g a7 (a1 0) (a3 0) O7 B7) ++ (wX0 g a8 (a1 0) (a3 0) (a4 0)))))))))) := by
  intro sz
  refine Met.ofW (cc := cX6_heard) (maxL := 5) (ret := (some .int)) (by decide) rfl ?_
  intro p e s m args below meth c s₁ B hml hv
  obtain ⟨rfl, hsz, hP, hK, hD0⟩ := hv
  have hx := B.exec; have hb := B.bytes; have hr := B.returns
  have hts := atoms_spec (ws := wsX6_heard) B.pre
  have hown : s.vm.findClass RX6 = some m.cls := findClass_of_methodNamed B.named
  have hlocks := B.notSynchronized
  have hS : CallFix p m c cX6_heard 5 s _ wsX6_heard RX6 := ⟨hx, hb, hml, hown, hts⟩
  have hin_X5 : ∀ w ∈ wsX50, w ∈ wsX6_heard := fun w h => (List.mem_cons_of_mem _ (List.mem_append_left _ (List.mem_append_left _ (List.mem_append_right _ h))))
  have hin_X6 : ∀ w ∈ wsX60, w ∈ wsX6_heard := fun w h => (List.mem_cons_of_mem _ (List.mem_append_left _ (List.mem_append_left _ (List.mem_append_left _ (List.mem_append_right _ h)))))
  subst hsz
  have hw := wk_start hP hD0
  have hA : ∀ q : Nat, s.heap.size ≤ q → va_A ((wX6 g a0 (a1 0) (a2 0) (a3 0) (a4 0) (a5 0) (a6 0) (a7 0) (a8 0) Z0) ++ ((wX5 g a1 T1) ++ ((wX5 g a2 T2) ++ ((wX5 g a3 T3) ++ ((wX3 g a4 G4 R4) ++ ((wX4 g a5 P5) ++ ((wX2 g a6 (a1 0) (a3 0)) ++ ((wX1 g a7 (a1 0) (a3 0) O7 B7) ++ (wX0 g a8 (a1 0) (a3 0) (a4 0)))))))))) s.heap.size q := fun q h => Or.inr h
  generalize va_A ((wX6 g a0 (a1 0) (a2 0) (a3 0) (a4 0) (a5 0) (a6 0) (a7 0) (a8 0) Z0) ++ ((wX5 g a1 T1) ++ ((wX5 g a2 T2) ++ ((wX5 g a3 T3) ++ ((wX3 g a4 G4 R4) ++ ((wX4 g a5 P5) ++ ((wX2 g a6 (a1 0) (a3 0)) ++ ((wX1 g a7 (a1 0) (a3 0) O7 B7) ++ (wX0 g a8 (a1 0) (a3 0) (a4 0)))))))))) s.heap.size = A at hw hA ⊢
  clear hP hD0
  have hl := lv_entry ([.ref (a0 0), .int p1, .int p2, .int p3]) (n := 5) (Nat.le_of_ble_eq_true rfl)
  rw [lg_entry_eq]
  generalize (lg_sl ([.ref (a0 0), .int p1, .int p2, .int p3]) ++ List.replicate (5 - (lg_sl ([.ref (a0 0), .int p1, .int p2, .int p3])).length) Slot.unset).toArray = ls at hl ⊢
  have hl : lv_has ls 5 [(0, .ref (a0 0)), (1, .int p1), (2, .int p2), (3, .int p3)] := hl
  rw [f_X6_heard] at hM
  refine lv_aload_n hx hb dX6_heard_0 rfl (lv_at hl 0 rfl) ?_
  refine wk_get hx hb hts hin_X6 hown hK hw.1 6 0 0 (.ref (a1 0)) rfl rfl (by decide) (mi 1 rfl) rfl rfl dX6_heard_1 ?_
  refine lv_iload_n hx hb dX6_heard_4 rfl (lv_at hl 3 rfl) ?_
  refine rVR (wc := (wX5 g a1 T1)) (As := [.int p3]) (rest := []) (q0 := 0) hS (c_X5_isOne l g a1 T1 p3) gX6_heard_X5_isOne rfl hd_X5_isOne ⟨Nat.le_of_ble_eq_true rfl, Nat.le_of_ble_eq_true rfl⟩ hK (va_P.pm hw.1 (pm_9_1 _ _ _ _ _ _ _ _ _)) rfl rfl rfl rfl hl.1 rfl (Nat.le_of_ble_eq_true rfl) dX6_heard_5 ⟨Nat.zero_le _, Nat.zero_le _⟩ ?_
  refine lv_if_eq (tgt := 20) hx hb dX6_heard_8 (by decide) (fun c2 => ?_) (fun c2 => ?_)
  · replace hM := itp c2 hM
    refine lv_bipush (v := (-2 : Int32)) hx hb dX6_heard_20 (by decide) ?_
    refine lv_istore (lv' := [(4, .int (-2 : Int32)), (0, .ref (a0 0)), (1, .int p1), (2, .int p2), (3, .int p3)]) hx hb dX6_heard_22 hl (by decide) rfl (fun ls hl => ?_)
    refine lv_iload hx hb dX6_heard_24 (lv_at hl 0 rfl) ?_
    refine lv_if_eq (tgt := 36) hx hb dX6_heard_26 (by decide) (fun c3 => ?_) (fun c3 => ?_)
    · replace hM := itp c3 hM
      refine lv_aload_n hx hb dX6_heard_36 rfl (lv_at hl 1 rfl) ?_
      refine wk_get hx hb hts hin_X6 hown hK hw.1 6 0 7 (.ref (a8 0)) rfl rfl (by decide) (mi 2 rfl) rfl rfl dX6_heard_37 ?_
      refine lv_iload_n hx hb dX6_heard_40 rfl (lv_at hl 2 rfl) ?_
      refine lv_iload_n hx hb dX6_heard_41 rfl (lv_at hl 3 rfl) ?_
      obtain ⟨q5, h4, hM⟩ := bd hM
      refine rVWp (wc := ((wX0 g a8 (a1 0) (a3 0) (a4 0)) ++ ((wX5 g a1 T1) ++ ((wX5 g a3 T3) ++ (wX3 g a4 G4 R4))))) (wq := ((wX6 g a0 (a1 0) (a2 0) (a3 0) (a4 0) (a5 0) (a6 0) (a7 0) (a8 0) Z0) ++ ((wX5 g a1 T1) ++ ((wX5 g a2 T2) ++ ((wX5 g a3 q5.2) ++ ((wX3 g a4 G4 R4) ++ ((wX4 g a5 P5) ++ ((wX2 g a6 (a1 0) (a3 0)) ++ ((wX1 g a7 (a1 0) (a3 0) O7 B7) ++ (wX0 g a8 (a1 0) (a3 0) (a4 0))))))))))) (As := [.int p1, .int p2]) (rest := []) (q0 := 0) hS (c_X0_firstWrong l g a8 a1 a3 a4 T1 T3 G4 R4 p1 p2 h4) gX6_heard_X0_firstWrong rfl hd_X0_firstWrong ⟨Nat.le_of_ble_eq_true rfl, Nat.le_of_ble_eq_true rfl⟩ hK hw hA (pm_9_8_1_3_4 _ _ _ _ _ _ _ _ _) rfl (pm_9_8_1_3_4 _ _ _ _ _ _ _ _ _) rfl rfl rfl rfl hl.1 rfl (Nat.le_of_ble_eq_true rfl) dX6_heard_42 ⟨Nat.zero_le _, Nat.zero_le _⟩ (fun H locs hw => ?_)
      refine lv_iconst (v := (-1 : Int32)) hx hb dX6_heard_45 (by decide) ?_
      refine lv_icmp_eq (tgt := 56) hx hb dX6_heard_46 (by decide) (fun c6 => ?_) (fun c6 => ?_)
      · replace hM := itp c6 hM
        refine lv_aload_n hx hb dX6_heard_56 rfl (lv_at hl 1 rfl) ?_
        refine wk_get hx hb hts hin_X6 hown hK hw.1 6 0 2 (.ref (a3 0)) rfl rfl (by decide) (mi 3 rfl) rfl rfl dX6_heard_57 ?_
        refine wk_get hx hb hts hin_X5 hown hK hw.1 5 18 9 (.ref (a3 3)) rfl rfl (by decide) (mi 4 rfl) rfl rfl dX6_heard_60 ?_
        refine lv_iload_n hx hb dX6_heard_63 rfl (lv_at hl 4 rfl) ?_
        obtain ⟨k7, hM⟩ := ck hM
        refine wk_iald hx hb hK hw.1 21 7 (q5.2 9) rfl k7 dX6_heard_64 ?_
        obtain rfl := Option.some.inj hM
        exact W.iret hx hb hr (fun t ht _ => ⟨rfl, by rw [ht]; exact hw.1, hw.2.2.F ht⟩) hw.2.2.2.2 dX6_heard_65
      · replace hM := itn c6 hM
        refine lv_aload_n hx hb dX6_heard_49 rfl (lv_at hl 1 rfl) ?_
        refine lv_bipush (v := (-5 : Int32)) hx hb dX6_heard_50 (by decide) ?_
        obtain ⟨q9, h8, hM⟩ := bd hM
        refine rVWp (wc := ((wX6 g a0 (a1 0) (a2 0) (a3 0) (a4 0) (a5 0) (a6 0) (a7 0) (a8 0) Z0) ++ ((wX5 g a1 T1) ++ ((wX5 g a2 T2) ++ ((wX5 g a3 q5.2) ++ ((wX3 g a4 G4 R4) ++ ((wX4 g a5 P5) ++ ((wX2 g a6 (a1 0) (a3 0)) ++ ((wX1 g a7 (a1 0) (a3 0) O7 B7) ++ (wX0 g a8 (a1 0) (a3 0) (a4 0))))))))))) (wq := ((wX6 g a0 (a1 0) (a2 0) (a3 0) (a4 0) (a5 0) (a6 0) (a7 0) (a8 0) q9.2) ++ ((wX5 g a1 T1) ++ ((wX5 g a2 T2) ++ ((wX5 g a3 q5.2) ++ ((wX3 g a4 G4 R4) ++ ((wX4 g a5 P5) ++ ((wX2 g a6 (a1 0) (a3 0)) ++ ((wX1 g a7 (a1 0) (a3 0) O7 B7) ++ (wX0 g a8 (a1 0) (a3 0) (a4 0))))))))))) (As := [.int (-5 : Int32)]) (rest := []) (q0 := 0) hS (c_X6_refuse l g a0 a1 a2 a3 a4 a5 a6 a7 a8 Z0 T1 T2 q5.2 G4 R4 P5 O7 B7 (-5 : Int32) h8) gX6_heard_X6_refuse rfl hd_X6_refuse ⟨Nat.le_of_ble_eq_true rfl, Nat.le_of_ble_eq_true rfl⟩ hK hw hA (pm_9_0_1_2_3_4_5_6_7_8 _ _ _ _ _ _ _ _ _) rfl (pm_9_0_1_2_3_4_5_6_7_8 _ _ _ _ _ _ _ _ _) rfl rfl rfl rfl hl.1 rfl (Nat.le_of_ble_eq_true rfl) dX6_heard_52 ⟨Nat.zero_le _, Nat.zero_le _⟩ (fun H locs hw => ?_)
        obtain rfl := Option.some.inj hM
        exact W.iret hx hb hr (fun t ht _ => ⟨rfl, by rw [ht]; exact hw.1, hw.2.2.F ht⟩) hw.2.2.2.2 dX6_heard_55
    · replace hM := itn c3 hM
      refine lv_aload_n hx hb dX6_heard_29 rfl (lv_at hl 1 rfl) ?_
      refine lv_iload hx hb dX6_heard_30 (lv_at hl 0 rfl) ?_
      obtain ⟨q11, h10, hM⟩ := bd hM
      refine rVWp (wc := ((wX6 g a0 (a1 0) (a2 0) (a3 0) (a4 0) (a5 0) (a6 0) (a7 0) (a8 0) Z0) ++ ((wX5 g a1 T1) ++ ((wX5 g a2 T2) ++ ((wX5 g a3 T3) ++ ((wX3 g a4 G4 R4) ++ ((wX4 g a5 P5) ++ ((wX2 g a6 (a1 0) (a3 0)) ++ ((wX1 g a7 (a1 0) (a3 0) O7 B7) ++ (wX0 g a8 (a1 0) (a3 0) (a4 0))))))))))) (wq := ((wX6 g a0 (a1 0) (a2 0) (a3 0) (a4 0) (a5 0) (a6 0) (a7 0) (a8 0) q11.2) ++ ((wX5 g a1 T1) ++ ((wX5 g a2 T2) ++ ((wX5 g a3 T3) ++ ((wX3 g a4 G4 R4) ++ ((wX4 g a5 P5) ++ ((wX2 g a6 (a1 0) (a3 0)) ++ ((wX1 g a7 (a1 0) (a3 0) O7 B7) ++ (wX0 g a8 (a1 0) (a3 0) (a4 0))))))))))) (As := [.int (-2 : Int32)]) (rest := []) (q0 := 0) hS (c_X6_refuse l g a0 a1 a2 a3 a4 a5 a6 a7 a8 Z0 T1 T2 T3 G4 R4 P5 O7 B7 (-2 : Int32) h10) gX6_heard_X6_refuse rfl hd_X6_refuse ⟨Nat.le_of_ble_eq_true rfl, Nat.le_of_ble_eq_true rfl⟩ hK hw hA (pm_9_0_1_2_3_4_5_6_7_8 _ _ _ _ _ _ _ _ _) rfl (pm_9_0_1_2_3_4_5_6_7_8 _ _ _ _ _ _ _ _ _) rfl rfl rfl rfl hl.1 rfl (Nat.le_of_ble_eq_true rfl) dX6_heard_32 ⟨Nat.zero_le _, Nat.zero_le _⟩ (fun H locs hw => ?_)
      obtain rfl := Option.some.inj hM
      exact W.iret hx hb hr (fun t ht _ => ⟨rfl, by rw [ht]; exact hw.1, hw.2.2.F ht⟩) hw.2.2.2.2 dX6_heard_35
  · replace hM := itn c2 hM
    refine lv_aload_n hx hb dX6_heard_11 rfl (lv_at hl 0 rfl) ?_
    refine lv_iload_n hx hb dX6_heard_12 rfl (lv_at hl 1 rfl) ?_
    refine lv_iload_n hx hb dX6_heard_13 rfl (lv_at hl 2 rfl) ?_
    obtain ⟨q13, h12, hM⟩ := bd hM
    refine rVR (wc := ((wX6 g a0 (a1 0) (a2 0) (a3 0) (a4 0) (a5 0) (a6 0) (a7 0) (a8 0) Z0) ++ ((wX5 g a1 T1) ++ ((wX5 g a2 T2) ++ ((wX5 g a3 T3) ++ ((wX3 g a4 G4 R4) ++ ((wX4 g a5 P5) ++ ((wX2 g a6 (a1 0) (a3 0)) ++ ((wX1 g a7 (a1 0) (a3 0) O7 B7) ++ (wX0 g a8 (a1 0) (a3 0) (a4 0))))))))))) (As := [.int p1, .int p2]) (rest := []) (q0 := 0) hS (c_X6_troubleWithEvening l g a0 a1 a2 a3 a4 a5 a6 a7 a8 Z0 T1 T2 T3 G4 R4 P5 O7 B7 p1 p2 h12) gX6_heard_X6_troubleWithEvening rfl hd_X6_troubleWithEvening ⟨Nat.le_of_ble_eq_true rfl, Nat.le_of_ble_eq_true rfl⟩ hK (va_P.pm hw.1 (pm_9_0_1_2_3_4_5_6_7_8 _ _ _ _ _ _ _ _ _)) rfl rfl rfl rfl hl.1 rfl (Nat.le_of_ble_eq_true rfl) dX6_heard_14 ⟨Nat.zero_le _, Nat.zero_le _⟩ ?_
    refine lv_goto (tgt := 22) hx hb dX6_heard_17 (by decide) ?_
    refine lv_istore (lv' := [(4, .int q13), (0, .ref (a0 0)), (1, .int p1), (2, .int p2), (3, .int p3)]) hx hb dX6_heard_22 hl (by decide) rfl (fun ls hl => ?_)
    refine lv_iload hx hb dX6_heard_24 (lv_at hl 0 rfl) ?_
    refine lv_if_eq (tgt := 36) hx hb dX6_heard_26 (by decide) (fun c14 => ?_) (fun c14 => ?_)
    · replace hM := itp c14 hM
      refine lv_aload_n hx hb dX6_heard_36 rfl (lv_at hl 1 rfl) ?_
      refine wk_get hx hb hts hin_X6 hown hK hw.1 6 0 7 (.ref (a8 0)) rfl rfl (by decide) (mi 2 rfl) rfl rfl dX6_heard_37 ?_
      refine lv_iload_n hx hb dX6_heard_40 rfl (lv_at hl 2 rfl) ?_
      refine lv_iload_n hx hb dX6_heard_41 rfl (lv_at hl 3 rfl) ?_
      obtain ⟨q16, h15, hM⟩ := bd hM
      refine rVWp (wc := ((wX0 g a8 (a1 0) (a3 0) (a4 0)) ++ ((wX5 g a1 T1) ++ ((wX5 g a3 T3) ++ (wX3 g a4 G4 R4))))) (wq := ((wX6 g a0 (a1 0) (a2 0) (a3 0) (a4 0) (a5 0) (a6 0) (a7 0) (a8 0) Z0) ++ ((wX5 g a1 T1) ++ ((wX5 g a2 T2) ++ ((wX5 g a3 q16.2) ++ ((wX3 g a4 G4 R4) ++ ((wX4 g a5 P5) ++ ((wX2 g a6 (a1 0) (a3 0)) ++ ((wX1 g a7 (a1 0) (a3 0) O7 B7) ++ (wX0 g a8 (a1 0) (a3 0) (a4 0))))))))))) (As := [.int p1, .int p2]) (rest := []) (q0 := 0) hS (c_X0_firstWrong l g a8 a1 a3 a4 T1 T3 G4 R4 p1 p2 h15) gX6_heard_X0_firstWrong rfl hd_X0_firstWrong ⟨Nat.le_of_ble_eq_true rfl, Nat.le_of_ble_eq_true rfl⟩ hK hw hA (pm_9_8_1_3_4 _ _ _ _ _ _ _ _ _) rfl (pm_9_8_1_3_4 _ _ _ _ _ _ _ _ _) rfl rfl rfl rfl hl.1 rfl (Nat.le_of_ble_eq_true rfl) dX6_heard_42 ⟨Nat.zero_le _, Nat.zero_le _⟩ (fun H locs hw => ?_)
      refine lv_iconst (v := (-1 : Int32)) hx hb dX6_heard_45 (by decide) ?_
      refine lv_icmp_eq (tgt := 56) hx hb dX6_heard_46 (by decide) (fun c17 => ?_) (fun c17 => ?_)
      · replace hM := itp c17 hM
        refine lv_aload_n hx hb dX6_heard_56 rfl (lv_at hl 1 rfl) ?_
        refine wk_get hx hb hts hin_X6 hown hK hw.1 6 0 2 (.ref (a3 0)) rfl rfl (by decide) (mi 3 rfl) rfl rfl dX6_heard_57 ?_
        refine wk_get hx hb hts hin_X5 hown hK hw.1 5 18 9 (.ref (a3 3)) rfl rfl (by decide) (mi 4 rfl) rfl rfl dX6_heard_60 ?_
        refine lv_iload_n hx hb dX6_heard_63 rfl (lv_at hl 4 rfl) ?_
        obtain ⟨k18, hM⟩ := ck hM
        refine wk_iald hx hb hK hw.1 21 7 (q16.2 9) rfl k18 dX6_heard_64 ?_
        obtain rfl := Option.some.inj hM
        exact W.iret hx hb hr (fun t ht _ => ⟨rfl, by rw [ht]; exact hw.1, hw.2.2.F ht⟩) hw.2.2.2.2 dX6_heard_65
      · replace hM := itn c17 hM
        refine lv_aload_n hx hb dX6_heard_49 rfl (lv_at hl 1 rfl) ?_
        refine lv_bipush (v := (-5 : Int32)) hx hb dX6_heard_50 (by decide) ?_
        obtain ⟨q20, h19, hM⟩ := bd hM
        refine rVWp (wc := ((wX6 g a0 (a1 0) (a2 0) (a3 0) (a4 0) (a5 0) (a6 0) (a7 0) (a8 0) Z0) ++ ((wX5 g a1 T1) ++ ((wX5 g a2 T2) ++ ((wX5 g a3 q16.2) ++ ((wX3 g a4 G4 R4) ++ ((wX4 g a5 P5) ++ ((wX2 g a6 (a1 0) (a3 0)) ++ ((wX1 g a7 (a1 0) (a3 0) O7 B7) ++ (wX0 g a8 (a1 0) (a3 0) (a4 0))))))))))) (wq := ((wX6 g a0 (a1 0) (a2 0) (a3 0) (a4 0) (a5 0) (a6 0) (a7 0) (a8 0) q20.2) ++ ((wX5 g a1 T1) ++ ((wX5 g a2 T2) ++ ((wX5 g a3 q16.2) ++ ((wX3 g a4 G4 R4) ++ ((wX4 g a5 P5) ++ ((wX2 g a6 (a1 0) (a3 0)) ++ ((wX1 g a7 (a1 0) (a3 0) O7 B7) ++ (wX0 g a8 (a1 0) (a3 0) (a4 0))))))))))) (As := [.int (-5 : Int32)]) (rest := []) (q0 := 0) hS (c_X6_refuse l g a0 a1 a2 a3 a4 a5 a6 a7 a8 Z0 T1 T2 q16.2 G4 R4 P5 O7 B7 (-5 : Int32) h19) gX6_heard_X6_refuse rfl hd_X6_refuse ⟨Nat.le_of_ble_eq_true rfl, Nat.le_of_ble_eq_true rfl⟩ hK hw hA (pm_9_0_1_2_3_4_5_6_7_8 _ _ _ _ _ _ _ _ _) rfl (pm_9_0_1_2_3_4_5_6_7_8 _ _ _ _ _ _ _ _ _) rfl rfl rfl rfl hl.1 rfl (Nat.le_of_ble_eq_true rfl) dX6_heard_52 ⟨Nat.zero_le _, Nat.zero_le _⟩ (fun H locs hw => ?_)
        obtain rfl := Option.some.inj hM
        exact W.iret hx hb hr (fun t ht _ => ⟨rfl, by rw [ht]; exact hw.1, hw.2.2.F ht⟩) hw.2.2.2.2 dX6_heard_55
    · replace hM := itn c14 hM
      refine lv_aload_n hx hb dX6_heard_29 rfl (lv_at hl 1 rfl) ?_
      refine lv_iload hx hb dX6_heard_30 (lv_at hl 0 rfl) ?_
      obtain ⟨q22, h21, hM⟩ := bd hM
      refine rVWp (wc := ((wX6 g a0 (a1 0) (a2 0) (a3 0) (a4 0) (a5 0) (a6 0) (a7 0) (a8 0) Z0) ++ ((wX5 g a1 T1) ++ ((wX5 g a2 T2) ++ ((wX5 g a3 T3) ++ ((wX3 g a4 G4 R4) ++ ((wX4 g a5 P5) ++ ((wX2 g a6 (a1 0) (a3 0)) ++ ((wX1 g a7 (a1 0) (a3 0) O7 B7) ++ (wX0 g a8 (a1 0) (a3 0) (a4 0))))))))))) (wq := ((wX6 g a0 (a1 0) (a2 0) (a3 0) (a4 0) (a5 0) (a6 0) (a7 0) (a8 0) q22.2) ++ ((wX5 g a1 T1) ++ ((wX5 g a2 T2) ++ ((wX5 g a3 T3) ++ ((wX3 g a4 G4 R4) ++ ((wX4 g a5 P5) ++ ((wX2 g a6 (a1 0) (a3 0)) ++ ((wX1 g a7 (a1 0) (a3 0) O7 B7) ++ (wX0 g a8 (a1 0) (a3 0) (a4 0))))))))))) (As := [.int q13]) (rest := []) (q0 := 0) hS (c_X6_refuse l g a0 a1 a2 a3 a4 a5 a6 a7 a8 Z0 T1 T2 T3 G4 R4 P5 O7 B7 q13 h21) gX6_heard_X6_refuse rfl hd_X6_refuse ⟨Nat.le_of_ble_eq_true rfl, Nat.le_of_ble_eq_true rfl⟩ hK hw hA (pm_9_0_1_2_3_4_5_6_7_8 _ _ _ _ _ _ _ _ _) rfl (pm_9_0_1_2_3_4_5_6_7_8 _ _ _ _ _ _ _ _ _) rfl rfl rfl rfl hl.1 rfl (Nat.le_of_ble_eq_true rfl) dX6_heard_32 ⟨Nat.zero_le _, Nat.zero_le _⟩ (fun H locs hw => ?_)
      obtain rfl := Option.some.inj hM
      exact W.iret hx hb hr (fun t ht _ => ⟨rfl, by rw [ht]; exact hw.1, hw.2.2.F ht⟩) hw.2.2.2.2 dX6_heard_35
