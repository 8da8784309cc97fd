theorem hd_X6_stop : yX6_stop.cls = RX6 ∧ yX6_stop.cls ≠ "java/lang/invoke/MethodHandle" ∧ yX6_stop.cls ≠ "java/lang/invoke/VarHandle" ∧ (parseMethodDescriptor yX6_stop.desc).map (fun d => d.parameters.length) = some 2 := by decide +kernel
set_option maxHeartbeats 4000000 in
set_option maxRecDepth 100000 in
theorem c_X6_stop (l : Launch) (g : Gm) (a0 : Nat → Nat) (a1 : Nat → Nat) (a2 : Nat → Nat) (a3 : Nat → Nat) (a4 : Nat → Nat) (a5 : Nat → Nat) (a6 : Nat → Nat) (a7 : Nat → Nat) (a8 : Nat → Nat) (Z0 : TS) (T1 : TS) (T2 : TS) (T3 : TS) (G4 : TS) (R4 : LTS) (P5 : TS) (O7 : TS) (B7 : TS) (p1 : Int32) (p2 : Int32) {q : (Int32 × TS × TS)} (hM : f_X6_stop Z0 T1 T2 T3 G4 R4 P5 O7 B7 p1 p2 = some q) : MW l yX6_stop wsX6_stop 5 152 g [.ref (a0 0), .int p1, .int p2] ((wX6 g a0 (a1 0) (a2 0) (a3 0) (a4 0) (a5 0) (a6 0) (a7 0) (a8 0) Z0) ++ ((wX5 g a1 T1) ++ ((wX5 g a2 T2) ++ ((wX5 g a3 T3) ++ ((wX3 g a4 G4 R4) ++ ((wX4 g a5 P5) ++ ((wX2 g a6 (a1 0) (a3 0)) ++ ((wX1 g a7 (a1 0) (a3 0) O7 B7) ++ (wX0 g a8 (a1 0) (a3 0) (a4 0)))))))))) (some (.int q.1)) ((wX6 g a0 (a1 0) (a2 0) (a3 0) (a4 0) (a5 0) (a6 0) (a7 0) (a8 0) q.2.1) ++ ((wX5 g a1 T1) ++ ((wX5 g a2 T2) ++ ((wX5 g a3 q.2.2) ++ ((wX3 g a4 G4 R4) ++ ((wX4 g a5 P5) ++ ((wX2 g a6 (a1 0) (a3 0)) ++ ((wX1 g a7 (a1 0) (a3 0) O7 B7) ++ (wX0 g a8 (a1 0) (a3 0) (a4 0)))))))))) := by
  intro sz
  refine Met.ofW (cc := cX6_stop) (maxL := 3) (ret := (some .int)) (by decide) rfl ?_
  intro p e s m args below meth c s₁ B hml hv
  obtain ⟨rfl, hsz, hP, hK, hD0⟩ := hv
  have hx := B.exec; have hb := B.bytes; have hr := B.returns
  have hts := atoms_spec (ws := wsX6_stop) B.pre
  have hown : s.vm.findClass RX6 = some m.cls := findClass_of_methodNamed B.named
  have hlocks := B.notSynchronized
  have hS : CallFix p m c cX6_stop 3 s _ wsX6_stop RX6 := ⟨hx, hb, hml, hown, hts⟩
  have hin_X6 : ∀ w ∈ wsX60, w ∈ wsX6_stop := fun w h => (List.mem_cons_of_mem _ (List.mem_append_left _ (List.mem_append_left _ (List.mem_append_right _ h))))
  subst hsz
  have hw := wk_start hP hD0
  have hA : ∀ q : Nat, s.heap.size ≤ q → va_A ((wX6 g a0 (a1 0) (a2 0) (a3 0) (a4 0) (a5 0) (a6 0) (a7 0) (a8 0) Z0) ++ ((wX5 g a1 T1) ++ ((wX5 g a2 T2) ++ ((wX5 g a3 T3) ++ ((wX3 g a4 G4 R4) ++ ((wX4 g a5 P5) ++ ((wX2 g a6 (a1 0) (a3 0)) ++ ((wX1 g a7 (a1 0) (a3 0) O7 B7) ++ (wX0 g a8 (a1 0) (a3 0) (a4 0)))))))))) s.heap.size q := fun q h => Or.inr h
  generalize va_A ((wX6 g a0 (a1 0) (a2 0) (a3 0) (a4 0) (a5 0) (a6 0) (a7 0) (a8 0) Z0) ++ ((wX5 g a1 T1) ++ ((wX5 g a2 T2) ++ ((wX5 g a3 T3) ++ ((wX3 g a4 G4 R4) ++ ((wX4 g a5 P5) ++ ((wX2 g a6 (a1 0) (a3 0)) ++ ((wX1 g a7 (a1 0) (a3 0) O7 B7) ++ (wX0 g a8 (a1 0) (a3 0) (a4 0)))))))))) s.heap.size = A at hw hA ⊢
  clear hP hD0
  have hl := lv_entry ([.ref (a0 0), .int p1, .int p2]) (n := 3) (Nat.le_of_ble_eq_true rfl)
  rw [lg_entry_eq]
  generalize (lg_sl ([.ref (a0 0), .int p1, .int p2]) ++ List.replicate (3 - (lg_sl ([.ref (a0 0), .int p1, .int p2])).length) Slot.unset).toArray = ls at hl ⊢
  have hl : lv_has ls 3 [(0, .ref (a0 0)), (1, .int p1), (2, .int p2)] := hl
  rw [f_X6_stop] at hM
  refine lv_aload_n hx hb dX6_stop_0 rfl (lv_at hl 0 rfl) ?_
  refine wk_get hx hb hts hin_X6 hown hK hw.1 6 0 0 (.ref (a1 0)) rfl rfl (by decide) (mi 1 rfl) rfl rfl dX6_stop_1 ?_
  refine lv_iload_n hx hb dX6_stop_4 rfl (lv_at hl 1 rfl) ?_
  refine rVR (wc := (wX5 g a1 T1)) (As := [.int p1]) (rest := []) (q0 := 0) hS (c_X5_isSight l g a1 T1 p1) gX6_stop_X5_isSight rfl hd_X5_isSight ⟨Nat.le_of_ble_eq_true rfl, Nat.le_of_ble_eq_true rfl⟩ hK (va_P.pm hw.1 (pm_9_1 _ _ _ _ _ _ _ _ _)) rfl rfl rfl rfl hl.1 rfl (Nat.le_of_ble_eq_true rfl) dX6_stop_5 ⟨Nat.zero_le _, Nat.zero_le _⟩ ?_
  refine lv_if_eq (tgt := 18) hx hb dX6_stop_8 (by decide) (fun c2 => ?_) (fun c2 => ?_)
  · replace hM := itp c2 hM
    refine lv_aload_n hx hb dX6_stop_18 rfl (lv_at hl 0 rfl) ?_
    refine lv_bipush (v := (-2 : Int32)) hx hb dX6_stop_19 (by decide) ?_
    obtain ⟨q4, h3, hM⟩ := bd hM
    refine rVWp (wc := ((wX6 g a0 (a1 0) (a2 0) (a3 0) (a4 0) (a5 0) (a6 0) (a7 0) (a8 0) Z0) ++ ((wX5 g a1 T1) ++ ((wX5 g a2 T2) ++ ((wX5 g a3 T3) ++ ((wX3 g a4 G4 R4) ++ ((wX4 g a5 P5) ++ ((wX2 g a6 (a1 0) (a3 0)) ++ ((wX1 g a7 (a1 0) (a3 0) O7 B7) ++ (wX0 g a8 (a1 0) (a3 0) (a4 0))))))))))) (wq := ((wX6 g a0 (a1 0) (a2 0) (a3 0) (a4 0) (a5 0) (a6 0) (a7 0) (a8 0) q4.2) ++ ((wX5 g a1 T1) ++ ((wX5 g a2 T2) ++ ((wX5 g a3 T3) ++ ((wX3 g a4 G4 R4) ++ ((wX4 g a5 P5) ++ ((wX2 g a6 (a1 0) (a3 0)) ++ ((wX1 g a7 (a1 0) (a3 0) O7 B7) ++ (wX0 g a8 (a1 0) (a3 0) (a4 0))))))))))) (As := [.int (-2 : Int32)]) (rest := []) (q0 := 0) hS (c_X6_refuse l g a0 a1 a2 a3 a4 a5 a6 a7 a8 Z0 T1 T2 T3 G4 R4 P5 O7 B7 (-2 : Int32) h3) gX6_stop_X6_refuse rfl hd_X6_refuse ⟨Nat.le_of_ble_eq_true rfl, Nat.le_of_ble_eq_true rfl⟩ hK hw hA (pm_9_0_1_2_3_4_5_6_7_8 _ _ _ _ _ _ _ _ _) rfl (pm_9_0_1_2_3_4_5_6_7_8 _ _ _ _ _ _ _ _ _) rfl rfl rfl rfl hl.1 rfl (Nat.le_of_ble_eq_true rfl) dX6_stop_21 ⟨Nat.zero_le _, Nat.zero_le _⟩ (fun H locs hw => ?_)
    obtain rfl := Option.some.inj hM
    exact W.iret hx hb hr (fun t ht _ => ⟨rfl, by rw [ht]; exact hw.1, hw.2.2.F ht⟩) hw.2.2.2.2 dX6_stop_24
  · replace hM := itn c2 hM
    refine lv_iload_n hx hb dX6_stop_11 rfl (lv_at hl 2 rfl) ?_
    refine rSR (wc := ([] : va_W)) (As := [.int p2]) (rest := []) hS (c_X6_isRounds l g p2) gX6_stop_X6_isRounds rfl hd_X6_isRounds ⟨Nat.le_of_ble_eq_true rfl, Nat.le_of_ble_eq_true rfl⟩ hK (hP_nil) rfl hl.1 rfl (Nat.le_of_ble_eq_true rfl) dX6_stop_12 ⟨Nat.zero_le _, Nat.zero_le _⟩ ?_
    refine lv_if_ne (tgt := 25) hx hb dX6_stop_15 (by decide) (fun c6 => ?_) (fun c6 => ?_)
    · replace hM := itn c6 hM
      refine lv_aload_n hx hb dX6_stop_25 rfl (lv_at hl 0 rfl) ?_
      refine wk_get hx hb hts hin_X6 hown hK hw.1 6 0 5 (.ref (a6 0)) rfl rfl (by decide) (mi 2 rfl) rfl rfl dX6_stop_26 ?_
      refine lv_iload_n hx hb dX6_stop_29 rfl (lv_at hl 1 rfl) ?_
      refine lv_iload_n hx hb dX6_stop_30 rfl (lv_at hl 2 rfl) ?_
      obtain ⟨q10, h9, hM⟩ := bd hM
      refine rVWp (wc := ((wX2 g a6 (a1 0) (a3 0)) ++ ((wX5 g a1 T1) ++ (wX5 g a3 T3)))) (wq := ((wX6 g a0 (a1 0) (a2 0) (a3 0) (a4 0) (a5 0) (a6 0) (a7 0) (a8 0) Z0) ++ ((wX5 g a1 T1) ++ ((wX5 g a2 T2) ++ ((wX5 g a3 q10.2) ++ ((wX3 g a4 G4 R4) ++ ((wX4 g a5 P5) ++ ((wX2 g a6 (a1 0) (a3 0)) ++ ((wX1 g a7 (a1 0) (a3 0) O7 B7) ++ (wX0 g a8 (a1 0) (a3 0) (a4 0))))))))))) (As := [.int p1, .int p2]) (rest := []) (q0 := 0) hS (c_X2_fewestToShow l g a6 a1 a3 T1 T3 p1 p2 h9) gX6_stop_X2_fewestToShow rfl hd_X2_fewestToShow ⟨Nat.le_of_ble_eq_true rfl, Nat.le_of_ble_eq_true rfl⟩ hK hw hA (pm_9_6_1_3 _ _ _ _ _ _ _ _ _) rfl (pm_9_6_1_3 _ _ _ _ _ _ _ _ _) rfl rfl rfl rfl hl.1 rfl (Nat.le_of_ble_eq_true rfl) dX6_stop_31 ⟨Nat.zero_le _, Nat.zero_le _⟩ (fun H locs hw => ?_)
      obtain rfl := Option.some.inj hM
      exact W.iret hx hb hr (fun t ht _ => ⟨rfl, by rw [ht]; exact hw.1, hw.2.2.F ht⟩) hw.2.2.2.2 dX6_stop_34
    · replace hM := itp c6 hM
      refine lv_aload_n hx hb dX6_stop_18 rfl (lv_at hl 0 rfl) ?_
      refine lv_bipush (v := (-2 : Int32)) hx hb dX6_stop_19 (by decide) ?_
      obtain ⟨q8, h7, hM⟩ := bd hM
      refine rVWp (wc := ((wX6 g a0 (a1 0) (a2 0) (a3 0) (a4 0) (a5 0) (a6 0) (a7 0) (a8 0) Z0) ++ ((wX5 g a1 T1) ++ ((wX5 g a2 T2) ++ ((wX5 g a3 T3) ++ ((wX3 g a4 G4 R4) ++ ((wX4 g a5 P5) ++ ((wX2 g a6 (a1 0) (a3 0)) ++ ((wX1 g a7 (a1 0) (a3 0) O7 B7) ++ (wX0 g a8 (a1 0) (a3 0) (a4 0))))))))))) (wq := ((wX6 g a0 (a1 0) (a2 0) (a3 0) (a4 0) (a5 0) (a6 0) (a7 0) (a8 0) q8.2) ++ ((wX5 g a1 T1) ++ ((wX5 g a2 T2) ++ ((wX5 g a3 T3) ++ ((wX3 g a4 G4 R4) ++ ((wX4 g a5 P5) ++ ((wX2 g a6 (a1 0) (a3 0)) ++ ((wX1 g a7 (a1 0) (a3 0) O7 B7) ++ (wX0 g a8 (a1 0) (a3 0) (a4 0))))))))))) (As := [.int (-2 : Int32)]) (rest := []) (q0 := 0) hS (c_X6_refuse l g a0 a1 a2 a3 a4 a5 a6 a7 a8 Z0 T1 T2 T3 G4 R4 P5 O7 B7 (-2 : Int32) h7) gX6_stop_X6_refuse rfl hd_X6_refuse ⟨Nat.le_of_ble_eq_true rfl, Nat.le_of_ble_eq_true rfl⟩ hK hw hA (pm_9_0_1_2_3_4_5_6_7_8 _ _ _ _ _ _ _ _ _) rfl (pm_9_0_1_2_3_4_5_6_7_8 _ _ _ _ _ _ _ _ _) rfl rfl rfl rfl hl.1 rfl (Nat.le_of_ble_eq_true rfl) dX6_stop_21 ⟨Nat.zero_le _, Nat.zero_le _⟩ (fun H locs hw => ?_)
      obtain rfl := Option.some.inj hM
      exact W.iret hx hb hr (fun t ht _ => ⟨rfl, by rw [ht]; exact hw.1, hw.2.2.F ht⟩) hw.2.2.2.2 dX6_stop_24
theorem hd_X6_surely : yX6_surely.cls = RX6 ∧ yX6_surely.cls ≠ "java/lang/invoke/MethodHandle" ∧ yX6_surely.cls ≠ "java/lang/invoke/VarHandle" ∧ (parseMethodDescriptor yX6_surely.desc).map (fun d => d.parameters.length) = some 3 := by decide +kernel
set_option maxHeartbeats 4000000 in
set_option maxRecDepth 100000 in
theorem c_X6_surely (l : Launch) (g : Gm) (a0 : Nat → Nat) (a1 : Nat → Nat) (a2 : Nat → Nat) (a3 : Nat → Nat) (a4 : Nat → Nat) (a5 : Nat → Nat) (a6 : Nat → Nat) (a7 : Nat → Nat) (a8 : Nat → Nat) (Z0 : TS) (T1 : TS) (T2 : TS) (T3 : TS) (G4 : TS) (R4 : LTS) (P5 : TS) (O7 : TS) (B7 : TS) (p1 : Int32) (p2 : Int32) (p3 : Int32) {q : (Int32 × TS)} (hM : f_X6_surely Z0 T1 T2 T3 G4 R4 P5 O7 B7 p1 p2 p3 = some q) : MW l yX6_surely wsX6_surely 6 138 g [.ref (a0 0), .int p1, .int p2, .int p3] ((wX6 g a0 (a1 0) (a2 0) (a3 0) (a4 0) (a5 0) (a6 0) (a7 0) (a8 0) Z0) ++ ((wX5 g a1 T1) ++ ((wX5 g a2 T2) ++ ((wX5 g a3 T3) ++ ((wX3 g a4 G4 R4) ++ ((wX4 g a5 P5) ++ ((wX2 g a6 (a1 0) (a3 0)) ++ ((wX1 g a7 (a1 0) (a3 0) O7 B7) ++ (wX0 g a8 (a1 0) (a3 0) (a4 0)))))))))) (some (.int q.1)) ((wX6 g a0 (a1 0) (a2 0) (a3 0) (a4 0) (a5 0) (a6 0) (a7 0) (a8 0) q.2) ++ ((wX5 g a1 T1) ++ ((wX5 g a2 T2) ++ ((wX5 g a3 T3) ++ ((wX3 g a4 G4 R4) ++ ((wX4 g a5 P5) ++ ((wX2 g a6 (a1 0) (a3 0)) ++ ((wX1 g a7 (a1 0) (a3 0) O7 B7) ++ (wX0 g a8 (a1 0) (a3 0) (a4 0)))))))))) := by
  intro sz
  refine Met.ofW (cc := cX6_surely) (maxL := 5) (ret := (some .int)) (by decide) rfl ?_
  intro p e s m args below meth c s₁ B hml hv
  obtain ⟨rfl, hsz, hP, hK, hD0⟩ := hv
  have hx := B.exec; have hb := B.bytes; have hr := B.returns
  have hts := atoms_spec (ws := wsX6_surely) B.pre
  have hown : s.vm.findClass RX6 = some m.cls := findClass_of_methodNamed B.named
  have hlocks := B.notSynchronized
  have hS : CallFix p m c cX6_surely 5 s _ wsX6_surely RX6 := ⟨hx, hb, hml, hown, hts⟩
  have hin_X6 : ∀ w ∈ wsX60, w ∈ wsX6_surely := fun w h => (List.mem_cons_of_mem _ (List.mem_append_left _ (List.mem_append_left _ (List.mem_append_left _ (List.mem_append_right _ h)))))
  subst hsz
  have hw := wk_start hP hD0
  have hA : ∀ q : Nat, s.heap.size ≤ q → va_A ((wX6 g a0 (a1 0) (a2 0) (a3 0) (a4 0) (a5 0) (a6 0) (a7 0) (a8 0) Z0) ++ ((wX5 g a1 T1) ++ ((wX5 g a2 T2) ++ ((wX5 g a3 T3) ++ ((wX3 g a4 G4 R4) ++ ((wX4 g a5 P5) ++ ((wX2 g a6 (a1 0) (a3 0)) ++ ((wX1 g a7 (a1 0) (a3 0) O7 B7) ++ (wX0 g a8 (a1 0) (a3 0) (a4 0)))))))))) s.heap.size q := fun q h => Or.inr h
  generalize va_A ((wX6 g a0 (a1 0) (a2 0) (a3 0) (a4 0) (a5 0) (a6 0) (a7 0) (a8 0) Z0) ++ ((wX5 g a1 T1) ++ ((wX5 g a2 T2) ++ ((wX5 g a3 T3) ++ ((wX3 g a4 G4 R4) ++ ((wX4 g a5 P5) ++ ((wX2 g a6 (a1 0) (a3 0)) ++ ((wX1 g a7 (a1 0) (a3 0) O7 B7) ++ (wX0 g a8 (a1 0) (a3 0) (a4 0)))))))))) s.heap.size = A at hw hA ⊢
  clear hP hD0
  have hl := lv_entry ([.ref (a0 0), .int p1, .int p2, .int p3]) (n := 5) (Nat.le_of_ble_eq_true rfl)
  rw [lg_entry_eq]
  generalize (lg_sl ([.ref (a0 0), .int p1, .int p2, .int p3]) ++ List.replicate (5 - (lg_sl ([.ref (a0 0), .int p1, .int p2, .int p3])).length) Slot.unset).toArray = ls at hl ⊢
  have hl : lv_has ls 5 [(0, .ref (a0 0)), (1, .int p1), (2, .int p2), (3, .int p3)] := hl
  rw [f_X6_surely] at hM
  refine lv_aload_n hx hb dX6_surely_0 rfl (lv_at hl 0 rfl) ?_
  refine wk_get hx hb hts hin_X6 hown hK hw.1 6 0 0 (.ref (a1 0)) rfl rfl (by decide) (mi 1 rfl) rfl rfl dX6_surely_1 ?_
  refine lv_iload_n hx hb dX6_surely_4 rfl (lv_at hl 3 rfl) ?_
  refine rVR (wc := (wX5 g a1 T1)) (As := [.int p3]) (rest := []) (q0 := 0) hS (c_X5_isSight l g a1 T1 p3) gX6_surely_X5_isSight rfl hd_X5_isSight ⟨Nat.le_of_ble_eq_true rfl, Nat.le_of_ble_eq_true rfl⟩ hK (va_P.pm hw.1 (pm_9_1 _ _ _ _ _ _ _ _ _)) rfl rfl rfl rfl hl.1 rfl (Nat.le_of_ble_eq_true rfl) dX6_surely_5 ⟨Nat.zero_le _, Nat.zero_le _⟩ ?_
  refine lv_if_eq (tgt := 20) hx hb dX6_surely_8 (by decide) (fun c2 => ?_) (fun c2 => ?_)
  · replace hM := itp c2 hM
    refine lv_bipush (v := (-2 : Int32)) hx hb dX6_surely_20 (by decide) ?_
    refine lv_istore (lv' := [(4, .int (-2 : Int32)), (0, .ref (a0 0)), (1, .int p1), (2, .int p2), (3, .int p3)]) hx hb dX6_surely_22 hl (by decide) rfl (fun ls hl => ?_)
    refine lv_iload hx hb dX6_surely_24 (lv_at hl 0 rfl) ?_
    refine lv_if_eq (tgt := 36) hx hb dX6_surely_26 (by decide) (fun c3 => ?_) (fun c3 => ?_)
    · replace hM := itp c3 hM
      refine lv_aload_n hx hb dX6_surely_36 rfl (lv_at hl 1 rfl) ?_
      refine wk_get hx hb hts hin_X6 hown hK hw.1 6 0 7 (.ref (a8 0)) rfl rfl (by decide) (mi 2 rfl) rfl rfl dX6_surely_37 ?_
      refine lv_iload_n hx hb dX6_surely_40 rfl (lv_at hl 2 rfl) ?_
      refine lv_iload_n hx hb dX6_surely_41 rfl (lv_at hl 3 rfl) ?_
      refine lv_iload_n hx hb dX6_surely_42 rfl (lv_at hl 4 rfl) ?_
      obtain ⟨q5, h4, hM⟩ := bd hM
      refine rVR (wc := ((wX0 g a8 (a1 0) (a3 0) (a4 0)) ++ ((wX5 g a1 T1) ++ ((wX5 g a3 T3) ++ (wX3 g a4 G4 R4))))) (As := [.int p1, .int p2, .int p3]) (rest := []) (q0 := 0) hS (c_X0_silentOf l g a8 a1 a3 a4 T1 T3 G4 R4 p1 p2 p3 h4) gX6_surely_X0_silentOf rfl hd_X0_silentOf ⟨Nat.le_of_ble_eq_true rfl, Nat.le_of_ble_eq_true rfl⟩ hK (va_P.pm hw.1 (pm_9_8_1_3_4 _ _ _ _ _ _ _ _ _)) rfl rfl rfl rfl hl.1 rfl (Nat.le_of_ble_eq_true rfl) dX6_surely_43 ⟨Nat.zero_le _, Nat.zero_le _⟩ ?_
      refine lv_aload_n hx hb dX6_surely_46 rfl (lv_at hl 1 rfl) ?_
      refine wk_get hx hb hts hin_X6 hown hK hw.1 6 0 0 (.ref (a1 0)) rfl rfl (by decide) (mi 1 rfl) rfl rfl dX6_surely_47 ?_
      refine lv_iload_n hx hb dX6_surely_50 rfl (lv_at hl 4 rfl) ?_
      obtain ⟨q7, h6, hM⟩ := bd hM
      refine rVR (wc := (wX5 g a1 T1)) (As := [.int p3]) (rest := [.int q5]) (q0 := 0) hS (c_X5_whoIsBarred l g a1 T1 p3 h6) gX6_surely_X5_whoIsBarred rfl hd_X5_whoIsBarred ⟨Nat.le_of_ble_eq_true rfl, Nat.le_of_ble_eq_true rfl⟩ hK (va_P.pm hw.1 (pm_9_1 _ _ _ _ _ _ _ _ _)) rfl rfl rfl rfl hl.1 rfl (Nat.le_of_ble_eq_true rfl) dX6_surely_51 ⟨Nat.zero_le _, Nat.zero_le _⟩ ?_
      refine lv_iand hx hb dX6_surely_54 ?_
      obtain rfl := Option.some.inj hM
      exact W.iret hx hb hr (fun t ht _ => ⟨rfl, by rw [ht]; exact hw.1, hw.2.2.F ht⟩) hw.2.2.2.2 dX6_surely_55
    · replace hM := itn c3 hM
      refine lv_aload_n hx hb dX6_surely_29 rfl (lv_at hl 1 rfl) ?_
      refine lv_iload hx hb dX6_surely_30 (lv_at hl 0 rfl) ?_
      obtain ⟨q9, h8, hM⟩ := bd hM
      refine rVWp (wc := ((wX6 g a0 (a1 0) (a2 0) (a3 0) (a4 0) (a5 0) (a6 0) (a7 0) (a8 0) Z0) ++ ((wX5 g a1 T1) ++ ((wX5 g a2 T2) ++ ((wX5 g a3 T3) ++ ((wX3 g a4 G4 R4) ++ ((wX4 g a5 P5) ++ ((wX2 g a6 (a1 0) (a3 0)) ++ ((wX1 g a7 (a1 0) (a3 0) O7 B7) ++ (wX0 g a8 (a1 0) (a3 0) (a4 0))))))))))) (wq := ((wX6 g a0 (a1 0) (a2 0) (a3 0) (a4 0) (a5 0) (a6 0) (a7 0) (a8 0) q9.2) ++ ((wX5 g a1 T1) ++ ((wX5 g a2 T2) ++ ((wX5 g a3 T3) ++ ((wX3 g a4 G4 R4) ++ ((wX4 g a5 P5) ++ ((wX2 g a6 (a1 0) (a3 0)) ++ ((wX1 g a7 (a1 0) (a3 0) O7 B7) ++ (wX0 g a8 (a1 0) (a3 0) (a4 0))))))))))) (As := [.int (-2 : Int32)]) (rest := []) (q0 := 0) hS (c_X6_refuse l g a0 a1 a2 a3 a4 a5 a6 a7 a8 Z0 T1 T2 T3 G4 R4 P5 O7 B7 (-2 : Int32) h8) gX6_surely_X6_refuse rfl hd_X6_refuse ⟨Nat.le_of_ble_eq_true rfl, Nat.le_of_ble_eq_true rfl⟩ hK hw hA (pm_9_0_1_2_3_4_5_6_7_8 _ _ _ _ _ _ _ _ _) rfl (pm_9_0_1_2_3_4_5_6_7_8 _ _ _ _ _ _ _ _ _) rfl rfl rfl rfl hl.1 rfl (Nat.le_of_ble_eq_true rfl) dX6_surely_32 ⟨Nat.zero_le _, Nat.zero_le _⟩ (fun H locs hw => ?_)
      obtain rfl := Option.some.inj hM
      exact W.iret hx hb hr (fun t ht _ => ⟨rfl, by rw [ht]; exact hw.1, hw.2.2.F ht⟩) hw.2.2.2.2 dX6_surely_35
  · replace hM := itn c2 hM
    refine lv_aload_n hx hb dX6_surely_11 rfl (lv_at hl 0 rfl) ?_
    refine lv_iload_n hx hb dX6_surely_12 rfl (lv_at hl 1 rfl) ?_
    refine lv_iload_n hx hb dX6_surely_13 rfl (lv_at hl 2 rfl) ?_
    obtain ⟨q11, h10, hM⟩ := bd hM
    refine rVR (wc := ((wX6 g a0 (a1 0) (a2 0) (a3 0) (a4 0) (a5 0) (a6 0) (a7 0) (a8 0) Z0) ++ ((wX5 g a1 T1) ++ ((wX5 g a2 T2) ++ ((wX5 g a3 T3) ++ ((wX3 g a4 G4 R4) ++ ((wX4 g a5 P5) ++ ((wX2 g a6 (a1 0) (a3 0)) ++ ((wX1 g a7 (a1 0) (a3 0) O7 B7) ++ (wX0 g a8 (a1 0) (a3 0) (a4 0))))))))))) (As := [.int p1, .int p2]) (rest := []) (q0 := 0) hS (c_X6_troubleWithSayings l g a0 a1 a2 a3 a4 a5 a6 a7 a8 Z0 T1 T2 T3 G4 R4 P5 O7 B7 p1 p2 h10) gX6_surely_X6_troubleWithSayings rfl hd_X6_troubleWithSayings ⟨Nat.le_of_ble_eq_true rfl, Nat.le_of_ble_eq_true rfl⟩ hK (va_P.pm hw.1 (pm_9_0_1_2_3_4_5_6_7_8 _ _ _ _ _ _ _ _ _)) rfl rfl rfl rfl hl.1 rfl (Nat.le_of_ble_eq_true rfl) dX6_surely_14 ⟨Nat.zero_le _, Nat.zero_le _⟩ ?_
    refine lv_goto (tgt := 22) hx hb dX6_surely_17 (by decide) ?_
    refine lv_istore (lv' := [(4, .int q11), (0, .ref (a0 0)), (1, .int p1), (2, .int p2), (3, .int p3)]) hx hb dX6_surely_22 hl (by decide) rfl (fun ls hl => ?_)
    refine lv_iload hx hb dX6_surely_24 (lv_at hl 0 rfl) ?_
    refine lv_if_eq (tgt := 36) hx hb dX6_surely_26 (by decide) (fun c12 => ?_) (fun c12 => ?_)
    · replace hM := itp c12 hM
      refine lv_aload_n hx hb dX6_surely_36 rfl (lv_at hl 1 rfl) ?_
      refine wk_get hx hb hts hin_X6 hown hK hw.1 6 0 7 (.ref (a8 0)) rfl rfl (by decide) (mi 2 rfl) rfl rfl dX6_surely_37 ?_
      refine lv_iload_n hx hb dX6_surely_40 rfl (lv_at hl 2 rfl) ?_
      refine lv_iload_n hx hb dX6_surely_41 rfl (lv_at hl 3 rfl) ?_
      refine lv_iload_n hx hb dX6_surely_42 rfl (lv_at hl 4 rfl) ?_
      obtain ⟨q14, h13, hM⟩ := bd hM
      refine rVR (wc := ((wX0 g a8 (a1 0) (a3 0) (a4 0)) ++ ((wX5 g a1 T1) ++ ((wX5 g a3 T3) ++ (wX3 g a4 G4 R4))))) (As := [.int p1, .int p2, .int p3]) (rest := []) (q0 := 0) hS (c_X0_silentOf l g a8 a1 a3 a4 T1 T3 G4 R4 p1 p2 p3 h13) gX6_surely_X0_silentOf rfl hd_X0_silentOf ⟨Nat.le_of_ble_eq_true rfl, Nat.le_of_ble_eq_true rfl⟩ hK (va_P.pm hw.1 (pm_9_8_1_3_4 _ _ _ _ _ _ _ _ _)) rfl rfl rfl rfl hl.1 rfl (Nat.le_of_ble_eq_true rfl) dX6_surely_43 ⟨Nat.zero_le _, Nat.zero_le _⟩ ?_
      refine lv_aload_n hx hb dX6_surely_46 rfl (lv_at hl 1 rfl) ?_
      refine wk_get hx hb hts hin_X6 hown hK hw.1 6 0 0 (.ref (a1 0)) rfl rfl (by decide) (mi 1 rfl) rfl rfl dX6_surely_47 ?_
      refine lv_iload_n hx hb dX6_surely_50 rfl (lv_at hl 4 rfl) ?_
      obtain ⟨q16, h15, hM⟩ := bd hM
      refine rVR (wc := (wX5 g a1 T1)) (As := [.int p3]) (rest := [.int q14]) (q0 := 0) hS (c_X5_whoIsBarred l g a1 T1 p3 h15) gX6_surely_X5_whoIsBarred rfl hd_X5_whoIsBarred ⟨Nat.le_of_ble_eq_true rfl, Nat.le_of_ble_eq_true rfl⟩ hK (va_P.pm hw.1 (pm_9_1 _ _ _ _ _ _ _ _ _)) rfl rfl rfl rfl hl.1 rfl (Nat.le_of_ble_eq_true rfl) dX6_surely_51 ⟨Nat.zero_le _, Nat.zero_le _⟩ ?_
      refine lv_iand hx hb dX6_surely_54 ?_
      obtain rfl := Option.some.inj hM
      exact W.iret hx hb hr (fun t ht _ => ⟨rfl, by rw [ht]; exact hw.1, hw.2.2.F ht⟩) hw.2.2.2.2 dX6_surely_55
    · replace hM := itn c12 hM
      refine lv_aload_n hx hb dX6_surely_29 rfl (lv_at hl 1 rfl) ?_
      refine lv_iload hx hb dX6_surely_30 (lv_at hl 0 rfl) ?_
      obtain ⟨q18, h17, hM⟩ := bd hM
      refine rVWp (wc := ((wX6 g a0 (a1 0) (a2 0) (a3 0) (a4 0) (a5 0) (a6 0) (a7 0) (a8 0) Z0) ++ ((wX5 g a1 T1) ++ ((wX5 g a2 T2) ++ ((wX5 g a3 T3) ++ ((wX3 g a4 G4 R4) ++ ((wX4 g a5 P5) ++ ((wX2 g a6 (a1 0) (a3 0)) ++ ((wX1 g a7 (a1 0) (a3 0) O7 B7) ++ (wX0 g a8 (a1 0) (a3 0) (a4 0))))))))))) (wq := ((wX6 g a0 (a1 0) (a2 0) (a3 0) (a4 0) (a5 0) (a6 0) (a7 0) (a8 0) q18.2) ++ ((wX5 g a1 T1) ++ ((wX5 g a2 T2) ++ ((wX5 g a3 T3) ++ ((wX3 g a4 G4 R4) ++ ((wX4 g a5 P5) ++ ((wX2 g a6 (a1 0) (a3 0)) ++ ((wX1 g a7 (a1 0) (a3 0) O7 B7) ++ (wX0 g a8 (a1 0) (a3 0) (a4 0))))))))))) (As := [.int q11]) (rest := []) (q0 := 0) hS (c_X6_refuse l g a0 a1 a2 a3 a4 a5 a6 a7 a8 Z0 T1 T2 T3 G4 R4 P5 O7 B7 q11 h17) gX6_surely_X6_refuse rfl hd_X6_refuse ⟨Nat.le_of_ble_eq_true rfl, Nat.le_of_ble_eq_true rfl⟩ hK hw hA (pm_9_0_1_2_3_4_5_6_7_8 _ _ _ _ _ _ _ _ _) rfl (pm_9_0_1_2_3_4_5_6_7_8 _ _ _ _ _ _ _ _ _) rfl rfl rfl rfl hl.1 rfl (Nat.le_of_ble_eq_true rfl) dX6_surely_32 ⟨Nat.zero_le _, Nat.zero_le _⟩ (fun H locs hw => ?_)
      obtain rfl := Option.some.inj hM
      exact W.iret hx hb hr (fun t ht _ => ⟨rfl, by rw [ht]; exact hw.1, hw.2.2.F ht⟩) hw.2.2.2.2 dX6_surely_35
theorem hd_X6_talk : yX6_talk.cls = RX6 ∧ yX6_talk.cls ≠ "java/lang/invoke/MethodHandle" ∧ yX6_talk.cls ≠ "java/lang/invoke/VarHandle" ∧ (parseMethodDescriptor yX6_talk.desc).map (fun d => d.parameters.length) = some 1 := by decide +kernel
set_option maxHeartbeats 4000000 in
set_option maxRecDepth 100000 in
theorem c_X6_talk (l : Launch) (g : Gm) (a0 : Nat → Nat) (a1 : Nat → Nat) (a2 : Nat → Nat) (a3 : Nat → Nat) (a4 : Nat → Nat) (a5 : Nat → Nat) (a6 : Nat → Nat) (a7 : Nat → Nat) (a8 : Nat → Nat) (Z0 : TS) (T1 : TS) (T2 : TS) (T3 : TS) (G4 : TS) (R4 : LTS) (P5 : TS) (O7 : TS) (B7 : TS) (p1 : Int32) {q : (Int32 × TS × TS)} (hM : f_X6_talk Z0 T1 T2 T3 G4 R4 P5 O7 B7 p1 = some q) : MW l yX6_talk wsX6_talk 3 73 g [.ref (a0 0), .int p1] ((wX6 g a0 (a1 0) (a2 0) (a3 0) (a4 0) (a5 0) (a6 0) (a7 0) (a8 0) Z0) ++ ((wX5 g a1 T1) ++ ((wX5 g a2 T2) ++ ((wX5 g a3 T3) ++ ((wX3 g a4 G4 R4) ++ ((wX4 g a5 P5) ++ ((wX2 g a6 (a1 0) (a3 0)) ++ ((wX1 g a7 (a1 0) (a3 0) O7 B7) ++ (wX0 g a8 (a1 0) (a3 0) (a4 0)))))))))) (some (.int q.1)) ((wX6 g a0 (a1 0) (a2 0) (a3 0) (a4 0) (a5 0) (a6 0) (a7 0) (a8 0) q.2.1) ++ ((wX5 g a1 q.2.2) ++ ((wX5 g a2 T2) ++ ((wX5 g a3 T3) ++ ((wX3 g a4 G4 R4) ++ ((wX4 g a5 P5) ++ ((wX2 g a6 (a1 0) (a3 0)) ++ ((wX1 g a7 (a1 0) (a3 0) O7 B7) ++ (wX0 g a8 (a1 0) (a3 0) (a4 0)))))))))) := by
  intro sz
  refine Met.ofW (cc := cX6_talk) (maxL := 2) (ret := (some .int)) (by decide) rfl ?_
  intro p e s m args below meth c s₁ B hml hv
  obtain ⟨rfl, hsz, hP, hK, hD0⟩ := hv
  have hx := B.exec; have hb := B.bytes; have hr := B.returns
  have hts := atoms_spec (ws := wsX6_talk) B.pre
  have hown : s.vm.findClass RX6 = some m.cls := findClass_of_methodNamed B.named
  have hlocks := B.notSynchronized
  have hS : CallFix p m c cX6_talk 2 s _ wsX6_talk RX6 := ⟨hx, hb, hml, hown, hts⟩
  have hin_X5 : ∀ w ∈ wsX50, w ∈ wsX6_talk := fun w h => (List.mem_cons_of_mem _ (List.mem_append_right _ h))
  have hin_X6 : ∀ w ∈ wsX60, w ∈ wsX6_talk := fun w h => (List.mem_cons_of_mem _ (List.mem_append_left _ (List.mem_append_right _ h)))
  subst hsz
  have hw := wk_start hP hD0
  have hA : ∀ q : Nat, s.heap.size ≤ q → va_A ((wX6 g a0 (a1 0) (a2 0) (a3 0) (a4 0) (a5 0) (a6 0) (a7 0) (a8 0) Z0) ++ ((wX5 g a1 T1) ++ ((wX5 g a2 T2) ++ ((wX5 g a3 T3) ++ ((wX3 g a4 G4 R4) ++ ((wX4 g a5 P5) ++ ((wX2 g a6 (a1 0) (a3 0)) ++ ((wX1 g a7 (a1 0) (a3 0) O7 B7) ++ (wX0 g a8 (a1 0) (a3 0) (a4 0)))))))))) s.heap.size q := fun q h => Or.inr h
  generalize va_A ((wX6 g a0 (a1 0) (a2 0) (a3 0) (a4 0) (a5 0) (a6 0) (a7 0) (a8 0) Z0) ++ ((wX5 g a1 T1) ++ ((wX5 g a2 T2) ++ ((wX5 g a3 T3) ++ ((wX3 g a4 G4 R4) ++ ((wX4 g a5 P5) ++ ((wX2 g a6 (a1 0) (a3 0)) ++ ((wX1 g a7 (a1 0) (a3 0) O7 B7) ++ (wX0 g a8 (a1 0) (a3 0) (a4 0)))))))))) s.heap.size = A at hw hA ⊢
  clear hP hD0
  have hl := lv_entry ([.ref (a0 0), .int p1]) (n := 2) (Nat.le_of_ble_eq_true rfl)
  rw [lg_entry_eq]
  generalize (lg_sl ([.ref (a0 0), .int p1]) ++ List.replicate (2 - (lg_sl ([.ref (a0 0), .int p1])).length) Slot.unset).toArray = ls at hl ⊢
  have hl : lv_has ls 2 [(0, .ref (a0 0)), (1, .int p1)] := hl
  rw [f_X6_talk] at hM
  refine lv_iload_n hx hb dX6_talk_0 rfl (lv_at hl 1 rfl) ?_
  refine lv_iconst (v := (1 : Int32)) hx hb dX6_talk_1 (by decide) ?_
  refine lv_bipush (v := (40 : Int32)) hx hb dX6_talk_2 (by decide) ?_
  refine rSR (wc := ([] : va_W)) (As := [.int p1, .int (1 : Int32), .int (40 : Int32)]) (rest := []) hS (c_X6_isWithin l g p1 (1 : Int32) (40 : Int32)) gX6_talk_X6_isWithin rfl hd_X6_isWithin ⟨Nat.le_of_ble_eq_true rfl, Nat.le_of_ble_eq_true rfl⟩ hK (hP_nil) rfl hl.1 rfl (Nat.le_of_ble_eq_true rfl) dX6_talk_4 ⟨Nat.zero_le _, Nat.zero_le _⟩ ?_
  refine lv_if_ne (tgt := 17) hx hb dX6_talk_7 (by decide) (fun c2 => ?_) (fun c2 => ?_)
  · replace hM := itn c2 hM
    refine lv_aload_n hx hb dX6_talk_17 rfl (lv_at hl 0 rfl) ?_
    refine wk_get hx hb hts hin_X6 hown hK hw.1 6 0 0 (.ref (a1 0)) rfl rfl (by decide) (mi 1 rfl) rfl rfl dX6_talk_18 ?_
    refine wk_get hx hb hts hin_X5 hown hK hw.1 5 2 1 (.int (T1 1 0)) rfl rfl (by decide) (mi 2 rfl) rfl rfl dX6_talk_21 ?_
    refine lv_if_ne (tgt := 36) hx hb dX6_talk_24 (by decide) (fun c5 => ?_) (fun c5 => ?_)
    · replace hM := itn c5 hM
      refine lv_aload_n hx hb dX6_talk_36 rfl (lv_at hl 0 rfl) ?_
      refine wk_get hx hb hts hin_X6 hown hK hw.1 6 0 0 (.ref (a1 0)) rfl rfl (by decide) (mi 1 rfl) rfl rfl dX6_talk_37 ?_
      refine lv_iload_n hx hb dX6_talk_40 rfl (lv_at hl 1 rfl) ?_
      obtain ⟨q9, h8, hM⟩ := bd hM
      refine rVWp (wc := (wX5 g a1 T1)) (wq := ((wX6 g a0 (a1 0) (a2 0) (a3 0) (a4 0) (a5 0) (a6 0) (a7 0) (a8 0) Z0) ++ ((wX5 g a1 q9.2) ++ ((wX5 g a2 T2) ++ ((wX5 g a3 T3) ++ ((wX3 g a4 G4 R4) ++ ((wX4 g a5 P5) ++ ((wX2 g a6 (a1 0) (a3 0)) ++ ((wX1 g a7 (a1 0) (a3 0) O7 B7) ++ (wX0 g a8 (a1 0) (a3 0) (a4 0))))))))))) (As := [.int p1]) (rest := []) (q0 := 0) hS (c_X5_sayByDraws l g a1 T1 p1 h8) gX6_talk_X5_sayByDraws rfl hd_X5_sayByDraws ⟨Nat.le_of_ble_eq_true rfl, Nat.le_of_ble_eq_true rfl⟩ hK hw hA (pm_9_1 _ _ _ _ _ _ _ _ _) rfl (pm_9_1 _ _ _ _ _ _ _ _ _) rfl rfl rfl rfl hl.1 rfl (Nat.le_of_ble_eq_true rfl) dX6_talk_41 ⟨Nat.zero_le _, Nat.zero_le _⟩ (fun H locs hw => ?_)
      obtain rfl := Option.some.inj hM
      exact W.iret hx hb hr (fun t ht _ => ⟨rfl, by rw [ht]; exact hw.1, hw.2.2.F ht⟩) hw.2.2.2.2 dX6_talk_44
    · replace hM := itp c5 hM
      refine lv_aload_n hx hb dX6_talk_27 rfl (lv_at hl 0 rfl) ?_
      refine lv_bipush (v := (-5 : Int32)) hx hb dX6_talk_28 (by decide) ?_
      obtain ⟨q7, h6, hM⟩ := bd hM
      refine rVWp (wc := ((wX6 g a0 (a1 0) (a2 0) (a3 0) (a4 0) (a5 0) (a6 0) (a7 0) (a8 0) Z0) ++ ((wX5 g a1 T1) ++ ((wX5 g a2 T2) ++ ((wX5 g a3 T3) ++ ((wX3 g a4 G4 R4) ++ ((wX4 g a5 P5) ++ ((wX2 g a6 (a1 0) (a3 0)) ++ ((wX1 g a7 (a1 0) (a3 0) O7 B7) ++ (wX0 g a8 (a1 0) (a3 0) (a4 0))))))))))) (wq := ((wX6 g a0 (a1 0) (a2 0) (a3 0) (a4 0) (a5 0) (a6 0) (a7 0) (a8 0) q7.2) ++ ((wX5 g a1 T1) ++ ((wX5 g a2 T2) ++ ((wX5 g a3 T3) ++ ((wX3 g a4 G4 R4) ++ ((wX4 g a5 P5) ++ ((wX2 g a6 (a1 0) (a3 0)) ++ ((wX1 g a7 (a1 0) (a3 0) O7 B7) ++ (wX0 g a8 (a1 0) (a3 0) (a4 0))))))))))) (As := [.int (-5 : Int32)]) (rest := []) (q0 := 0) hS (c_X6_refuse l g a0 a1 a2 a3 a4 a5 a6 a7 a8 Z0 T1 T2 T3 G4 R4 P5 O7 B7 (-5 : Int32) h6) gX6_talk_X6_refuse rfl hd_X6_refuse ⟨Nat.le_of_ble_eq_true rfl, Nat.le_of_ble_eq_true rfl⟩ hK hw hA (pm_9_0_1_2_3_4_5_6_7_8 _ _ _ _ _ _ _ _ _) rfl (pm_9_0_1_2_3_4_5_6_7_8 _ _ _ _ _ _ _ _ _) rfl rfl rfl rfl hl.1 rfl (Nat.le_of_ble_eq_true rfl) dX6_talk_30 ⟨Nat.zero_le _, Nat.zero_le _⟩ (fun H locs hw => ?_)
      refine lv_goto (tgt := 44) hx hb dX6_talk_33 (by decide) ?_
      obtain rfl := Option.some.inj hM
      exact W.iret hx hb hr (fun t ht _ => ⟨rfl, by rw [ht]; exact hw.1, hw.2.2.F ht⟩) hw.2.2.2.2 dX6_talk_44
  · replace hM := itp c2 hM
    refine lv_aload_n hx hb dX6_talk_10 rfl (lv_at hl 0 rfl) ?_
    refine lv_bipush (v := (-2 : Int32)) hx hb dX6_talk_11 (by decide) ?_
    obtain ⟨q4, h3, hM⟩ := bd hM
    refine rVWp (wc := ((wX6 g a0 (a1 0) (a2 0) (a3 0) (a4 0) (a5 0) (a6 0) (a7 0) (a8 0) Z0) ++ ((wX5 g a1 T1) ++ ((wX5 g a2 T2) ++ ((wX5 g a3 T3) ++ ((wX3 g a4 G4 R4) ++ ((wX4 g a5 P5) ++ ((wX2 g a6 (a1 0) (a3 0)) ++ ((wX1 g a7 (a1 0) (a3 0) O7 B7) ++ (wX0 g a8 (a1 0) (a3 0) (a4 0))))))))))) (wq := ((wX6 g a0 (a1 0) (a2 0) (a3 0) (a4 0) (a5 0) (a6 0) (a7 0) (a8 0) q4.2) ++ ((wX5 g a1 T1) ++ ((wX5 g a2 T2) ++ ((wX5 g a3 T3) ++ ((wX3 g a4 G4 R4) ++ ((wX4 g a5 P5) ++ ((wX2 g a6 (a1 0) (a3 0)) ++ ((wX1 g a7 (a1 0) (a3 0) O7 B7) ++ (wX0 g a8 (a1 0) (a3 0) (a4 0))))))))))) (As := [.int (-2 : Int32)]) (rest := []) (q0 := 0) hS (c_X6_refuse l g a0 a1 a2 a3 a4 a5 a6 a7 a8 Z0 T1 T2 T3 G4 R4 P5 O7 B7 (-2 : Int32) h3) gX6_talk_X6_refuse rfl hd_X6_refuse ⟨Nat.le_of_ble_eq_true rfl, Nat.le_of_ble_eq_true rfl⟩ hK hw hA (pm_9_0_1_2_3_4_5_6_7_8 _ _ _ _ _ _ _ _ _) rfl (pm_9_0_1_2_3_4_5_6_7_8 _ _ _ _ _ _ _ _ _) rfl rfl rfl rfl hl.1 rfl (Nat.le_of_ble_eq_true rfl) dX6_talk_13 ⟨Nat.zero_le _, Nat.zero_le _⟩ (fun H locs hw => ?_)
    obtain rfl := Option.some.inj hM
    exact W.iret hx hb hr (fun t ht _ => ⟨rfl, by rw [ht]; exact hw.1, hw.2.2.F ht⟩) hw.2.2.2.2 dX6_talk_16
theorem hd_X6_when : yX6_when.cls = RX6 ∧ yX6_when.cls ≠ "java/lang/invoke/MethodHandle" ∧ yX6_when.cls ≠ "java/lang/invoke/VarHandle" ∧ (parseMethodDescriptor yX6_when.desc).map (fun d => d.parameters.length) = some 2 := by decide +kernel
set_option maxHeartbeats 4000000 in
set_option maxRecDepth 100000 in
theorem c_X6_when (l : Launch) (g : Gm) (a0 : Nat → Nat) (a1 : Nat → Nat) (a2 : Nat → Nat) (a3 : Nat → Nat) (a4 : Nat → Nat) (a5 : Nat → Nat) (a6 : Nat → Nat) (a7 : Nat → Nat) (a8 : Nat → Nat) (Z0 : TS) (T1 : TS) (T2 : TS) (T3 : TS) (G4 : TS) (R4 : LTS) (P5 : TS) (O7 : TS) (B7 : TS) (p1 : Int32) (p2 : Int32) {q : (Int32 × TS × TS)} (hM : f_X6_when Z0 T1 T2 T3 G4 R4 P5 O7 B7 p1 p2 = some q) : MW l yX6_when wsX6_when 4 125 g [.ref (a0 0), .int p1, .int p2] ((wX6 g a0 (a1 0) (a2 0) (a3 0) (a4 0) (a5 0) (a6 0) (a7 0) (a8 0) Z0) ++ ((wX5 g a1 T1) ++ ((wX5 g a2 T2) ++ ((wX5 g a3 T3) ++ ((wX3 g a4 G4 R4) ++ ((wX4 g a5 P5) ++ ((wX2 g a6 (a1 0) (a3 0)) ++ ((wX1 g a7 (a1 0) (a3 0) O7 B7) ++ (wX0 g a8 (a1 0) (a3 0) (a4 0)))))))))) (some (.int q.1)) ((wX6 g a0 (a1 0) (a2 0) (a3 0) (a4 0) (a5 0) (a6 0) (a7 0) (a8 0) q.2.1) ++ ((wX5 g a1 T1) ++ ((wX5 g a2 T2) ++ ((wX5 g a3 q.2.2) ++ ((wX3 g a4 G4 R4) ++ ((wX4 g a5 P5) ++ ((wX2 g a6 (a1 0) (a3 0)) ++ ((wX1 g a7 (a1 0) (a3 0) O7 B7) ++ (wX0 g a8 (a1 0) (a3 0) (a4 0)))))))))) := by
  intro sz
  refine Met.ofW (cc := cX6_when) (maxL := 3) (ret := (some .int)) (by decide) rfl ?_
  intro p e s m args below meth c s₁ B hml hv
  obtain ⟨rfl, hsz, hP, hK, hD0⟩ := hv
  have hx := B.exec; have hb := B.bytes; have hr := B.returns
  have hts := atoms_spec (ws := wsX6_when) B.pre
  have hown : s.vm.findClass RX6 = some m.cls := findClass_of_methodNamed B.named
  have hlocks := B.notSynchronized
  have hS : CallFix p m c cX6_when 3 s _ wsX6_when RX6 := ⟨hx, hb, hml, hown, hts⟩
  have hin_X6 : ∀ w ∈ wsX60, w ∈ wsX6_when := fun w h => (List.mem_cons_of_mem _ (List.mem_append_left _ (List.mem_append_left _ (List.mem_append_right _ h))))
  subst hsz
  have hw := wk_start hP hD0
  have hA : ∀ q : Nat, s.heap.size ≤ q → va_A ((wX6 g a0 (a1 0) (a2 0) (a3 0) (a4 0) (a5 0) (a6 0) (a7 0) (a8 0) Z0) ++ ((wX5 g a1 T1) ++ ((wX5 g a2 T2) ++ ((wX5 g a3 T3) ++ ((wX3 g a4 G4 R4) ++ ((wX4 g a5 P5) ++ ((wX2 g a6 (a1 0) (a3 0)) ++ ((wX1 g a7 (a1 0) (a3 0) O7 B7) ++ (wX0 g a8 (a1 0) (a3 0) (a4 0)))))))))) s.heap.size q := fun q h => Or.inr h
  generalize va_A ((wX6 g a0 (a1 0) (a2 0) (a3 0) (a4 0) (a5 0) (a6 0) (a7 0) (a8 0) Z0) ++ ((wX5 g a1 T1) ++ ((wX5 g a2 T2) ++ ((wX5 g a3 T3) ++ ((wX3 g a4 G4 R4) ++ ((wX4 g a5 P5) ++ ((wX2 g a6 (a1 0) (a3 0)) ++ ((wX1 g a7 (a1 0) (a3 0) O7 B7) ++ (wX0 g a8 (a1 0) (a3 0) (a4 0)))))))))) s.heap.size = A at hw hA ⊢
  clear hP hD0
  have hl := lv_entry ([.ref (a0 0), .int p1, .int p2]) (n := 3) (Nat.le_of_ble_eq_true rfl)
  rw [lg_entry_eq]
  generalize (lg_sl ([.ref (a0 0), .int p1, .int p2]) ++ List.replicate (3 - (lg_sl ([.ref (a0 0), .int p1, .int p2])).length) Slot.unset).toArray = ls at hl ⊢
  have hl : lv_has ls 3 [(0, .ref (a0 0)), (1, .int p1), (2, .int p2)] := hl
  rw [f_X6_when] at hM
  refine lv_aload_n hx hb dX6_when_0 rfl (lv_at hl 0 rfl) ?_
  refine wk_get hx hb hts hin_X6 hown hK hw.1 6 0 0 (.ref (a1 0)) rfl rfl (by decide) (mi 1 rfl) rfl rfl dX6_when_1 ?_
  refine lv_iload_n hx hb dX6_when_4 rfl (lv_at hl 1 rfl) ?_
  refine rVR (wc := (wX5 g a1 T1)) (As := [.int p1]) (rest := []) (q0 := 0) hS (c_X5_isOne l g a1 T1 p1) gX6_when_X5_isOne rfl hd_X5_isOne ⟨Nat.le_of_ble_eq_true rfl, Nat.le_of_ble_eq_true rfl⟩ hK (va_P.pm hw.1 (pm_9_1 _ _ _ _ _ _ _ _ _)) rfl rfl rfl rfl hl.1 rfl (Nat.le_of_ble_eq_true rfl) dX6_when_5 ⟨Nat.zero_le _, Nat.zero_le _⟩ ?_
  refine lv_if_eq (tgt := 22) hx hb dX6_when_8 (by decide) (fun c2 => ?_) (fun c2 => ?_)
  · replace hM := itp c2 hM
    refine lv_aload_n hx hb dX6_when_22 rfl (lv_at hl 0 rfl) ?_
    refine lv_bipush (v := (-2 : Int32)) hx hb dX6_when_23 (by decide) ?_
    obtain ⟨q4, h3, hM⟩ := bd hM
    refine rVWp (wc := ((wX6 g a0 (a1 0) (a2 0) (a3 0) (a4 0) (a5 0) (a6 0) (a7 0) (a8 0) Z0) ++ ((wX5 g a1 T1) ++ ((wX5 g a2 T2) ++ ((wX5 g a3 T3) ++ ((wX3 g a4 G4 R4) ++ ((wX4 g a5 P5) ++ ((wX2 g a6 (a1 0) (a3 0)) ++ ((wX1 g a7 (a1 0) (a3 0) O7 B7) ++ (wX0 g a8 (a1 0) (a3 0) (a4 0))))))))))) (wq := ((wX6 g a0 (a1 0) (a2 0) (a3 0) (a4 0) (a5 0) (a6 0) (a7 0) (a8 0) q4.2) ++ ((wX5 g a1 T1) ++ ((wX5 g a2 T2) ++ ((wX5 g a3 T3) ++ ((wX3 g a4 G4 R4) ++ ((wX4 g a5 P5) ++ ((wX2 g a6 (a1 0) (a3 0)) ++ ((wX1 g a7 (a1 0) (a3 0) O7 B7) ++ (wX0 g a8 (a1 0) (a3 0) (a4 0))))))))))) (As := [.int (-2 : Int32)]) (rest := []) (q0 := 0) hS (c_X6_refuse l g a0 a1 a2 a3 a4 a5 a6 a7 a8 Z0 T1 T2 T3 G4 R4 P5 O7 B7 (-2 : Int32) h3) gX6_when_X6_refuse rfl hd_X6_refuse ⟨Nat.le_of_ble_eq_true rfl, Nat.le_of_ble_eq_true rfl⟩ hK hw hA (pm_9_0_1_2_3_4_5_6_7_8 _ _ _ _ _ _ _ _ _) rfl (pm_9_0_1_2_3_4_5_6_7_8 _ _ _ _ _ _ _ _ _) rfl rfl rfl rfl hl.1 rfl (Nat.le_of_ble_eq_true rfl) dX6_when_25 ⟨Nat.zero_le _, Nat.zero_le _⟩ (fun H locs hw => ?_)
    obtain rfl := Option.some.inj hM
    exact W.iret hx hb hr (fun t ht _ => ⟨rfl, by rw [ht]; exact hw.1, hw.2.2.F ht⟩) hw.2.2.2.2 dX6_when_28
  · replace hM := itn c2 hM
    refine lv_aload_n hx hb dX6_when_11 rfl (lv_at hl 0 rfl) ?_
    refine wk_get hx hb hts hin_X6 hown hK hw.1 6 0 0 (.ref (a1 0)) rfl rfl (by decide) (mi 1 rfl) rfl rfl dX6_when_12 ?_
    refine lv_iload_n hx hb dX6_when_15 rfl (lv_at hl 2 rfl) ?_
    refine rVR (wc := (wX5 g a1 T1)) (As := [.int p2]) (rest := []) (q0 := 0) hS (c_X5_isSight l g a1 T1 p2) gX6_when_X5_isSight rfl hd_X5_isSight ⟨Nat.le_of_ble_eq_true rfl, Nat.le_of_ble_eq_true rfl⟩ hK (va_P.pm hw.1 (pm_9_1 _ _ _ _ _ _ _ _ _)) rfl rfl rfl rfl hl.1 rfl (Nat.le_of_ble_eq_true rfl) dX6_when_16 ⟨Nat.zero_le _, Nat.zero_le _⟩ ?_
    refine lv_if_ne (tgt := 29) hx hb dX6_when_19 (by decide) (fun c6 => ?_) (fun c6 => ?_)
    · replace hM := itn c6 hM
      refine lv_aload_n hx hb dX6_when_29 rfl (lv_at hl 0 rfl) ?_
      refine wk_get hx hb hts hin_X6 hown hK hw.1 6 0 5 (.ref (a6 0)) rfl rfl (by decide) (mi 2 rfl) rfl rfl dX6_when_30 ?_
      refine lv_iload_n hx hb dX6_when_33 rfl (lv_at hl 1 rfl) ?_
      refine lv_iload_n hx hb dX6_when_34 rfl (lv_at hl 2 rfl) ?_
      obtain ⟨q10, h9, hM⟩ := bd hM
      refine rVWp (wc := ((wX2 g a6 (a1 0) (a3 0)) ++ ((wX5 g a1 T1) ++ (wX5 g a3 T3)))) (wq := ((wX6 g a0 (a1 0) (a2 0) (a3 0) (a4 0) (a5 0) (a6 0) (a7 0) (a8 0) Z0) ++ ((wX5 g a1 T1) ++ ((wX5 g a2 T2) ++ ((wX5 g a3 q10.2) ++ ((wX3 g a4 G4 R4) ++ ((wX4 g a5 P5) ++ ((wX2 g a6 (a1 0) (a3 0)) ++ ((wX1 g a7 (a1 0) (a3 0) O7 B7) ++ (wX0 g a8 (a1 0) (a3 0) (a4 0))))))))))) (As := [.int p1, .int p2]) (rest := []) (q0 := 0) hS (c_X2_untilKnown l g a6 a1 a3 T1 T3 p1 p2 h9) gX6_when_X2_untilKnown rfl hd_X2_untilKnown ⟨Nat.le_of_ble_eq_true rfl, Nat.le_of_ble_eq_true rfl⟩ hK hw hA (pm_9_6_1_3 _ _ _ _ _ _ _ _ _) rfl (pm_9_6_1_3 _ _ _ _ _ _ _ _ _) rfl rfl rfl rfl hl.1 rfl (Nat.le_of_ble_eq_true rfl) dX6_when_35 ⟨Nat.zero_le _, Nat.zero_le _⟩ (fun H locs hw => ?_)
      obtain rfl := Option.some.inj hM
      exact W.iret hx hb hr (fun t ht _ => ⟨rfl, by rw [ht]; exact hw.1, hw.2.2.F ht⟩) hw.2.2.2.2 dX6_when_38
    · replace hM := itp c6 hM
      refine lv_aload_n hx hb dX6_when_22 rfl (lv_at hl 0 rfl) ?_
      refine lv_bipush (v := (-2 : Int32)) hx hb dX6_when_23 (by decide) ?_
      obtain ⟨q8, h7, hM⟩ := bd hM
      refine rVWp (wc := ((wX6 g a0 (a1 0) (a2 0) (a3 0) (a4 0) (a5 0) (a6 0) (a7 0) (a8 0) Z0) ++ ((wX5 g a1 T1) ++ ((wX5 g a2 T2) ++ ((wX5 g a3 T3) ++ ((wX3 g a4 G4 R4) ++ ((wX4 g a5 P5) ++ ((wX2 g a6 (a1 0) (a3 0)) ++ ((wX1 g a7 (a1 0) (a3 0) O7 B7) ++ (wX0 g a8 (a1 0) (a3 0) (a4 0))))))))))) (wq := ((wX6 g a0 (a1 0) (a2 0) (a3 0) (a4 0) (a5 0) (a6 0) (a7 0) (a8 0) q8.2) ++ ((wX5 g a1 T1) ++ ((wX5 g a2 T2) ++ ((wX5 g a3 T3) ++ ((wX3 g a4 G4 R4) ++ ((wX4 g a5 P5) ++ ((wX2 g a6 (a1 0) (a3 0)) ++ ((wX1 g a7 (a1 0) (a3 0) O7 B7) ++ (wX0 g a8 (a1 0) (a3 0) (a4 0))))))))))) (As := [.int (-2 : Int32)]) (rest := []) (q0 := 0) hS (c_X6_refuse l g a0 a1 a2 a3 a4 a5 a6 a7 a8 Z0 T1 T2 T3 G4 R4 P5 O7 B7 (-2 : Int32) h7) gX6_when_X6_refuse rfl hd_X6_refuse ⟨Nat.le_of_ble_eq_true rfl, Nat.le_of_ble_eq_true rfl⟩ hK hw hA (pm_9_0_1_2_3_4_5_6_7_8 _ _ _ _ _ _ _ _ _) rfl (pm_9_0_1_2_3_4_5_6_7_8 _ _ _ _ _ _ _ _ _) rfl rfl rfl rfl hl.1 rfl (Nat.le_of_ble_eq_true rfl) dX6_when_25 ⟨Nat.zero_le _, Nat.zero_le _⟩ (fun H locs hw => ?_)
      obtain rfl := Option.some.inj hM
      exact W.iret hx hb hr (fun t ht _ => ⟨rfl, by rw [ht]; exact hw.1, hw.2.2.F ht⟩) hw.2.2.2.2 dX6_when_28
theorem hd_X6_whom : yX6_whom.cls = RX6 ∧ yX6_whom.cls ≠ "java/lang/invoke/MethodHandle" ∧ yX6_whom.cls ≠ "java/lang/invoke/VarHandle" ∧ (parseMethodDescriptor yX6_whom.desc).map (fun d => d.parameters.length) = some 2 := by decide +kernel
set_option maxHeartbeats 4000000 in
set_option maxRecDepth 100000 in
theorem c_X6_whom (l : Launch) (g : Gm) (a0 : Nat → Nat) (a1 : Nat → Nat) (a2 : Nat → Nat) (a3 : Nat → Nat) (a4 : Nat → Nat) (a5 : Nat → Nat) (a6 : Nat → Nat) (a7 : Nat → Nat) (a8 : Nat → Nat) (Z0 : TS) (T1 : TS) (T2 : TS) (T3 : TS) (G4 : TS) (R4 : LTS) (P5 : TS) (O7 : TS) (B7 : TS) (p1 : Int32) (p2 : Int32) {q : (Int32 × TS)} (hM : f_X6_whom Z0 T1 T2 T3 G4 R4 P5 O7 B7 p1 p2 = some q) : MW l yX6_whom wsX6_whom 5 117 g [.ref (a0 0), .int p1, .int p2] ((wX6 g a0 (a1 0) (a2 0) (a3 0) (a4 0) (a5 0) (a6 0) (a7 0) (a8 0) Z0) ++ ((wX5 g a1 T1) ++ ((wX5 g a2 T2) ++ ((wX5 g a3 T3) ++ ((wX3 g a4 G4 R4) ++ ((wX4 g a5 P5) ++ ((wX2 g a6 (a1 0) (a3 0)) ++ ((wX1 g a7 (a1 0) (a3 0) O7 B7) ++ (wX0 g a8 (a1 0) (a3 0) (a4 0)))))))))) (some (.int q.1)) ((wX6 g a0 (a1 0) (a2 0) (a3 0) (a4 0) (a5 0) (a6 0) (a7 0) (a8 0) q.2) ++ ((wX5 g a1 T1) ++ ((wX5 g a2 T2) ++ ((wX5 g a3 T3) ++ ((wX3 g a4 G4 R4) ++ ((wX4 g a5 P5) ++ ((wX2 g a6 (a1 0) (a3 0)) ++ ((wX1 g a7 (a1 0) (a3 0) O7 B7) ++ (wX0 g a8 (a1 0) (a3 0) (a4 0)))))))))) := by
  intro sz
  refine Met.ofW (cc := cX6_whom) (maxL := 4) (ret := (some .int)) (by decide) rfl ?_
  intro p e s m args below meth c s₁ B hml hv
  obtain ⟨rfl, hsz, hP, hK, hD0⟩ := hv
  have hx := B.exec; have hb := B.bytes; have hr := B.returns
  have hts := atoms_spec (ws := wsX6_whom) B.pre
  have hown : s.vm.findClass RX6 = some m.cls := findClass_of_methodNamed B.named
  have hlocks := B.notSynchronized
  have hS : CallFix p m c cX6_whom 4 s _ wsX6_whom RX6 := ⟨hx, hb, hml, hown, hts⟩
  have hin_X6 : ∀ w ∈ wsX60, w ∈ wsX6_whom := fun w h => (List.mem_cons_of_mem _ (List.mem_append_left _ (List.mem_append_left _ (List.mem_append_right _ h))))
  subst hsz
  have hw := wk_start hP hD0
  have hA : ∀ q : Nat, s.heap.size ≤ q → va_A ((wX6 g a0 (a1 0) (a2 0) (a3 0) (a4 0) (a5 0) (a6 0) (a7 0) (a8 0) Z0) ++ ((wX5 g a1 T1) ++ ((wX5 g a2 T2) ++ ((wX5 g a3 T3) ++ ((wX3 g a4 G4 R4) ++ ((wX4 g a5 P5) ++ ((wX2 g a6 (a1 0) (a3 0)) ++ ((wX1 g a7 (a1 0) (a3 0) O7 B7) ++ (wX0 g a8 (a1 0) (a3 0) (a4 0)))))))))) s.heap.size q := fun q h => Or.inr h
  generalize va_A ((wX6 g a0 (a1 0) (a2 0) (a3 0) (a4 0) (a5 0) (a6 0) (a7 0) (a8 0) Z0) ++ ((wX5 g a1 T1) ++ ((wX5 g a2 T2) ++ ((wX5 g a3 T3) ++ ((wX3 g a4 G4 R4) ++ ((wX4 g a5 P5) ++ ((wX2 g a6 (a1 0) (a3 0)) ++ ((wX1 g a7 (a1 0) (a3 0) O7 B7) ++ (wX0 g a8 (a1 0) (a3 0) (a4 0)))))))))) s.heap.size = A at hw hA ⊢
  clear hP hD0
  have hl := lv_entry ([.ref (a0 0), .int p1, .int p2]) (n := 4) (Nat.le_of_ble_eq_true rfl)
  rw [lg_entry_eq]
  generalize (lg_sl ([.ref (a0 0), .int p1, .int p2]) ++ List.replicate (4 - (lg_sl ([.ref (a0 0), .int p1, .int p2])).length) Slot.unset).toArray = ls at hl ⊢
  have hl : lv_has ls 4 [(0, .ref (a0 0)), (1, .int p1), (2, .int p2)] := hl
  rw [f_X6_whom] at hM
  refine lv_iload_n hx hb dX6_whom_0 rfl (lv_at hl 2 rfl) ?_
  refine lv_iconst (v := (1 : Int32)) hx hb dX6_whom_1 (by decide) ?_
  refine lv_bipush (v := (10 : Int32)) hx hb dX6_whom_2 (by decide) ?_
  refine rSR (wc := ([] : va_W)) (As := [.int p2, .int (1 : Int32), .int (10 : Int32)]) (rest := []) hS (c_X6_isWithin l g p2 (1 : Int32) (10 : Int32)) gX6_whom_X6_isWithin rfl hd_X6_isWithin ⟨Nat.le_of_ble_eq_true rfl, Nat.le_of_ble_eq_true rfl⟩ hK (hP_nil) rfl hl.1 rfl (Nat.le_of_ble_eq_true rfl) dX6_whom_4 ⟨Nat.zero_le _, Nat.zero_le _⟩ ?_
  refine lv_if_eq (tgt := 22) hx hb dX6_whom_7 (by decide) (fun c2 => ?_) (fun c2 => ?_)
  · replace hM := itp c2 hM
    refine lv_bipush (v := (-2 : Int32)) hx hb dX6_whom_22 (by decide) ?_
    refine lv_istore_n (lv' := [(3, .int (-2 : Int32)), (0, .ref (a0 0)), (1, .int p1), (2, .int p2)]) hx hb dX6_whom_24 rfl hl (by decide) rfl (fun ls hl => ?_)
    refine lv_iload_n hx hb dX6_whom_25 rfl (lv_at hl 0 rfl) ?_
    refine lv_if_eq (tgt := 35) hx hb dX6_whom_26 (by decide) (fun c3 => ?_) (fun c3 => ?_)
    · replace hM := itp c3 hM
      refine lv_aload_n hx hb dX6_whom_35 rfl (lv_at hl 1 rfl) ?_
      refine wk_get hx hb hts hin_X6 hown hK hw.1 6 0 3 (.ref (a4 0)) rfl rfl (by decide) (mi 1 rfl) rfl rfl dX6_whom_36 ?_
      refine lv_iload_n hx hb dX6_whom_39 rfl (lv_at hl 2 rfl) ?_
      refine lv_iload_n hx hb dX6_whom_40 rfl (lv_at hl 3 rfl) ?_
      refine lv_aload_n hx hb dX6_whom_41 rfl (lv_at hl 1 rfl) ?_
      refine wk_get hx hb hts hin_X6 hown hK hw.1 6 0 0 (.ref (a1 0)) rfl rfl (by decide) (mi 2 rfl) rfl rfl dX6_whom_42 ?_
      refine rVR (wc := (wX5 g a1 T1)) (As := []) (rest := [.int p2, .int p1, .ref (a4 0)]) (q0 := 0) hS (c_X5_allPeople l g a1 T1) gX6_whom_X5_allPeople rfl hd_X5_allPeople ⟨Nat.le_of_ble_eq_true rfl, Nat.le_of_ble_eq_true rfl⟩ hK (va_P.pm hw.1 (pm_9_1 _ _ _ _ _ _ _ _ _)) rfl rfl rfl rfl hl.1 rfl (Nat.le_of_ble_eq_true rfl) dX6_whom_45 ⟨Nat.zero_le _, Nat.zero_le _⟩ ?_
      obtain ⟨q6, h5, hM⟩ := bd hM
      refine rVR (wc := (wX3 g a4 G4 R4)) (As := [.int p1, .int p2, .int (f_X5_allPeople T1)]) (rest := []) (q0 := 0) hS (c_X3_fewestApart l g a4 G4 R4 p1 p2 (f_X5_allPeople T1) h5) gX6_whom_X3_fewestApart rfl hd_X3_fewestApart ⟨Nat.le_of_ble_eq_true rfl, Nat.le_of_ble_eq_true rfl⟩ hK (va_P.pm hw.1 (pm_9_4 _ _ _ _ _ _ _ _ _)) rfl rfl rfl rfl hl.1 rfl (Nat.le_of_ble_eq_true rfl) dX6_whom_48 ⟨Nat.zero_le _, Nat.zero_le _⟩ ?_
      obtain rfl := Option.some.inj hM
      exact W.iret hx hb hr (fun t ht _ => ⟨rfl, by rw [ht]; exact hw.1, hw.2.2.F ht⟩) hw.2.2.2.2 dX6_whom_51
    · replace hM := itn c3 hM
      refine lv_aload_n hx hb dX6_whom_29 rfl (lv_at hl 1 rfl) ?_
      refine lv_iload_n hx hb dX6_whom_30 rfl (lv_at hl 0 rfl) ?_
      obtain ⟨q8, h7, hM⟩ := bd hM
      refine rVWp (wc := ((wX6 g a0 (a1 0) (a2 0) (a3 0) (a4 0) (a5 0) (a6 0) (a7 0) (a8 0) Z0) ++ ((wX5 g a1 T1) ++ ((wX5 g a2 T2) ++ ((wX5 g a3 T3) ++ ((wX3 g a4 G4 R4) ++ ((wX4 g a5 P5) ++ ((wX2 g a6 (a1 0) (a3 0)) ++ ((wX1 g a7 (a1 0) (a3 0) O7 B7) ++ (wX0 g a8 (a1 0) (a3 0) (a4 0))))))))))) (wq := ((wX6 g a0 (a1 0) (a2 0) (a3 0) (a4 0) (a5 0) (a6 0) (a7 0) (a8 0) q8.2) ++ ((wX5 g a1 T1) ++ ((wX5 g a2 T2) ++ ((wX5 g a3 T3) ++ ((wX3 g a4 G4 R4) ++ ((wX4 g a5 P5) ++ ((wX2 g a6 (a1 0) (a3 0)) ++ ((wX1 g a7 (a1 0) (a3 0) O7 B7) ++ (wX0 g a8 (a1 0) (a3 0) (a4 0))))))))))) (As := [.int (-2 : Int32)]) (rest := []) (q0 := 0) hS (c_X6_refuse l g a0 a1 a2 a3 a4 a5 a6 a7 a8 Z0 T1 T2 T3 G4 R4 P5 O7 B7 (-2 : Int32) h7) gX6_whom_X6_refuse rfl hd_X6_refuse ⟨Nat.le_of_ble_eq_true rfl, Nat.le_of_ble_eq_true rfl⟩ hK hw hA (pm_9_0_1_2_3_4_5_6_7_8 _ _ _ _ _ _ _ _ _) rfl (pm_9_0_1_2_3_4_5_6_7_8 _ _ _ _ _ _ _ _ _) rfl rfl rfl rfl hl.1 rfl (Nat.le_of_ble_eq_true rfl) dX6_whom_31 ⟨Nat.zero_le _, Nat.zero_le _⟩ (fun H locs hw => ?_)
      obtain rfl := Option.some.inj hM
      exact W.iret hx hb hr (fun t ht _ => ⟨rfl, by rw [ht]; exact hw.1, hw.2.2.F ht⟩) hw.2.2.2.2 dX6_whom_34
  · replace hM := itn c2 hM
    refine lv_aload_n hx hb dX6_whom_10 rfl (lv_at hl 0 rfl) ?_
    refine wk_get hx hb hts hin_X6 hown hK hw.1 6 0 3 (.ref (a4 0)) rfl rfl (by decide) (mi 1 rfl) rfl rfl dX6_whom_11 ?_
    refine lv_iload_n hx hb dX6_whom_14 rfl (lv_at hl 1 rfl) ?_
    refine lv_iload_n hx hb dX6_whom_15 rfl (lv_at hl 2 rfl) ?_
    obtain ⟨q10, h9, hM⟩ := bd hM
    refine rVR (wc := (wX3 g a4 G4 R4)) (As := [.int p1, .int p2]) (rest := []) (q0 := 0) hS (c_X3_troubleWithRow l g a4 G4 R4 p1 p2 h9) gX6_whom_X3_troubleWithRow rfl hd_X3_troubleWithRow ⟨Nat.le_of_ble_eq_true rfl, Nat.le_of_ble_eq_true rfl⟩ hK (va_P.pm hw.1 (pm_9_4 _ _ _ _ _ _ _ _ _)) rfl rfl rfl rfl hl.1 rfl (Nat.le_of_ble_eq_true rfl) dX6_whom_16 ⟨Nat.zero_le _, Nat.zero_le _⟩ ?_
    refine lv_goto (tgt := 24) hx hb dX6_whom_19 (by decide) ?_
    refine lv_istore_n (lv' := [(3, .int q10), (0, .ref (a0 0)), (1, .int p1), (2, .int p2)]) hx hb dX6_whom_24 rfl hl (by decide) rfl (fun ls hl => ?_)
    refine lv_iload_n hx hb dX6_whom_25 rfl (lv_at hl 0 rfl) ?_
    refine lv_if_eq (tgt := 35) hx hb dX6_whom_26 (by decide) (fun c11 => ?_) (fun c11 => ?_)
    · replace hM := itp c11 hM
      refine lv_aload_n hx hb dX6_whom_35 rfl (lv_at hl 1 rfl) ?_
      refine wk_get hx hb hts hin_X6 hown hK hw.1 6 0 3 (.ref (a4 0)) rfl rfl (by decide) (mi 1 rfl) rfl rfl dX6_whom_36 ?_
      refine lv_iload_n hx hb dX6_whom_39 rfl (lv_at hl 2 rfl) ?_
      refine lv_iload_n hx hb dX6_whom_40 rfl (lv_at hl 3 rfl) ?_
      refine lv_aload_n hx hb dX6_whom_41 rfl (lv_at hl 1 rfl) ?_
      refine wk_get hx hb hts hin_X6 hown hK hw.1 6 0 0 (.ref (a1 0)) rfl rfl (by decide) (mi 2 rfl) rfl rfl dX6_whom_42 ?_
      refine rVR (wc := (wX5 g a1 T1)) (As := []) (rest := [.int p2, .int p1, .ref (a4 0)]) (q0 := 0) hS (c_X5_allPeople l g a1 T1) gX6_whom_X5_allPeople rfl hd_X5_allPeople ⟨Nat.le_of_ble_eq_true rfl, Nat.le_of_ble_eq_true rfl⟩ hK (va_P.pm hw.1 (pm_9_1 _ _ _ _ _ _ _ _ _)) rfl rfl rfl rfl hl.1 rfl (Nat.le_of_ble_eq_true rfl) dX6_whom_45 ⟨Nat.zero_le _, Nat.zero_le _⟩ ?_
      obtain ⟨q14, h13, hM⟩ := bd hM
      refine rVR (wc := (wX3 g a4 G4 R4)) (As := [.int p1, .int p2, .int (f_X5_allPeople T1)]) (rest := []) (q0 := 0) hS (c_X3_fewestApart l g a4 G4 R4 p1 p2 (f_X5_allPeople T1) h13) gX6_whom_X3_fewestApart rfl hd_X3_fewestApart ⟨Nat.le_of_ble_eq_true rfl, Nat.le_of_ble_eq_true rfl⟩ hK (va_P.pm hw.1 (pm_9_4 _ _ _ _ _ _ _ _ _)) rfl rfl rfl rfl hl.1 rfl (Nat.le_of_ble_eq_true rfl) dX6_whom_48 ⟨Nat.zero_le _, Nat.zero_le _⟩ ?_
      obtain rfl := Option.some.inj hM
      exact W.iret hx hb hr (fun t ht _ => ⟨rfl, by rw [ht]; exact hw.1, hw.2.2.F ht⟩) hw.2.2.2.2 dX6_whom_51
    · replace hM := itn c11 hM
      refine lv_aload_n hx hb dX6_whom_29 rfl (lv_at hl 1 rfl) ?_
      refine lv_iload_n hx hb dX6_whom_30 rfl (lv_at hl 0 rfl) ?_
      obtain ⟨q16, h15, hM⟩ := bd hM
      refine rVWp (wc := ((wX6 g a0 (a1 0) (a2 0) (a3 0) (a4 0) (a5 0) (a6 0) (a7 0) (a8 0) Z0) ++ ((wX5 g a1 T1) ++ ((wX5 g a2 T2) ++ ((wX5 g a3 T3) ++ ((wX3 g a4 G4 R4) ++ ((wX4 g a5 P5) ++ ((wX2 g a6 (a1 0) (a3 0)) ++ ((wX1 g a7 (a1 0) (a3 0) O7 B7) ++ (wX0 g a8 (a1 0) (a3 0) (a4 0))))))))))) (wq := ((wX6 g a0 (a1 0) (a2 0) (a3 0) (a4 0) (a5 0) (a6 0) (a7 0) (a8 0) q16.2) ++ ((wX5 g a1 T1) ++ ((wX5 g a2 T2) ++ ((wX5 g a3 T3) ++ ((wX3 g a4 G4 R4) ++ ((wX4 g a5 P5) ++ ((wX2 g a6 (a1 0) (a3 0)) ++ ((wX1 g a7 (a1 0) (a3 0) O7 B7) ++ (wX0 g a8 (a1 0) (a3 0) (a4 0))))))))))) (As := [.int q10]) (rest := []) (q0 := 0) hS (c_X6_refuse l g a0 a1 a2 a3 a4 a5 a6 a7 a8 Z0 T1 T2 T3 G4 R4 P5 O7 B7 q10 h15) gX6_whom_X6_refuse rfl hd_X6_refuse ⟨Nat.le_of_ble_eq_true rfl, Nat.le_of_ble_eq_true rfl⟩ hK hw hA (pm_9_0_1_2_3_4_5_6_7_8 _ _ _ _ _ _ _ _ _) rfl (pm_9_0_1_2_3_4_5_6_7_8 _ _ _ _ _ _ _ _ _) rfl rfl rfl rfl hl.1 rfl (Nat.le_of_ble_eq_true rfl) dX6_whom_31 ⟨Nat.zero_le _, Nat.zero_le _⟩ (fun H locs hw => ?_)
      obtain rfl := Option.some.inj hM
      exact W.iret hx hb hr (fun t ht _ => ⟨rfl, by rw [ht]; exact hw.1, hw.2.2.F ht⟩) hw.2.2.2.2 dX6_whom_34
theorem hd_X6_wipe : yX6_wipe.cls = RX6 ∧ yX6_wipe.cls ≠ "java/lang/invoke/MethodHandle" ∧ yX6_wipe.cls ≠ "java/lang/invoke/VarHandle" ∧ (parseMethodDescriptor yX6_wipe.desc).map (fun d => d.parameters.length) = some 0 := by decide +kernel
set_option maxHeartbeats 4000000 in
set_option maxRecDepth 100000 in
theorem c_X6_wipe (l : Launch) (g : Gm) (a0 : Nat → Nat) (a1 : Nat → Nat) (a2 : Nat → Nat) (a3 : Nat → Nat) (a4 : Nat → Nat) (a5 : Nat → Nat) (a6 : Nat → Nat) (a7 : Nat → Nat) (a8 : Nat → Nat) (Z0 : TS) (T1 : TS) (T2 : TS) (T3 : TS) (G4 : TS) (R4 : LTS) (P5 : TS) (O7 : TS) (B7 : TS) {q : (Int32 × TS)} (hM : f_X6_wipe Z0 T1 T2 T3 G4 R4 P5 O7 B7 = some q) : MW l yX6_wipe wsX6_wipe 0 0 g [.ref (a0 0)] ((wX6 g a0 (a1 0) (a2 0) (a3 0) (a4 0) (a5 0) (a6 0) (a7 0) (a8 0) Z0) ++ ((wX5 g a1 T1) ++ ((wX5 g a2 T2) ++ ((wX5 g a3 T3) ++ ((wX3 g a4 G4 R4) ++ ((wX4 g a5 P5) ++ ((wX2 g a6 (a1 0) (a3 0)) ++ ((wX1 g a7 (a1 0) (a3 0) O7 B7) ++ (wX0 g a8 (a1 0) (a3 0) (a4 0)))))))))) (some (.int q.1)) ((wX6 g a0 (a1 0) (a2 0) (a3 0) (a4 0) (a5 0) (a6 0) (a7 0) (a8 0) Z0) ++ ((wX5 g a1 T1) ++ ((wX5 g a2 T2) ++ ((wX5 g a3 T3) ++ ((wX3 g a4 G4 R4) ++ ((wX4 g a5 q.2) ++ ((wX2 g a6 (a1 0) (a3 0)) ++ ((wX1 g a7 (a1 0) (a3 0) O7 B7) ++ (wX0 g a8 (a1 0) (a3 0) (a4 0)))))))))) := by
  intro sz
  refine Met.ofW (cc := cX6_wipe) (maxL := 2) (ret := (some .int)) (by decide) rfl ?_
  intro p e s m args below meth c s₁ B hml hv
  obtain ⟨rfl, hsz, hP, hK, hD0⟩ := hv
  have hx := B.exec; have hb := B.bytes; have hr := B.returns
  have hts := atoms_spec (ws := wsX6_wipe) B.pre
  have hown : s.vm.findClass RX6 = some m.cls := findClass_of_methodNamed B.named
  have hlocks := B.notSynchronized
  have hS : CallFix p m c cX6_wipe 2 s _ wsX6_wipe RX6 := ⟨hx, hb, hml, hown, hts⟩
  have hin_X4 : ∀ w ∈ wsX40, w ∈ wsX6_wipe := fun w h => (List.mem_cons_of_mem _ (List.mem_append_right _ h))
  have hin_X6 : ∀ w ∈ wsX60, w ∈ wsX6_wipe := fun w h => (List.mem_cons_of_mem _ (List.mem_append_left _ (List.mem_append_right _ h)))
  subst hsz
  have hw := wk_start hP hD0
  have hA : ∀ q : Nat, s.heap.size ≤ q → va_A ((wX6 g a0 (a1 0) (a2 0) (a3 0) (a4 0) (a5 0) (a6 0) (a7 0) (a8 0) Z0) ++ ((wX5 g a1 T1) ++ ((wX5 g a2 T2) ++ ((wX5 g a3 T3) ++ ((wX3 g a4 G4 R4) ++ ((wX4 g a5 P5) ++ ((wX2 g a6 (a1 0) (a3 0)) ++ ((wX1 g a7 (a1 0) (a3 0) O7 B7) ++ (wX0 g a8 (a1 0) (a3 0) (a4 0)))))))))) s.heap.size q := fun q h => Or.inr h
  generalize va_A ((wX6 g a0 (a1 0) (a2 0) (a3 0) (a4 0) (a5 0) (a6 0) (a7 0) (a8 0) Z0) ++ ((wX5 g a1 T1) ++ ((wX5 g a2 T2) ++ ((wX5 g a3 T3) ++ ((wX3 g a4 G4 R4) ++ ((wX4 g a5 P5) ++ ((wX2 g a6 (a1 0) (a3 0)) ++ ((wX1 g a7 (a1 0) (a3 0) O7 B7) ++ (wX0 g a8 (a1 0) (a3 0) (a4 0)))))))))) s.heap.size = A at hw hA ⊢
  clear hP hD0
  have hl := lv_entry ([.ref (a0 0)]) (n := 2) (Nat.le_of_ble_eq_true rfl)
  rw [lg_entry_eq]
  generalize (lg_sl ([.ref (a0 0)]) ++ List.replicate (2 - (lg_sl ([.ref (a0 0)])).length) Slot.unset).toArray = ls at hl ⊢
  have hl : lv_has ls 2 [(0, .ref (a0 0))] := hl
  rw [f_X6_wipe] at hM
  refine lv_aload_n hx hb dX6_wipe_0 rfl (lv_at hl 0 rfl) ?_
  refine wk_get hx hb hts hin_X6 hown hK hw.1 6 0 4 (.ref (a5 0)) rfl rfl (by decide) (mi 1 rfl) rfl rfl dX6_wipe_1 ?_
  refine wk_get hx hb hts hin_X4 hown hK hw.1 4 38 0 (.int (P5 0 0)) rfl rfl (by decide) (mi 2 rfl) rfl rfl dX6_wipe_4 ?_
  refine lv_istore_n (lv' := [(1, .int (P5 0 0)), (0, .ref (a0 0))]) hx hb dX6_wipe_7 rfl hl (by decide) rfl (fun ls hl => ?_)
  refine lv_aload_n hx hb dX6_wipe_8 rfl (lv_at hl 1 rfl) ?_
  refine wk_get hx hb hts hin_X6 hown hK hw.1 6 0 4 (.ref (a5 0)) rfl rfl (by decide) (mi 1 rfl) rfl rfl dX6_wipe_9 ?_
  refine lv_iconst (v := (0 : Int32)) hx hb dX6_wipe_12 (by decide) ?_
  refine wk_put (wq := ((wX6 g a0 (a1 0) (a2 0) (a3 0) (a4 0) (a5 0) (a6 0) (a7 0) (a8 0) Z0) ++ ((wX5 g a1 T1) ++ ((wX5 g a2 T2) ++ ((wX5 g a3 T3) ++ ((wX3 g a4 G4 R4) ++ ((wX4 g a5 (up P5 0 (fun _ => (0 : Int32)))) ++ ((wX2 g a6 (a1 0) (a3 0)) ++ ((wX1 g a7 (a1 0) (a3 0) O7 B7) ++ (wX0 g a8 (a1 0) (a3 0) (a4 0))))))))))) hx hb hts hin_X4 tyX4 tyX4_ok nmX4 hown hK hw 4 38 0 rfl rfl (by decide) (mi 2 rfl) rfl rfl rfl rfl (Nat.le_of_ble_eq_true rfl) dX6_wipe_13 rfl (fun H locs hw => ?_)
  refine lv_iload_n hx hb dX6_wipe_16 rfl (lv_at hl 0 rfl) ?_
  obtain rfl := Option.some.inj hM
  exact W.iret hx hb hr (fun t ht _ => ⟨rfl, by rw [ht]; exact hw.1, hw.2.2.F ht⟩) hw.2.2.2.2 dX6_wipe_17
theorem hd_X6_worth : yX6_worth.cls = RX6 ∧ yX6_worth.cls ≠ "java/lang/invoke/MethodHandle" ∧ yX6_worth.cls ≠ "java/lang/invoke/VarHandle" ∧ (parseMethodDescriptor yX6_worth.desc).map (fun d => d.parameters.length) = some 2 := by decide +kernel
set_option maxHeartbeats 4000000 in
set_option maxRecDepth 100000 in
theorem c_X6_worth (l : Launch) (g : Gm) (a0 : Nat → Nat) (a1 : Nat → Nat) (a2 : Nat → Nat) (a3 : Nat → Nat) (a4 : Nat → Nat) (a5 : Nat → Nat) (a6 : Nat → Nat) (a7 : Nat → Nat) (a8 : Nat → Nat) (Z0 : TS) (T1 : TS) (T2 : TS) (T3 : TS) (G4 : TS) (R4 : LTS) (P5 : TS) (O7 : TS) (B7 : TS) (p1 : Int32) (p2 : Int32) {q : (Int32 × TS × TS)} (hM : f_X6_worth Z0 T1 T2 T3 G4 R4 P5 O7 B7 p1 p2 = some q) : MW l yX6_worth wsX6_worth 6 139 g [.ref (a0 0), .int p1, .int p2] ((wX6 g a0 (a1 0) (a2 0) (a3 0) (a4 0) (a5 0) (a6 0) (a7 0) (a8 0) Z0) ++ ((wX5 g a1 T1) ++ ((wX5 g a2 T2) ++ ((wX5 g a3 T3) ++ ((wX3 g a4 G4 R4) ++ ((wX4 g a5 P5) ++ ((wX2 g a6 (a1 0) (a3 0)) ++ ((wX1 g a7 (a1 0) (a3 0) O7 B7) ++ (wX0 g a8 (a1 0) (a3 0) (a4 0)))))))))) (some (.int q.1)) ((wX6 g a0 (a1 0) (a2 0) (a3 0) (a4 0) (a5 0) (a6 0) (a7 0) (a8 0) q.2.1) ++ ((wX5 g a1 T1) ++ ((wX5 g a2 T2) ++ ((wX5 g a3 q.2.2) ++ ((wX3 g a4 G4 R4) ++ ((wX4 g a5 P5) ++ ((wX2 g a6 (a1 0) (a3 0)) ++ ((wX1 g a7 (a1 0) (a3 0) O7 B7) ++ (wX0 g a8 (a1 0) (a3 0) (a4 0)))))))))) := by
  intro sz
  refine Met.ofW (cc := cX6_worth) (maxL := 3) (ret := (some .int)) (by decide) rfl ?_
  intro p e s m args below meth c s₁ B hml hv
  obtain ⟨rfl, hsz, hP, hK, hD0⟩ := hv
  have hx := B.exec; have hb := B.bytes; have hr := B.returns
  have hts := atoms_spec (ws := wsX6_worth) B.pre
  have hown : s.vm.findClass RX6 = some m.cls := findClass_of_methodNamed B.named
  have hlocks := B.notSynchronized
  have hS : CallFix p m c cX6_worth 3 s _ wsX6_worth RX6 := ⟨hx, hb, hml, hown, hts⟩
  have hin_X6 : ∀ w ∈ wsX60, w ∈ wsX6_worth := fun w h => (List.mem_cons_of_mem _ (List.mem_append_left _ (List.mem_append_left _ (List.mem_append_right _ h))))
  subst hsz
  have hw := wk_start hP hD0
  have hA : ∀ q : Nat, s.heap.size ≤ q → va_A ((wX6 g a0 (a1 0) (a2 0) (a3 0) (a4 0) (a5 0) (a6 0) (a7 0) (a8 0) Z0) ++ ((wX5 g a1 T1) ++ ((wX5 g a2 T2) ++ ((wX5 g a3 T3) ++ ((wX3 g a4 G4 R4) ++ ((wX4 g a5 P5) ++ ((wX2 g a6 (a1 0) (a3 0)) ++ ((wX1 g a7 (a1 0) (a3 0) O7 B7) ++ (wX0 g a8 (a1 0) (a3 0) (a4 0)))))))))) s.heap.size q := fun q h => Or.inr h
  generalize va_A ((wX6 g a0 (a1 0) (a2 0) (a3 0) (a4 0) (a5 0) (a6 0) (a7 0) (a8 0) Z0) ++ ((wX5 g a1 T1) ++ ((wX5 g a2 T2) ++ ((wX5 g a3 T3) ++ ((wX3 g a4 G4 R4) ++ ((wX4 g a5 P5) ++ ((wX2 g a6 (a1 0) (a3 0)) ++ ((wX1 g a7 (a1 0) (a3 0) O7 B7) ++ (wX0 g a8 (a1 0) (a3 0) (a4 0)))))))))) s.heap.size = A at hw hA ⊢
  clear hP hD0
  have hl := lv_entry ([.ref (a0 0), .int p1, .int p2]) (n := 3) (Nat.le_of_ble_eq_true rfl)
  rw [lg_entry_eq]
  generalize (lg_sl ([.ref (a0 0), .int p1, .int p2]) ++ List.replicate (3 - (lg_sl ([.ref (a0 0), .int p1, .int p2])).length) Slot.unset).toArray = ls at hl ⊢
  have hl : lv_has ls 3 [(0, .ref (a0 0)), (1, .int p1), (2, .int p2)] := hl
  rw [f_X6_worth] at hM
  refine lv_aload_n hx hb dX6_worth_0 rfl (lv_at hl 0 rfl) ?_
  refine wk_get hx hb hts hin_X6 hown hK hw.1 6 0 0 (.ref (a1 0)) rfl rfl (by decide) (mi 1 rfl) rfl rfl dX6_worth_1 ?_
  refine lv_iload_n hx hb dX6_worth_4 rfl (lv_at hl 1 rfl) ?_
  refine rVR (wc := (wX5 g a1 T1)) (As := [.int p1]) (rest := []) (q0 := 0) hS (c_X5_isOne l g a1 T1 p1) gX6_worth_X5_isOne rfl hd_X5_isOne ⟨Nat.le_of_ble_eq_true rfl, Nat.le_of_ble_eq_true rfl⟩ hK (va_P.pm hw.1 (pm_9_1 _ _ _ _ _ _ _ _ _)) rfl rfl rfl rfl hl.1 rfl (Nat.le_of_ble_eq_true rfl) dX6_worth_5 ⟨Nat.zero_le _, Nat.zero_le _⟩ ?_
  refine lv_if_eq (tgt := 18) hx hb dX6_worth_8 (by decide) (fun c2 => ?_) (fun c2 => ?_)
  · replace hM := itp c2 hM
    refine lv_aload_n hx hb dX6_worth_18 rfl (lv_at hl 0 rfl) ?_
    refine lv_bipush (v := (-2 : Int32)) hx hb dX6_worth_19 (by decide) ?_
    obtain ⟨q4, h3, hM⟩ := bd hM
    refine rVWp (wc := ((wX6 g a0 (a1 0) (a2 0) (a3 0) (a4 0) (a5 0) (a6 0) (a7 0) (a8 0) Z0) ++ ((wX5 g a1 T1) ++ ((wX5 g a2 T2) ++ ((wX5 g a3 T3) ++ ((wX3 g a4 G4 R4) ++ ((wX4 g a5 P5) ++ ((wX2 g a6 (a1 0) (a3 0)) ++ ((wX1 g a7 (a1 0) (a3 0) O7 B7) ++ (wX0 g a8 (a1 0) (a3 0) (a4 0))))))))))) (wq := ((wX6 g a0 (a1 0) (a2 0) (a3 0) (a4 0) (a5 0) (a6 0) (a7 0) (a8 0) q4.2) ++ ((wX5 g a1 T1) ++ ((wX5 g a2 T2) ++ ((wX5 g a3 T3) ++ ((wX3 g a4 G4 R4) ++ ((wX4 g a5 P5) ++ ((wX2 g a6 (a1 0) (a3 0)) ++ ((wX1 g a7 (a1 0) (a3 0) O7 B7) ++ (wX0 g a8 (a1 0) (a3 0) (a4 0))))))))))) (As := [.int (-2 : Int32)]) (rest := []) (q0 := 0) hS (c_X6_refuse l g a0 a1 a2 a3 a4 a5 a6 a7 a8 Z0 T1 T2 T3 G4 R4 P5 O7 B7 (-2 : Int32) h3) gX6_worth_X6_refuse rfl hd_X6_refuse ⟨Nat.le_of_ble_eq_true rfl, Nat.le_of_ble_eq_true rfl⟩ hK hw hA (pm_9_0_1_2_3_4_5_6_7_8 _ _ _ _ _ _ _ _ _) rfl (pm_9_0_1_2_3_4_5_6_7_8 _ _ _ _ _ _ _ _ _) rfl rfl rfl rfl hl.1 rfl (Nat.le_of_ble_eq_true rfl) dX6_worth_21 ⟨Nat.zero_le _, Nat.zero_le _⟩ (fun H locs hw => ?_)
    obtain rfl := Option.some.inj hM
    exact W.iret hx hb hr (fun t ht _ => ⟨rfl, by rw [ht]; exact hw.1, hw.2.2.F ht⟩) hw.2.2.2.2 dX6_worth_24
  · replace hM := itn c2 hM
    refine lv_iload_n hx hb dX6_worth_11 rfl (lv_at hl 2 rfl) ?_
    refine rSR (wc := ([] : va_W)) (As := [.int p2]) (rest := []) hS (c_X6_isRounds l g p2) gX6_worth_X6_isRounds rfl hd_X6_isRounds ⟨Nat.le_of_ble_eq_true rfl, Nat.le_of_ble_eq_true rfl⟩ hK (hP_nil) rfl hl.1 rfl (Nat.le_of_ble_eq_true rfl) dX6_worth_12 ⟨Nat.zero_le _, Nat.zero_le _⟩ ?_
    refine lv_if_ne (tgt := 25) hx hb dX6_worth_15 (by decide) (fun c6 => ?_) (fun c6 => ?_)
    · replace hM := itn c6 hM
      refine lv_aload_n hx hb dX6_worth_25 rfl (lv_at hl 0 rfl) ?_
      refine wk_get hx hb hts hin_X6 hown hK hw.1 6 0 5 (.ref (a6 0)) rfl rfl (by decide) (mi 2 rfl) rfl rfl dX6_worth_26 ?_
      refine lv_iload_n hx hb dX6_worth_29 rfl (lv_at hl 1 rfl) ?_
      refine lv_iload_n hx hb dX6_worth_30 rfl (lv_at hl 2 rfl) ?_
      obtain ⟨q10, h9, hM⟩ := bd hM
      refine rVWp (wc := ((wX2 g a6 (a1 0) (a3 0)) ++ ((wX5 g a1 T1) ++ (wX5 g a3 T3)))) (wq := ((wX6 g a0 (a1 0) (a2 0) (a3 0) (a4 0) (a5 0) (a6 0) (a7 0) (a8 0) Z0) ++ ((wX5 g a1 T1) ++ ((wX5 g a2 T2) ++ ((wX5 g a3 q10.2) ++ ((wX3 g a4 G4 R4) ++ ((wX4 g a5 P5) ++ ((wX2 g a6 (a1 0) (a3 0)) ++ ((wX1 g a7 (a1 0) (a3 0) O7 B7) ++ (wX0 g a8 (a1 0) (a3 0) (a4 0))))))))))) (As := [.int p1, .int p2]) (rest := []) (q0 := 0) hS (c_X2_lostWithout l g a6 a1 a3 T1 T3 p1 p2 h9) gX6_worth_X2_lostWithout rfl hd_X2_lostWithout ⟨Nat.le_of_ble_eq_true rfl, Nat.le_of_ble_eq_true rfl⟩ hK hw hA (pm_9_6_1_3 _ _ _ _ _ _ _ _ _) rfl (pm_9_6_1_3 _ _ _ _ _ _ _ _ _) rfl rfl rfl rfl hl.1 rfl (Nat.le_of_ble_eq_true rfl) dX6_worth_31 ⟨Nat.zero_le _, Nat.zero_le _⟩ (fun H locs hw => ?_)
      obtain rfl := Option.some.inj hM
      exact W.iret hx hb hr (fun t ht _ => ⟨rfl, by rw [ht]; exact hw.1, hw.2.2.F ht⟩) hw.2.2.2.2 dX6_worth_34
    · replace hM := itp c6 hM
      refine lv_aload_n hx hb dX6_worth_18 rfl (lv_at hl 0 rfl) ?_
      refine lv_bipush (v := (-2 : Int32)) hx hb dX6_worth_19 (by decide) ?_
      obtain ⟨q8, h7, hM⟩ := bd hM
      refine rVWp (wc := ((wX6 g a0 (a1 0) (a2 0) (a3 0) (a4 0) (a5 0) (a6 0) (a7 0) (a8 0) Z0) ++ ((wX5 g a1 T1) ++ ((wX5 g a2 T2) ++ ((wX5 g a3 T3) ++ ((wX3 g a4 G4 R4) ++ ((wX4 g a5 P5) ++ ((wX2 g a6 (a1 0) (a3 0)) ++ ((wX1 g a7 (a1 0) (a3 0) O7 B7) ++ (wX0 g a8 (a1 0) (a3 0) (a4 0))))))))))) (wq := ((wX6 g a0 (a1 0) (a2 0) (a3 0) (a4 0) (a5 0) (a6 0) (a7 0) (a8 0) q8.2) ++ ((wX5 g a1 T1) ++ ((wX5 g a2 T2) ++ ((wX5 g a3 T3) ++ ((wX3 g a4 G4 R4) ++ ((wX4 g a5 P5) ++ ((wX2 g a6 (a1 0) (a3 0)) ++ ((wX1 g a7 (a1 0) (a3 0) O7 B7) ++ (wX0 g a8 (a1 0) (a3 0) (a4 0))))))))))) (As := [.int (-2 : Int32)]) (rest := []) (q0 := 0) hS (c_X6_refuse l g a0 a1 a2 a3 a4 a5 a6 a7 a8 Z0 T1 T2 T3 G4 R4 P5 O7 B7 (-2 : Int32) h7) gX6_worth_X6_refuse rfl hd_X6_refuse ⟨Nat.le_of_ble_eq_true rfl, Nat.le_of_ble_eq_true rfl⟩ hK hw hA (pm_9_0_1_2_3_4_5_6_7_8 _ _ _ _ _ _ _ _ _) rfl (pm_9_0_1_2_3_4_5_6_7_8 _ _ _ _ _ _ _ _ _) rfl rfl rfl rfl hl.1 rfl (Nat.le_of_ble_eq_true rfl) dX6_worth_21 ⟨Nat.zero_le _, Nat.zero_le _⟩ (fun H locs hw => ?_)
      obtain rfl := Option.some.inj hM
      exact W.iret hx hb hr (fun t ht _ => ⟨rfl, by rw [ht]; exact hw.1, hw.2.2.F ht⟩) hw.2.2.2.2 dX6_worth_24
