theorem hd_X6_holds : yX6_holds.cls = RX6 ∧ yX6_holds.cls ≠ "java/lang/invoke/MethodHandle" ∧ yX6_holds.cls ≠ "java/lang/invoke/VarHandle" ∧ (parseMethodDescriptor yX6_holds.desc).map (fun d => d.parameters.length) = some 1 := by decide +kernel
set_option maxHeartbeats 4000000 in
set_option maxRecDepth 100000 in
theorem c_X6_holds (l : Launch) (g : Gm) (a0 : Nat → Nat) (a1 : Nat → Nat) (a2 : Nat → Nat) (a3 : Nat → Nat) (a4 : Nat → Nat) (a5 : Nat → Nat) (a6 : Nat → Nat) (a7 : Nat → Nat) (a8 : Nat → Nat) (Z0 : TS) (T1 : TS) (T2 : TS) (T3 : TS) (G4 : TS) (R4 : LTS) (P5 : TS) (O7 : TS) (B7 : TS) (p1 : Int32) {q : Int32} (hM : f_X6_holds Z0 T1 T2 T3 G4 R4 P5 O7 B7 p1 = some q) : MR l yX6_holds wsX6_holds 3 63 g [.ref (a0 0), .int p1] ((wX6 g a0 (a1 0) (a2 0) (a3 0) (a4 0) (a5 0) (a6 0) (a7 0) (a8 0) Z0) ++ ((wX5 g a1 T1) ++ ((wX5 g a2 T2) ++ ((wX5 g a3 T3) ++ ((wX3 g a4 G4 R4) ++ ((wX4 g a5 P5) ++ ((wX2 g a6 (a1 0) (a3 0)) ++ ((wX1 g a7 (a1 0) (a3 0) O7 B7) ++ (wX0 g a8 (a1 0) (a3 0) (a4 0)))))))))) (some (.int q)) := by
  refine Met.ofW (cc := cX6_holds) (maxL := 2) (ret := (some .int)) (by decide) rfl ?_
  intro p e s m args below meth c s₁ B hml hv
  obtain ⟨rfl, hP, hK⟩ := hv
  have hx := B.exec; have hb := B.bytes; have hr := B.returns
  have hts := atoms_spec (ws := wsX6_holds) B.pre
  have hown : s.vm.findClass RX6 = some m.cls := findClass_of_methodNamed B.named
  have hlocks := B.notSynchronized
  have hS : CallFix p m c cX6_holds 2 s _ wsX6_holds RX6 := ⟨hx, hb, hml, hown, hts⟩
  have hin_X6 : ∀ w ∈ wsX60, w ∈ wsX6_holds := fun w h => (List.mem_cons_of_mem _ (List.mem_append_left _ (List.mem_append_right _ h)))
  have hl := lv_entry ([.ref (a0 0), .int p1]) (n := 2) (Nat.le_of_ble_eq_true rfl)
  rw [lg_entry_eq]
  generalize (lg_sl ([.ref (a0 0), .int p1]) ++ List.replicate (2 - (lg_sl ([.ref (a0 0), .int p1])).length) Slot.unset).toArray = ls at hl ⊢
  have hl : lv_has ls 2 [(0, .ref (a0 0)), (1, .int p1)] := hl
  rw [f_X6_holds] at hM
  refine lv_aload_n hx hb dX6_holds_0 rfl (lv_at hl 0 rfl) ?_
  refine wk_get hx hb hts hin_X6 hown hK hP 6 0 3 (.ref (a4 0)) rfl rfl (by decide) (mi 1 rfl) rfl rfl dX6_holds_1 ?_
  refine lv_iload_n hx hb dX6_holds_4 rfl (lv_at hl 1 rfl) ?_
  obtain ⟨q2, h1, hM⟩ := bd hM
  refine rVR (wc := (wX3 g a4 G4 R4)) (As := [.int p1]) (rest := []) (q0 := 0) hS (c_X3_heldBy l g a4 G4 R4 p1 h1) gX6_holds_X3_heldBy rfl hd_X3_heldBy ⟨Nat.le_of_ble_eq_true rfl, Nat.le_of_ble_eq_true rfl⟩ hK (va_P.pm hP (pm_9_4 _ _ _ _ _ _ _ _ _)) rfl rfl rfl rfl hl.1 rfl (Nat.le_of_ble_eq_true rfl) dX6_holds_5 ⟨Nat.zero_le _, Nat.zero_le _⟩ ?_
  obtain rfl := Option.some.inj hM
  exact W.iret hx hb hr (fun t ht _ => ⟨rfl, ht⟩) (fun q hq => by cases hq) dX6_holds_8
theorem hd_X6_image : yX6_image.cls = RX6 ∧ yX6_image.cls ≠ "java/lang/invoke/MethodHandle" ∧ yX6_image.cls ≠ "java/lang/invoke/VarHandle" ∧ (parseMethodDescriptor yX6_image.desc).map (fun d => d.parameters.length) = some 0 := by decide +kernel
set_option maxHeartbeats 4000000 in
set_option maxRecDepth 100000 in
theorem c_X6_image (l : Launch) (g : Gm) (a0 : Nat → Nat) (a1 : Nat → Nat) (a2 : Nat → Nat) (a3 : Nat → Nat) (a4 : Nat → Nat) (a5 : Nat → Nat) (a6 : Nat → Nat) (a7 : Nat → Nat) (a8 : Nat → Nat) (Z0 : TS) (T1 : TS) (T2 : TS) (T3 : TS) (G4 : TS) (R4 : LTS) (P5 : TS) (O7 : TS) (B7 : TS) {q : (Int32 × TS × TS)} (hM : f_X6_image Z0 T1 T2 T3 G4 R4 P5 O7 B7 = some q) : MW l yX6_image wsX6_image 2 101 g [.ref (a0 0)] ((wX6 g a0 (a1 0) (a2 0) (a3 0) (a4 0) (a5 0) (a6 0) (a7 0) (a8 0) Z0) ++ ((wX5 g a1 T1) ++ ((wX5 g a2 T2) ++ ((wX5 g a3 T3) ++ ((wX3 g a4 G4 R4) ++ ((wX4 g a5 P5) ++ ((wX2 g a6 (a1 0) (a3 0)) ++ ((wX1 g a7 (a1 0) (a3 0) O7 B7) ++ (wX0 g a8 (a1 0) (a3 0) (a4 0)))))))))) (some (.int q.1)) ((wX6 g a0 (a1 0) (a2 0) (a3 0) (a4 0) (a5 0) (a6 0) (a7 0) (a8 0) q.2.1) ++ ((wX5 g a1 T1) ++ ((wX5 g a2 q.2.2) ++ ((wX5 g a3 T3) ++ ((wX3 g a4 G4 R4) ++ ((wX4 g a5 P5) ++ ((wX2 g a6 (a1 0) (a3 0)) ++ ((wX1 g a7 (a1 0) (a3 0) O7 B7) ++ (wX0 g a8 (a1 0) (a3 0) (a4 0)))))))))) := by
  intro sz
  refine Met.ofW (cc := cX6_image) (maxL := 1) (ret := (some .int)) (by decide) rfl ?_
  intro p e s m args below meth c s₁ B hml hv
  obtain ⟨rfl, hsz, hP, hK, hD0⟩ := hv
  have hx := B.exec; have hb := B.bytes; have hr := B.returns
  have hts := atoms_spec (ws := wsX6_image) B.pre
  have hown : s.vm.findClass RX6 = some m.cls := findClass_of_methodNamed B.named
  have hlocks := B.notSynchronized
  have hS : CallFix p m c cX6_image 1 s _ wsX6_image RX6 := ⟨hx, hb, hml, hown, hts⟩
  have hin_X6 : ∀ w ∈ wsX60, w ∈ wsX6_image := fun w h => (List.mem_cons_of_mem _ (List.mem_append_left _ (List.mem_append_right _ h)))
  subst hsz
  have hw := wk_start hP hD0
  have hA : ∀ q : Nat, s.heap.size ≤ q → va_A ((wX6 g a0 (a1 0) (a2 0) (a3 0) (a4 0) (a5 0) (a6 0) (a7 0) (a8 0) Z0) ++ ((wX5 g a1 T1) ++ ((wX5 g a2 T2) ++ ((wX5 g a3 T3) ++ ((wX3 g a4 G4 R4) ++ ((wX4 g a5 P5) ++ ((wX2 g a6 (a1 0) (a3 0)) ++ ((wX1 g a7 (a1 0) (a3 0) O7 B7) ++ (wX0 g a8 (a1 0) (a3 0) (a4 0)))))))))) s.heap.size q := fun q h => Or.inr h
  generalize va_A ((wX6 g a0 (a1 0) (a2 0) (a3 0) (a4 0) (a5 0) (a6 0) (a7 0) (a8 0) Z0) ++ ((wX5 g a1 T1) ++ ((wX5 g a2 T2) ++ ((wX5 g a3 T3) ++ ((wX3 g a4 G4 R4) ++ ((wX4 g a5 P5) ++ ((wX2 g a6 (a1 0) (a3 0)) ++ ((wX1 g a7 (a1 0) (a3 0) O7 B7) ++ (wX0 g a8 (a1 0) (a3 0) (a4 0)))))))))) s.heap.size = A at hw hA ⊢
  clear hP hD0
  have hl := lv_entry ([.ref (a0 0)]) (n := 1) (Nat.le_of_ble_eq_true rfl)
  rw [lg_entry_eq]
  generalize (lg_sl ([.ref (a0 0)]) ++ List.replicate (1 - (lg_sl ([.ref (a0 0)])).length) Slot.unset).toArray = ls at hl ⊢
  have hl : lv_has ls 1 [(0, .ref (a0 0))] := hl
  rw [f_X6_image] at hM
  refine lv_aload_n hx hb dX6_image_0 rfl (lv_at hl 0 rfl) ?_
  refine wk_get hx hb hts hin_X6 hown hK hw.1 6 0 1 (.ref (a2 0)) rfl rfl (by decide) (mi 1 rfl) rfl rfl dX6_image_1 ?_
  refine lv_aload_n hx hb dX6_image_4 rfl (lv_at hl 0 rfl) ?_
  refine wk_get hx hb hts hin_X6 hown hK hw.1 6 0 0 (.ref (a1 0)) rfl rfl (by decide) (mi 2 rfl) rfl rfl dX6_image_5 ?_
  obtain ⟨q2, h1, hM⟩ := bd hM
  refine rVWp (wc := ((wX5 g a2 T2) ++ (wX5 g a1 T1))) (wq := ((wX6 g a0 (a1 0) (a2 0) (a3 0) (a4 0) (a5 0) (a6 0) (a7 0) (a8 0) Z0) ++ ((wX5 g a1 T1) ++ ((wX5 g a2 q2) ++ ((wX5 g a3 T3) ++ ((wX3 g a4 G4 R4) ++ ((wX4 g a5 P5) ++ ((wX2 g a6 (a1 0) (a3 0)) ++ ((wX1 g a7 (a1 0) (a3 0) O7 B7) ++ (wX0 g a8 (a1 0) (a3 0) (a4 0))))))))))) (As := [.ref (a1 0)]) (rest := []) (q0 := 0) hS (c_X5_become l g a2 a1 T2 T1 h1) gX6_image_X5_become rfl hd_X5_become ⟨Nat.le_of_ble_eq_true rfl, Nat.le_of_ble_eq_true rfl⟩ hK hw hA (pm_9_2_1 _ _ _ _ _ _ _ _ _) rfl (pm_9_2_1 _ _ _ _ _ _ _ _ _) rfl rfl rfl rfl hl.1 rfl (Nat.le_of_ble_eq_true rfl) dX6_image_8 ⟨Nat.zero_le _, Nat.zero_le _⟩ (fun H locs hw => ?_)
  refine lv_aload_n hx hb dX6_image_11 rfl (lv_at hl 0 rfl) ?_
  refine lv_iconst (v := (1 : Int32)) hx hb dX6_image_12 (by decide) ?_
  refine wk_put (wq := ((wX6 g a0 (a1 0) (a2 0) (a3 0) (a4 0) (a5 0) (a6 0) (a7 0) (a8 0) (up Z0 9 (fun _ => (1 : Int32)))) ++ ((wX5 g a1 T1) ++ ((wX5 g a2 q2) ++ ((wX5 g a3 T3) ++ ((wX3 g a4 G4 R4) ++ ((wX4 g a5 P5) ++ ((wX2 g a6 (a1 0) (a3 0)) ++ ((wX1 g a7 (a1 0) (a3 0) O7 B7) ++ (wX0 g a8 (a1 0) (a3 0) (a4 0))))))))))) hx hb hts hin_X6 tyX6 tyX6_ok nmX6 hown hK hw 6 0 9 rfl rfl (by decide) (mi 3 rfl) rfl rfl rfl rfl (Nat.le_of_ble_eq_true rfl) dX6_image_13 rfl (fun H locs hw => ?_)
  refine lv_iconst (v := (1 : Int32)) hx hb dX6_image_16 (by decide) ?_
  obtain rfl := Option.some.inj hM
  exact W.iret hx hb hr (fun t ht _ => ⟨rfl, by rw [ht]; exact hw.1, hw.2.2.F ht⟩) hw.2.2.2.2 dX6_image_17
theorem hd_X6_isKind : yX6_isKind.cls ≠ "java/lang/invoke/MethodHandle" ∧ yX6_isKind.cls ≠ "java/lang/invoke/VarHandle" ∧ (parseMethodDescriptor yX6_isKind.desc).map (fun d => d.parameters.length) = some 1 := by decide +kernel
set_option maxHeartbeats 4000000 in
set_option maxRecDepth 100000 in
theorem c_X6_isKind (l : Launch) (g : Gm) (p0 : Int32) : MR l yX6_isKind wsX6_isKind 1 22 g [.int p0] ([] : va_W) (some (.int (f_X6_isKind p0))) := by
  refine Met.ofW (cc := cX6_isKind) (maxL := 1) (ret := (some .boolean)) (by decide) rfl ?_
  intro p e s m args below meth c s₁ B hml hv
  obtain ⟨rfl, hP, hK⟩ := hv
  have hx := B.exec; have hb := B.bytes; have hr := B.returns
  have hts := atoms_spec (ws := wsX6_isKind) B.pre
  have hown : s.vm.findClass RX6 = some m.cls := findClass_of_methodNamed B.named
  have hlocks := B.notSynchronized
  have hS : CallFix p m c cX6_isKind 1 s _ wsX6_isKind RX6 := ⟨hx, hb, hml, hown, hts⟩
  have hl := lv_entry ([.int p0]) (n := 1) (Nat.le_of_ble_eq_true rfl)
  rw [lg_entry_eq]
  generalize (lg_sl ([.int p0]) ++ List.replicate (1 - (lg_sl ([.int p0])).length) Slot.unset).toArray = ls at hl ⊢
  have hl : lv_has ls 1 [(0, .int p0)] := hl
  obtain ⟨rr, hM⟩ : ∃ rr, f_X6_isKind p0 = rr := ⟨_, rfl⟩
  rw [hM]
  rw [f_X6_isKind] at hM
  refine lv_iload_n hx hb dX6_isKind_0 rfl (lv_at hl 0 rfl) ?_
  refine lv_iconst (v := (0 : Int32)) hx hb dX6_isKind_1 (by decide) ?_
  refine lv_iconst (v := (5 : Int32)) hx hb dX6_isKind_2 (by decide) ?_
  refine rSR (wc := ([] : va_W)) (As := [.int p0, .int (0 : Int32), .int (5 : Int32)]) (rest := []) hS (c_X6_isWithin l g p0 (0 : Int32) (5 : Int32)) gX6_isKind_X6_isWithin rfl hd_X6_isWithin ⟨Nat.le_of_ble_eq_true rfl, Nat.le_of_ble_eq_true rfl⟩ hK (hP_nil) rfl hl.1 rfl (Nat.le_of_ble_eq_true rfl) dX6_isKind_3 ⟨Nat.zero_le _, Nat.zero_le _⟩ ?_
  subst hM
  exact W.zret hx hb hr (nz (bz_X6_isWithin p0 (0 : Int32) (5 : Int32))) (fun t ht _ => ⟨rfl, ht⟩) (fun q hq => by cases hq) dX6_isKind_6
theorem hd_X6_judge : yX6_judge.cls = RX6 ∧ yX6_judge.cls ≠ "java/lang/invoke/MethodHandle" ∧ yX6_judge.cls ≠ "java/lang/invoke/VarHandle" ∧ (parseMethodDescriptor yX6_judge.desc).map (fun d => d.parameters.length) = some 2 := by decide +kernel
set_option maxHeartbeats 4000000 in
set_option maxRecDepth 100000 in
theorem c_X6_judge (l : Launch) (g : Gm) (a0 : Nat → Nat) (a1 : Nat → Nat) (a2 : Nat → Nat) (a3 : Nat → Nat) (a4 : Nat → Nat) (a5 : Nat → Nat) (a6 : Nat → Nat) (a7 : Nat → Nat) (a8 : Nat → Nat) (Z0 : TS) (T1 : TS) (T2 : TS) (T3 : TS) (G4 : TS) (R4 : LTS) (P5 : TS) (O7 : TS) (B7 : TS) (p1 : Int32) (p2 : Int32) {q : (Int32 × TS × TS)} (hM : f_X6_judge Z0 T1 T2 T3 G4 R4 P5 O7 B7 p1 p2 = some q) : MW l yX6_judge wsX6_judge 5 126 g [.ref (a0 0), .int p1, .int p2] ((wX6 g a0 (a1 0) (a2 0) (a3 0) (a4 0) (a5 0) (a6 0) (a7 0) (a8 0) Z0) ++ ((wX5 g a1 T1) ++ ((wX5 g a2 T2) ++ ((wX5 g a3 T3) ++ ((wX3 g a4 G4 R4) ++ ((wX4 g a5 P5) ++ ((wX2 g a6 (a1 0) (a3 0)) ++ ((wX1 g a7 (a1 0) (a3 0) O7 B7) ++ (wX0 g a8 (a1 0) (a3 0) (a4 0)))))))))) (some (.int q.1)) ((wX6 g a0 (a1 0) (a2 0) (a3 0) (a4 0) (a5 0) (a6 0) (a7 0) (a8 0) q.2.1) ++ ((wX5 g a1 T1) ++ ((wX5 g a2 T2) ++ ((wX5 g a3 q.2.2) ++ ((wX3 g a4 G4 R4) ++ ((wX4 g a5 P5) ++ ((wX2 g a6 (a1 0) (a3 0)) ++ ((wX1 g a7 (a1 0) (a3 0) O7 B7) ++ (wX0 g a8 (a1 0) (a3 0) (a4 0)))))))))) := by
  intro sz
  refine Met.ofW (cc := cX6_judge) (maxL := 4) (ret := (some .int)) (by decide) rfl ?_
  intro p e s m args below meth c s₁ B hml hv
  obtain ⟨rfl, hsz, hP, hK, hD0⟩ := hv
  have hx := B.exec; have hb := B.bytes; have hr := B.returns
  have hts := atoms_spec (ws := wsX6_judge) B.pre
  have hown : s.vm.findClass RX6 = some m.cls := findClass_of_methodNamed B.named
  have hlocks := B.notSynchronized
  have hS : CallFix p m c cX6_judge 4 s _ wsX6_judge RX6 := ⟨hx, hb, hml, hown, hts⟩
  have hin_X6 : ∀ w ∈ wsX60, w ∈ wsX6_judge := fun w h => (List.mem_cons_of_mem _ (List.mem_append_left _ (List.mem_append_left _ (List.mem_append_left _ (List.mem_append_right _ h)))))
  subst hsz
  have hw := wk_start hP hD0
  have hA : ∀ q : Nat, s.heap.size ≤ q → va_A ((wX6 g a0 (a1 0) (a2 0) (a3 0) (a4 0) (a5 0) (a6 0) (a7 0) (a8 0) Z0) ++ ((wX5 g a1 T1) ++ ((wX5 g a2 T2) ++ ((wX5 g a3 T3) ++ ((wX3 g a4 G4 R4) ++ ((wX4 g a5 P5) ++ ((wX2 g a6 (a1 0) (a3 0)) ++ ((wX1 g a7 (a1 0) (a3 0) O7 B7) ++ (wX0 g a8 (a1 0) (a3 0) (a4 0)))))))))) s.heap.size q := fun q h => Or.inr h
  generalize va_A ((wX6 g a0 (a1 0) (a2 0) (a3 0) (a4 0) (a5 0) (a6 0) (a7 0) (a8 0) Z0) ++ ((wX5 g a1 T1) ++ ((wX5 g a2 T2) ++ ((wX5 g a3 T3) ++ ((wX3 g a4 G4 R4) ++ ((wX4 g a5 P5) ++ ((wX2 g a6 (a1 0) (a3 0)) ++ ((wX1 g a7 (a1 0) (a3 0) O7 B7) ++ (wX0 g a8 (a1 0) (a3 0) (a4 0)))))))))) s.heap.size = A at hw hA ⊢
  clear hP hD0
  have hl := lv_entry ([.ref (a0 0), .int p1, .int p2]) (n := 4) (Nat.le_of_ble_eq_true rfl)
  rw [lg_entry_eq]
  generalize (lg_sl ([.ref (a0 0), .int p1, .int p2]) ++ List.replicate (4 - (lg_sl ([.ref (a0 0), .int p1, .int p2])).length) Slot.unset).toArray = ls at hl ⊢
  have hl : lv_has ls 4 [(0, .ref (a0 0)), (1, .int p1), (2, .int p2)] := hl
  rw [f_X6_judge] at hM
  refine lv_aload_n hx hb dX6_judge_0 rfl (lv_at hl 0 rfl) ?_
  refine lv_iload_n hx hb dX6_judge_1 rfl (lv_at hl 1 rfl) ?_
  refine lv_iload_n hx hb dX6_judge_2 rfl (lv_at hl 2 rfl) ?_
  obtain ⟨q2, h1, hM⟩ := bd hM
  refine rVR (wc := ((wX6 g a0 (a1 0) (a2 0) (a3 0) (a4 0) (a5 0) (a6 0) (a7 0) (a8 0) Z0) ++ ((wX5 g a1 T1) ++ ((wX5 g a2 T2) ++ ((wX5 g a3 T3) ++ ((wX3 g a4 G4 R4) ++ ((wX4 g a5 P5) ++ ((wX2 g a6 (a1 0) (a3 0)) ++ ((wX1 g a7 (a1 0) (a3 0) O7 B7) ++ (wX0 g a8 (a1 0) (a3 0) (a4 0))))))))))) (As := [.int p1, .int p2]) (rest := []) (q0 := 0) hS (c_X6_troubleWithEvening l g a0 a1 a2 a3 a4 a5 a6 a7 a8 Z0 T1 T2 T3 G4 R4 P5 O7 B7 p1 p2 h1) gX6_judge_X6_troubleWithEvening rfl hd_X6_troubleWithEvening ⟨Nat.le_of_ble_eq_true rfl, Nat.le_of_ble_eq_true rfl⟩ hK (va_P.pm hw.1 (pm_9_0_1_2_3_4_5_6_7_8 _ _ _ _ _ _ _ _ _)) rfl rfl rfl rfl hl.1 rfl (Nat.le_of_ble_eq_true rfl) dX6_judge_3 ⟨Nat.zero_le _, Nat.zero_le _⟩ ?_
  refine lv_istore_n (lv' := [(3, .int q2), (0, .ref (a0 0)), (1, .int p1), (2, .int p2)]) hx hb dX6_judge_6 rfl hl (by decide) rfl (fun ls hl => ?_)
  refine lv_iload_n hx hb dX6_judge_7 rfl (lv_at hl 0 rfl) ?_
  refine lv_if_eq (tgt := 19) hx hb dX6_judge_8 (by decide) (fun c3 => ?_) (fun c3 => ?_)
  · replace hM := itp c3 hM
    refine lv_aload_n hx hb dX6_judge_19 rfl (lv_at hl 1 rfl) ?_
    refine wk_get hx hb hts hin_X6 hown hK hw.1 6 0 7 (.ref (a8 0)) rfl rfl (by decide) (mi 1 rfl) rfl rfl dX6_judge_20 ?_
    refine lv_iload_n hx hb dX6_judge_23 rfl (lv_at hl 2 rfl) ?_
    refine lv_iload_n hx hb dX6_judge_24 rfl (lv_at hl 3 rfl) ?_
    obtain ⟨q5, h4, hM⟩ := bd hM
    refine rVWp (wc := ((wX0 g a8 (a1 0) (a3 0) (a4 0)) ++ ((wX5 g a1 T1) ++ ((wX5 g a3 T3) ++ (wX3 g a4 G4 R4))))) (wq := ((wX6 g a0 (a1 0) (a2 0) (a3 0) (a4 0) (a5 0) (a6 0) (a7 0) (a8 0) Z0) ++ ((wX5 g a1 T1) ++ ((wX5 g a2 T2) ++ ((wX5 g a3 q5.2) ++ ((wX3 g a4 G4 R4) ++ ((wX4 g a5 P5) ++ ((wX2 g a6 (a1 0) (a3 0)) ++ ((wX1 g a7 (a1 0) (a3 0) O7 B7) ++ (wX0 g a8 (a1 0) (a3 0) (a4 0))))))))))) (As := [.int p1, .int p2]) (rest := []) (q0 := 0) hS (c_X0_firstWrong l g a8 a1 a3 a4 T1 T3 G4 R4 p1 p2 h4) gX6_judge_X0_firstWrong rfl hd_X0_firstWrong ⟨Nat.le_of_ble_eq_true rfl, Nat.le_of_ble_eq_true rfl⟩ hK hw hA (pm_9_8_1_3_4 _ _ _ _ _ _ _ _ _) rfl (pm_9_8_1_3_4 _ _ _ _ _ _ _ _ _) rfl rfl rfl rfl hl.1 rfl (Nat.le_of_ble_eq_true rfl) dX6_judge_25 ⟨Nat.zero_le _, Nat.zero_le _⟩ (fun H locs hw => ?_)
    obtain rfl := Option.some.inj hM
    exact W.iret hx hb hr (fun t ht _ => ⟨rfl, by rw [ht]; exact hw.1, hw.2.2.F ht⟩) hw.2.2.2.2 dX6_judge_28
  · replace hM := itn c3 hM
    refine lv_aload_n hx hb dX6_judge_11 rfl (lv_at hl 1 rfl) ?_
    refine lv_iload_n hx hb dX6_judge_12 rfl (lv_at hl 0 rfl) ?_
    obtain ⟨q7, h6, hM⟩ := bd hM
    refine rVWp (wc := ((wX6 g a0 (a1 0) (a2 0) (a3 0) (a4 0) (a5 0) (a6 0) (a7 0) (a8 0) Z0) ++ ((wX5 g a1 T1) ++ ((wX5 g a2 T2) ++ ((wX5 g a3 T3) ++ ((wX3 g a4 G4 R4) ++ ((wX4 g a5 P5) ++ ((wX2 g a6 (a1 0) (a3 0)) ++ ((wX1 g a7 (a1 0) (a3 0) O7 B7) ++ (wX0 g a8 (a1 0) (a3 0) (a4 0))))))))))) (wq := ((wX6 g a0 (a1 0) (a2 0) (a3 0) (a4 0) (a5 0) (a6 0) (a7 0) (a8 0) q7.2) ++ ((wX5 g a1 T1) ++ ((wX5 g a2 T2) ++ ((wX5 g a3 T3) ++ ((wX3 g a4 G4 R4) ++ ((wX4 g a5 P5) ++ ((wX2 g a6 (a1 0) (a3 0)) ++ ((wX1 g a7 (a1 0) (a3 0) O7 B7) ++ (wX0 g a8 (a1 0) (a3 0) (a4 0))))))))))) (As := [.int q2]) (rest := []) (q0 := 0) hS (c_X6_refuse l g a0 a1 a2 a3 a4 a5 a6 a7 a8 Z0 T1 T2 T3 G4 R4 P5 O7 B7 q2 h6) gX6_judge_X6_refuse rfl hd_X6_refuse ⟨Nat.le_of_ble_eq_true rfl, Nat.le_of_ble_eq_true rfl⟩ hK hw hA (pm_9_0_1_2_3_4_5_6_7_8 _ _ _ _ _ _ _ _ _) rfl (pm_9_0_1_2_3_4_5_6_7_8 _ _ _ _ _ _ _ _ _) rfl rfl rfl rfl hl.1 rfl (Nat.le_of_ble_eq_true rfl) dX6_judge_13 ⟨Nat.zero_le _, Nat.zero_le _⟩ (fun H locs hw => ?_)
    refine lv_goto (tgt := 28) hx hb dX6_judge_16 (by decide) ?_
    obtain rfl := Option.some.inj hM
    exact W.iret hx hb hr (fun t ht _ => ⟨rfl, by rw [ht]; exact hw.1, hw.2.2.F ht⟩) hw.2.2.2.2 dX6_judge_28
theorem hd_X6_known : yX6_known.cls = RX6 ∧ yX6_known.cls ≠ "java/lang/invoke/MethodHandle" ∧ yX6_known.cls ≠ "java/lang/invoke/VarHandle" ∧ (parseMethodDescriptor yX6_known.desc).map (fun d => d.parameters.length) = some 0 := by decide +kernel
set_option maxHeartbeats 4000000 in
set_option maxRecDepth 100000 in
theorem c_X6_known (l : Launch) (g : Gm) (a0 : Nat → Nat) (a1 : Nat → Nat) (a2 : Nat → Nat) (a3 : Nat → Nat) (a4 : Nat → Nat) (a5 : Nat → Nat) (a6 : Nat → Nat) (a7 : Nat → Nat) (a8 : Nat → Nat) (Z0 : TS) (T1 : TS) (T2 : TS) (T3 : TS) (G4 : TS) (R4 : LTS) (P5 : TS) (O7 : TS) (B7 : TS) {q : Int32} (hM : f_X6_known Z0 T1 T2 T3 G4 R4 P5 O7 B7 = some q) : MR l yX6_known wsX6_known 2 43 g [.ref (a0 0)] ((wX6 g a0 (a1 0) (a2 0) (a3 0) (a4 0) (a5 0) (a6 0) (a7 0) (a8 0) Z0) ++ ((wX5 g a1 T1) ++ ((wX5 g a2 T2) ++ ((wX5 g a3 T3) ++ ((wX3 g a4 G4 R4) ++ ((wX4 g a5 P5) ++ ((wX2 g a6 (a1 0) (a3 0)) ++ ((wX1 g a7 (a1 0) (a3 0) O7 B7) ++ (wX0 g a8 (a1 0) (a3 0) (a4 0)))))))))) (some (.int q)) := by
  refine Met.ofW (cc := cX6_known) (maxL := 1) (ret := (some .int)) (by decide) rfl ?_
  intro p e s m args below meth c s₁ B hml hv
  obtain ⟨rfl, hP, hK⟩ := hv
  have hx := B.exec; have hb := B.bytes; have hr := B.returns
  have hts := atoms_spec (ws := wsX6_known) B.pre
  have hown : s.vm.findClass RX6 = some m.cls := findClass_of_methodNamed B.named
  have hlocks := B.notSynchronized
  have hS : CallFix p m c cX6_known 1 s _ wsX6_known RX6 := ⟨hx, hb, hml, hown, hts⟩
  have hin_X6 : ∀ w ∈ wsX60, w ∈ wsX6_known := fun w h => (List.mem_cons_of_mem _ (List.mem_append_left _ (List.mem_append_right _ h)))
  have hl := lv_entry ([.ref (a0 0)]) (n := 1) (Nat.le_of_ble_eq_true rfl)
  rw [lg_entry_eq]
  generalize (lg_sl ([.ref (a0 0)]) ++ List.replicate (1 - (lg_sl ([.ref (a0 0)])).length) Slot.unset).toArray = ls at hl ⊢
  have hl : lv_has ls 1 [(0, .ref (a0 0))] := hl
  rw [f_X6_known] at hM
  refine lv_aload_n hx hb dX6_known_0 rfl (lv_at hl 0 rfl) ?_
  refine wk_get hx hb hts hin_X6 hown hK hP 6 0 0 (.ref (a1 0)) rfl rfl (by decide) (mi 1 rfl) rfl rfl dX6_known_1 ?_
  obtain ⟨q2, h1, hM⟩ := bd hM
  refine rVR (wc := (wX5 g a1 T1)) (As := []) (rest := []) (q0 := 0) hS (c_X5_knownInAll l g a1 T1 h1) gX6_known_X5_knownInAll rfl hd_X5_knownInAll ⟨Nat.le_of_ble_eq_true rfl, Nat.le_of_ble_eq_true rfl⟩ hK (va_P.pm hP (pm_9_1 _ _ _ _ _ _ _ _ _)) rfl rfl rfl rfl hl.1 rfl (Nat.le_of_ble_eq_true rfl) dX6_known_4 ⟨Nat.zero_le _, Nat.zero_le _⟩ ?_
  obtain rfl := Option.some.inj hM
  exact W.iret hx hb hr (fun t ht _ => ⟨rfl, ht⟩) (fun q hq => by cases hq) dX6_known_7
theorem hd_X6_knownBy : yX6_knownBy.cls = RX6 ∧ yX6_knownBy.cls ≠ "java/lang/invoke/MethodHandle" ∧ yX6_knownBy.cls ≠ "java/lang/invoke/VarHandle" ∧ (parseMethodDescriptor yX6_knownBy.desc).map (fun d => d.parameters.length) = some 1 := by decide +kernel
set_option maxHeartbeats 4000000 in
set_option maxRecDepth 100000 in
theorem c_X6_knownBy (l : Launch) (g : Gm) (a0 : Nat → Nat) (a1 : Nat → Nat) (a2 : Nat → Nat) (a3 : Nat → Nat) (a4 : Nat → Nat) (a5 : Nat → Nat) (a6 : Nat → Nat) (a7 : Nat → Nat) (a8 : Nat → Nat) (Z0 : TS) (T1 : TS) (T2 : TS) (T3 : TS) (G4 : TS) (R4 : LTS) (P5 : TS) (O7 : TS) (B7 : TS) (p1 : Int32) {q : (Int32 × TS × TS)} (hM : f_X6_knownBy Z0 T1 T2 T3 G4 R4 P5 O7 B7 p1 = some q) : MW l yX6_knownBy wsX6_knownBy 5 122 g [.ref (a0 0), .int p1] ((wX6 g a0 (a1 0) (a2 0) (a3 0) (a4 0) (a5 0) (a6 0) (a7 0) (a8 0) Z0) ++ ((wX5 g a1 T1) ++ ((wX5 g a2 T2) ++ ((wX5 g a3 T3) ++ ((wX3 g a4 G4 R4) ++ ((wX4 g a5 P5) ++ ((wX2 g a6 (a1 0) (a3 0)) ++ ((wX1 g a7 (a1 0) (a3 0) O7 B7) ++ (wX0 g a8 (a1 0) (a3 0) (a4 0)))))))))) (some (.int q.1)) ((wX6 g a0 (a1 0) (a2 0) (a3 0) (a4 0) (a5 0) (a6 0) (a7 0) (a8 0) q.2.1) ++ ((wX5 g a1 T1) ++ ((wX5 g a2 T2) ++ ((wX5 g a3 q.2.2) ++ ((wX3 g a4 G4 R4) ++ ((wX4 g a5 P5) ++ ((wX2 g a6 (a1 0) (a3 0)) ++ ((wX1 g a7 (a1 0) (a3 0) O7 B7) ++ (wX0 g a8 (a1 0) (a3 0) (a4 0)))))))))) := by
  intro sz
  refine Met.ofW (cc := cX6_knownBy) (maxL := 2) (ret := (some .int)) (by decide) rfl ?_
  intro p e s m args below meth c s₁ B hml hv
  obtain ⟨rfl, hsz, hP, hK, hD0⟩ := hv
  have hx := B.exec; have hb := B.bytes; have hr := B.returns
  have hts := atoms_spec (ws := wsX6_knownBy) B.pre
  have hown : s.vm.findClass RX6 = some m.cls := findClass_of_methodNamed B.named
  have hlocks := B.notSynchronized
  have hS : CallFix p m c cX6_knownBy 2 s _ wsX6_knownBy RX6 := ⟨hx, hb, hml, hown, hts⟩
  have hin_X6 : ∀ w ∈ wsX60, w ∈ wsX6_knownBy := fun w h => (List.mem_cons_of_mem _ (List.mem_append_left _ (List.mem_append_left _ (List.mem_append_right _ h))))
  subst hsz
  have hw := wk_start hP hD0
  have hA : ∀ q : Nat, s.heap.size ≤ q → va_A ((wX6 g a0 (a1 0) (a2 0) (a3 0) (a4 0) (a5 0) (a6 0) (a7 0) (a8 0) Z0) ++ ((wX5 g a1 T1) ++ ((wX5 g a2 T2) ++ ((wX5 g a3 T3) ++ ((wX3 g a4 G4 R4) ++ ((wX4 g a5 P5) ++ ((wX2 g a6 (a1 0) (a3 0)) ++ ((wX1 g a7 (a1 0) (a3 0) O7 B7) ++ (wX0 g a8 (a1 0) (a3 0) (a4 0)))))))))) s.heap.size q := fun q h => Or.inr h
  generalize va_A ((wX6 g a0 (a1 0) (a2 0) (a3 0) (a4 0) (a5 0) (a6 0) (a7 0) (a8 0) Z0) ++ ((wX5 g a1 T1) ++ ((wX5 g a2 T2) ++ ((wX5 g a3 T3) ++ ((wX3 g a4 G4 R4) ++ ((wX4 g a5 P5) ++ ((wX2 g a6 (a1 0) (a3 0)) ++ ((wX1 g a7 (a1 0) (a3 0) O7 B7) ++ (wX0 g a8 (a1 0) (a3 0) (a4 0)))))))))) s.heap.size = A at hw hA ⊢
  clear hP hD0
  have hl := lv_entry ([.ref (a0 0), .int p1]) (n := 2) (Nat.le_of_ble_eq_true rfl)
  rw [lg_entry_eq]
  generalize (lg_sl ([.ref (a0 0), .int p1]) ++ List.replicate (2 - (lg_sl ([.ref (a0 0), .int p1])).length) Slot.unset).toArray = ls at hl ⊢
  have hl : lv_has ls 2 [(0, .ref (a0 0)), (1, .int p1)] := hl
  rw [f_X6_knownBy] at hM
  refine lv_iload_n hx hb dX6_knownBy_0 rfl (lv_at hl 1 rfl) ?_
  refine rSR (wc := ([] : va_W)) (As := [.int p1]) (rest := []) hS (c_X6_isRounds l g p1) gX6_knownBy_X6_isRounds rfl hd_X6_isRounds ⟨Nat.le_of_ble_eq_true rfl, Nat.le_of_ble_eq_true rfl⟩ hK (hP_nil) rfl hl.1 rfl (Nat.le_of_ble_eq_true rfl) dX6_knownBy_1 ⟨Nat.zero_le _, Nat.zero_le _⟩ ?_
  refine lv_if_eq (tgt := 21) hx hb dX6_knownBy_4 (by decide) (fun c2 => ?_) (fun c2 => ?_)
  · replace hM := itp c2 hM
    refine lv_aload_n hx hb dX6_knownBy_21 rfl (lv_at hl 0 rfl) ?_
    refine lv_bipush (v := (-2 : Int32)) hx hb dX6_knownBy_22 (by decide) ?_
    obtain ⟨q4, h3, hM⟩ := bd hM
    refine rVWp (wc := ((wX6 g a0 (a1 0) (a2 0) (a3 0) (a4 0) (a5 0) (a6 0) (a7 0) (a8 0) Z0) ++ ((wX5 g a1 T1) ++ ((wX5 g a2 T2) ++ ((wX5 g a3 T3) ++ ((wX3 g a4 G4 R4) ++ ((wX4 g a5 P5) ++ ((wX2 g a6 (a1 0) (a3 0)) ++ ((wX1 g a7 (a1 0) (a3 0) O7 B7) ++ (wX0 g a8 (a1 0) (a3 0) (a4 0))))))))))) (wq := ((wX6 g a0 (a1 0) (a2 0) (a3 0) (a4 0) (a5 0) (a6 0) (a7 0) (a8 0) q4.2) ++ ((wX5 g a1 T1) ++ ((wX5 g a2 T2) ++ ((wX5 g a3 T3) ++ ((wX3 g a4 G4 R4) ++ ((wX4 g a5 P5) ++ ((wX2 g a6 (a1 0) (a3 0)) ++ ((wX1 g a7 (a1 0) (a3 0) O7 B7) ++ (wX0 g a8 (a1 0) (a3 0) (a4 0))))))))))) (As := [.int (-2 : Int32)]) (rest := []) (q0 := 0) hS (c_X6_refuse l g a0 a1 a2 a3 a4 a5 a6 a7 a8 Z0 T1 T2 T3 G4 R4 P5 O7 B7 (-2 : Int32) h3) gX6_knownBy_X6_refuse rfl hd_X6_refuse ⟨Nat.le_of_ble_eq_true rfl, Nat.le_of_ble_eq_true rfl⟩ hK hw hA (pm_9_0_1_2_3_4_5_6_7_8 _ _ _ _ _ _ _ _ _) rfl (pm_9_0_1_2_3_4_5_6_7_8 _ _ _ _ _ _ _ _ _) rfl rfl rfl rfl hl.1 rfl (Nat.le_of_ble_eq_true rfl) dX6_knownBy_24 ⟨Nat.zero_le _, Nat.zero_le _⟩ (fun H locs hw => ?_)
    obtain rfl := Option.some.inj hM
    exact W.iret hx hb hr (fun t ht _ => ⟨rfl, by rw [ht]; exact hw.1, hw.2.2.F ht⟩) hw.2.2.2.2 dX6_knownBy_27
  · replace hM := itn c2 hM
    refine lv_aload_n hx hb dX6_knownBy_7 rfl (lv_at hl 0 rfl) ?_
    refine wk_get hx hb hts hin_X6 hown hK hw.1 6 0 5 (.ref (a6 0)) rfl rfl (by decide) (mi 1 rfl) rfl rfl dX6_knownBy_8 ?_
    refine lv_iload_n hx hb dX6_knownBy_11 rfl (lv_at hl 1 rfl) ?_
    obtain ⟨q6, h5, hM⟩ := bd hM
    refine rVWp (wc := ((wX2 g a6 (a1 0) (a3 0)) ++ ((wX5 g a1 T1) ++ (wX5 g a3 T3)))) (wq := ((wX6 g a0 (a1 0) (a2 0) (a3 0) (a4 0) (a5 0) (a6 0) (a7 0) (a8 0) Z0) ++ ((wX5 g a1 T1) ++ ((wX5 g a2 T2) ++ ((wX5 g a3 q6) ++ ((wX3 g a4 G4 R4) ++ ((wX4 g a5 P5) ++ ((wX2 g a6 (a1 0) (a3 0)) ++ ((wX1 g a7 (a1 0) (a3 0) O7 B7) ++ (wX0 g a8 (a1 0) (a3 0) (a4 0))))))))))) (As := [.int p1]) (rest := []) (q0 := 0) hS (c_X2_after l g a6 a1 a3 T1 T3 p1 h5) gX6_knownBy_X2_after rfl hd_X2_after ⟨Nat.le_of_ble_eq_true rfl, Nat.le_of_ble_eq_true rfl⟩ hK hw hA (pm_9_6_1_3 _ _ _ _ _ _ _ _ _) rfl (pm_9_6_1_3 _ _ _ _ _ _ _ _ _) rfl rfl rfl rfl hl.1 rfl (Nat.le_of_ble_eq_true rfl) dX6_knownBy_12 ⟨Nat.zero_le _, Nat.zero_le _⟩ (fun H locs hw => ?_)
    obtain ⟨q8, h7, hM⟩ := bd hM
    refine rVR (wc := (wX5 g a3 q6)) (As := []) (rest := []) (q0 := 0) hS (c_X5_knownInAll l g a3 q6 h7) gX6_knownBy_X5_knownInAll rfl hd_X5_knownInAll ⟨Nat.le_of_ble_eq_true rfl, Nat.le_of_ble_eq_true rfl⟩ hK (va_P.pm hw.1 (pm_9_3 _ _ _ _ _ _ _ _ _)) rfl rfl rfl rfl hl.1 rfl (Nat.le_of_ble_eq_true rfl) dX6_knownBy_15 ⟨Nat.zero_le _, Nat.zero_le _⟩ ?_
    refine lv_goto (tgt := 27) hx hb dX6_knownBy_18 (by decide) ?_
    obtain rfl := Option.some.inj hM
    exact W.iret hx hb hr (fun t ht _ => ⟨rfl, by rw [ht]; exact hw.1, hw.2.2.F ht⟩) hw.2.2.2.2 dX6_knownBy_27
theorem hd_X6_loudest : yX6_loudest.cls = RX6 ∧ yX6_loudest.cls ≠ "java/lang/invoke/MethodHandle" ∧ yX6_loudest.cls ≠ "java/lang/invoke/VarHandle" ∧ (parseMethodDescriptor yX6_loudest.desc).map (fun d => d.parameters.length) = some 0 := by decide +kernel
set_option maxHeartbeats 4000000 in
set_option maxRecDepth 100000 in
theorem c_X6_loudest (l : Launch) (g : Gm) (a0 : Nat → Nat) (a1 : Nat → Nat) (a2 : Nat → Nat) (a3 : Nat → Nat) (a4 : Nat → Nat) (a5 : Nat → Nat) (a6 : Nat → Nat) (a7 : Nat → Nat) (a8 : Nat → Nat) (Z0 : TS) (T1 : TS) (T2 : TS) (T3 : TS) (G4 : TS) (R4 : LTS) (P5 : TS) (O7 : TS) (B7 : TS) {q : (Int32 × TS)} (hM : f_X6_loudest Z0 T1 T2 T3 G4 R4 P5 O7 B7 = some q) : MW l yX6_loudest wsX6_loudest 3 72 g [.ref (a0 0)] ((wX6 g a0 (a1 0) (a2 0) (a3 0) (a4 0) (a5 0) (a6 0) (a7 0) (a8 0) Z0) ++ ((wX5 g a1 T1) ++ ((wX5 g a2 T2) ++ ((wX5 g a3 T3) ++ ((wX3 g a4 G4 R4) ++ ((wX4 g a5 P5) ++ ((wX2 g a6 (a1 0) (a3 0)) ++ ((wX1 g a7 (a1 0) (a3 0) O7 B7) ++ (wX0 g a8 (a1 0) (a3 0) (a4 0)))))))))) (some (.int q.1)) ((wX6 g a0 (a1 0) (a2 0) (a3 0) (a4 0) (a5 0) (a6 0) (a7 0) (a8 0) q.2) ++ ((wX5 g a1 T1) ++ ((wX5 g a2 T2) ++ ((wX5 g a3 T3) ++ ((wX3 g a4 G4 R4) ++ ((wX4 g a5 P5) ++ ((wX2 g a6 (a1 0) (a3 0)) ++ ((wX1 g a7 (a1 0) (a3 0) O7 B7) ++ (wX0 g a8 (a1 0) (a3 0) (a4 0)))))))))) := by
  intro sz
  refine Met.ofW (cc := cX6_loudest) (maxL := 1) (ret := (some .int)) (by decide) rfl ?_
  intro p e s m args below meth c s₁ B hml hv
  obtain ⟨rfl, hsz, hP, hK, hD0⟩ := hv
  have hx := B.exec; have hb := B.bytes; have hr := B.returns
  have hts := atoms_spec (ws := wsX6_loudest) B.pre
  have hown : s.vm.findClass RX6 = some m.cls := findClass_of_methodNamed B.named
  have hlocks := B.notSynchronized
  have hS : CallFix p m c cX6_loudest 1 s _ wsX6_loudest RX6 := ⟨hx, hb, hml, hown, hts⟩
  have hin_X5 : ∀ w ∈ wsX50, w ∈ wsX6_loudest := fun w h => (List.mem_cons_of_mem _ (List.mem_append_right _ h))
  have hin_X6 : ∀ w ∈ wsX60, w ∈ wsX6_loudest := fun w h => (List.mem_cons_of_mem _ (List.mem_append_left _ (List.mem_append_right _ h)))
  subst hsz
  have hw := wk_start hP hD0
  have hA : ∀ q : Nat, s.heap.size ≤ q → va_A ((wX6 g a0 (a1 0) (a2 0) (a3 0) (a4 0) (a5 0) (a6 0) (a7 0) (a8 0) Z0) ++ ((wX5 g a1 T1) ++ ((wX5 g a2 T2) ++ ((wX5 g a3 T3) ++ ((wX3 g a4 G4 R4) ++ ((wX4 g a5 P5) ++ ((wX2 g a6 (a1 0) (a3 0)) ++ ((wX1 g a7 (a1 0) (a3 0) O7 B7) ++ (wX0 g a8 (a1 0) (a3 0) (a4 0)))))))))) s.heap.size q := fun q h => Or.inr h
  generalize va_A ((wX6 g a0 (a1 0) (a2 0) (a3 0) (a4 0) (a5 0) (a6 0) (a7 0) (a8 0) Z0) ++ ((wX5 g a1 T1) ++ ((wX5 g a2 T2) ++ ((wX5 g a3 T3) ++ ((wX3 g a4 G4 R4) ++ ((wX4 g a5 P5) ++ ((wX2 g a6 (a1 0) (a3 0)) ++ ((wX1 g a7 (a1 0) (a3 0) O7 B7) ++ (wX0 g a8 (a1 0) (a3 0) (a4 0)))))))))) s.heap.size = A at hw hA ⊢
  clear hP hD0
  have hl := lv_entry ([.ref (a0 0)]) (n := 1) (Nat.le_of_ble_eq_true rfl)
  rw [lg_entry_eq]
  generalize (lg_sl ([.ref (a0 0)]) ++ List.replicate (1 - (lg_sl ([.ref (a0 0)])).length) Slot.unset).toArray = ls at hl ⊢
  have hl : lv_has ls 1 [(0, .ref (a0 0))] := hl
  rw [f_X6_loudest] at hM
  refine lv_aload_n hx hb dX6_loudest_0 rfl (lv_at hl 0 rfl) ?_
  refine wk_get hx hb hts hin_X6 hown hK hw.1 6 0 0 (.ref (a1 0)) rfl rfl (by decide) (mi 1 rfl) rfl rfl dX6_loudest_1 ?_
  refine wk_get hx hb hts hin_X5 hown hK hw.1 5 2 1 (.int (T1 1 0)) rfl rfl (by decide) (mi 2 rfl) rfl rfl dX6_loudest_4 ?_
  refine lv_if_ne (tgt := 19) hx hb dX6_loudest_7 (by decide) (fun c1 => ?_) (fun c1 => ?_)
  · replace hM := itn c1 hM
    refine lv_aload_n hx hb dX6_loudest_19 rfl (lv_at hl 0 rfl) ?_
    refine wk_get hx hb hts hin_X6 hown hK hw.1 6 0 0 (.ref (a1 0)) rfl rfl (by decide) (mi 1 rfl) rfl rfl dX6_loudest_20 ?_
    obtain ⟨q5, h4, hM⟩ := bd hM
    refine rVR (wc := (wX5 g a1 T1)) (As := []) (rest := []) (q0 := 0) hS (c_X5_whoMaySayMost l g a1 T1 h4) gX6_loudest_X5_whoMaySayMost rfl hd_X5_whoMaySayMost ⟨Nat.le_of_ble_eq_true rfl, Nat.le_of_ble_eq_true rfl⟩ hK (va_P.pm hw.1 (pm_9_1 _ _ _ _ _ _ _ _ _)) rfl rfl rfl rfl hl.1 rfl (Nat.le_of_ble_eq_true rfl) dX6_loudest_23 ⟨Nat.zero_le _, Nat.zero_le _⟩ ?_
    obtain rfl := Option.some.inj hM
    exact W.iret hx hb hr (fun t ht _ => ⟨rfl, by rw [ht]; exact hw.1, hw.2.2.F ht⟩) hw.2.2.2.2 dX6_loudest_26
  · replace hM := itp c1 hM
    refine lv_aload_n hx hb dX6_loudest_10 rfl (lv_at hl 0 rfl) ?_
    refine lv_bipush (v := (-5 : Int32)) hx hb dX6_loudest_11 (by decide) ?_
    obtain ⟨q3, h2, hM⟩ := bd hM
    refine rVWp (wc := ((wX6 g a0 (a1 0) (a2 0) (a3 0) (a4 0) (a5 0) (a6 0) (a7 0) (a8 0) Z0) ++ ((wX5 g a1 T1) ++ ((wX5 g a2 T2) ++ ((wX5 g a3 T3) ++ ((wX3 g a4 G4 R4) ++ ((wX4 g a5 P5) ++ ((wX2 g a6 (a1 0) (a3 0)) ++ ((wX1 g a7 (a1 0) (a3 0) O7 B7) ++ (wX0 g a8 (a1 0) (a3 0) (a4 0))))))))))) (wq := ((wX6 g a0 (a1 0) (a2 0) (a3 0) (a4 0) (a5 0) (a6 0) (a7 0) (a8 0) q3.2) ++ ((wX5 g a1 T1) ++ ((wX5 g a2 T2) ++ ((wX5 g a3 T3) ++ ((wX3 g a4 G4 R4) ++ ((wX4 g a5 P5) ++ ((wX2 g a6 (a1 0) (a3 0)) ++ ((wX1 g a7 (a1 0) (a3 0) O7 B7) ++ (wX0 g a8 (a1 0) (a3 0) (a4 0))))))))))) (As := [.int (-5 : Int32)]) (rest := []) (q0 := 0) hS (c_X6_refuse l g a0 a1 a2 a3 a4 a5 a6 a7 a8 Z0 T1 T2 T3 G4 R4 P5 O7 B7 (-5 : Int32) h2) gX6_loudest_X6_refuse rfl hd_X6_refuse ⟨Nat.le_of_ble_eq_true rfl, Nat.le_of_ble_eq_true rfl⟩ hK hw hA (pm_9_0_1_2_3_4_5_6_7_8 _ _ _ _ _ _ _ _ _) rfl (pm_9_0_1_2_3_4_5_6_7_8 _ _ _ _ _ _ _ _ _) rfl rfl rfl rfl hl.1 rfl (Nat.le_of_ble_eq_true rfl) dX6_loudest_13 ⟨Nat.zero_le _, Nat.zero_le _⟩ (fun H locs hw => ?_)
    refine lv_goto (tgt := 26) hx hb dX6_loudest_16 (by decide) ?_
    obtain rfl := Option.some.inj hM
    exact W.iret hx hb hr (fun t ht _ => ⟨rfl, by rw [ht]; exact hw.1, hw.2.2.F ht⟩) hw.2.2.2.2 dX6_loudest_26
theorem hd_X6_may : yX6_may.cls = RX6 ∧ yX6_may.cls ≠ "java/lang/invoke/MethodHandle" ∧ yX6_may.cls ≠ "java/lang/invoke/VarHandle" ∧ (parseMethodDescriptor yX6_may.desc).map (fun d => d.parameters.length) = some 2 := by decide +kernel
set_option maxHeartbeats 4000000 in
set_option maxRecDepth 100000 in
theorem c_X6_may (l : Launch) (g : Gm) (a0 : Nat → Nat) (a1 : Nat → Nat) (a2 : Nat → Nat) (a3 : Nat → Nat) (a4 : Nat → Nat) (a5 : Nat → Nat) (a6 : Nat → Nat) (a7 : Nat → Nat) (a8 : Nat → Nat) (Z0 : TS) (T1 : TS) (T2 : TS) (T3 : TS) (G4 : TS) (R4 : LTS) (P5 : TS) (O7 : TS) (B7 : TS) (p1 : Int32) (p2 : Int32) {q : (Int32 × TS)} (hM : f_X6_may Z0 T1 T2 T3 G4 R4 P5 O7 B7 p1 p2 = some q) : MW l yX6_may wsX6_may 2 48 g [.ref (a0 0), .int p1, .int p2] ((wX6 g a0 (a1 0) (a2 0) (a3 0) (a4 0) (a5 0) (a6 0) (a7 0) (a8 0) Z0) ++ ((wX5 g a1 T1) ++ ((wX5 g a2 T2) ++ ((wX5 g a3 T3) ++ ((wX3 g a4 G4 R4) ++ ((wX4 g a5 P5) ++ ((wX2 g a6 (a1 0) (a3 0)) ++ ((wX1 g a7 (a1 0) (a3 0) O7 B7) ++ (wX0 g a8 (a1 0) (a3 0) (a4 0)))))))))) (some (.int q.1)) ((wX6 g a0 (a1 0) (a2 0) (a3 0) (a4 0) (a5 0) (a6 0) (a7 0) (a8 0) q.2) ++ ((wX5 g a1 T1) ++ ((wX5 g a2 T2) ++ ((wX5 g a3 T3) ++ ((wX3 g a4 G4 R4) ++ ((wX4 g a5 P5) ++ ((wX2 g a6 (a1 0) (a3 0)) ++ ((wX1 g a7 (a1 0) (a3 0) O7 B7) ++ (wX0 g a8 (a1 0) (a3 0) (a4 0)))))))))) := by
  intro sz
  refine Met.ofW (cc := cX6_may) (maxL := 3) (ret := (some .int)) (by decide) rfl ?_
  intro p e s m args below meth c s₁ B hml hv
  obtain ⟨rfl, hsz, hP, hK, hD0⟩ := hv
  have hx := B.exec; have hb := B.bytes; have hr := B.returns
  have hts := atoms_spec (ws := wsX6_may) B.pre
  have hown : s.vm.findClass RX6 = some m.cls := findClass_of_methodNamed B.named
  have hlocks := B.notSynchronized
  have hS : CallFix p m c cX6_may 3 s _ wsX6_may RX6 := ⟨hx, hb, hml, hown, hts⟩
  have hin_X6 : ∀ w ∈ wsX60, w ∈ wsX6_may := fun w h => (List.mem_cons_of_mem _ (List.mem_append_left _ (List.mem_append_right _ h)))
  subst hsz
  have hw := wk_start hP hD0
  have hA : ∀ q : Nat, s.heap.size ≤ q → va_A ((wX6 g a0 (a1 0) (a2 0) (a3 0) (a4 0) (a5 0) (a6 0) (a7 0) (a8 0) Z0) ++ ((wX5 g a1 T1) ++ ((wX5 g a2 T2) ++ ((wX5 g a3 T3) ++ ((wX3 g a4 G4 R4) ++ ((wX4 g a5 P5) ++ ((wX2 g a6 (a1 0) (a3 0)) ++ ((wX1 g a7 (a1 0) (a3 0) O7 B7) ++ (wX0 g a8 (a1 0) (a3 0) (a4 0)))))))))) s.heap.size q := fun q h => Or.inr h
  generalize va_A ((wX6 g a0 (a1 0) (a2 0) (a3 0) (a4 0) (a5 0) (a6 0) (a7 0) (a8 0) Z0) ++ ((wX5 g a1 T1) ++ ((wX5 g a2 T2) ++ ((wX5 g a3 T3) ++ ((wX3 g a4 G4 R4) ++ ((wX4 g a5 P5) ++ ((wX2 g a6 (a1 0) (a3 0)) ++ ((wX1 g a7 (a1 0) (a3 0) O7 B7) ++ (wX0 g a8 (a1 0) (a3 0) (a4 0)))))))))) s.heap.size = A at hw hA ⊢
  clear hP hD0
  have hl := lv_entry ([.ref (a0 0), .int p1, .int p2]) (n := 3) (Nat.le_of_ble_eq_true rfl)
  rw [lg_entry_eq]
  generalize (lg_sl ([.ref (a0 0), .int p1, .int p2]) ++ List.replicate (3 - (lg_sl ([.ref (a0 0), .int p1, .int p2])).length) Slot.unset).toArray = ls at hl ⊢
  have hl : lv_has ls 3 [(0, .ref (a0 0)), (1, .int p1), (2, .int p2)] := hl
  rw [f_X6_may] at hM
  refine lv_aload_n hx hb dX6_may_0 rfl (lv_at hl 0 rfl) ?_
  refine wk_get hx hb hts hin_X6 hown hK hw.1 6 0 0 (.ref (a1 0)) rfl rfl (by decide) (mi 1 rfl) rfl rfl dX6_may_1 ?_
  refine lv_iload_n hx hb dX6_may_4 rfl (lv_at hl 1 rfl) ?_
  refine rVR (wc := (wX5 g a1 T1)) (As := [.int p1]) (rest := []) (q0 := 0) hS (c_X5_isOne l g a1 T1 p1) gX6_may_X5_isOne rfl hd_X5_isOne ⟨Nat.le_of_ble_eq_true rfl, Nat.le_of_ble_eq_true rfl⟩ hK (va_P.pm hw.1 (pm_9_1 _ _ _ _ _ _ _ _ _)) rfl rfl rfl rfl hl.1 rfl (Nat.le_of_ble_eq_true rfl) dX6_may_5 ⟨Nat.zero_le _, Nat.zero_le _⟩ ?_
  refine lv_if_eq (tgt := 22) hx hb dX6_may_8 (by decide) (fun c2 => ?_) (fun c2 => ?_)
  · replace hM := itp c2 hM
    refine lv_aload_n hx hb dX6_may_22 rfl (lv_at hl 0 rfl) ?_
    refine lv_bipush (v := (-2 : Int32)) hx hb dX6_may_23 (by decide) ?_
    obtain ⟨q4, h3, hM⟩ := bd hM
    refine rVWp (wc := ((wX6 g a0 (a1 0) (a2 0) (a3 0) (a4 0) (a5 0) (a6 0) (a7 0) (a8 0) Z0) ++ ((wX5 g a1 T1) ++ ((wX5 g a2 T2) ++ ((wX5 g a3 T3) ++ ((wX3 g a4 G4 R4) ++ ((wX4 g a5 P5) ++ ((wX2 g a6 (a1 0) (a3 0)) ++ ((wX1 g a7 (a1 0) (a3 0) O7 B7) ++ (wX0 g a8 (a1 0) (a3 0) (a4 0))))))))))) (wq := ((wX6 g a0 (a1 0) (a2 0) (a3 0) (a4 0) (a5 0) (a6 0) (a7 0) (a8 0) q4.2) ++ ((wX5 g a1 T1) ++ ((wX5 g a2 T2) ++ ((wX5 g a3 T3) ++ ((wX3 g a4 G4 R4) ++ ((wX4 g a5 P5) ++ ((wX2 g a6 (a1 0) (a3 0)) ++ ((wX1 g a7 (a1 0) (a3 0) O7 B7) ++ (wX0 g a8 (a1 0) (a3 0) (a4 0))))))))))) (As := [.int (-2 : Int32)]) (rest := []) (q0 := 0) hS (c_X6_refuse l g a0 a1 a2 a3 a4 a5 a6 a7 a8 Z0 T1 T2 T3 G4 R4 P5 O7 B7 (-2 : Int32) h3) gX6_may_X6_refuse rfl hd_X6_refuse ⟨Nat.le_of_ble_eq_true rfl, Nat.le_of_ble_eq_true rfl⟩ hK hw hA (pm_9_0_1_2_3_4_5_6_7_8 _ _ _ _ _ _ _ _ _) rfl (pm_9_0_1_2_3_4_5_6_7_8 _ _ _ _ _ _ _ _ _) rfl rfl rfl rfl hl.1 rfl (Nat.le_of_ble_eq_true rfl) dX6_may_25 ⟨Nat.zero_le _, Nat.zero_le _⟩ (fun H locs hw => ?_)
    obtain rfl := Option.some.inj hM
    exact W.iret hx hb hr (fun t ht _ => ⟨rfl, by rw [ht]; exact hw.1, hw.2.2.F ht⟩) hw.2.2.2.2 dX6_may_28
  · replace hM := itn c2 hM
    refine lv_aload_n hx hb dX6_may_11 rfl (lv_at hl 0 rfl) ?_
    refine wk_get hx hb hts hin_X6 hown hK hw.1 6 0 0 (.ref (a1 0)) rfl rfl (by decide) (mi 1 rfl) rfl rfl dX6_may_12 ?_
    refine lv_iload_n hx hb dX6_may_15 rfl (lv_at hl 2 rfl) ?_
    refine rVR (wc := (wX5 g a1 T1)) (As := [.int p2]) (rest := []) (q0 := 0) hS (c_X5_isSight l g a1 T1 p2) gX6_may_X5_isSight rfl hd_X5_isSight ⟨Nat.le_of_ble_eq_true rfl, Nat.le_of_ble_eq_true rfl⟩ hK (va_P.pm hw.1 (pm_9_1 _ _ _ _ _ _ _ _ _)) rfl rfl rfl rfl hl.1 rfl (Nat.le_of_ble_eq_true rfl) dX6_may_16 ⟨Nat.zero_le _, Nat.zero_le _⟩ ?_
    refine lv_if_ne (tgt := 29) hx hb dX6_may_19 (by decide) (fun c6 => ?_) (fun c6 => ?_)
    · replace hM := itn c6 hM
      refine lv_aload_n hx hb dX6_may_29 rfl (lv_at hl 0 rfl) ?_
      refine wk_get hx hb hts hin_X6 hown hK hw.1 6 0 0 (.ref (a1 0)) rfl rfl (by decide) (mi 1 rfl) rfl rfl dX6_may_30 ?_
      refine lv_iload_n hx hb dX6_may_33 rfl (lv_at hl 1 rfl) ?_
      obtain ⟨q10, h9, hM⟩ := bd hM
      refine rVR (wc := (wX5 g a1 T1)) (As := [.int p1]) (rest := []) (q0 := 0) hS (c_X5_sayableBy l g a1 T1 p1 h9) gX6_may_X5_sayableBy rfl hd_X5_sayableBy ⟨Nat.le_of_ble_eq_true rfl, Nat.le_of_ble_eq_true rfl⟩ hK (va_P.pm hw.1 (pm_9_1 _ _ _ _ _ _ _ _ _)) rfl rfl rfl rfl hl.1 rfl (Nat.le_of_ble_eq_true rfl) dX6_may_34 ⟨Nat.zero_le _, Nat.zero_le _⟩ ?_
      refine lv_iload_n hx hb dX6_may_37 rfl (lv_at hl 2 rfl) ?_
      refine rSR (wc := ([] : va_W)) (As := [.int q10, .int p2]) (rest := []) hS (c_X6_has l g q10 p2) gX6_may_X6_has rfl hd_X6_has ⟨Nat.le_of_ble_eq_true rfl, Nat.le_of_ble_eq_true rfl⟩ hK (hP_nil) rfl hl.1 rfl (Nat.le_of_ble_eq_true rfl) dX6_may_38 ⟨Nat.zero_le _, Nat.zero_le _⟩ ?_
      have hJ18 : ∀ (H : Heap) (locs : List Loc) (x17 : Int32) (ls : Array Slot), Wk g A s.heap H locs ((wX6 g a0 (a1 0) (a2 0) (a3 0) (a4 0) (a5 0) (a6 0) (a7 0) (a8 0) Z0) ++ ((wX5 g a1 T1) ++ ((wX5 g a2 T2) ++ ((wX5 g a3 T3) ++ ((wX3 g a4 G4 R4) ++ ((wX4 g a5 P5) ++ ((wX2 g a6 (a1 0) (a3 0)) ++ ((wX1 g a7 (a1 0) (a3 0) O7 B7) ++ (wX0 g a8 (a1 0) (a3 0) (a4 0)))))))))) → x17 = (if (f_X6_has q10 p2) = 0 then (0 : Int32) else (1 : Int32)) → lv_has ls 3 [] → W p l e (headSpec wsX6_may ({ frames := 2, cells := 0, slots := 0, locals := 48 } : Room)).room s m ([.ref (a0 0), .int p1, .int p2] : List Value).toArray below meth c H locs 0 0 (MQ below (QcW g (some (.int q.1)) ((wX6 g a0 (a1 0) (a2 0) (a3 0) (a4 0) (a5 0) (a6 0) (a7 0) (a8 0) q.2) ++ ((wX5 g a1 T1) ++ ((wX5 g a2 T2) ++ ((wX5 g a3 T3) ++ ((wX3 g a4 G4 R4) ++ ((wX4 g a5 P5) ++ ((wX2 g a6 (a1 0) (a3 0)) ++ ((wX1 g a7 (a1 0) (a3 0) O7 B7) ++ (wX0 g a8 (a1 0) (a3 0) (a4 0)))))))))) A) ([.ref (a0 0), .int p1, .int p2] : List Value).toArray s 0 0 A) (F0 m 49 ls [.int x17]) := by
        intro H locs x17 ls hw hxx17 hl
        subst hxx17
        obtain rfl := Option.some.inj hM
        exact W.iret hx hb hr (fun t ht _ => ⟨rfl, by rw [ht]; exact hw.1, hw.2.2.F ht⟩) hw.2.2.2.2 dX6_may_49
      refine lv_if_eq (tgt := 48) hx hb dX6_may_41 (by decide) (fun c12 => ?_) (fun c12 => ?_)
      · refine lv_iconst (v := (0 : Int32)) hx hb dX6_may_48 (by decide) ?_
        exact hJ18 _ _ _ _ hw (by first | rfl | (simp only [if_pos c12])) (lv_sub hl [] rfl)
      · refine lv_iconst (v := (1 : Int32)) hx hb dX6_may_44 (by decide) ?_
        refine lv_goto (tgt := 49) hx hb dX6_may_45 (by decide) ?_
        exact hJ18 _ _ _ _ hw (by first | rfl | (simp only [if_neg c12])) (lv_sub hl [] rfl)
    · replace hM := itp c6 hM
      refine lv_aload_n hx hb dX6_may_22 rfl (lv_at hl 0 rfl) ?_
      refine lv_bipush (v := (-2 : Int32)) hx hb dX6_may_23 (by decide) ?_
      obtain ⟨q8, h7, hM⟩ := bd hM
      refine rVWp (wc := ((wX6 g a0 (a1 0) (a2 0) (a3 0) (a4 0) (a5 0) (a6 0) (a7 0) (a8 0) Z0) ++ ((wX5 g a1 T1) ++ ((wX5 g a2 T2) ++ ((wX5 g a3 T3) ++ ((wX3 g a4 G4 R4) ++ ((wX4 g a5 P5) ++ ((wX2 g a6 (a1 0) (a3 0)) ++ ((wX1 g a7 (a1 0) (a3 0) O7 B7) ++ (wX0 g a8 (a1 0) (a3 0) (a4 0))))))))))) (wq := ((wX6 g a0 (a1 0) (a2 0) (a3 0) (a4 0) (a5 0) (a6 0) (a7 0) (a8 0) q8.2) ++ ((wX5 g a1 T1) ++ ((wX5 g a2 T2) ++ ((wX5 g a3 T3) ++ ((wX3 g a4 G4 R4) ++ ((wX4 g a5 P5) ++ ((wX2 g a6 (a1 0) (a3 0)) ++ ((wX1 g a7 (a1 0) (a3 0) O7 B7) ++ (wX0 g a8 (a1 0) (a3 0) (a4 0))))))))))) (As := [.int (-2 : Int32)]) (rest := []) (q0 := 0) hS (c_X6_refuse l g a0 a1 a2 a3 a4 a5 a6 a7 a8 Z0 T1 T2 T3 G4 R4 P5 O7 B7 (-2 : Int32) h7) gX6_may_X6_refuse rfl hd_X6_refuse ⟨Nat.le_of_ble_eq_true rfl, Nat.le_of_ble_eq_true rfl⟩ hK hw hA (pm_9_0_1_2_3_4_5_6_7_8 _ _ _ _ _ _ _ _ _) rfl (pm_9_0_1_2_3_4_5_6_7_8 _ _ _ _ _ _ _ _ _) rfl rfl rfl rfl hl.1 rfl (Nat.le_of_ble_eq_true rfl) dX6_may_25 ⟨Nat.zero_le _, Nat.zero_le _⟩ (fun H locs hw => ?_)
      obtain rfl := Option.some.inj hM
      exact W.iret hx hb hr (fun t ht _ => ⟨rfl, by rw [ht]; exact hw.1, hw.2.2.F ht⟩) hw.2.2.2.2 dX6_may_28
theorem hd_X6_mouths : yX6_mouths.cls = RX6 ∧ yX6_mouths.cls ≠ "java/lang/invoke/MethodHandle" ∧ yX6_mouths.cls ≠ "java/lang/invoke/VarHandle" ∧ (parseMethodDescriptor yX6_mouths.desc).map (fun d => d.parameters.length) = some 1 := by decide +kernel
set_option maxHeartbeats 4000000 in
set_option maxRecDepth 100000 in
theorem c_X6_mouths (l : Launch) (g : Gm) (a0 : Nat → Nat) (a1 : Nat → Nat) (a2 : Nat → Nat) (a3 : Nat → Nat) (a4 : Nat → Nat) (a5 : Nat → Nat) (a6 : Nat → Nat) (a7 : Nat → Nat) (a8 : Nat → Nat) (Z0 : TS) (T1 : TS) (T2 : TS) (T3 : TS) (G4 : TS) (R4 : LTS) (P5 : TS) (O7 : TS) (B7 : TS) (p1 : Int32) {q : (Int32 × TS)} (hM : f_X6_mouths Z0 T1 T2 T3 G4 R4 P5 O7 B7 p1 = some q) : MW l yX6_mouths wsX6_mouths 3 71 g [.ref (a0 0), .int p1] ((wX6 g a0 (a1 0) (a2 0) (a3 0) (a4 0) (a5 0) (a6 0) (a7 0) (a8 0) Z0) ++ ((wX5 g a1 T1) ++ ((wX5 g a2 T2) ++ ((wX5 g a3 T3) ++ ((wX3 g a4 G4 R4) ++ ((wX4 g a5 P5) ++ ((wX2 g a6 (a1 0) (a3 0)) ++ ((wX1 g a7 (a1 0) (a3 0) O7 B7) ++ (wX0 g a8 (a1 0) (a3 0) (a4 0)))))))))) (some (.int q.1)) ((wX6 g a0 (a1 0) (a2 0) (a3 0) (a4 0) (a5 0) (a6 0) (a7 0) (a8 0) q.2) ++ ((wX5 g a1 T1) ++ ((wX5 g a2 T2) ++ ((wX5 g a3 T3) ++ ((wX3 g a4 G4 R4) ++ ((wX4 g a5 P5) ++ ((wX2 g a6 (a1 0) (a3 0)) ++ ((wX1 g a7 (a1 0) (a3 0) O7 B7) ++ (wX0 g a8 (a1 0) (a3 0) (a4 0)))))))))) := by
  intro sz
  refine Met.ofW (cc := cX6_mouths) (maxL := 2) (ret := (some .int)) (by decide) rfl ?_
  intro p e s m args below meth c s₁ B hml hv
  obtain ⟨rfl, hsz, hP, hK, hD0⟩ := hv
  have hx := B.exec; have hb := B.bytes; have hr := B.returns
  have hts := atoms_spec (ws := wsX6_mouths) B.pre
  have hown : s.vm.findClass RX6 = some m.cls := findClass_of_methodNamed B.named
  have hlocks := B.notSynchronized
  have hS : CallFix p m c cX6_mouths 2 s _ wsX6_mouths RX6 := ⟨hx, hb, hml, hown, hts⟩
  have hin_X6 : ∀ w ∈ wsX60, w ∈ wsX6_mouths := fun w h => (List.mem_cons_of_mem _ (List.mem_append_left _ (List.mem_append_right _ h)))
  subst hsz
  have hw := wk_start hP hD0
  have hA : ∀ q : Nat, s.heap.size ≤ q → va_A ((wX6 g a0 (a1 0) (a2 0) (a3 0) (a4 0) (a5 0) (a6 0) (a7 0) (a8 0) Z0) ++ ((wX5 g a1 T1) ++ ((wX5 g a2 T2) ++ ((wX5 g a3 T3) ++ ((wX3 g a4 G4 R4) ++ ((wX4 g a5 P5) ++ ((wX2 g a6 (a1 0) (a3 0)) ++ ((wX1 g a7 (a1 0) (a3 0) O7 B7) ++ (wX0 g a8 (a1 0) (a3 0) (a4 0)))))))))) s.heap.size q := fun q h => Or.inr h
  generalize va_A ((wX6 g a0 (a1 0) (a2 0) (a3 0) (a4 0) (a5 0) (a6 0) (a7 0) (a8 0) Z0) ++ ((wX5 g a1 T1) ++ ((wX5 g a2 T2) ++ ((wX5 g a3 T3) ++ ((wX3 g a4 G4 R4) ++ ((wX4 g a5 P5) ++ ((wX2 g a6 (a1 0) (a3 0)) ++ ((wX1 g a7 (a1 0) (a3 0) O7 B7) ++ (wX0 g a8 (a1 0) (a3 0) (a4 0)))))))))) s.heap.size = A at hw hA ⊢
  clear hP hD0
  have hl := lv_entry ([.ref (a0 0), .int p1]) (n := 2) (Nat.le_of_ble_eq_true rfl)
  rw [lg_entry_eq]
  generalize (lg_sl ([.ref (a0 0), .int p1]) ++ List.replicate (2 - (lg_sl ([.ref (a0 0), .int p1])).length) Slot.unset).toArray = ls at hl ⊢
  have hl : lv_has ls 2 [(0, .ref (a0 0)), (1, .int p1)] := hl
  rw [f_X6_mouths] at hM
  refine lv_aload_n hx hb dX6_mouths_0 rfl (lv_at hl 0 rfl) ?_
  refine wk_get hx hb hts hin_X6 hown hK hw.1 6 0 0 (.ref (a1 0)) rfl rfl (by decide) (mi 1 rfl) rfl rfl dX6_mouths_1 ?_
  refine lv_iload_n hx hb dX6_mouths_4 rfl (lv_at hl 1 rfl) ?_
  refine rVR (wc := (wX5 g a1 T1)) (As := [.int p1]) (rest := []) (q0 := 0) hS (c_X5_isSight l g a1 T1 p1) gX6_mouths_X5_isSight rfl hd_X5_isSight ⟨Nat.le_of_ble_eq_true rfl, Nat.le_of_ble_eq_true rfl⟩ hK (va_P.pm hw.1 (pm_9_1 _ _ _ _ _ _ _ _ _)) rfl rfl rfl rfl hl.1 rfl (Nat.le_of_ble_eq_true rfl) dX6_mouths_5 ⟨Nat.zero_le _, Nat.zero_le _⟩ ?_
  refine lv_if_eq (tgt := 22) hx hb dX6_mouths_8 (by decide) (fun c2 => ?_) (fun c2 => ?_)
  · replace hM := itp c2 hM
    refine lv_aload_n hx hb dX6_mouths_22 rfl (lv_at hl 0 rfl) ?_
    refine lv_bipush (v := (-2 : Int32)) hx hb dX6_mouths_23 (by decide) ?_
    obtain ⟨q4, h3, hM⟩ := bd hM
    refine rVWp (wc := ((wX6 g a0 (a1 0) (a2 0) (a3 0) (a4 0) (a5 0) (a6 0) (a7 0) (a8 0) Z0) ++ ((wX5 g a1 T1) ++ ((wX5 g a2 T2) ++ ((wX5 g a3 T3) ++ ((wX3 g a4 G4 R4) ++ ((wX4 g a5 P5) ++ ((wX2 g a6 (a1 0) (a3 0)) ++ ((wX1 g a7 (a1 0) (a3 0) O7 B7) ++ (wX0 g a8 (a1 0) (a3 0) (a4 0))))))))))) (wq := ((wX6 g a0 (a1 0) (a2 0) (a3 0) (a4 0) (a5 0) (a6 0) (a7 0) (a8 0) q4.2) ++ ((wX5 g a1 T1) ++ ((wX5 g a2 T2) ++ ((wX5 g a3 T3) ++ ((wX3 g a4 G4 R4) ++ ((wX4 g a5 P5) ++ ((wX2 g a6 (a1 0) (a3 0)) ++ ((wX1 g a7 (a1 0) (a3 0) O7 B7) ++ (wX0 g a8 (a1 0) (a3 0) (a4 0))))))))))) (As := [.int (-2 : Int32)]) (rest := []) (q0 := 0) hS (c_X6_refuse l g a0 a1 a2 a3 a4 a5 a6 a7 a8 Z0 T1 T2 T3 G4 R4 P5 O7 B7 (-2 : Int32) h3) gX6_mouths_X6_refuse rfl hd_X6_refuse ⟨Nat.le_of_ble_eq_true rfl, Nat.le_of_ble_eq_true rfl⟩ hK hw hA (pm_9_0_1_2_3_4_5_6_7_8 _ _ _ _ _ _ _ _ _) rfl (pm_9_0_1_2_3_4_5_6_7_8 _ _ _ _ _ _ _ _ _) rfl rfl rfl rfl hl.1 rfl (Nat.le_of_ble_eq_true rfl) dX6_mouths_25 ⟨Nat.zero_le _, Nat.zero_le _⟩ (fun H locs hw => ?_)
    obtain rfl := Option.some.inj hM
    exact W.iret hx hb hr (fun t ht _ => ⟨rfl, by rw [ht]; exact hw.1, hw.2.2.F ht⟩) hw.2.2.2.2 dX6_mouths_28
  · replace hM := itn c2 hM
    refine lv_aload_n hx hb dX6_mouths_11 rfl (lv_at hl 0 rfl) ?_
    refine wk_get hx hb hts hin_X6 hown hK hw.1 6 0 0 (.ref (a1 0)) rfl rfl (by decide) (mi 1 rfl) rfl rfl dX6_mouths_12 ?_
    refine lv_iload_n hx hb dX6_mouths_15 rfl (lv_at hl 1 rfl) ?_
    obtain ⟨q6, h5, hM⟩ := bd hM
    refine rVR (wc := (wX5 g a1 T1)) (As := [.int p1]) (rest := []) (q0 := 0) hS (c_X5_whoMaySay l g a1 T1 p1 h5) gX6_mouths_X5_whoMaySay rfl hd_X5_whoMaySay ⟨Nat.le_of_ble_eq_true rfl, Nat.le_of_ble_eq_true rfl⟩ hK (va_P.pm hw.1 (pm_9_1 _ _ _ _ _ _ _ _ _)) rfl rfl rfl rfl hl.1 rfl (Nat.le_of_ble_eq_true rfl) dX6_mouths_16 ⟨Nat.zero_le _, Nat.zero_le _⟩ ?_
    refine lv_goto (tgt := 28) hx hb dX6_mouths_19 (by decide) ?_
    obtain rfl := Option.some.inj hM
    exact W.iret hx hb hr (fun t ht _ => ⟨rfl, by rw [ht]; exact hw.1, hw.2.2.F ht⟩) hw.2.2.2.2 dX6_mouths_28
theorem hd_X6_mouthsBy : yX6_mouthsBy.cls = RX6 ∧ yX6_mouthsBy.cls ≠ "java/lang/invoke/MethodHandle" ∧ yX6_mouthsBy.cls ≠ "java/lang/invoke/VarHandle" ∧ (parseMethodDescriptor yX6_mouthsBy.desc).map (fun d => d.parameters.length) = some 2 := by decide +kernel
set_option maxHeartbeats 4000000 in
set_option maxRecDepth 100000 in
theorem c_X6_mouthsBy (l : Launch) (g : Gm) (a0 : Nat → Nat) (a1 : Nat → Nat) (a2 : Nat → Nat) (a3 : Nat → Nat) (a4 : Nat → Nat) (a5 : Nat → Nat) (a6 : Nat → Nat) (a7 : Nat → Nat) (a8 : Nat → Nat) (Z0 : TS) (T1 : TS) (T2 : TS) (T3 : TS) (G4 : TS) (R4 : LTS) (P5 : TS) (O7 : TS) (B7 : TS) (p1 : Int32) (p2 : Int32) {q : (Int32 × TS × TS)} (hM : f_X6_mouthsBy Z0 T1 T2 T3 G4 R4 P5 O7 B7 p1 p2 = some q) : MW l yX6_mouthsBy wsX6_mouthsBy 5 122 g [.ref (a0 0), .int p1, .int p2] ((wX6 g a0 (a1 0) (a2 0) (a3 0) (a4 0) (a5 0) (a6 0) (a7 0) (a8 0) Z0) ++ ((wX5 g a1 T1) ++ ((wX5 g a2 T2) ++ ((wX5 g a3 T3) ++ ((wX3 g a4 G4 R4) ++ ((wX4 g a5 P5) ++ ((wX2 g a6 (a1 0) (a3 0)) ++ ((wX1 g a7 (a1 0) (a3 0) O7 B7) ++ (wX0 g a8 (a1 0) (a3 0) (a4 0)))))))))) (some (.int q.1)) ((wX6 g a0 (a1 0) (a2 0) (a3 0) (a4 0) (a5 0) (a6 0) (a7 0) (a8 0) q.2.1) ++ ((wX5 g a1 T1) ++ ((wX5 g a2 T2) ++ ((wX5 g a3 q.2.2) ++ ((wX3 g a4 G4 R4) ++ ((wX4 g a5 P5) ++ ((wX2 g a6 (a1 0) (a3 0)) ++ ((wX1 g a7 (a1 0) (a3 0) O7 B7) ++ (wX0 g a8 (a1 0) (a3 0) (a4 0)))))))))) := by
  intro sz
  refine Met.ofW (cc := cX6_mouthsBy) (maxL := 3) (ret := (some .int)) (by decide) rfl ?_
  intro p e s m args below meth c s₁ B hml hv
  obtain ⟨rfl, hsz, hP, hK, hD0⟩ := hv
  have hx := B.exec; have hb := B.bytes; have hr := B.returns
  have hts := atoms_spec (ws := wsX6_mouthsBy) B.pre
  have hown : s.vm.findClass RX6 = some m.cls := findClass_of_methodNamed B.named
  have hlocks := B.notSynchronized
  have hS : CallFix p m c cX6_mouthsBy 3 s _ wsX6_mouthsBy RX6 := ⟨hx, hb, hml, hown, hts⟩
  have hin_X6 : ∀ w ∈ wsX60, w ∈ wsX6_mouthsBy := fun w h => (List.mem_cons_of_mem _ (List.mem_append_left _ (List.mem_append_left _ (List.mem_append_right _ h))))
  subst hsz
  have hw := wk_start hP hD0
  have hA : ∀ q : Nat, s.heap.size ≤ q → va_A ((wX6 g a0 (a1 0) (a2 0) (a3 0) (a4 0) (a5 0) (a6 0) (a7 0) (a8 0) Z0) ++ ((wX5 g a1 T1) ++ ((wX5 g a2 T2) ++ ((wX5 g a3 T3) ++ ((wX3 g a4 G4 R4) ++ ((wX4 g a5 P5) ++ ((wX2 g a6 (a1 0) (a3 0)) ++ ((wX1 g a7 (a1 0) (a3 0) O7 B7) ++ (wX0 g a8 (a1 0) (a3 0) (a4 0)))))))))) s.heap.size q := fun q h => Or.inr h
  generalize va_A ((wX6 g a0 (a1 0) (a2 0) (a3 0) (a4 0) (a5 0) (a6 0) (a7 0) (a8 0) Z0) ++ ((wX5 g a1 T1) ++ ((wX5 g a2 T2) ++ ((wX5 g a3 T3) ++ ((wX3 g a4 G4 R4) ++ ((wX4 g a5 P5) ++ ((wX2 g a6 (a1 0) (a3 0)) ++ ((wX1 g a7 (a1 0) (a3 0) O7 B7) ++ (wX0 g a8 (a1 0) (a3 0) (a4 0)))))))))) s.heap.size = A at hw hA ⊢
  clear hP hD0
  have hl := lv_entry ([.ref (a0 0), .int p1, .int p2]) (n := 3) (Nat.le_of_ble_eq_true rfl)
  rw [lg_entry_eq]
  generalize (lg_sl ([.ref (a0 0), .int p1, .int p2]) ++ List.replicate (3 - (lg_sl ([.ref (a0 0), .int p1, .int p2])).length) Slot.unset).toArray = ls at hl ⊢
  have hl : lv_has ls 3 [(0, .ref (a0 0)), (1, .int p1), (2, .int p2)] := hl
  rw [f_X6_mouthsBy] at hM
  refine lv_aload_n hx hb dX6_mouthsBy_0 rfl (lv_at hl 0 rfl) ?_
  refine wk_get hx hb hts hin_X6 hown hK hw.1 6 0 0 (.ref (a1 0)) rfl rfl (by decide) (mi 1 rfl) rfl rfl dX6_mouthsBy_1 ?_
  refine lv_iload_n hx hb dX6_mouthsBy_4 rfl (lv_at hl 1 rfl) ?_
  refine rVR (wc := (wX5 g a1 T1)) (As := [.int p1]) (rest := []) (q0 := 0) hS (c_X5_isSight l g a1 T1 p1) gX6_mouthsBy_X5_isSight rfl hd_X5_isSight ⟨Nat.le_of_ble_eq_true rfl, Nat.le_of_ble_eq_true rfl⟩ hK (va_P.pm hw.1 (pm_9_1 _ _ _ _ _ _ _ _ _)) rfl rfl rfl rfl hl.1 rfl (Nat.le_of_ble_eq_true rfl) dX6_mouthsBy_5 ⟨Nat.zero_le _, Nat.zero_le _⟩ ?_
  refine lv_if_eq (tgt := 18) hx hb dX6_mouthsBy_8 (by decide) (fun c2 => ?_) (fun c2 => ?_)
  · replace hM := itp c2 hM
    refine lv_aload_n hx hb dX6_mouthsBy_18 rfl (lv_at hl 0 rfl) ?_
    refine lv_bipush (v := (-2 : Int32)) hx hb dX6_mouthsBy_19 (by decide) ?_
    obtain ⟨q4, h3, hM⟩ := bd hM
    refine rVWp (wc := ((wX6 g a0 (a1 0) (a2 0) (a3 0) (a4 0) (a5 0) (a6 0) (a7 0) (a8 0) Z0) ++ ((wX5 g a1 T1) ++ ((wX5 g a2 T2) ++ ((wX5 g a3 T3) ++ ((wX3 g a4 G4 R4) ++ ((wX4 g a5 P5) ++ ((wX2 g a6 (a1 0) (a3 0)) ++ ((wX1 g a7 (a1 0) (a3 0) O7 B7) ++ (wX0 g a8 (a1 0) (a3 0) (a4 0))))))))))) (wq := ((wX6 g a0 (a1 0) (a2 0) (a3 0) (a4 0) (a5 0) (a6 0) (a7 0) (a8 0) q4.2) ++ ((wX5 g a1 T1) ++ ((wX5 g a2 T2) ++ ((wX5 g a3 T3) ++ ((wX3 g a4 G4 R4) ++ ((wX4 g a5 P5) ++ ((wX2 g a6 (a1 0) (a3 0)) ++ ((wX1 g a7 (a1 0) (a3 0) O7 B7) ++ (wX0 g a8 (a1 0) (a3 0) (a4 0))))))))))) (As := [.int (-2 : Int32)]) (rest := []) (q0 := 0) hS (c_X6_refuse l g a0 a1 a2 a3 a4 a5 a6 a7 a8 Z0 T1 T2 T3 G4 R4 P5 O7 B7 (-2 : Int32) h3) gX6_mouthsBy_X6_refuse rfl hd_X6_refuse ⟨Nat.le_of_ble_eq_true rfl, Nat.le_of_ble_eq_true rfl⟩ hK hw hA (pm_9_0_1_2_3_4_5_6_7_8 _ _ _ _ _ _ _ _ _) rfl (pm_9_0_1_2_3_4_5_6_7_8 _ _ _ _ _ _ _ _ _) rfl rfl rfl rfl hl.1 rfl (Nat.le_of_ble_eq_true rfl) dX6_mouthsBy_21 ⟨Nat.zero_le _, Nat.zero_le _⟩ (fun H locs hw => ?_)
    obtain rfl := Option.some.inj hM
    exact W.iret hx hb hr (fun t ht _ => ⟨rfl, by rw [ht]; exact hw.1, hw.2.2.F ht⟩) hw.2.2.2.2 dX6_mouthsBy_24
  · replace hM := itn c2 hM
    refine lv_iload_n hx hb dX6_mouthsBy_11 rfl (lv_at hl 2 rfl) ?_
    refine rSR (wc := ([] : va_W)) (As := [.int p2]) (rest := []) hS (c_X6_isRounds l g p2) gX6_mouthsBy_X6_isRounds rfl hd_X6_isRounds ⟨Nat.le_of_ble_eq_true rfl, Nat.le_of_ble_eq_true rfl⟩ hK (hP_nil) rfl hl.1 rfl (Nat.le_of_ble_eq_true rfl) dX6_mouthsBy_12 ⟨Nat.zero_le _, Nat.zero_le _⟩ ?_
    refine lv_if_ne (tgt := 25) hx hb dX6_mouthsBy_15 (by decide) (fun c6 => ?_) (fun c6 => ?_)
    · replace hM := itn c6 hM
      refine lv_aload_n hx hb dX6_mouthsBy_25 rfl (lv_at hl 0 rfl) ?_
      refine wk_get hx hb hts hin_X6 hown hK hw.1 6 0 5 (.ref (a6 0)) rfl rfl (by decide) (mi 2 rfl) rfl rfl dX6_mouthsBy_26 ?_
      refine lv_iload_n hx hb dX6_mouthsBy_29 rfl (lv_at hl 2 rfl) ?_
      obtain ⟨q10, h9, hM⟩ := bd hM
      refine rVWp (wc := ((wX2 g a6 (a1 0) (a3 0)) ++ ((wX5 g a1 T1) ++ (wX5 g a3 T3)))) (wq := ((wX6 g a0 (a1 0) (a2 0) (a3 0) (a4 0) (a5 0) (a6 0) (a7 0) (a8 0) Z0) ++ ((wX5 g a1 T1) ++ ((wX5 g a2 T2) ++ ((wX5 g a3 q10) ++ ((wX3 g a4 G4 R4) ++ ((wX4 g a5 P5) ++ ((wX2 g a6 (a1 0) (a3 0)) ++ ((wX1 g a7 (a1 0) (a3 0) O7 B7) ++ (wX0 g a8 (a1 0) (a3 0) (a4 0))))))))))) (As := [.int p2]) (rest := []) (q0 := 0) hS (c_X2_after l g a6 a1 a3 T1 T3 p2 h9) gX6_mouthsBy_X2_after rfl hd_X2_after ⟨Nat.le_of_ble_eq_true rfl, Nat.le_of_ble_eq_true rfl⟩ hK hw hA (pm_9_6_1_3 _ _ _ _ _ _ _ _ _) rfl (pm_9_6_1_3 _ _ _ _ _ _ _ _ _) rfl rfl rfl rfl hl.1 rfl (Nat.le_of_ble_eq_true rfl) dX6_mouthsBy_30 ⟨Nat.zero_le _, Nat.zero_le _⟩ (fun H locs hw => ?_)
      refine lv_iload_n hx hb dX6_mouthsBy_33 rfl (lv_at hl 1 rfl) ?_
      obtain ⟨q12, h11, hM⟩ := bd hM
      refine rVR (wc := (wX5 g a3 q10)) (As := [.int p1]) (rest := []) (q0 := 0) hS (c_X5_whoMaySay l g a3 q10 p1 h11) gX6_mouthsBy_X5_whoMaySay rfl hd_X5_whoMaySay ⟨Nat.le_of_ble_eq_true rfl, Nat.le_of_ble_eq_true rfl⟩ hK (va_P.pm hw.1 (pm_9_3 _ _ _ _ _ _ _ _ _)) rfl rfl rfl rfl hl.1 rfl (Nat.le_of_ble_eq_true rfl) dX6_mouthsBy_34 ⟨Nat.zero_le _, Nat.zero_le _⟩ ?_
      obtain rfl := Option.some.inj hM
      exact W.iret hx hb hr (fun t ht _ => ⟨rfl, by rw [ht]; exact hw.1, hw.2.2.F ht⟩) hw.2.2.2.2 dX6_mouthsBy_37
    · replace hM := itp c6 hM
      refine lv_aload_n hx hb dX6_mouthsBy_18 rfl (lv_at hl 0 rfl) ?_
      refine lv_bipush (v := (-2 : Int32)) hx hb dX6_mouthsBy_19 (by decide) ?_
      obtain ⟨q8, h7, hM⟩ := bd hM
      refine rVWp (wc := ((wX6 g a0 (a1 0) (a2 0) (a3 0) (a4 0) (a5 0) (a6 0) (a7 0) (a8 0) Z0) ++ ((wX5 g a1 T1) ++ ((wX5 g a2 T2) ++ ((wX5 g a3 T3) ++ ((wX3 g a4 G4 R4) ++ ((wX4 g a5 P5) ++ ((wX2 g a6 (a1 0) (a3 0)) ++ ((wX1 g a7 (a1 0) (a3 0) O7 B7) ++ (wX0 g a8 (a1 0) (a3 0) (a4 0))))))))))) (wq := ((wX6 g a0 (a1 0) (a2 0) (a3 0) (a4 0) (a5 0) (a6 0) (a7 0) (a8 0) q8.2) ++ ((wX5 g a1 T1) ++ ((wX5 g a2 T2) ++ ((wX5 g a3 T3) ++ ((wX3 g a4 G4 R4) ++ ((wX4 g a5 P5) ++ ((wX2 g a6 (a1 0) (a3 0)) ++ ((wX1 g a7 (a1 0) (a3 0) O7 B7) ++ (wX0 g a8 (a1 0) (a3 0) (a4 0))))))))))) (As := [.int (-2 : Int32)]) (rest := []) (q0 := 0) hS (c_X6_refuse l g a0 a1 a2 a3 a4 a5 a6 a7 a8 Z0 T1 T2 T3 G4 R4 P5 O7 B7 (-2 : Int32) h7) gX6_mouthsBy_X6_refuse rfl hd_X6_refuse ⟨Nat.le_of_ble_eq_true rfl, Nat.le_of_ble_eq_true rfl⟩ hK hw hA (pm_9_0_1_2_3_4_5_6_7_8 _ _ _ _ _ _ _ _ _) rfl (pm_9_0_1_2_3_4_5_6_7_8 _ _ _ _ _ _ _ _ _) rfl rfl rfl rfl hl.1 rfl (Nat.le_of_ble_eq_true rfl) dX6_mouthsBy_21 ⟨Nat.zero_le _, Nat.zero_le _⟩ (fun H locs hw => ?_)
      obtain rfl := Option.some.inj hM
      exact W.iret hx hb hr (fun t ht _ => ⟨rfl, by rw [ht]; exact hw.1, hw.2.2.F ht⟩) hw.2.2.2.2 dX6_mouthsBy_24
theorem hd_X6_near : yX6_near.cls = RX6 ∧ yX6_near.cls ≠ "java/lang/invoke/MethodHandle" ∧ yX6_near.cls ≠ "java/lang/invoke/VarHandle" ∧ (parseMethodDescriptor yX6_near.desc).map (fun d => d.parameters.length) = some 3 := by decide +kernel
set_option maxHeartbeats 4000000 in
set_option maxRecDepth 100000 in
theorem c_X6_near (l : Launch) (g : Gm) (a0 : Nat → Nat) (a1 : Nat → Nat) (a2 : Nat → Nat) (a3 : Nat → Nat) (a4 : Nat → Nat) (a5 : Nat → Nat) (a6 : Nat → Nat) (a7 : Nat → Nat) (a8 : Nat → Nat) (Z0 : TS) (T1 : TS) (T2 : TS) (T3 : TS) (G4 : TS) (R4 : LTS) (P5 : TS) (O7 : TS) (B7 : TS) (p1 : Int32) (p2 : Int32) (p3 : Int32) {q : (Int32 × TS × TS)} (hM : f_X6_near Z0 T1 T2 T3 G4 R4 P5 O7 B7 p1 p2 p3 = some q) : MW l yX6_near wsX6_near 2 45 g [.ref (a0 0), .int p1, .int p2, .int p3] ((wX6 g a0 (a1 0) (a2 0) (a3 0) (a4 0) (a5 0) (a6 0) (a7 0) (a8 0) Z0) ++ ((wX5 g a1 T1) ++ ((wX5 g a2 T2) ++ ((wX5 g a3 T3) ++ ((wX3 g a4 G4 R4) ++ ((wX4 g a5 P5) ++ ((wX2 g a6 (a1 0) (a3 0)) ++ ((wX1 g a7 (a1 0) (a3 0) O7 B7) ++ (wX0 g a8 (a1 0) (a3 0) (a4 0)))))))))) (some (.int q.1)) ((wX6 g a0 (a1 0) (a2 0) (a3 0) (a4 0) (a5 0) (a6 0) (a7 0) (a8 0) q.2.1) ++ ((wX5 g a1 q.2.2) ++ ((wX5 g a2 T2) ++ ((wX5 g a3 T3) ++ ((wX3 g a4 G4 R4) ++ ((wX4 g a5 P5) ++ ((wX2 g a6 (a1 0) (a3 0)) ++ ((wX1 g a7 (a1 0) (a3 0) O7 B7) ++ (wX0 g a8 (a1 0) (a3 0) (a4 0)))))))))) := by
  intro sz
  refine Met.ofW (cc := cX6_near) (maxL := 5) (ret := (some .int)) (by decide) rfl ?_
  intro p e s m args below meth c s₁ B hml hv
  obtain ⟨rfl, hsz, hP, hK, hD0⟩ := hv
  have hx := B.exec; have hb := B.bytes; have hr := B.returns
  have hts := atoms_spec (ws := wsX6_near) B.pre
  have hown : s.vm.findClass RX6 = some m.cls := findClass_of_methodNamed B.named
  have hlocks := B.notSynchronized
  have hS : CallFix p m c cX6_near 5 s _ wsX6_near RX6 := ⟨hx, hb, hml, hown, hts⟩
  have hin_X5 : ∀ w ∈ wsX50, w ∈ wsX6_near := fun w h => (List.mem_cons_of_mem _ (List.mem_append_right _ h))
  have hin_X6 : ∀ w ∈ wsX60, w ∈ wsX6_near := fun w h => (List.mem_cons_of_mem _ (List.mem_append_left _ (List.mem_append_right _ h)))
  subst hsz
  have hw := wk_start hP hD0
  have hA : ∀ q : Nat, s.heap.size ≤ q → va_A ((wX6 g a0 (a1 0) (a2 0) (a3 0) (a4 0) (a5 0) (a6 0) (a7 0) (a8 0) Z0) ++ ((wX5 g a1 T1) ++ ((wX5 g a2 T2) ++ ((wX5 g a3 T3) ++ ((wX3 g a4 G4 R4) ++ ((wX4 g a5 P5) ++ ((wX2 g a6 (a1 0) (a3 0)) ++ ((wX1 g a7 (a1 0) (a3 0) O7 B7) ++ (wX0 g a8 (a1 0) (a3 0) (a4 0)))))))))) s.heap.size q := fun q h => Or.inr h
  generalize va_A ((wX6 g a0 (a1 0) (a2 0) (a3 0) (a4 0) (a5 0) (a6 0) (a7 0) (a8 0) Z0) ++ ((wX5 g a1 T1) ++ ((wX5 g a2 T2) ++ ((wX5 g a3 T3) ++ ((wX3 g a4 G4 R4) ++ ((wX4 g a5 P5) ++ ((wX2 g a6 (a1 0) (a3 0)) ++ ((wX1 g a7 (a1 0) (a3 0) O7 B7) ++ (wX0 g a8 (a1 0) (a3 0) (a4 0)))))))))) s.heap.size = A at hw hA ⊢
  clear hP hD0
  have hl := lv_entry ([.ref (a0 0), .int p1, .int p2, .int p3]) (n := 5) (Nat.le_of_ble_eq_true rfl)
  rw [lg_entry_eq]
  generalize (lg_sl ([.ref (a0 0), .int p1, .int p2, .int p3]) ++ List.replicate (5 - (lg_sl ([.ref (a0 0), .int p1, .int p2, .int p3])).length) Slot.unset).toArray = ls at hl ⊢
  have hl : lv_has ls 5 [(0, .ref (a0 0)), (1, .int p1), (2, .int p2), (3, .int p3)] := hl
  rw [f_X6_near] at hM
  refine lv_aload_n hx hb dX6_near_0 rfl (lv_at hl 0 rfl) ?_
  refine wk_get hx hb hts hin_X6 hown hK hw.1 6 0 0 (.ref (a1 0)) rfl rfl (by decide) (mi 1 rfl) rfl rfl dX6_near_1 ?_
  refine lv_iload_n hx hb dX6_near_4 rfl (lv_at hl 1 rfl) ?_
  refine rVR (wc := (wX5 g a1 T1)) (As := [.int p1]) (rest := []) (q0 := 0) hS (c_X5_isOne l g a1 T1 p1) gX6_near_X5_isOne rfl hd_X5_isOne ⟨Nat.le_of_ble_eq_true rfl, Nat.le_of_ble_eq_true rfl⟩ hK (va_P.pm hw.1 (pm_9_1 _ _ _ _ _ _ _ _ _)) rfl rfl rfl rfl hl.1 rfl (Nat.le_of_ble_eq_true rfl) dX6_near_5 ⟨Nat.zero_le _, Nat.zero_le _⟩ ?_
  refine lv_if_eq (tgt := 27) hx hb dX6_near_8 (by decide) (fun c2 => ?_) (fun c2 => ?_)
  · replace hM := itp c2 hM
    refine lv_aload_n hx hb dX6_near_27 rfl (lv_at hl 0 rfl) ?_
    refine lv_bipush (v := (-2 : Int32)) hx hb dX6_near_28 (by decide) ?_
    obtain ⟨q4, h3, hM⟩ := bd hM
    refine rVWp (wc := ((wX6 g a0 (a1 0) (a2 0) (a3 0) (a4 0) (a5 0) (a6 0) (a7 0) (a8 0) Z0) ++ ((wX5 g a1 T1) ++ ((wX5 g a2 T2) ++ ((wX5 g a3 T3) ++ ((wX3 g a4 G4 R4) ++ ((wX4 g a5 P5) ++ ((wX2 g a6 (a1 0) (a3 0)) ++ ((wX1 g a7 (a1 0) (a3 0) O7 B7) ++ (wX0 g a8 (a1 0) (a3 0) (a4 0))))))))))) (wq := ((wX6 g a0 (a1 0) (a2 0) (a3 0) (a4 0) (a5 0) (a6 0) (a7 0) (a8 0) q4.2) ++ ((wX5 g a1 T1) ++ ((wX5 g a2 T2) ++ ((wX5 g a3 T3) ++ ((wX3 g a4 G4 R4) ++ ((wX4 g a5 P5) ++ ((wX2 g a6 (a1 0) (a3 0)) ++ ((wX1 g a7 (a1 0) (a3 0) O7 B7) ++ (wX0 g a8 (a1 0) (a3 0) (a4 0))))))))))) (As := [.int (-2 : Int32)]) (rest := []) (q0 := 0) hS (c_X6_refuse l g a0 a1 a2 a3 a4 a5 a6 a7 a8 Z0 T1 T2 T3 G4 R4 P5 O7 B7 (-2 : Int32) h3) gX6_near_X6_refuse rfl hd_X6_refuse ⟨Nat.le_of_ble_eq_true rfl, Nat.le_of_ble_eq_true rfl⟩ hK hw hA (pm_9_0_1_2_3_4_5_6_7_8 _ _ _ _ _ _ _ _ _) rfl (pm_9_0_1_2_3_4_5_6_7_8 _ _ _ _ _ _ _ _ _) rfl rfl rfl rfl hl.1 rfl (Nat.le_of_ble_eq_true rfl) dX6_near_30 ⟨Nat.zero_le _, Nat.zero_le _⟩ (fun H locs hw => ?_)
    obtain rfl := Option.some.inj hM
    exact W.iret hx hb hr (fun t ht _ => ⟨rfl, by rw [ht]; exact hw.1, hw.2.2.F ht⟩) hw.2.2.2.2 dX6_near_33
  · replace hM := itn c2 hM
    refine lv_aload_n hx hb dX6_near_11 rfl (lv_at hl 0 rfl) ?_
    refine wk_get hx hb hts hin_X6 hown hK hw.1 6 0 0 (.ref (a1 0)) rfl rfl (by decide) (mi 1 rfl) rfl rfl dX6_near_12 ?_
    refine lv_iload_n hx hb dX6_near_15 rfl (lv_at hl 2 rfl) ?_
    refine rVR (wc := (wX5 g a1 T1)) (As := [.int p2]) (rest := []) (q0 := 0) hS (c_X5_isOne l g a1 T1 p2) gX6_near_X5_isOne rfl hd_X5_isOne ⟨Nat.le_of_ble_eq_true rfl, Nat.le_of_ble_eq_true rfl⟩ hK (va_P.pm hw.1 (pm_9_1 _ _ _ _ _ _ _ _ _)) rfl rfl rfl rfl hl.1 rfl (Nat.le_of_ble_eq_true rfl) dX6_near_16 ⟨Nat.zero_le _, Nat.zero_le _⟩ ?_
    refine lv_if_eq (tgt := 27) hx hb dX6_near_19 (by decide) (fun c6 => ?_) (fun c6 => ?_)
    · replace hM := itp c6 hM
      refine lv_aload_n hx hb dX6_near_27 rfl (lv_at hl 0 rfl) ?_
      refine lv_bipush (v := (-2 : Int32)) hx hb dX6_near_28 (by decide) ?_
      obtain ⟨q8, h7, hM⟩ := bd hM
      refine rVWp (wc := ((wX6 g a0 (a1 0) (a2 0) (a3 0) (a4 0) (a5 0) (a6 0) (a7 0) (a8 0) Z0) ++ ((wX5 g a1 T1) ++ ((wX5 g a2 T2) ++ ((wX5 g a3 T3) ++ ((wX3 g a4 G4 R4) ++ ((wX4 g a5 P5) ++ ((wX2 g a6 (a1 0) (a3 0)) ++ ((wX1 g a7 (a1 0) (a3 0) O7 B7) ++ (wX0 g a8 (a1 0) (a3 0) (a4 0))))))))))) (wq := ((wX6 g a0 (a1 0) (a2 0) (a3 0) (a4 0) (a5 0) (a6 0) (a7 0) (a8 0) q8.2) ++ ((wX5 g a1 T1) ++ ((wX5 g a2 T2) ++ ((wX5 g a3 T3) ++ ((wX3 g a4 G4 R4) ++ ((wX4 g a5 P5) ++ ((wX2 g a6 (a1 0) (a3 0)) ++ ((wX1 g a7 (a1 0) (a3 0) O7 B7) ++ (wX0 g a8 (a1 0) (a3 0) (a4 0))))))))))) (As := [.int (-2 : Int32)]) (rest := []) (q0 := 0) hS (c_X6_refuse l g a0 a1 a2 a3 a4 a5 a6 a7 a8 Z0 T1 T2 T3 G4 R4 P5 O7 B7 (-2 : Int32) h7) gX6_near_X6_refuse rfl hd_X6_refuse ⟨Nat.le_of_ble_eq_true rfl, Nat.le_of_ble_eq_true rfl⟩ hK hw hA (pm_9_0_1_2_3_4_5_6_7_8 _ _ _ _ _ _ _ _ _) rfl (pm_9_0_1_2_3_4_5_6_7_8 _ _ _ _ _ _ _ _ _) rfl rfl rfl rfl hl.1 rfl (Nat.le_of_ble_eq_true rfl) dX6_near_30 ⟨Nat.zero_le _, Nat.zero_le _⟩ (fun H locs hw => ?_)
      obtain rfl := Option.some.inj hM
      exact W.iret hx hb hr (fun t ht _ => ⟨rfl, by rw [ht]; exact hw.1, hw.2.2.F ht⟩) hw.2.2.2.2 dX6_near_33
    · replace hM := itn c6 hM
      refine lv_iload_n hx hb dX6_near_22 rfl (lv_at hl 1 rfl) ?_
      refine lv_iload_n hx hb dX6_near_23 rfl (lv_at hl 2 rfl) ?_
      refine lv_icmp_ne (tgt := 34) hx hb dX6_near_24 (by decide) (fun c9 => ?_) (fun c9 => ?_)
      · replace hM := itn c9 hM
        refine lv_aload_n hx hb dX6_near_34 rfl (lv_at hl 0 rfl) ?_
        refine wk_get hx hb hts hin_X6 hown hK hw.1 6 0 0 (.ref (a1 0)) rfl rfl (by decide) (mi 1 rfl) rfl rfl dX6_near_35 ?_
        refine wk_get hx hb hts hin_X5 hown hK hw.1 5 2 10 (.ref (a1 4)) rfl rfl (by decide) (mi 2 rfl) rfl rfl dX6_near_38 ?_
        refine lv_iload_n hx hb dX6_near_41 rfl (lv_at hl 1 rfl) ?_
        obtain ⟨k12, hM⟩ := ck hM
        refine wk_iald hx hb hK hw.1 6 7 (T1 10) rfl k12 dX6_near_42 ?_
        refine lv_iload_n hx hb dX6_near_43 rfl (lv_at hl 2 rfl) ?_
        refine rSR (wc := ([] : va_W)) (As := [.int ((T1 10) (p1).toNatClampNeg), .int p2]) (rest := []) hS (c_X6_has l g ((T1 10) (p1).toNatClampNeg) p2) gX6_near_X6_has rfl hd_X6_has ⟨Nat.le_of_ble_eq_true rfl, Nat.le_of_ble_eq_true rfl⟩ hK (hP_nil) rfl hl.1 rfl (Nat.le_of_ble_eq_true rfl) dX6_near_44 ⟨Nat.zero_le _, Nat.zero_le _⟩ ?_
        refine lv_istore (lv' := [(4, .int (f_X6_has ((T1 10) (p1).toNatClampNeg) p2)), (0, .ref (a0 0)), (1, .int p1), (2, .int p2), (3, .int p3)]) hx hb dX6_near_47 hl (by decide) rfl (fun ls hl => ?_)
        refine lv_aload_n hx hb dX6_near_49 rfl (lv_at hl 1 rfl) ?_
        refine wk_get hx hb hts hin_X6 hown hK hw.1 6 0 0 (.ref (a1 0)) rfl rfl (by decide) (mi 1 rfl) rfl rfl dX6_near_50 ?_
        refine lv_iload_n hx hb dX6_near_53 rfl (lv_at hl 2 rfl) ?_
        refine lv_iload_n hx hb dX6_near_54 rfl (lv_at hl 3 rfl) ?_
        refine lv_iload_n hx hb dX6_near_55 rfl (lv_at hl 4 rfl) ?_
        obtain ⟨q15, h14, hM⟩ := bd hM
        refine rVWp (wc := (wX5 g a1 T1)) (wq := ((wX6 g a0 (a1 0) (a2 0) (a3 0) (a4 0) (a5 0) (a6 0) (a7 0) (a8 0) Z0) ++ ((wX5 g a1 q15) ++ ((wX5 g a2 T2) ++ ((wX5 g a3 T3) ++ ((wX3 g a4 G4 R4) ++ ((wX4 g a5 P5) ++ ((wX2 g a6 (a1 0) (a3 0)) ++ ((wX1 g a7 (a1 0) (a3 0) O7 B7) ++ (wX0 g a8 (a1 0) (a3 0) (a4 0))))))))))) (As := [.int p1, .int p2, .int p3]) (rest := []) (q0 := 0) hS (c_X5_putHears l g a1 T1 p1 p2 p3 h14) gX6_near_X5_putHears rfl hd_X5_putHears ⟨Nat.le_of_ble_eq_true rfl, Nat.le_of_ble_eq_true rfl⟩ hK hw hA (pm_9_1 _ _ _ _ _ _ _ _ _) rfl (pm_9_1 _ _ _ _ _ _ _ _ _) rfl rfl rfl rfl hl.1 rfl (Nat.le_of_ble_eq_true rfl) dX6_near_56 ⟨Nat.zero_le _, Nat.zero_le _⟩ (fun H locs hw => ?_)
        refine lv_iload hx hb dX6_near_59 (lv_at hl 0 rfl) ?_
        refine lv_iload_n hx hb dX6_near_61 rfl (lv_at hl 4 rfl) ?_
        have hJ22 : ∀ (H : Heap) (locs : List Loc) (x21 : Int32) (ls : Array Slot), Wk g A s.heap H locs ((wX6 g a0 (a1 0) (a2 0) (a3 0) (a4 0) (a5 0) (a6 0) (a7 0) (a8 0) Z0) ++ ((wX5 g a1 q15) ++ ((wX5 g a2 T2) ++ ((wX5 g a3 T3) ++ ((wX3 g a4 G4 R4) ++ ((wX4 g a5 P5) ++ ((wX2 g a6 (a1 0) (a3 0)) ++ ((wX1 g a7 (a1 0) (a3 0) O7 B7) ++ (wX0 g a8 (a1 0) (a3 0) (a4 0)))))))))) → x21 = (if (f_X6_has ((T1 10) (p1).toNatClampNeg) p2) = p3 then (0 : Int32) else (1 : Int32)) → lv_has ls 5 [] → W p l e (headSpec wsX6_near ({ frames := 2, cells := 0, slots := 0, locals := 45 } : Room)).room s m ([.ref (a0 0), .int p1, .int p2, .int p3] : List Value).toArray below meth c H locs 0 0 (MQ below (QcW g (some (.int q.1)) ((wX6 g a0 (a1 0) (a2 0) (a3 0) (a4 0) (a5 0) (a6 0) (a7 0) (a8 0) q.2.1) ++ ((wX5 g a1 q.2.2) ++ ((wX5 g a2 T2) ++ ((wX5 g a3 T3) ++ ((wX3 g a4 G4 R4) ++ ((wX4 g a5 P5) ++ ((wX2 g a6 (a1 0) (a3 0)) ++ ((wX1 g a7 (a1 0) (a3 0) O7 B7) ++ (wX0 g a8 (a1 0) (a3 0) (a4 0)))))))))) A) ([.ref (a0 0), .int p1, .int p2, .int p3] : List Value).toArray s 0 0 A) (F0 m 70 ls [.int x21]) := by
          intro H locs x21 ls hw hxx21 hl
          subst hxx21
          obtain rfl := Option.some.inj hM
          exact W.iret hx hb hr (fun t ht _ => ⟨rfl, by rw [ht]; exact hw.1, hw.2.2.F ht⟩) hw.2.2.2.2 dX6_near_70
        refine lv_icmp_ne (tgt := 69) hx hb dX6_near_62 (by decide) (fun c16 => ?_) (fun c16 => ?_)
        · refine lv_iconst (v := (1 : Int32)) hx hb dX6_near_69 (by decide) ?_
          exact hJ22 _ _ _ _ hw (by first | rfl | (simp only [if_neg c16])) (lv_sub hl [] rfl)
        · refine lv_iconst (v := (0 : Int32)) hx hb dX6_near_65 (by decide) ?_
          refine lv_goto (tgt := 70) hx hb dX6_near_66 (by decide) ?_
          exact hJ22 _ _ _ _ hw (by first | rfl | (simp only [if_pos c16])) (lv_sub hl [] rfl)
      · replace hM := itp c9 hM
        refine lv_aload_n hx hb dX6_near_27 rfl (lv_at hl 0 rfl) ?_
        refine lv_bipush (v := (-2 : Int32)) hx hb dX6_near_28 (by decide) ?_
        obtain ⟨q11, h10, hM⟩ := bd hM
        refine rVWp (wc := ((wX6 g a0 (a1 0) (a2 0) (a3 0) (a4 0) (a5 0) (a6 0) (a7 0) (a8 0) Z0) ++ ((wX5 g a1 T1) ++ ((wX5 g a2 T2) ++ ((wX5 g a3 T3) ++ ((wX3 g a4 G4 R4) ++ ((wX4 g a5 P5) ++ ((wX2 g a6 (a1 0) (a3 0)) ++ ((wX1 g a7 (a1 0) (a3 0) O7 B7) ++ (wX0 g a8 (a1 0) (a3 0) (a4 0))))))))))) (wq := ((wX6 g a0 (a1 0) (a2 0) (a3 0) (a4 0) (a5 0) (a6 0) (a7 0) (a8 0) q11.2) ++ ((wX5 g a1 T1) ++ ((wX5 g a2 T2) ++ ((wX5 g a3 T3) ++ ((wX3 g a4 G4 R4) ++ ((wX4 g a5 P5) ++ ((wX2 g a6 (a1 0) (a3 0)) ++ ((wX1 g a7 (a1 0) (a3 0) O7 B7) ++ (wX0 g a8 (a1 0) (a3 0) (a4 0))))))))))) (As := [.int (-2 : Int32)]) (rest := []) (q0 := 0) hS (c_X6_refuse l g a0 a1 a2 a3 a4 a5 a6 a7 a8 Z0 T1 T2 T3 G4 R4 P5 O7 B7 (-2 : Int32) h10) gX6_near_X6_refuse rfl hd_X6_refuse ⟨Nat.le_of_ble_eq_true rfl, Nat.le_of_ble_eq_true rfl⟩ hK hw hA (pm_9_0_1_2_3_4_5_6_7_8 _ _ _ _ _ _ _ _ _) rfl (pm_9_0_1_2_3_4_5_6_7_8 _ _ _ _ _ _ _ _ _) rfl rfl rfl rfl hl.1 rfl (Nat.le_of_ble_eq_true rfl) dX6_near_30 ⟨Nat.zero_le _, Nat.zero_le _⟩ (fun H locs hw => ?_)
        obtain rfl := Option.some.inj hM
        exact W.iret hx hb hr (fun t ht _ => ⟨rfl, by rw [ht]; exact hw.1, hw.2.2.F ht⟩) hw.2.2.2.2 dX6_near_33
theorem hd_X6_never : yX6_never.cls = RX6 ∧ yX6_never.cls ≠ "java/lang/invoke/MethodHandle" ∧ yX6_never.cls ≠ "java/lang/invoke/VarHandle" ∧ (parseMethodDescriptor yX6_never.desc).map (fun d => d.parameters.length) = some 1 := by decide +kernel
set_option maxHeartbeats 4000000 in
set_option maxRecDepth 100000 in
theorem c_X6_never (l : Launch) (g : Gm) (a0 : Nat → Nat) (a1 : Nat → Nat) (a2 : Nat → Nat) (a3 : Nat → Nat) (a4 : Nat → Nat) (a5 : Nat → Nat) (a6 : Nat → Nat) (a7 : Nat → Nat) (a8 : Nat → Nat) (Z0 : TS) (T1 : TS) (T2 : TS) (T3 : TS) (G4 : TS) (R4 : LTS) (P5 : TS) (O7 : TS) (B7 : TS) (p1 : Int32) {q : (Int32 × TS × TS)} (hM : f_X6_never Z0 T1 T2 T3 G4 R4 P5 O7 B7 p1 = some q) : MW l yX6_never wsX6_never 5 122 g [.ref (a0 0), .int p1] ((wX6 g a0 (a1 0) (a2 0) (a3 0) (a4 0) (a5 0) (a6 0) (a7 0) (a8 0) Z0) ++ ((wX5 g a1 T1) ++ ((wX5 g a2 T2) ++ ((wX5 g a3 T3) ++ ((wX3 g a4 G4 R4) ++ ((wX4 g a5 P5) ++ ((wX2 g a6 (a1 0) (a3 0)) ++ ((wX1 g a7 (a1 0) (a3 0) O7 B7) ++ (wX0 g a8 (a1 0) (a3 0) (a4 0)))))))))) (some (.int q.1)) ((wX6 g a0 (a1 0) (a2 0) (a3 0) (a4 0) (a5 0) (a6 0) (a7 0) (a8 0) q.2.1) ++ ((wX5 g a1 T1) ++ ((wX5 g a2 T2) ++ ((wX5 g a3 q.2.2) ++ ((wX3 g a4 G4 R4) ++ ((wX4 g a5 P5) ++ ((wX2 g a6 (a1 0) (a3 0)) ++ ((wX1 g a7 (a1 0) (a3 0) O7 B7) ++ (wX0 g a8 (a1 0) (a3 0) (a4 0)))))))))) := by
  intro sz
  refine Met.ofW (cc := cX6_never) (maxL := 2) (ret := (some .int)) (by decide) rfl ?_
  intro p e s m args below meth c s₁ B hml hv
  obtain ⟨rfl, hsz, hP, hK, hD0⟩ := hv
  have hx := B.exec; have hb := B.bytes; have hr := B.returns
  have hts := atoms_spec (ws := wsX6_never) B.pre
  have hown : s.vm.findClass RX6 = some m.cls := findClass_of_methodNamed B.named
  have hlocks := B.notSynchronized
  have hS : CallFix p m c cX6_never 2 s _ wsX6_never RX6 := ⟨hx, hb, hml, hown, hts⟩
  have hin_X6 : ∀ w ∈ wsX60, w ∈ wsX6_never := fun w h => (List.mem_cons_of_mem _ (List.mem_append_left _ (List.mem_append_left _ (List.mem_append_right _ h))))
  subst hsz
  have hw := wk_start hP hD0
  have hA : ∀ q : Nat, s.heap.size ≤ q → va_A ((wX6 g a0 (a1 0) (a2 0) (a3 0) (a4 0) (a5 0) (a6 0) (a7 0) (a8 0) Z0) ++ ((wX5 g a1 T1) ++ ((wX5 g a2 T2) ++ ((wX5 g a3 T3) ++ ((wX3 g a4 G4 R4) ++ ((wX4 g a5 P5) ++ ((wX2 g a6 (a1 0) (a3 0)) ++ ((wX1 g a7 (a1 0) (a3 0) O7 B7) ++ (wX0 g a8 (a1 0) (a3 0) (a4 0)))))))))) s.heap.size q := fun q h => Or.inr h
  generalize va_A ((wX6 g a0 (a1 0) (a2 0) (a3 0) (a4 0) (a5 0) (a6 0) (a7 0) (a8 0) Z0) ++ ((wX5 g a1 T1) ++ ((wX5 g a2 T2) ++ ((wX5 g a3 T3) ++ ((wX3 g a4 G4 R4) ++ ((wX4 g a5 P5) ++ ((wX2 g a6 (a1 0) (a3 0)) ++ ((wX1 g a7 (a1 0) (a3 0) O7 B7) ++ (wX0 g a8 (a1 0) (a3 0) (a4 0)))))))))) s.heap.size = A at hw hA ⊢
  clear hP hD0
  have hl := lv_entry ([.ref (a0 0), .int p1]) (n := 2) (Nat.le_of_ble_eq_true rfl)
  rw [lg_entry_eq]
  generalize (lg_sl ([.ref (a0 0), .int p1]) ++ List.replicate (2 - (lg_sl ([.ref (a0 0), .int p1])).length) Slot.unset).toArray = ls at hl ⊢
  have hl : lv_has ls 2 [(0, .ref (a0 0)), (1, .int p1)] := hl
  rw [f_X6_never] at hM
  refine lv_aload_n hx hb dX6_never_0 rfl (lv_at hl 0 rfl) ?_
  refine wk_get hx hb hts hin_X6 hown hK hw.1 6 0 0 (.ref (a1 0)) rfl rfl (by decide) (mi 1 rfl) rfl rfl dX6_never_1 ?_
  refine lv_iload_n hx hb dX6_never_4 rfl (lv_at hl 1 rfl) ?_
  refine rVR (wc := (wX5 g a1 T1)) (As := [.int p1]) (rest := []) (q0 := 0) hS (c_X5_isSight l g a1 T1 p1) gX6_never_X5_isSight rfl hd_X5_isSight ⟨Nat.le_of_ble_eq_true rfl, Nat.le_of_ble_eq_true rfl⟩ hK (va_P.pm hw.1 (pm_9_1 _ _ _ _ _ _ _ _ _)) rfl rfl rfl rfl hl.1 rfl (Nat.le_of_ble_eq_true rfl) dX6_never_5 ⟨Nat.zero_le _, Nat.zero_le _⟩ ?_
  refine lv_if_ne (tgt := 18) hx hb dX6_never_8 (by decide) (fun c2 => ?_) (fun c2 => ?_)
  · replace hM := itn c2 hM
    refine lv_aload_n hx hb dX6_never_18 rfl (lv_at hl 0 rfl) ?_
    refine wk_get hx hb hts hin_X6 hown hK hw.1 6 0 0 (.ref (a1 0)) rfl rfl (by decide) (mi 1 rfl) rfl rfl dX6_never_19 ?_
    refine rVR (wc := (wX5 g a1 T1)) (As := []) (rest := []) (q0 := 0) hS (c_X5_allPeople l g a1 T1) gX6_never_X5_allPeople rfl hd_X5_allPeople ⟨Nat.le_of_ble_eq_true rfl, Nat.le_of_ble_eq_true rfl⟩ hK (va_P.pm hw.1 (pm_9_1 _ _ _ _ _ _ _ _ _)) rfl rfl rfl rfl hl.1 rfl (Nat.le_of_ble_eq_true rfl) dX6_never_22 ⟨Nat.zero_le _, Nat.zero_le _⟩ ?_
    refine lv_aload_n hx hb dX6_never_25 rfl (lv_at hl 0 rfl) ?_
    refine wk_get hx hb hts hin_X6 hown hK hw.1 6 0 5 (.ref (a6 0)) rfl rfl (by decide) (mi 2 rfl) rfl rfl dX6_never_26 ?_
    refine lv_bipush (v := (20 : Int32)) hx hb dX6_never_29 (by decide) ?_
    obtain ⟨q7, h6, hM⟩ := bd hM
    refine rVWp (wc := ((wX2 g a6 (a1 0) (a3 0)) ++ ((wX5 g a1 T1) ++ (wX5 g a3 T3)))) (wq := ((wX6 g a0 (a1 0) (a2 0) (a3 0) (a4 0) (a5 0) (a6 0) (a7 0) (a8 0) Z0) ++ ((wX5 g a1 T1) ++ ((wX5 g a2 T2) ++ ((wX5 g a3 q7) ++ ((wX3 g a4 G4 R4) ++ ((wX4 g a5 P5) ++ ((wX2 g a6 (a1 0) (a3 0)) ++ ((wX1 g a7 (a1 0) (a3 0) O7 B7) ++ (wX0 g a8 (a1 0) (a3 0) (a4 0))))))))))) (As := [.int (20 : Int32)]) (rest := [.int (f_X5_allPeople T1)]) (q0 := 0) hS (c_X2_after l g a6 a1 a3 T1 T3 (20 : Int32) h6) gX6_never_X2_after rfl hd_X2_after ⟨Nat.le_of_ble_eq_true rfl, Nat.le_of_ble_eq_true rfl⟩ hK hw hA (pm_9_6_1_3 _ _ _ _ _ _ _ _ _) rfl (pm_9_6_1_3 _ _ _ _ _ _ _ _ _) rfl rfl rfl rfl hl.1 rfl (Nat.le_of_ble_eq_true rfl) dX6_never_31 ⟨Nat.zero_le _, Nat.zero_le _⟩ (fun H locs hw => ?_)
    refine lv_iload_n hx hb dX6_never_34 rfl (lv_at hl 1 rfl) ?_
    obtain ⟨q9, h8, hM⟩ := bd hM
    refine rVR (wc := (wX5 g a3 q7)) (As := [.int p1]) (rest := [.int (f_X5_allPeople T1)]) (q0 := 0) hS (c_X5_whoKnows l g a3 q7 p1 h8) gX6_never_X5_whoKnows rfl hd_X5_whoKnows ⟨Nat.le_of_ble_eq_true rfl, Nat.le_of_ble_eq_true rfl⟩ hK (va_P.pm hw.1 (pm_9_3 _ _ _ _ _ _ _ _ _)) rfl rfl rfl rfl hl.1 rfl (Nat.le_of_ble_eq_true rfl) dX6_never_35 ⟨Nat.zero_le _, Nat.zero_le _⟩ ?_
    refine lv_iconst (v := (-1 : Int32)) hx hb dX6_never_38 (by decide) ?_
    refine lv_ixor hx hb dX6_never_39 ?_
    refine lv_iand hx hb dX6_never_40 ?_
    obtain rfl := Option.some.inj hM
    exact W.iret hx hb hr (fun t ht _ => ⟨rfl, by rw [ht]; exact hw.1, hw.2.2.F ht⟩) hw.2.2.2.2 dX6_never_41
  · replace hM := itp c2 hM
    refine lv_aload_n hx hb dX6_never_11 rfl (lv_at hl 0 rfl) ?_
    refine lv_bipush (v := (-2 : Int32)) hx hb dX6_never_12 (by decide) ?_
    obtain ⟨q4, h3, hM⟩ := bd hM
    refine rVWp (wc := ((wX6 g a0 (a1 0) (a2 0) (a3 0) (a4 0) (a5 0) (a6 0) (a7 0) (a8 0) Z0) ++ ((wX5 g a1 T1) ++ ((wX5 g a2 T2) ++ ((wX5 g a3 T3) ++ ((wX3 g a4 G4 R4) ++ ((wX4 g a5 P5) ++ ((wX2 g a6 (a1 0) (a3 0)) ++ ((wX1 g a7 (a1 0) (a3 0) O7 B7) ++ (wX0 g a8 (a1 0) (a3 0) (a4 0))))))))))) (wq := ((wX6 g a0 (a1 0) (a2 0) (a3 0) (a4 0) (a5 0) (a6 0) (a7 0) (a8 0) q4.2) ++ ((wX5 g a1 T1) ++ ((wX5 g a2 T2) ++ ((wX5 g a3 T3) ++ ((wX3 g a4 G4 R4) ++ ((wX4 g a5 P5) ++ ((wX2 g a6 (a1 0) (a3 0)) ++ ((wX1 g a7 (a1 0) (a3 0) O7 B7) ++ (wX0 g a8 (a1 0) (a3 0) (a4 0))))))))))) (As := [.int (-2 : Int32)]) (rest := []) (q0 := 0) hS (c_X6_refuse l g a0 a1 a2 a3 a4 a5 a6 a7 a8 Z0 T1 T2 T3 G4 R4 P5 O7 B7 (-2 : Int32) h3) gX6_never_X6_refuse rfl hd_X6_refuse ⟨Nat.le_of_ble_eq_true rfl, Nat.le_of_ble_eq_true rfl⟩ hK hw hA (pm_9_0_1_2_3_4_5_6_7_8 _ _ _ _ _ _ _ _ _) rfl (pm_9_0_1_2_3_4_5_6_7_8 _ _ _ _ _ _ _ _ _) rfl rfl rfl rfl hl.1 rfl (Nat.le_of_ble_eq_true rfl) dX6_never_14 ⟨Nat.zero_le _, Nat.zero_le _⟩ (fun H locs hw => ?_)
    obtain rfl := Option.some.inj hM
    exact W.iret hx hb hr (fun t ht _ => ⟨rfl, by rw [ht]; exact hw.1, hw.2.2.F ht⟩) hw.2.2.2.2 dX6_never_17
theorem hd_X6_night : yX6_night.cls = RX6 ∧ yX6_night.cls ≠ "java/lang/invoke/MethodHandle" ∧ yX6_night.cls ≠ "java/lang/invoke/VarHandle" ∧ (parseMethodDescriptor yX6_night.desc).map (fun d => d.parameters.length) = some 0 := by decide +kernel
set_option maxHeartbeats 4000000 in
set_option maxRecDepth 100000 in
theorem c_X6_night (l : Launch) (g : Gm) (a0 : Nat → Nat) (a1 : Nat → Nat) (a2 : Nat → Nat) (a3 : Nat → Nat) (a4 : Nat → Nat) (a5 : Nat → Nat) (a6 : Nat → Nat) (a7 : Nat → Nat) (a8 : Nat → Nat) (Z0 : TS) (T1 : TS) (T2 : TS) (T3 : TS) (G4 : TS) (R4 : LTS) (P5 : TS) (O7 : TS) (B7 : TS) {q : (Int32 × TS)} (hM : f_X6_night Z0 T1 T2 T3 G4 R4 P5 O7 B7 = some q) : MW l yX6_night wsX6_night 2 47 g [.ref (a0 0)] ((wX6 g a0 (a1 0) (a2 0) (a3 0) (a4 0) (a5 0) (a6 0) (a7 0) (a8 0) Z0) ++ ((wX5 g a1 T1) ++ ((wX5 g a2 T2) ++ ((wX5 g a3 T3) ++ ((wX3 g a4 G4 R4) ++ ((wX4 g a5 P5) ++ ((wX2 g a6 (a1 0) (a3 0)) ++ ((wX1 g a7 (a1 0) (a3 0) O7 B7) ++ (wX0 g a8 (a1 0) (a3 0) (a4 0)))))))))) (some (.int q.1)) ((wX6 g a0 (a1 0) (a2 0) (a3 0) (a4 0) (a5 0) (a6 0) (a7 0) (a8 0) Z0) ++ ((wX5 g a1 q.2) ++ ((wX5 g a2 T2) ++ ((wX5 g a3 T3) ++ ((wX3 g a4 G4 R4) ++ ((wX4 g a5 P5) ++ ((wX2 g a6 (a1 0) (a3 0)) ++ ((wX1 g a7 (a1 0) (a3 0) O7 B7) ++ (wX0 g a8 (a1 0) (a3 0) (a4 0)))))))))) := by
  intro sz
  refine Met.ofW (cc := cX6_night) (maxL := 1) (ret := (some .int)) (by decide) rfl ?_
  intro p e s m args below meth c s₁ B hml hv
  obtain ⟨rfl, hsz, hP, hK, hD0⟩ := hv
  have hx := B.exec; have hb := B.bytes; have hr := B.returns
  have hts := atoms_spec (ws := wsX6_night) B.pre
  have hown : s.vm.findClass RX6 = some m.cls := findClass_of_methodNamed B.named
  have hlocks := B.notSynchronized
  have hS : CallFix p m c cX6_night 1 s _ wsX6_night RX6 := ⟨hx, hb, hml, hown, hts⟩
  have hin_X5 : ∀ w ∈ wsX50, w ∈ wsX6_night := fun w h => (List.mem_cons_of_mem _ (List.mem_append_right _ h))
  have hin_X6 : ∀ w ∈ wsX60, w ∈ wsX6_night := fun w h => (List.mem_cons_of_mem _ (List.mem_append_left _ (List.mem_append_right _ h)))
  subst hsz
  have hw := wk_start hP hD0
  have hA : ∀ q : Nat, s.heap.size ≤ q → va_A ((wX6 g a0 (a1 0) (a2 0) (a3 0) (a4 0) (a5 0) (a6 0) (a7 0) (a8 0) Z0) ++ ((wX5 g a1 T1) ++ ((wX5 g a2 T2) ++ ((wX5 g a3 T3) ++ ((wX3 g a4 G4 R4) ++ ((wX4 g a5 P5) ++ ((wX2 g a6 (a1 0) (a3 0)) ++ ((wX1 g a7 (a1 0) (a3 0) O7 B7) ++ (wX0 g a8 (a1 0) (a3 0) (a4 0)))))))))) s.heap.size q := fun q h => Or.inr h
  generalize va_A ((wX6 g a0 (a1 0) (a2 0) (a3 0) (a4 0) (a5 0) (a6 0) (a7 0) (a8 0) Z0) ++ ((wX5 g a1 T1) ++ ((wX5 g a2 T2) ++ ((wX5 g a3 T3) ++ ((wX3 g a4 G4 R4) ++ ((wX4 g a5 P5) ++ ((wX2 g a6 (a1 0) (a3 0)) ++ ((wX1 g a7 (a1 0) (a3 0) O7 B7) ++ (wX0 g a8 (a1 0) (a3 0) (a4 0)))))))))) s.heap.size = A at hw hA ⊢
  clear hP hD0
  have hl := lv_entry ([.ref (a0 0)]) (n := 1) (Nat.le_of_ble_eq_true rfl)
  rw [lg_entry_eq]
  generalize (lg_sl ([.ref (a0 0)]) ++ List.replicate (1 - (lg_sl ([.ref (a0 0)])).length) Slot.unset).toArray = ls at hl ⊢
  have hl : lv_has ls 1 [(0, .ref (a0 0))] := hl
  rw [f_X6_night] at hM
  refine lv_aload_n hx hb dX6_night_0 rfl (lv_at hl 0 rfl) ?_
  refine wk_get hx hb hts hin_X6 hown hK hw.1 6 0 0 (.ref (a1 0)) rfl rfl (by decide) (mi 1 rfl) rfl rfl dX6_night_1 ?_
  obtain ⟨q2, h1, hM⟩ := bd hM
  refine rVWp (wc := (wX5 g a1 T1)) (wq := ((wX6 g a0 (a1 0) (a2 0) (a3 0) (a4 0) (a5 0) (a6 0) (a7 0) (a8 0) Z0) ++ ((wX5 g a1 q2) ++ ((wX5 g a2 T2) ++ ((wX5 g a3 T3) ++ ((wX3 g a4 G4 R4) ++ ((wX4 g a5 P5) ++ ((wX2 g a6 (a1 0) (a3 0)) ++ ((wX1 g a7 (a1 0) (a3 0) O7 B7) ++ (wX0 g a8 (a1 0) (a3 0) (a4 0))))))))))) (As := []) (rest := []) (q0 := 0) hS (c_X5_passNight l g a1 T1 h1) gX6_night_X5_passNight rfl hd_X5_passNight ⟨Nat.le_of_ble_eq_true rfl, Nat.le_of_ble_eq_true rfl⟩ hK hw hA (pm_9_1 _ _ _ _ _ _ _ _ _) rfl (pm_9_1 _ _ _ _ _ _ _ _ _) rfl rfl rfl rfl hl.1 rfl (Nat.le_of_ble_eq_true rfl) dX6_night_4 ⟨Nat.zero_le _, Nat.zero_le _⟩ (fun H locs hw => ?_)
  refine lv_aload_n hx hb dX6_night_7 rfl (lv_at hl 0 rfl) ?_
  refine wk_get hx hb hts hin_X6 hown hK hw.1 6 0 0 (.ref (a1 0)) rfl rfl (by decide) (mi 1 rfl) rfl rfl dX6_night_8 ?_
  refine wk_get hx hb hts hin_X5 hown hK hw.1 5 2 5 (.int (q2 5 0)) rfl rfl (by decide) (mi 2 rfl) rfl rfl dX6_night_11 ?_
  obtain rfl := Option.some.inj hM
  exact W.iret hx hb hr (fun t ht _ => ⟨rfl, by rw [ht]; exact hw.1, hw.2.2.F ht⟩) hw.2.2.2.2 dX6_night_14
theorem hd_X6_order : yX6_order.cls = RX6 ∧ yX6_order.cls ≠ "java/lang/invoke/MethodHandle" ∧ yX6_order.cls ≠ "java/lang/invoke/VarHandle" ∧ (parseMethodDescriptor yX6_order.desc).map (fun d => d.parameters.length) = some 1 := by decide +kernel
set_option maxHeartbeats 4000000 in
set_option maxRecDepth 100000 in
theorem c_X6_order (l : Launch) (g : Gm) (a0 : Nat → Nat) (a1 : Nat → Nat) (a2 : Nat → Nat) (a3 : Nat → Nat) (a4 : Nat → Nat) (a5 : Nat → Nat) (a6 : Nat → Nat) (a7 : Nat → Nat) (a8 : Nat → Nat) (Z0 : TS) (T1 : TS) (T2 : TS) (T3 : TS) (G4 : TS) (R4 : LTS) (P5 : TS) (O7 : TS) (B7 : TS) (p1 : Int32) {q : (Int32 × TS × TS × TS × TS)} (hM : f_X6_order Z0 T1 T2 T3 G4 R4 P5 O7 B7 p1 = some q) : MW l yX6_order wsX6_order 14 361 g [.ref (a0 0), .int p1] ((wX6 g a0 (a1 0) (a2 0) (a3 0) (a4 0) (a5 0) (a6 0) (a7 0) (a8 0) Z0) ++ ((wX5 g a1 T1) ++ ((wX5 g a2 T2) ++ ((wX5 g a3 T3) ++ ((wX3 g a4 G4 R4) ++ ((wX4 g a5 P5) ++ ((wX2 g a6 (a1 0) (a3 0)) ++ ((wX1 g a7 (a1 0) (a3 0) O7 B7) ++ (wX0 g a8 (a1 0) (a3 0) (a4 0)))))))))) (some (.int q.1)) ((wX6 g a0 (a1 0) (a2 0) (a3 0) (a4 0) (a5 0) (a6 0) (a7 0) (a8 0) q.2.1) ++ ((wX5 g a1 T1) ++ ((wX5 g a2 T2) ++ ((wX5 g a3 q.2.2.1) ++ ((wX3 g a4 G4 R4) ++ ((wX4 g a5 P5) ++ ((wX2 g a6 (a1 0) (a3 0)) ++ ((wX1 g a7 (a1 0) (a3 0) q.2.2.2.1 q.2.2.2.2) ++ (wX0 g a8 (a1 0) (a3 0) (a4 0)))))))))) := by
  intro sz
  refine Met.ofW (cc := cX6_order) (maxL := 2) (ret := (some .int)) (by decide) rfl ?_
  intro p e s m args below meth c s₁ B hml hv
  obtain ⟨rfl, hsz, hP, hK, hD0⟩ := hv
  have hx := B.exec; have hb := B.bytes; have hr := B.returns
  have hts := atoms_spec (ws := wsX6_order) B.pre
  have hown : s.vm.findClass RX6 = some m.cls := findClass_of_methodNamed B.named
  have hlocks := B.notSynchronized
  have hS : CallFix p m c cX6_order 2 s _ wsX6_order RX6 := ⟨hx, hb, hml, hown, hts⟩
  have hin_X5 : ∀ w ∈ wsX50, w ∈ wsX6_order := fun w h => (List.mem_cons_of_mem _ (List.mem_append_left _ (List.mem_append_right _ h)))
  have hin_X6 : ∀ w ∈ wsX60, w ∈ wsX6_order := fun w h => (List.mem_cons_of_mem _ (List.mem_append_left _ (List.mem_append_left _ (List.mem_append_right _ h))))
  subst hsz
  have hw := wk_start hP hD0
  have hA : ∀ q : Nat, s.heap.size ≤ q → va_A ((wX6 g a0 (a1 0) (a2 0) (a3 0) (a4 0) (a5 0) (a6 0) (a7 0) (a8 0) Z0) ++ ((wX5 g a1 T1) ++ ((wX5 g a2 T2) ++ ((wX5 g a3 T3) ++ ((wX3 g a4 G4 R4) ++ ((wX4 g a5 P5) ++ ((wX2 g a6 (a1 0) (a3 0)) ++ ((wX1 g a7 (a1 0) (a3 0) O7 B7) ++ (wX0 g a8 (a1 0) (a3 0) (a4 0)))))))))) s.heap.size q := fun q h => Or.inr h
  generalize va_A ((wX6 g a0 (a1 0) (a2 0) (a3 0) (a4 0) (a5 0) (a6 0) (a7 0) (a8 0) Z0) ++ ((wX5 g a1 T1) ++ ((wX5 g a2 T2) ++ ((wX5 g a3 T3) ++ ((wX3 g a4 G4 R4) ++ ((wX4 g a5 P5) ++ ((wX2 g a6 (a1 0) (a3 0)) ++ ((wX1 g a7 (a1 0) (a3 0) O7 B7) ++ (wX0 g a8 (a1 0) (a3 0) (a4 0)))))))))) s.heap.size = A at hw hA ⊢
  clear hP hD0
  have hl := lv_entry ([.ref (a0 0), .int p1]) (n := 2) (Nat.le_of_ble_eq_true rfl)
  rw [lg_entry_eq]
  generalize (lg_sl ([.ref (a0 0), .int p1]) ++ List.replicate (2 - (lg_sl ([.ref (a0 0), .int p1])).length) Slot.unset).toArray = ls at hl ⊢
  have hl : lv_has ls 2 [(0, .ref (a0 0)), (1, .int p1)] := hl
  rw [f_X6_order] at hM
  refine lv_iload_n hx hb dX6_order_0 rfl (lv_at hl 1 rfl) ?_
  refine lv_iconst (v := (-1 : Int32)) hx hb dX6_order_1 (by decide) ?_
  refine lv_aload_n hx hb dX6_order_2 rfl (lv_at hl 0 rfl) ?_
  refine wk_get hx hb hts hin_X6 hown hK hw.1 6 0 0 (.ref (a1 0)) rfl rfl (by decide) (mi 1 rfl) rfl rfl dX6_order_3 ?_
  refine wk_get hx hb hts hin_X5 hown hK hw.1 5 2 1 (.int (T1 1 0)) rfl rfl (by decide) (mi 2 rfl) rfl rfl dX6_order_6 ?_
  refine lv_iconst (v := (1 : Int32)) hx hb dX6_order_9 (by decide) ?_
  refine lv_isub hx hb dX6_order_10 ?_
  refine rSR (wc := ([] : va_W)) (As := [.int p1, .int (-1 : Int32), .int ((T1 1 0) - (1 : Int32))]) (rest := []) hS (c_X6_isWithin l g p1 (-1 : Int32) ((T1 1 0) - (1 : Int32))) gX6_order_X6_isWithin rfl hd_X6_isWithin ⟨Nat.le_of_ble_eq_true rfl, Nat.le_of_ble_eq_true rfl⟩ hK (hP_nil) rfl hl.1 rfl (Nat.le_of_ble_eq_true rfl) dX6_order_11 ⟨Nat.zero_le _, Nat.zero_le _⟩ ?_
  refine lv_if_ne (tgt := 24) hx hb dX6_order_14 (by decide) (fun c2 => ?_) (fun c2 => ?_)
  · replace hM := itn c2 hM
    refine lv_aload_n hx hb dX6_order_24 rfl (lv_at hl 0 rfl) ?_
    refine wk_get hx hb hts hin_X6 hown hK hw.1 6 0 6 (.ref (a7 0)) rfl rfl (by decide) (mi 3 rfl) rfl rfl dX6_order_25 ?_
    obtain ⟨q6, h5, hM⟩ := bd hM
    refine rVWp (wc := ((wX1 g a7 (a1 0) (a3 0) O7 B7) ++ ((wX5 g a1 T1) ++ (wX5 g a3 T3)))) (wq := ((wX6 g a0 (a1 0) (a2 0) (a3 0) (a4 0) (a5 0) (a6 0) (a7 0) (a8 0) Z0) ++ ((wX5 g a1 T1) ++ ((wX5 g a2 T2) ++ ((wX5 g a3 q6.2.2) ++ ((wX3 g a4 G4 R4) ++ ((wX4 g a5 P5) ++ ((wX2 g a6 (a1 0) (a3 0)) ++ ((wX1 g a7 (a1 0) (a3 0) q6.1 q6.2.1) ++ (wX0 g a8 (a1 0) (a3 0) (a4 0))))))))))) (As := []) (rest := []) (q0 := 0) hS (c_X1_search l g a7 a1 a3 O7 B7 T1 T3 h5) gX6_order_X1_search rfl hd_X1_search ⟨Nat.le_of_ble_eq_true rfl, Nat.le_of_ble_eq_true rfl⟩ hK hw hA (pm_9_7_1_3 _ _ _ _ _ _ _ _ _) rfl (pm_9_7_1_3 _ _ _ _ _ _ _ _ _) rfl rfl rfl rfl hl.1 rfl (Nat.le_of_ble_eq_true rfl) dX6_order_28 ⟨Nat.zero_le _, Nat.zero_le _⟩ (fun H locs hw => ?_)
    refine lv_iload_n hx hb dX6_order_31 rfl (lv_at hl 1 rfl) ?_
    refine lv_iconst (v := (-1 : Int32)) hx hb dX6_order_32 (by decide) ?_
    refine lv_icmp_ne (tgt := 46) hx hb dX6_order_33 (by decide) (fun c7 => ?_) (fun c7 => ?_)
    · replace hM := itn c7 hM
      refine lv_aload_n hx hb dX6_order_46 rfl (lv_at hl 0 rfl) ?_
      refine wk_get hx hb hts hin_X6 hown hK hw.1 6 0 6 (.ref (a7 0)) rfl rfl (by decide) (mi 3 rfl) rfl rfl dX6_order_47 ?_
      refine lv_iload_n hx hb dX6_order_50 rfl (lv_at hl 1 rfl) ?_
      obtain ⟨q10, h9, hM⟩ := bd hM
      refine rVR (wc := ((wX1 g a7 (a1 0) (a3 0) q6.1 q6.2.1) ++ ((wX5 g a1 T1) ++ (wX5 g a3 q6.2.2)))) (As := [.int p1]) (rest := []) (q0 := 0) hS (c_X1_speakerAt l g a7 a1 a3 q6.1 q6.2.1 T1 q6.2.2 p1 h9) gX6_order_X1_speakerAt rfl hd_X1_speakerAt ⟨Nat.le_of_ble_eq_true rfl, Nat.le_of_ble_eq_true rfl⟩ hK (va_P.pm hw.1 (pm_9_7_1_3 _ _ _ _ _ _ _ _ _)) rfl rfl rfl rfl hl.1 rfl (Nat.le_of_ble_eq_true rfl) dX6_order_51 ⟨Nat.zero_le _, Nat.zero_le _⟩ ?_
      obtain rfl := Option.some.inj hM
      exact W.iret hx hb hr (fun t ht _ => ⟨rfl, by rw [ht]; exact hw.1, hw.2.2.F ht⟩) hw.2.2.2.2 dX6_order_54
    · replace hM := itp c7 hM
      refine lv_aload_n hx hb dX6_order_36 rfl (lv_at hl 0 rfl) ?_
      refine wk_get hx hb hts hin_X6 hown hK hw.1 6 0 6 (.ref (a7 0)) rfl rfl (by decide) (mi 3 rfl) rfl rfl dX6_order_37 ?_
      refine rVR (wc := ((wX1 g a7 (a1 0) (a3 0) q6.1 q6.2.1) ++ ((wX5 g a1 T1) ++ (wX5 g a3 q6.2.2)))) (As := []) (rest := []) (q0 := 0) hS (c_X1_mostKnown l g a7 a1 a3 q6.1 q6.2.1 T1 q6.2.2) gX6_order_X1_mostKnown rfl hd_X1_mostKnown ⟨Nat.le_of_ble_eq_true rfl, Nat.le_of_ble_eq_true rfl⟩ hK (va_P.pm hw.1 (pm_9_7_1_3 _ _ _ _ _ _ _ _ _)) rfl rfl rfl rfl hl.1 rfl (Nat.le_of_ble_eq_true rfl) dX6_order_40 ⟨Nat.zero_le _, Nat.zero_le _⟩ ?_
      refine lv_goto (tgt := 54) hx hb dX6_order_43 (by decide) ?_
      obtain rfl := Option.some.inj hM
      exact W.iret hx hb hr (fun t ht _ => ⟨rfl, by rw [ht]; exact hw.1, hw.2.2.F ht⟩) hw.2.2.2.2 dX6_order_54
  · replace hM := itp c2 hM
    refine lv_aload_n hx hb dX6_order_17 rfl (lv_at hl 0 rfl) ?_
    refine lv_bipush (v := (-2 : Int32)) hx hb dX6_order_18 (by decide) ?_
    obtain ⟨q4, h3, hM⟩ := bd hM
    refine rVWp (wc := ((wX6 g a0 (a1 0) (a2 0) (a3 0) (a4 0) (a5 0) (a6 0) (a7 0) (a8 0) Z0) ++ ((wX5 g a1 T1) ++ ((wX5 g a2 T2) ++ ((wX5 g a3 T3) ++ ((wX3 g a4 G4 R4) ++ ((wX4 g a5 P5) ++ ((wX2 g a6 (a1 0) (a3 0)) ++ ((wX1 g a7 (a1 0) (a3 0) O7 B7) ++ (wX0 g a8 (a1 0) (a3 0) (a4 0))))))))))) (wq := ((wX6 g a0 (a1 0) (a2 0) (a3 0) (a4 0) (a5 0) (a6 0) (a7 0) (a8 0) q4.2) ++ ((wX5 g a1 T1) ++ ((wX5 g a2 T2) ++ ((wX5 g a3 T3) ++ ((wX3 g a4 G4 R4) ++ ((wX4 g a5 P5) ++ ((wX2 g a6 (a1 0) (a3 0)) ++ ((wX1 g a7 (a1 0) (a3 0) O7 B7) ++ (wX0 g a8 (a1 0) (a3 0) (a4 0))))))))))) (As := [.int (-2 : Int32)]) (rest := []) (q0 := 0) hS (c_X6_refuse l g a0 a1 a2 a3 a4 a5 a6 a7 a8 Z0 T1 T2 T3 G4 R4 P5 O7 B7 (-2 : Int32) h3) gX6_order_X6_refuse rfl hd_X6_refuse ⟨Nat.le_of_ble_eq_true rfl, Nat.le_of_ble_eq_true rfl⟩ hK hw hA (pm_9_0_1_2_3_4_5_6_7_8 _ _ _ _ _ _ _ _ _) rfl (pm_9_0_1_2_3_4_5_6_7_8 _ _ _ _ _ _ _ _ _) rfl rfl rfl rfl hl.1 rfl (Nat.le_of_ble_eq_true rfl) dX6_order_20 ⟨Nat.zero_le _, Nat.zero_le _⟩ (fun H locs hw => ?_)
    obtain rfl := Option.some.inj hM
    exact W.iret hx hb hr (fun t ht _ => ⟨rfl, by rw [ht]; exact hw.1, hw.2.2.F ht⟩) hw.2.2.2.2 dX6_order_23
theorem hd_X6_pairs : yX6_pairs.cls = RX6 ∧ yX6_pairs.cls ≠ "java/lang/invoke/MethodHandle" ∧ yX6_pairs.cls ≠ "java/lang/invoke/VarHandle" ∧ (parseMethodDescriptor yX6_pairs.desc).map (fun d => d.parameters.length) = some 0 := by decide +kernel
set_option maxHeartbeats 4000000 in
set_option maxRecDepth 100000 in
theorem c_X6_pairs (l : Launch) (g : Gm) (a0 : Nat → Nat) (a1 : Nat → Nat) (a2 : Nat → Nat) (a3 : Nat → Nat) (a4 : Nat → Nat) (a5 : Nat → Nat) (a6 : Nat → Nat) (a7 : Nat → Nat) (a8 : Nat → Nat) (Z0 : TS) (T1 : TS) (T2 : TS) (T3 : TS) (G4 : TS) (R4 : LTS) (P5 : TS) (O7 : TS) (B7 : TS) {q : Int32} (hM : f_X6_pairs Z0 T1 T2 T3 G4 R4 P5 O7 B7 = some q) : MR l yX6_pairs wsX6_pairs 2 44 g [.ref (a0 0)] ((wX6 g a0 (a1 0) (a2 0) (a3 0) (a4 0) (a5 0) (a6 0) (a7 0) (a8 0) Z0) ++ ((wX5 g a1 T1) ++ ((wX5 g a2 T2) ++ ((wX5 g a3 T3) ++ ((wX3 g a4 G4 R4) ++ ((wX4 g a5 P5) ++ ((wX2 g a6 (a1 0) (a3 0)) ++ ((wX1 g a7 (a1 0) (a3 0) O7 B7) ++ (wX0 g a8 (a1 0) (a3 0) (a4 0)))))))))) (some (.int q)) := by
  refine Met.ofW (cc := cX6_pairs) (maxL := 1) (ret := (some .int)) (by decide) rfl ?_
  intro p e s m args below meth c s₁ B hml hv
  obtain ⟨rfl, hP, hK⟩ := hv
  have hx := B.exec; have hb := B.bytes; have hr := B.returns
  have hts := atoms_spec (ws := wsX6_pairs) B.pre
  have hown : s.vm.findClass RX6 = some m.cls := findClass_of_methodNamed B.named
  have hlocks := B.notSynchronized
  have hS : CallFix p m c cX6_pairs 1 s _ wsX6_pairs RX6 := ⟨hx, hb, hml, hown, hts⟩
  have hin_X6 : ∀ w ∈ wsX60, w ∈ wsX6_pairs := fun w h => (List.mem_cons_of_mem _ (List.mem_append_left _ (List.mem_append_right _ h)))
  have hl := lv_entry ([.ref (a0 0)]) (n := 1) (Nat.le_of_ble_eq_true rfl)
  rw [lg_entry_eq]
  generalize (lg_sl ([.ref (a0 0)]) ++ List.replicate (1 - (lg_sl ([.ref (a0 0)])).length) Slot.unset).toArray = ls at hl ⊢
  have hl : lv_has ls 1 [(0, .ref (a0 0))] := hl
  rw [f_X6_pairs] at hM
  refine lv_aload_n hx hb dX6_pairs_0 rfl (lv_at hl 0 rfl) ?_
  refine wk_get hx hb hts hin_X6 hown hK hP 6 0 0 (.ref (a1 0)) rfl rfl (by decide) (mi 1 rfl) rfl rfl dX6_pairs_1 ?_
  obtain ⟨q2, h1, hM⟩ := bd hM
  refine rVR (wc := (wX5 g a1 T1)) (As := []) (rest := []) (q0 := 0) hS (c_X5_pairsHearing l g a1 T1 h1) gX6_pairs_X5_pairsHearing rfl hd_X5_pairsHearing ⟨Nat.le_of_ble_eq_true rfl, Nat.le_of_ble_eq_true rfl⟩ hK (va_P.pm hP (pm_9_1 _ _ _ _ _ _ _ _ _)) rfl rfl rfl rfl hl.1 rfl (Nat.le_of_ble_eq_true rfl) dX6_pairs_4 ⟨Nat.zero_le _, Nat.zero_le _⟩ ?_
  obtain rfl := Option.some.inj hM
  exact W.iret hx hb hr (fun t ht _ => ⟨rfl, ht⟩) (fun q hq => by cases hq) dX6_pairs_7
