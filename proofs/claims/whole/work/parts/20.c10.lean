theorem hd_X6_parts : yX6_parts.cls = RX6 ∧ yX6_parts.cls ≠ "java/lang/invoke/MethodHandle" ∧ yX6_parts.cls ≠ "java/lang/invoke/VarHandle" ∧ (parseMethodDescriptor yX6_parts.desc).map (fun d => d.parameters.length) = some 3 := by decide +kernel
set_option maxHeartbeats 4000000 in
set_option maxRecDepth 100000 in
theorem c_X6_parts (l : Launch) (g : Gm) (a0 : Nat → Nat) (a1 : Nat → Nat) (a2 : Nat → Nat) (a3 : Nat → Nat) (a4 : Nat → Nat) (a5 : Nat → Nat) (a6 : Nat → Nat) (a7 : Nat → Nat) (a8 : Nat → Nat) (Z0 : TS) (T1 : TS) (T2 : TS) (T3 : TS) (G4 : TS) (R4 : LTS) (P5 : TS) (O7 : TS) (B7 : TS) (p1 : Int32) (p2 : Int32) (p3 : Int32) {q : (Int32 × TS)} (hM : f_X6_parts Z0 T1 T2 T3 G4 R4 P5 O7 B7 p1 p2 p3 = some q) : MW l yX6_parts wsX6_parts 4 92 g [.ref (a0 0), .int p1, .int p2, .int p3] ((wX6 g a0 (a1 0) (a2 0) (a3 0) (a4 0) (a5 0) (a6 0) (a7 0) (a8 0) Z0) ++ ((wX5 g a1 T1) ++ ((wX5 g a2 T2) ++ ((wX5 g a3 T3) ++ ((wX3 g a4 G4 R4) ++ ((wX4 g a5 P5) ++ ((wX2 g a6 (a1 0) (a3 0)) ++ ((wX1 g a7 (a1 0) (a3 0) O7 B7) ++ (wX0 g a8 (a1 0) (a3 0) (a4 0)))))))))) (some (.int q.1)) ((wX6 g a0 (a1 0) (a2 0) (a3 0) (a4 0) (a5 0) (a6 0) (a7 0) (a8 0) q.2) ++ ((wX5 g a1 T1) ++ ((wX5 g a2 T2) ++ ((wX5 g a3 T3) ++ ((wX3 g a4 G4 R4) ++ ((wX4 g a5 P5) ++ ((wX2 g a6 (a1 0) (a3 0)) ++ ((wX1 g a7 (a1 0) (a3 0) O7 B7) ++ (wX0 g a8 (a1 0) (a3 0) (a4 0)))))))))) := by
  intro sz
  refine Met.ofW (cc := cX6_parts) (maxL := 6) (ret := (some .int)) (by decide) rfl ?_
  intro p e s m args below meth c s₁ B hml hv
  obtain ⟨rfl, hsz, hP, hK, hD0⟩ := hv
  have hx := B.exec; have hb := B.bytes; have hr := B.returns
  have hts := atoms_spec (ws := wsX6_parts) B.pre
  have hown : s.vm.findClass RX6 = some m.cls := findClass_of_methodNamed B.named
  have hlocks := B.notSynchronized
  have hS : CallFix p m c cX6_parts 6 s _ wsX6_parts RX6 := ⟨hx, hb, hml, hown, hts⟩
  have hin_X6 : ∀ w ∈ wsX60, w ∈ wsX6_parts := fun w h => (List.mem_cons_of_mem _ (List.mem_append_left _ (List.mem_append_left _ (List.mem_append_right _ h))))
  subst hsz
  have hw := wk_start hP hD0
  have hA : ∀ q : Nat, s.heap.size ≤ q → va_A ((wX6 g a0 (a1 0) (a2 0) (a3 0) (a4 0) (a5 0) (a6 0) (a7 0) (a8 0) Z0) ++ ((wX5 g a1 T1) ++ ((wX5 g a2 T2) ++ ((wX5 g a3 T3) ++ ((wX3 g a4 G4 R4) ++ ((wX4 g a5 P5) ++ ((wX2 g a6 (a1 0) (a3 0)) ++ ((wX1 g a7 (a1 0) (a3 0) O7 B7) ++ (wX0 g a8 (a1 0) (a3 0) (a4 0)))))))))) s.heap.size q := fun q h => Or.inr h
  generalize va_A ((wX6 g a0 (a1 0) (a2 0) (a3 0) (a4 0) (a5 0) (a6 0) (a7 0) (a8 0) Z0) ++ ((wX5 g a1 T1) ++ ((wX5 g a2 T2) ++ ((wX5 g a3 T3) ++ ((wX3 g a4 G4 R4) ++ ((wX4 g a5 P5) ++ ((wX2 g a6 (a1 0) (a3 0)) ++ ((wX1 g a7 (a1 0) (a3 0) O7 B7) ++ (wX0 g a8 (a1 0) (a3 0) (a4 0)))))))))) s.heap.size = A at hw hA ⊢
  clear hP hD0
  have hl := lv_entry ([.ref (a0 0), .int p1, .int p2, .int p3]) (n := 6) (Nat.le_of_ble_eq_true rfl)
  rw [lg_entry_eq]
  generalize (lg_sl ([.ref (a0 0), .int p1, .int p2, .int p3]) ++ List.replicate (6 - (lg_sl ([.ref (a0 0), .int p1, .int p2, .int p3])).length) Slot.unset).toArray = ls at hl ⊢
  have hl : lv_has ls 6 [(0, .ref (a0 0)), (1, .int p1), (2, .int p2), (3, .int p3)] := hl
  rw [f_X6_parts] at hM
  refine lv_iload_n hx hb dX6_parts_0 rfl (lv_at hl 2 rfl) ?_
  refine lv_iconst (v := (1 : Int32)) hx hb dX6_parts_1 (by decide) ?_
  refine lv_bipush (v := (10 : Int32)) hx hb dX6_parts_2 (by decide) ?_
  refine rSR (wc := ([] : va_W)) (As := [.int p2, .int (1 : Int32), .int (10 : Int32)]) (rest := []) hS (c_X6_isWithin l g p2 (1 : Int32) (10 : Int32)) gX6_parts_X6_isWithin rfl hd_X6_isWithin ⟨Nat.le_of_ble_eq_true rfl, Nat.le_of_ble_eq_true rfl⟩ hK (hP_nil) rfl hl.1 rfl (Nat.le_of_ble_eq_true rfl) dX6_parts_4 ⟨Nat.zero_le _, Nat.zero_le _⟩ ?_
  have hJ36 : ∀ (H : Heap) (locs : List Loc) (x35 : Int32) (ls : Array Slot), Wk g A s.heap H locs ((wX6 g a0 (a1 0) (a2 0) (a3 0) (a4 0) (a5 0) (a6 0) (a7 0) (a8 0) Z0) ++ ((wX5 g a1 T1) ++ ((wX5 g a2 T2) ++ ((wX5 g a3 T3) ++ ((wX3 g a4 G4 R4) ++ ((wX4 g a5 P5) ++ ((wX2 g a6 (a1 0) (a3 0)) ++ ((wX1 g a7 (a1 0) (a3 0) O7 B7) ++ (wX0 g a8 (a1 0) (a3 0) (a4 0)))))))))) → x35 = (if (f_X6_isWithin p2 (1 : Int32) (10 : Int32)) = 0 then (0 : Int32) else (if (f_X6_isWithin p3 (0 : Int32) (f_X5_allPeople T1)) = 0 then (0 : Int32) else (1 : Int32))) → lv_has ls 6 [(0, .ref (a0 0)), (1, .int p1), (2, .int p2), (3, .int p3)] → W p l e (headSpec wsX6_parts ({ frames := 4, cells := 0, slots := 0, locals := 92 } : Room)).room s m ([.ref (a0 0), .int p1, .int p2, .int p3] : List Value).toArray below meth c H locs 0 0 (MQ below (QcW g (some (.int q.1)) ((wX6 g a0 (a1 0) (a2 0) (a3 0) (a4 0) (a5 0) (a6 0) (a7 0) (a8 0) q.2) ++ ((wX5 g a1 T1) ++ ((wX5 g a2 T2) ++ ((wX5 g a3 T3) ++ ((wX3 g a4 G4 R4) ++ ((wX4 g a5 P5) ++ ((wX2 g a6 (a1 0) (a3 0)) ++ ((wX1 g a7 (a1 0) (a3 0) O7 B7) ++ (wX0 g a8 (a1 0) (a3 0) (a4 0)))))))))) A) ([.ref (a0 0), .int p1, .int p2, .int p3] : List Value).toArray s 0 0 A) (F0 m 30 ls [.int x35]) := by
    intro H locs x35 ls hw hxx35 hl
    subst hxx35
    refine lv_istore (lv' := [(4, .int (if (f_X6_isWithin p2 (1 : Int32) (10 : Int32)) = 0 then (0 : Int32) else (if (f_X6_isWithin p3 (0 : Int32) (f_X5_allPeople T1)) = 0 then (0 : Int32) else (1 : Int32)))), (0, .ref (a0 0)), (1, .int p1), (2, .int p2), (3, .int p3)]) hx hb dX6_parts_30 hl (by decide) rfl (fun ls hl => ?_)
    refine lv_iload hx hb dX6_parts_32 (lv_at hl 0 rfl) ?_
    refine lv_if_eq (tgt := 49) hx hb dX6_parts_34 (by decide) (fun c6 => ?_) (fun c6 => ?_)
    · replace hM := itp c6 hM
      refine lv_bipush (v := (-2 : Int32)) hx hb dX6_parts_49 (by decide) ?_
      refine lv_istore (lv' := [(5, .int (-2 : Int32)), (4, .int (if (f_X6_isWithin p2 (1 : Int32) (10 : Int32)) = 0 then (0 : Int32) else (if (f_X6_isWithin p3 (0 : Int32) (f_X5_allPeople T1)) = 0 then (0 : Int32) else (1 : Int32)))), (0, .ref (a0 0)), (1, .int p1), (2, .int p2), (3, .int p3)]) hx hb dX6_parts_51 hl (by decide) rfl (fun ls hl => ?_)
      refine lv_iload hx hb dX6_parts_53 (lv_at hl 0 rfl) ?_
      refine lv_if_eq (tgt := 65) hx hb dX6_parts_55 (by decide) (fun c7 => ?_) (fun c7 => ?_)
      · replace hM := itp c7 hM
        refine lv_aload_n hx hb dX6_parts_65 rfl (lv_at hl 2 rfl) ?_
        refine wk_get hx hb hts hin_X6 hown hK hw.1 6 0 3 (.ref (a4 0)) rfl rfl (by decide) (mi 2 rfl) rfl rfl dX6_parts_66 ?_
        refine lv_iload_n hx hb dX6_parts_69 rfl (lv_at hl 3 rfl) ?_
        refine lv_iload_n hx hb dX6_parts_70 rfl (lv_at hl 4 rfl) ?_
        refine lv_iload_n hx hb dX6_parts_71 rfl (lv_at hl 5 rfl) ?_
        refine lv_aload_n hx hb dX6_parts_72 rfl (lv_at hl 2 rfl) ?_
        refine wk_get hx hb hts hin_X6 hown hK hw.1 6 0 0 (.ref (a1 0)) rfl rfl (by decide) (mi 1 rfl) rfl rfl dX6_parts_73 ?_
        refine rVR (wc := (wX5 g a1 T1)) (As := []) (rest := [.int p3, .int p2, .int p1, .ref (a4 0)]) (q0 := 0) hS (c_X5_allPeople l g a1 T1) gX6_parts_X5_allPeople rfl hd_X5_allPeople ⟨Nat.le_of_ble_eq_true rfl, Nat.le_of_ble_eq_true rfl⟩ hK (va_P.pm hw.1 (pm_9_1 _ _ _ _ _ _ _ _ _)) rfl rfl rfl rfl hl.1 rfl (Nat.le_of_ble_eq_true rfl) dX6_parts_76 ⟨Nat.zero_le _, Nat.zero_le _⟩ ?_
        obtain ⟨q10, h9, hM⟩ := bd hM
        refine rVR (wc := (wX3 g a4 G4 R4)) (As := [.int p1, .int p2, .int p3, .int (f_X5_allPeople T1)]) (rest := []) (q0 := 0) hS (c_X3_isApart l g a4 G4 R4 p1 p2 p3 (f_X5_allPeople T1) h9) gX6_parts_X3_isApart rfl hd_X3_isApart ⟨Nat.le_of_ble_eq_true rfl, Nat.le_of_ble_eq_true rfl⟩ hK (va_P.pm hw.1 (pm_9_4 _ _ _ _ _ _ _ _ _)) rfl rfl rfl rfl hl.1 rfl (Nat.le_of_ble_eq_true rfl) dX6_parts_79 ⟨Nat.zero_le _, Nat.zero_le _⟩ ?_
        have hJ38 : ∀ (H : Heap) (locs : List Loc) (x37 : Int32) (ls : Array Slot), Wk g A s.heap H locs ((wX6 g a0 (a1 0) (a2 0) (a3 0) (a4 0) (a5 0) (a6 0) (a7 0) (a8 0) Z0) ++ ((wX5 g a1 T1) ++ ((wX5 g a2 T2) ++ ((wX5 g a3 T3) ++ ((wX3 g a4 G4 R4) ++ ((wX4 g a5 P5) ++ ((wX2 g a6 (a1 0) (a3 0)) ++ ((wX1 g a7 (a1 0) (a3 0) O7 B7) ++ (wX0 g a8 (a1 0) (a3 0) (a4 0)))))))))) → x37 = (if q10 = 0 then (0 : Int32) else (1 : Int32)) → lv_has ls 6 [] → W p l e (headSpec wsX6_parts ({ frames := 4, cells := 0, slots := 0, locals := 92 } : Room)).room s m ([.ref (a0 0), .int p1, .int p2, .int p3] : List Value).toArray below meth c H locs 0 0 (MQ below (QcW g (some (.int q.1)) ((wX6 g a0 (a1 0) (a2 0) (a3 0) (a4 0) (a5 0) (a6 0) (a7 0) (a8 0) q.2) ++ ((wX5 g a1 T1) ++ ((wX5 g a2 T2) ++ ((wX5 g a3 T3) ++ ((wX3 g a4 G4 R4) ++ ((wX4 g a5 P5) ++ ((wX2 g a6 (a1 0) (a3 0)) ++ ((wX1 g a7 (a1 0) (a3 0) O7 B7) ++ (wX0 g a8 (a1 0) (a3 0) (a4 0)))))))))) A) ([.ref (a0 0), .int p1, .int p2, .int p3] : List Value).toArray s 0 0 A) (F0 m 90 ls [.int x37]) := by
          intro H locs x37 ls hw hxx37 hl
          subst hxx37
          obtain rfl := Option.some.inj hM
          exact W.iret hx hb hr (fun t ht _ => ⟨rfl, by rw [ht]; exact hw.1, hw.2.2.F ht⟩) hw.2.2.2.2 dX6_parts_90
        refine lv_if_eq (tgt := 89) hx hb dX6_parts_82 (by decide) (fun c11 => ?_) (fun c11 => ?_)
        · refine lv_iconst (v := (0 : Int32)) hx hb dX6_parts_89 (by decide) ?_
          exact hJ38 _ _ _ _ hw (by first | rfl | (simp only [if_pos c11])) (lv_sub hl [] rfl)
        · refine lv_iconst (v := (1 : Int32)) hx hb dX6_parts_85 (by decide) ?_
          refine lv_goto (tgt := 90) hx hb dX6_parts_86 (by decide) ?_
          exact hJ38 _ _ _ _ hw (by first | rfl | (simp only [if_neg c11])) (lv_sub hl [] rfl)
      · replace hM := itn c7 hM
        refine lv_aload_n hx hb dX6_parts_58 rfl (lv_at hl 2 rfl) ?_
        refine lv_iload hx hb dX6_parts_59 (lv_at hl 0 rfl) ?_
        obtain ⟨q13, h12, hM⟩ := bd hM
        refine rVWp (wc := ((wX6 g a0 (a1 0) (a2 0) (a3 0) (a4 0) (a5 0) (a6 0) (a7 0) (a8 0) Z0) ++ ((wX5 g a1 T1) ++ ((wX5 g a2 T2) ++ ((wX5 g a3 T3) ++ ((wX3 g a4 G4 R4) ++ ((wX4 g a5 P5) ++ ((wX2 g a6 (a1 0) (a3 0)) ++ ((wX1 g a7 (a1 0) (a3 0) O7 B7) ++ (wX0 g a8 (a1 0) (a3 0) (a4 0))))))))))) (wq := ((wX6 g a0 (a1 0) (a2 0) (a3 0) (a4 0) (a5 0) (a6 0) (a7 0) (a8 0) q13.2) ++ ((wX5 g a1 T1) ++ ((wX5 g a2 T2) ++ ((wX5 g a3 T3) ++ ((wX3 g a4 G4 R4) ++ ((wX4 g a5 P5) ++ ((wX2 g a6 (a1 0) (a3 0)) ++ ((wX1 g a7 (a1 0) (a3 0) O7 B7) ++ (wX0 g a8 (a1 0) (a3 0) (a4 0))))))))))) (As := [.int (-2 : Int32)]) (rest := []) (q0 := 0) hS (c_X6_refuse l g a0 a1 a2 a3 a4 a5 a6 a7 a8 Z0 T1 T2 T3 G4 R4 P5 O7 B7 (-2 : Int32) h12) gX6_parts_X6_refuse rfl hd_X6_refuse ⟨Nat.le_of_ble_eq_true rfl, Nat.le_of_ble_eq_true rfl⟩ hK hw hA (pm_9_0_1_2_3_4_5_6_7_8 _ _ _ _ _ _ _ _ _) rfl (pm_9_0_1_2_3_4_5_6_7_8 _ _ _ _ _ _ _ _ _) rfl rfl rfl rfl hl.1 rfl (Nat.le_of_ble_eq_true rfl) dX6_parts_61 ⟨Nat.zero_le _, Nat.zero_le _⟩ (fun H locs hw => ?_)
        obtain rfl := Option.some.inj hM
        exact W.iret hx hb hr (fun t ht _ => ⟨rfl, by rw [ht]; exact hw.1, hw.2.2.F ht⟩) hw.2.2.2.2 dX6_parts_64
    · replace hM := itn c6 hM
      refine lv_aload_n hx hb dX6_parts_37 rfl (lv_at hl 1 rfl) ?_
      refine wk_get hx hb hts hin_X6 hown hK hw.1 6 0 3 (.ref (a4 0)) rfl rfl (by decide) (mi 2 rfl) rfl rfl dX6_parts_38 ?_
      refine lv_iload_n hx hb dX6_parts_41 rfl (lv_at hl 2 rfl) ?_
      refine lv_iload_n hx hb dX6_parts_42 rfl (lv_at hl 3 rfl) ?_
      obtain ⟨q15, h14, hM⟩ := bd hM
      refine rVR (wc := (wX3 g a4 G4 R4)) (As := [.int p1, .int p2]) (rest := []) (q0 := 0) hS (c_X3_troubleWithRow l g a4 G4 R4 p1 p2 h14) gX6_parts_X3_troubleWithRow rfl hd_X3_troubleWithRow ⟨Nat.le_of_ble_eq_true rfl, Nat.le_of_ble_eq_true rfl⟩ hK (va_P.pm hw.1 (pm_9_4 _ _ _ _ _ _ _ _ _)) rfl rfl rfl rfl hl.1 rfl (Nat.le_of_ble_eq_true rfl) dX6_parts_43 ⟨Nat.zero_le _, Nat.zero_le _⟩ ?_
      refine lv_goto (tgt := 51) hx hb dX6_parts_46 (by decide) ?_
      refine lv_istore (lv' := [(5, .int q15), (4, .int (if (f_X6_isWithin p2 (1 : Int32) (10 : Int32)) = 0 then (0 : Int32) else (if (f_X6_isWithin p3 (0 : Int32) (f_X5_allPeople T1)) = 0 then (0 : Int32) else (1 : Int32)))), (0, .ref (a0 0)), (1, .int p1), (2, .int p2), (3, .int p3)]) hx hb dX6_parts_51 hl (by decide) rfl (fun ls hl => ?_)
      refine lv_iload hx hb dX6_parts_53 (lv_at hl 0 rfl) ?_
      refine lv_if_eq (tgt := 65) hx hb dX6_parts_55 (by decide) (fun c16 => ?_) (fun c16 => ?_)
      · replace hM := itp c16 hM
        refine lv_aload_n hx hb dX6_parts_65 rfl (lv_at hl 2 rfl) ?_
        refine wk_get hx hb hts hin_X6 hown hK hw.1 6 0 3 (.ref (a4 0)) rfl rfl (by decide) (mi 2 rfl) rfl rfl dX6_parts_66 ?_
        refine lv_iload_n hx hb dX6_parts_69 rfl (lv_at hl 3 rfl) ?_
        refine lv_iload_n hx hb dX6_parts_70 rfl (lv_at hl 4 rfl) ?_
        refine lv_iload_n hx hb dX6_parts_71 rfl (lv_at hl 5 rfl) ?_
        refine lv_aload_n hx hb dX6_parts_72 rfl (lv_at hl 2 rfl) ?_
        refine wk_get hx hb hts hin_X6 hown hK hw.1 6 0 0 (.ref (a1 0)) rfl rfl (by decide) (mi 1 rfl) rfl rfl dX6_parts_73 ?_
        refine rVR (wc := (wX5 g a1 T1)) (As := []) (rest := [.int p3, .int p2, .int p1, .ref (a4 0)]) (q0 := 0) hS (c_X5_allPeople l g a1 T1) gX6_parts_X5_allPeople rfl hd_X5_allPeople ⟨Nat.le_of_ble_eq_true rfl, Nat.le_of_ble_eq_true rfl⟩ hK (va_P.pm hw.1 (pm_9_1 _ _ _ _ _ _ _ _ _)) rfl rfl rfl rfl hl.1 rfl (Nat.le_of_ble_eq_true rfl) dX6_parts_76 ⟨Nat.zero_le _, Nat.zero_le _⟩ ?_
        obtain ⟨q19, h18, hM⟩ := bd hM
        refine rVR (wc := (wX3 g a4 G4 R4)) (As := [.int p1, .int p2, .int p3, .int (f_X5_allPeople T1)]) (rest := []) (q0 := 0) hS (c_X3_isApart l g a4 G4 R4 p1 p2 p3 (f_X5_allPeople T1) h18) gX6_parts_X3_isApart rfl hd_X3_isApart ⟨Nat.le_of_ble_eq_true rfl, Nat.le_of_ble_eq_true rfl⟩ hK (va_P.pm hw.1 (pm_9_4 _ _ _ _ _ _ _ _ _)) rfl rfl rfl rfl hl.1 rfl (Nat.le_of_ble_eq_true rfl) dX6_parts_79 ⟨Nat.zero_le _, Nat.zero_le _⟩ ?_
        have hJ40 : ∀ (H : Heap) (locs : List Loc) (x39 : Int32) (ls : Array Slot), Wk g A s.heap H locs ((wX6 g a0 (a1 0) (a2 0) (a3 0) (a4 0) (a5 0) (a6 0) (a7 0) (a8 0) Z0) ++ ((wX5 g a1 T1) ++ ((wX5 g a2 T2) ++ ((wX5 g a3 T3) ++ ((wX3 g a4 G4 R4) ++ ((wX4 g a5 P5) ++ ((wX2 g a6 (a1 0) (a3 0)) ++ ((wX1 g a7 (a1 0) (a3 0) O7 B7) ++ (wX0 g a8 (a1 0) (a3 0) (a4 0)))))))))) → x39 = (if q19 = 0 then (0 : Int32) else (1 : Int32)) → lv_has ls 6 [] → W p l e (headSpec wsX6_parts ({ frames := 4, cells := 0, slots := 0, locals := 92 } : Room)).room s m ([.ref (a0 0), .int p1, .int p2, .int p3] : List Value).toArray below meth c H locs 0 0 (MQ below (QcW g (some (.int q.1)) ((wX6 g a0 (a1 0) (a2 0) (a3 0) (a4 0) (a5 0) (a6 0) (a7 0) (a8 0) q.2) ++ ((wX5 g a1 T1) ++ ((wX5 g a2 T2) ++ ((wX5 g a3 T3) ++ ((wX3 g a4 G4 R4) ++ ((wX4 g a5 P5) ++ ((wX2 g a6 (a1 0) (a3 0)) ++ ((wX1 g a7 (a1 0) (a3 0) O7 B7) ++ (wX0 g a8 (a1 0) (a3 0) (a4 0)))))))))) A) ([.ref (a0 0), .int p1, .int p2, .int p3] : List Value).toArray s 0 0 A) (F0 m 90 ls [.int x39]) := by
          intro H locs x39 ls hw hxx39 hl
          subst hxx39
          obtain rfl := Option.some.inj hM
          exact W.iret hx hb hr (fun t ht _ => ⟨rfl, by rw [ht]; exact hw.1, hw.2.2.F ht⟩) hw.2.2.2.2 dX6_parts_90
        refine lv_if_eq (tgt := 89) hx hb dX6_parts_82 (by decide) (fun c20 => ?_) (fun c20 => ?_)
        · refine lv_iconst (v := (0 : Int32)) hx hb dX6_parts_89 (by decide) ?_
          exact hJ40 _ _ _ _ hw (by first | rfl | (simp only [if_pos c20])) (lv_sub hl [] rfl)
        · refine lv_iconst (v := (1 : Int32)) hx hb dX6_parts_85 (by decide) ?_
          refine lv_goto (tgt := 90) hx hb dX6_parts_86 (by decide) ?_
          exact hJ40 _ _ _ _ hw (by first | rfl | (simp only [if_neg c20])) (lv_sub hl [] rfl)
      · replace hM := itn c16 hM
        refine lv_aload_n hx hb dX6_parts_58 rfl (lv_at hl 2 rfl) ?_
        refine lv_iload hx hb dX6_parts_59 (lv_at hl 0 rfl) ?_
        obtain ⟨q22, h21, hM⟩ := bd hM
        refine rVWp (wc := ((wX6 g a0 (a1 0) (a2 0) (a3 0) (a4 0) (a5 0) (a6 0) (a7 0) (a8 0) Z0) ++ ((wX5 g a1 T1) ++ ((wX5 g a2 T2) ++ ((wX5 g a3 T3) ++ ((wX3 g a4 G4 R4) ++ ((wX4 g a5 P5) ++ ((wX2 g a6 (a1 0) (a3 0)) ++ ((wX1 g a7 (a1 0) (a3 0) O7 B7) ++ (wX0 g a8 (a1 0) (a3 0) (a4 0))))))))))) (wq := ((wX6 g a0 (a1 0) (a2 0) (a3 0) (a4 0) (a5 0) (a6 0) (a7 0) (a8 0) q22.2) ++ ((wX5 g a1 T1) ++ ((wX5 g a2 T2) ++ ((wX5 g a3 T3) ++ ((wX3 g a4 G4 R4) ++ ((wX4 g a5 P5) ++ ((wX2 g a6 (a1 0) (a3 0)) ++ ((wX1 g a7 (a1 0) (a3 0) O7 B7) ++ (wX0 g a8 (a1 0) (a3 0) (a4 0))))))))))) (As := [.int q15]) (rest := []) (q0 := 0) hS (c_X6_refuse l g a0 a1 a2 a3 a4 a5 a6 a7 a8 Z0 T1 T2 T3 G4 R4 P5 O7 B7 q15 h21) gX6_parts_X6_refuse rfl hd_X6_refuse ⟨Nat.le_of_ble_eq_true rfl, Nat.le_of_ble_eq_true rfl⟩ hK hw hA (pm_9_0_1_2_3_4_5_6_7_8 _ _ _ _ _ _ _ _ _) rfl (pm_9_0_1_2_3_4_5_6_7_8 _ _ _ _ _ _ _ _ _) rfl rfl rfl rfl hl.1 rfl (Nat.le_of_ble_eq_true rfl) dX6_parts_61 ⟨Nat.zero_le _, Nat.zero_le _⟩ (fun H locs hw => ?_)
        obtain rfl := Option.some.inj hM
        exact W.iret hx hb hr (fun t ht _ => ⟨rfl, by rw [ht]; exact hw.1, hw.2.2.F ht⟩) hw.2.2.2.2 dX6_parts_64
  refine lv_if_eq (tgt := 29) hx hb dX6_parts_7 (by decide) (fun c2 => ?_) (fun c2 => ?_)
  · refine lv_iconst (v := (0 : Int32)) hx hb dX6_parts_29 (by decide) ?_
    exact hJ36 _ _ _ _ hw (by first | rfl | (simp only [if_pos c2])) (lv_sub hl [0, 1, 2, 3] rfl)
  · refine lv_iload_n hx hb dX6_parts_10 rfl (lv_at hl 3 rfl) ?_
    refine lv_iconst (v := (0 : Int32)) hx hb dX6_parts_11 (by decide) ?_
    refine lv_aload_n hx hb dX6_parts_12 rfl (lv_at hl 0 rfl) ?_
    refine wk_get hx hb hts hin_X6 hown hK hw.1 6 0 0 (.ref (a1 0)) rfl rfl (by decide) (mi 1 rfl) rfl rfl dX6_parts_13 ?_
    refine rVR (wc := (wX5 g a1 T1)) (As := []) (rest := [.int (0 : Int32), .int p3]) (q0 := 0) hS (c_X5_allPeople l g a1 T1) gX6_parts_X5_allPeople rfl hd_X5_allPeople ⟨Nat.le_of_ble_eq_true rfl, Nat.le_of_ble_eq_true rfl⟩ hK (va_P.pm hw.1 (pm_9_1 _ _ _ _ _ _ _ _ _)) rfl rfl rfl rfl hl.1 rfl (Nat.le_of_ble_eq_true rfl) dX6_parts_16 ⟨Nat.zero_le _, Nat.zero_le _⟩ ?_
    refine rSR (wc := ([] : va_W)) (As := [.int p3, .int (0 : Int32), .int (f_X5_allPeople T1)]) (rest := []) hS (c_X6_isWithin l g p3 (0 : Int32) (f_X5_allPeople T1)) gX6_parts_X6_isWithin rfl hd_X6_isWithin ⟨Nat.le_of_ble_eq_true rfl, Nat.le_of_ble_eq_true rfl⟩ hK (hP_nil) rfl hl.1 rfl (Nat.le_of_ble_eq_true rfl) dX6_parts_19 ⟨Nat.zero_le _, Nat.zero_le _⟩ ?_
    refine lv_if_eq (tgt := 29) hx hb dX6_parts_22 (by decide) (fun c5 => ?_) (fun c5 => ?_)
    · refine lv_iconst (v := (0 : Int32)) hx hb dX6_parts_29 (by decide) ?_
      exact hJ36 _ _ _ _ hw (by first | rfl | (simp only [if_neg c2, if_pos c5])) (lv_sub hl [0, 1, 2, 3] rfl)
    · refine lv_iconst (v := (1 : Int32)) hx hb dX6_parts_25 (by decide) ?_
      refine lv_goto (tgt := 30) hx hb dX6_parts_26 (by decide) ?_
      exact hJ36 _ _ _ _ hw (by first | rfl | (simp only [if_neg c2, if_neg c5])) (lv_sub hl [0, 1, 2, 3] rfl)
theorem hd_X6_person : yX6_person.cls = RX6 ∧ yX6_person.cls ≠ "java/lang/invoke/MethodHandle" ∧ yX6_person.cls ≠ "java/lang/invoke/VarHandle" ∧ (parseMethodDescriptor yX6_person.desc).map (fun d => d.parameters.length) = some 2 := by decide +kernel
set_option maxHeartbeats 4000000 in
set_option maxRecDepth 100000 in
theorem c_X6_person (l : Launch) (g : Gm) (a0 : Nat → Nat) (a1 : Nat → Nat) (a2 : Nat → Nat) (a3 : Nat → Nat) (a4 : Nat → Nat) (a5 : Nat → Nat) (a6 : Nat → Nat) (a7 : Nat → Nat) (a8 : Nat → Nat) (Z0 : TS) (T1 : TS) (T2 : TS) (T3 : TS) (G4 : TS) (R4 : LTS) (P5 : TS) (O7 : TS) (B7 : TS) (p1 : Int32) (p2 : Int32) {q : (Int32 × TS × TS)} (hM : f_X6_person Z0 T1 T2 T3 G4 R4 P5 O7 B7 p1 p2 = some q) : MW l yX6_person wsX6_person 2 42 g [.ref (a0 0), .int p1, .int p2] ((wX6 g a0 (a1 0) (a2 0) (a3 0) (a4 0) (a5 0) (a6 0) (a7 0) (a8 0) Z0) ++ ((wX5 g a1 T1) ++ ((wX5 g a2 T2) ++ ((wX5 g a3 T3) ++ ((wX3 g a4 G4 R4) ++ ((wX4 g a5 P5) ++ ((wX2 g a6 (a1 0) (a3 0)) ++ ((wX1 g a7 (a1 0) (a3 0) O7 B7) ++ (wX0 g a8 (a1 0) (a3 0) (a4 0)))))))))) (some (.int q.1)) ((wX6 g a0 (a1 0) (a2 0) (a3 0) (a4 0) (a5 0) (a6 0) (a7 0) (a8 0) q.2.1) ++ ((wX5 g a1 q.2.2) ++ ((wX5 g a2 T2) ++ ((wX5 g a3 T3) ++ ((wX3 g a4 G4 R4) ++ ((wX4 g a5 P5) ++ ((wX2 g a6 (a1 0) (a3 0)) ++ ((wX1 g a7 (a1 0) (a3 0) O7 B7) ++ (wX0 g a8 (a1 0) (a3 0) (a4 0)))))))))) := by
  intro sz
  refine Met.ofW (cc := cX6_person) (maxL := 3) (ret := (some .int)) (by decide) rfl ?_
  intro p e s m args below meth c s₁ B hml hv
  obtain ⟨rfl, hsz, hP, hK, hD0⟩ := hv
  have hx := B.exec; have hb := B.bytes; have hr := B.returns
  have hts := atoms_spec (ws := wsX6_person) B.pre
  have hown : s.vm.findClass RX6 = some m.cls := findClass_of_methodNamed B.named
  have hlocks := B.notSynchronized
  have hS : CallFix p m c cX6_person 3 s _ wsX6_person RX6 := ⟨hx, hb, hml, hown, hts⟩
  have hin_X6 : ∀ w ∈ wsX60, w ∈ wsX6_person := fun w h => (List.mem_cons_of_mem _ (List.mem_append_left _ (List.mem_append_right _ h)))
  subst hsz
  have hw := wk_start hP hD0
  have hA : ∀ q : Nat, s.heap.size ≤ q → va_A ((wX6 g a0 (a1 0) (a2 0) (a3 0) (a4 0) (a5 0) (a6 0) (a7 0) (a8 0) Z0) ++ ((wX5 g a1 T1) ++ ((wX5 g a2 T2) ++ ((wX5 g a3 T3) ++ ((wX3 g a4 G4 R4) ++ ((wX4 g a5 P5) ++ ((wX2 g a6 (a1 0) (a3 0)) ++ ((wX1 g a7 (a1 0) (a3 0) O7 B7) ++ (wX0 g a8 (a1 0) (a3 0) (a4 0)))))))))) s.heap.size q := fun q h => Or.inr h
  generalize va_A ((wX6 g a0 (a1 0) (a2 0) (a3 0) (a4 0) (a5 0) (a6 0) (a7 0) (a8 0) Z0) ++ ((wX5 g a1 T1) ++ ((wX5 g a2 T2) ++ ((wX5 g a3 T3) ++ ((wX3 g a4 G4 R4) ++ ((wX4 g a5 P5) ++ ((wX2 g a6 (a1 0) (a3 0)) ++ ((wX1 g a7 (a1 0) (a3 0) O7 B7) ++ (wX0 g a8 (a1 0) (a3 0) (a4 0)))))))))) s.heap.size = A at hw hA ⊢
  clear hP hD0
  have hl := lv_entry ([.ref (a0 0), .int p1, .int p2]) (n := 3) (Nat.le_of_ble_eq_true rfl)
  rw [lg_entry_eq]
  generalize (lg_sl ([.ref (a0 0), .int p1, .int p2]) ++ List.replicate (3 - (lg_sl ([.ref (a0 0), .int p1, .int p2])).length) Slot.unset).toArray = ls at hl ⊢
  have hl : lv_has ls 3 [(0, .ref (a0 0)), (1, .int p1), (2, .int p2)] := hl
  rw [f_X6_person] at hM
  refine lv_iload_n hx hb dX6_person_0 rfl (lv_at hl 1 rfl) ?_
  refine rSR (wc := ([] : va_W)) (As := [.int p1]) (rest := []) hS (c_X6_isKind l g p1) gX6_person_X6_isKind rfl hd_X6_isKind ⟨Nat.le_of_ble_eq_true rfl, Nat.le_of_ble_eq_true rfl⟩ hK (hP_nil) rfl hl.1 rfl (Nat.le_of_ble_eq_true rfl) dX6_person_1 ⟨Nat.zero_le _, Nat.zero_le _⟩ ?_
  refine lv_if_eq (tgt := 17) hx hb dX6_person_4 (by decide) (fun c2 => ?_) (fun c2 => ?_)
  · replace hM := itp c2 hM
    refine lv_aload_n hx hb dX6_person_17 rfl (lv_at hl 0 rfl) ?_
    refine lv_bipush (v := (-2 : Int32)) hx hb dX6_person_18 (by decide) ?_
    obtain ⟨q4, h3, hM⟩ := bd hM
    refine rVWp (wc := ((wX6 g a0 (a1 0) (a2 0) (a3 0) (a4 0) (a5 0) (a6 0) (a7 0) (a8 0) Z0) ++ ((wX5 g a1 T1) ++ ((wX5 g a2 T2) ++ ((wX5 g a3 T3) ++ ((wX3 g a4 G4 R4) ++ ((wX4 g a5 P5) ++ ((wX2 g a6 (a1 0) (a3 0)) ++ ((wX1 g a7 (a1 0) (a3 0) O7 B7) ++ (wX0 g a8 (a1 0) (a3 0) (a4 0))))))))))) (wq := ((wX6 g a0 (a1 0) (a2 0) (a3 0) (a4 0) (a5 0) (a6 0) (a7 0) (a8 0) q4.2) ++ ((wX5 g a1 T1) ++ ((wX5 g a2 T2) ++ ((wX5 g a3 T3) ++ ((wX3 g a4 G4 R4) ++ ((wX4 g a5 P5) ++ ((wX2 g a6 (a1 0) (a3 0)) ++ ((wX1 g a7 (a1 0) (a3 0) O7 B7) ++ (wX0 g a8 (a1 0) (a3 0) (a4 0))))))))))) (As := [.int (-2 : Int32)]) (rest := []) (q0 := 0) hS (c_X6_refuse l g a0 a1 a2 a3 a4 a5 a6 a7 a8 Z0 T1 T2 T3 G4 R4 P5 O7 B7 (-2 : Int32) h3) gX6_person_X6_refuse rfl hd_X6_refuse ⟨Nat.le_of_ble_eq_true rfl, Nat.le_of_ble_eq_true rfl⟩ hK hw hA (pm_9_0_1_2_3_4_5_6_7_8 _ _ _ _ _ _ _ _ _) rfl (pm_9_0_1_2_3_4_5_6_7_8 _ _ _ _ _ _ _ _ _) rfl rfl rfl rfl hl.1 rfl (Nat.le_of_ble_eq_true rfl) dX6_person_20 ⟨Nat.zero_le _, Nat.zero_le _⟩ (fun H locs hw => ?_)
    obtain rfl := Option.some.inj hM
    exact W.iret hx hb hr (fun t ht _ => ⟨rfl, by rw [ht]; exact hw.1, hw.2.2.F ht⟩) hw.2.2.2.2 dX6_person_23
  · replace hM := itn c2 hM
    refine lv_iload_n hx hb dX6_person_7 rfl (lv_at hl 2 rfl) ?_
    refine lv_iconst (v := (0 : Int32)) hx hb dX6_person_8 (by decide) ?_
    refine lv_bipush (v := (9 : Int32)) hx hb dX6_person_9 (by decide) ?_
    refine rSR (wc := ([] : va_W)) (As := [.int p2, .int (0 : Int32), .int (9 : Int32)]) (rest := []) hS (c_X6_isWithin l g p2 (0 : Int32) (9 : Int32)) gX6_person_X6_isWithin rfl hd_X6_isWithin ⟨Nat.le_of_ble_eq_true rfl, Nat.le_of_ble_eq_true rfl⟩ hK (hP_nil) rfl hl.1 rfl (Nat.le_of_ble_eq_true rfl) dX6_person_11 ⟨Nat.zero_le _, Nat.zero_le _⟩ ?_
    refine lv_if_ne (tgt := 24) hx hb dX6_person_14 (by decide) (fun c6 => ?_) (fun c6 => ?_)
    · replace hM := itn c6 hM
      refine lv_aload_n hx hb dX6_person_24 rfl (lv_at hl 0 rfl) ?_
      refine wk_get hx hb hts hin_X6 hown hK hw.1 6 0 0 (.ref (a1 0)) rfl rfl (by decide) (mi 1 rfl) rfl rfl dX6_person_25 ?_
      refine rVR (wc := (wX5 g a1 T1)) (As := []) (rest := []) (q0 := 0) hS (c_X5_isFull l g a1 T1) gX6_person_X5_isFull rfl hd_X5_isFull ⟨Nat.le_of_ble_eq_true rfl, Nat.le_of_ble_eq_true rfl⟩ hK (va_P.pm hw.1 (pm_9_1 _ _ _ _ _ _ _ _ _)) rfl rfl rfl rfl hl.1 rfl (Nat.le_of_ble_eq_true rfl) dX6_person_28 ⟨Nat.zero_le _, Nat.zero_le _⟩ ?_
      refine lv_if_eq (tgt := 41) hx hb dX6_person_31 (by decide) (fun c10 => ?_) (fun c10 => ?_)
      · replace hM := itp c10 hM
        refine lv_aload_n hx hb dX6_person_41 rfl (lv_at hl 0 rfl) ?_
        refine wk_get hx hb hts hin_X6 hown hK hw.1 6 0 0 (.ref (a1 0)) rfl rfl (by decide) (mi 1 rfl) rfl rfl dX6_person_42 ?_
        refine lv_iload_n hx hb dX6_person_45 rfl (lv_at hl 1 rfl) ?_
        refine lv_iload_n hx hb dX6_person_46 rfl (lv_at hl 2 rfl) ?_
        obtain ⟨q12, h11, hM⟩ := bd hM
        refine rVWp (wc := (wX5 g a1 T1)) (wq := ((wX6 g a0 (a1 0) (a2 0) (a3 0) (a4 0) (a5 0) (a6 0) (a7 0) (a8 0) Z0) ++ ((wX5 g a1 q12.2) ++ ((wX5 g a2 T2) ++ ((wX5 g a3 T3) ++ ((wX3 g a4 G4 R4) ++ ((wX4 g a5 P5) ++ ((wX2 g a6 (a1 0) (a3 0)) ++ ((wX1 g a7 (a1 0) (a3 0) O7 B7) ++ (wX0 g a8 (a1 0) (a3 0) (a4 0))))))))))) (As := [.int p1, .int p2]) (rest := []) (q0 := 0) hS (c_X5_join l g a1 T1 p1 p2 h11) gX6_person_X5_join rfl hd_X5_join ⟨Nat.le_of_ble_eq_true rfl, Nat.le_of_ble_eq_true rfl⟩ hK hw hA (pm_9_1 _ _ _ _ _ _ _ _ _) rfl (pm_9_1 _ _ _ _ _ _ _ _ _) rfl rfl rfl rfl hl.1 rfl (Nat.le_of_ble_eq_true rfl) dX6_person_47 ⟨Nat.zero_le _, Nat.zero_le _⟩ (fun H locs hw => ?_)
        obtain rfl := Option.some.inj hM
        exact W.iret hx hb hr (fun t ht _ => ⟨rfl, by rw [ht]; exact hw.1, hw.2.2.F ht⟩) hw.2.2.2.2 dX6_person_50
      · replace hM := itn c10 hM
        refine lv_aload_n hx hb dX6_person_34 rfl (lv_at hl 0 rfl) ?_
        refine lv_bipush (v := (-6 : Int32)) hx hb dX6_person_35 (by decide) ?_
        obtain ⟨q14, h13, hM⟩ := bd hM
        refine rVWp (wc := ((wX6 g a0 (a1 0) (a2 0) (a3 0) (a4 0) (a5 0) (a6 0) (a7 0) (a8 0) Z0) ++ ((wX5 g a1 T1) ++ ((wX5 g a2 T2) ++ ((wX5 g a3 T3) ++ ((wX3 g a4 G4 R4) ++ ((wX4 g a5 P5) ++ ((wX2 g a6 (a1 0) (a3 0)) ++ ((wX1 g a7 (a1 0) (a3 0) O7 B7) ++ (wX0 g a8 (a1 0) (a3 0) (a4 0))))))))))) (wq := ((wX6 g a0 (a1 0) (a2 0) (a3 0) (a4 0) (a5 0) (a6 0) (a7 0) (a8 0) q14.2) ++ ((wX5 g a1 T1) ++ ((wX5 g a2 T2) ++ ((wX5 g a3 T3) ++ ((wX3 g a4 G4 R4) ++ ((wX4 g a5 P5) ++ ((wX2 g a6 (a1 0) (a3 0)) ++ ((wX1 g a7 (a1 0) (a3 0) O7 B7) ++ (wX0 g a8 (a1 0) (a3 0) (a4 0))))))))))) (As := [.int (-6 : Int32)]) (rest := []) (q0 := 0) hS (c_X6_refuse l g a0 a1 a2 a3 a4 a5 a6 a7 a8 Z0 T1 T2 T3 G4 R4 P5 O7 B7 (-6 : Int32) h13) gX6_person_X6_refuse rfl hd_X6_refuse ⟨Nat.le_of_ble_eq_true rfl, Nat.le_of_ble_eq_true rfl⟩ hK hw hA (pm_9_0_1_2_3_4_5_6_7_8 _ _ _ _ _ _ _ _ _) rfl (pm_9_0_1_2_3_4_5_6_7_8 _ _ _ _ _ _ _ _ _) rfl rfl rfl rfl hl.1 rfl (Nat.le_of_ble_eq_true rfl) dX6_person_37 ⟨Nat.zero_le _, Nat.zero_le _⟩ (fun H locs hw => ?_)
        obtain rfl := Option.some.inj hM
        exact W.iret hx hb hr (fun t ht _ => ⟨rfl, by rw [ht]; exact hw.1, hw.2.2.F ht⟩) hw.2.2.2.2 dX6_person_40
    · replace hM := itp c6 hM
      refine lv_aload_n hx hb dX6_person_17 rfl (lv_at hl 0 rfl) ?_
      refine lv_bipush (v := (-2 : Int32)) hx hb dX6_person_18 (by decide) ?_
      obtain ⟨q8, h7, hM⟩ := bd hM
      refine rVWp (wc := ((wX6 g a0 (a1 0) (a2 0) (a3 0) (a4 0) (a5 0) (a6 0) (a7 0) (a8 0) Z0) ++ ((wX5 g a1 T1) ++ ((wX5 g a2 T2) ++ ((wX5 g a3 T3) ++ ((wX3 g a4 G4 R4) ++ ((wX4 g a5 P5) ++ ((wX2 g a6 (a1 0) (a3 0)) ++ ((wX1 g a7 (a1 0) (a3 0) O7 B7) ++ (wX0 g a8 (a1 0) (a3 0) (a4 0))))))))))) (wq := ((wX6 g a0 (a1 0) (a2 0) (a3 0) (a4 0) (a5 0) (a6 0) (a7 0) (a8 0) q8.2) ++ ((wX5 g a1 T1) ++ ((wX5 g a2 T2) ++ ((wX5 g a3 T3) ++ ((wX3 g a4 G4 R4) ++ ((wX4 g a5 P5) ++ ((wX2 g a6 (a1 0) (a3 0)) ++ ((wX1 g a7 (a1 0) (a3 0) O7 B7) ++ (wX0 g a8 (a1 0) (a3 0) (a4 0))))))))))) (As := [.int (-2 : Int32)]) (rest := []) (q0 := 0) hS (c_X6_refuse l g a0 a1 a2 a3 a4 a5 a6 a7 a8 Z0 T1 T2 T3 G4 R4 P5 O7 B7 (-2 : Int32) h7) gX6_person_X6_refuse rfl hd_X6_refuse ⟨Nat.le_of_ble_eq_true rfl, Nat.le_of_ble_eq_true rfl⟩ hK hw hA (pm_9_0_1_2_3_4_5_6_7_8 _ _ _ _ _ _ _ _ _) rfl (pm_9_0_1_2_3_4_5_6_7_8 _ _ _ _ _ _ _ _ _) rfl rfl rfl rfl hl.1 rfl (Nat.le_of_ble_eq_true rfl) dX6_person_20 ⟨Nat.zero_le _, Nat.zero_le _⟩ (fun H locs hw => ?_)
      obtain rfl := Option.some.inj hM
      exact W.iret hx hb hr (fun t ht _ => ⟨rfl, by rw [ht]; exact hw.1, hw.2.2.F ht⟩) hw.2.2.2.2 dX6_person_23
theorem hd_X6_personOf : yX6_personOf.cls = RX6 ∧ yX6_personOf.cls ≠ "java/lang/invoke/MethodHandle" ∧ yX6_personOf.cls ≠ "java/lang/invoke/VarHandle" ∧ (parseMethodDescriptor yX6_personOf.desc).map (fun d => d.parameters.length) = some 2 := by decide +kernel
set_option maxHeartbeats 4000000 in
set_option maxRecDepth 100000 in
theorem c_X6_personOf (l : Launch) (g : Gm) (a0 : Nat → Nat) (a1 : Nat → Nat) (a2 : Nat → Nat) (a3 : Nat → Nat) (a4 : Nat → Nat) (a5 : Nat → Nat) (a6 : Nat → Nat) (a7 : Nat → Nat) (a8 : Nat → Nat) (Z0 : TS) (T1 : TS) (T2 : TS) (T3 : TS) (G4 : TS) (R4 : LTS) (P5 : TS) (O7 : TS) (B7 : TS) (p1 : Int32) (p2 : Int32) {q : (Int32 × TS)} (hM : f_X6_personOf Z0 T1 T2 T3 G4 R4 P5 O7 B7 p1 p2 = some q) : MW l yX6_personOf wsX6_personOf 2 43 g [.ref (a0 0), .int p1, .int p2] ((wX6 g a0 (a1 0) (a2 0) (a3 0) (a4 0) (a5 0) (a6 0) (a7 0) (a8 0) Z0) ++ ((wX5 g a1 T1) ++ ((wX5 g a2 T2) ++ ((wX5 g a3 T3) ++ ((wX3 g a4 G4 R4) ++ ((wX4 g a5 P5) ++ ((wX2 g a6 (a1 0) (a3 0)) ++ ((wX1 g a7 (a1 0) (a3 0) O7 B7) ++ (wX0 g a8 (a1 0) (a3 0) (a4 0)))))))))) (some (.int q.1)) ((wX6 g a0 (a1 0) (a2 0) (a3 0) (a4 0) (a5 0) (a6 0) (a7 0) (a8 0) q.2) ++ ((wX5 g a1 T1) ++ ((wX5 g a2 T2) ++ ((wX5 g a3 T3) ++ ((wX3 g a4 G4 R4) ++ ((wX4 g a5 P5) ++ ((wX2 g a6 (a1 0) (a3 0)) ++ ((wX1 g a7 (a1 0) (a3 0) O7 B7) ++ (wX0 g a8 (a1 0) (a3 0) (a4 0)))))))))) := by
  intro sz
  refine Met.ofW (cc := cX6_personOf) (maxL := 3) (ret := (some .int)) (by decide) rfl ?_
  intro p e s m args below meth c s₁ B hml hv
  obtain ⟨rfl, hsz, hP, hK, hD0⟩ := hv
  have hx := B.exec; have hb := B.bytes; have hr := B.returns
  have hts := atoms_spec (ws := wsX6_personOf) B.pre
  have hown : s.vm.findClass RX6 = some m.cls := findClass_of_methodNamed B.named
  have hlocks := B.notSynchronized
  have hS : CallFix p m c cX6_personOf 3 s _ wsX6_personOf RX6 := ⟨hx, hb, hml, hown, hts⟩
  have hin_X6 : ∀ w ∈ wsX60, w ∈ wsX6_personOf := fun w h => (List.mem_cons_of_mem _ (List.mem_append_left _ (List.mem_append_right _ h)))
  subst hsz
  have hw := wk_start hP hD0
  have hA : ∀ q : Nat, s.heap.size ≤ q → va_A ((wX6 g a0 (a1 0) (a2 0) (a3 0) (a4 0) (a5 0) (a6 0) (a7 0) (a8 0) Z0) ++ ((wX5 g a1 T1) ++ ((wX5 g a2 T2) ++ ((wX5 g a3 T3) ++ ((wX3 g a4 G4 R4) ++ ((wX4 g a5 P5) ++ ((wX2 g a6 (a1 0) (a3 0)) ++ ((wX1 g a7 (a1 0) (a3 0) O7 B7) ++ (wX0 g a8 (a1 0) (a3 0) (a4 0)))))))))) s.heap.size q := fun q h => Or.inr h
  generalize va_A ((wX6 g a0 (a1 0) (a2 0) (a3 0) (a4 0) (a5 0) (a6 0) (a7 0) (a8 0) Z0) ++ ((wX5 g a1 T1) ++ ((wX5 g a2 T2) ++ ((wX5 g a3 T3) ++ ((wX3 g a4 G4 R4) ++ ((wX4 g a5 P5) ++ ((wX2 g a6 (a1 0) (a3 0)) ++ ((wX1 g a7 (a1 0) (a3 0) O7 B7) ++ (wX0 g a8 (a1 0) (a3 0) (a4 0)))))))))) s.heap.size = A at hw hA ⊢
  clear hP hD0
  have hl := lv_entry ([.ref (a0 0), .int p1, .int p2]) (n := 3) (Nat.le_of_ble_eq_true rfl)
  rw [lg_entry_eq]
  generalize (lg_sl ([.ref (a0 0), .int p1, .int p2]) ++ List.replicate (3 - (lg_sl ([.ref (a0 0), .int p1, .int p2])).length) Slot.unset).toArray = ls at hl ⊢
  have hl : lv_has ls 3 [(0, .ref (a0 0)), (1, .int p1), (2, .int p2)] := hl
  rw [f_X6_personOf] at hM
  refine lv_aload_n hx hb dX6_personOf_0 rfl (lv_at hl 0 rfl) ?_
  refine wk_get hx hb hts hin_X6 hown hK hw.1 6 0 0 (.ref (a1 0)) rfl rfl (by decide) (mi 1 rfl) rfl rfl dX6_personOf_1 ?_
  refine lv_iload_n hx hb dX6_personOf_4 rfl (lv_at hl 1 rfl) ?_
  refine rVR (wc := (wX5 g a1 T1)) (As := [.int p1]) (rest := []) (q0 := 0) hS (c_X5_isOne l g a1 T1 p1) gX6_personOf_X5_isOne rfl hd_X5_isOne ⟨Nat.le_of_ble_eq_true rfl, Nat.le_of_ble_eq_true rfl⟩ hK (va_P.pm hw.1 (pm_9_1 _ _ _ _ _ _ _ _ _)) rfl rfl rfl rfl hl.1 rfl (Nat.le_of_ble_eq_true rfl) dX6_personOf_5 ⟨Nat.zero_le _, Nat.zero_le _⟩ ?_
  refine lv_if_eq (tgt := 21) hx hb dX6_personOf_8 (by decide) (fun c2 => ?_) (fun c2 => ?_)
  · replace hM := itp c2 hM
    refine lv_aload_n hx hb dX6_personOf_21 rfl (lv_at hl 0 rfl) ?_
    refine lv_bipush (v := (-2 : Int32)) hx hb dX6_personOf_22 (by decide) ?_
    obtain ⟨q4, h3, hM⟩ := bd hM
    refine rVWp (wc := ((wX6 g a0 (a1 0) (a2 0) (a3 0) (a4 0) (a5 0) (a6 0) (a7 0) (a8 0) Z0) ++ ((wX5 g a1 T1) ++ ((wX5 g a2 T2) ++ ((wX5 g a3 T3) ++ ((wX3 g a4 G4 R4) ++ ((wX4 g a5 P5) ++ ((wX2 g a6 (a1 0) (a3 0)) ++ ((wX1 g a7 (a1 0) (a3 0) O7 B7) ++ (wX0 g a8 (a1 0) (a3 0) (a4 0))))))))))) (wq := ((wX6 g a0 (a1 0) (a2 0) (a3 0) (a4 0) (a5 0) (a6 0) (a7 0) (a8 0) q4.2) ++ ((wX5 g a1 T1) ++ ((wX5 g a2 T2) ++ ((wX5 g a3 T3) ++ ((wX3 g a4 G4 R4) ++ ((wX4 g a5 P5) ++ ((wX2 g a6 (a1 0) (a3 0)) ++ ((wX1 g a7 (a1 0) (a3 0) O7 B7) ++ (wX0 g a8 (a1 0) (a3 0) (a4 0))))))))))) (As := [.int (-2 : Int32)]) (rest := []) (q0 := 0) hS (c_X6_refuse l g a0 a1 a2 a3 a4 a5 a6 a7 a8 Z0 T1 T2 T3 G4 R4 P5 O7 B7 (-2 : Int32) h3) gX6_personOf_X6_refuse rfl hd_X6_refuse ⟨Nat.le_of_ble_eq_true rfl, Nat.le_of_ble_eq_true rfl⟩ hK hw hA (pm_9_0_1_2_3_4_5_6_7_8 _ _ _ _ _ _ _ _ _) rfl (pm_9_0_1_2_3_4_5_6_7_8 _ _ _ _ _ _ _ _ _) rfl rfl rfl rfl hl.1 rfl (Nat.le_of_ble_eq_true rfl) dX6_personOf_24 ⟨Nat.zero_le _, Nat.zero_le _⟩ (fun H locs hw => ?_)
    obtain rfl := Option.some.inj hM
    exact W.iret hx hb hr (fun t ht _ => ⟨rfl, by rw [ht]; exact hw.1, hw.2.2.F ht⟩) hw.2.2.2.2 dX6_personOf_27
  · replace hM := itn c2 hM
    refine lv_iload_n hx hb dX6_personOf_11 rfl (lv_at hl 2 rfl) ?_
    refine lv_iconst (v := (0 : Int32)) hx hb dX6_personOf_12 (by decide) ?_
    refine lv_bipush (v := (7 : Int32)) hx hb dX6_personOf_13 (by decide) ?_
    refine rSR (wc := ([] : va_W)) (As := [.int p2, .int (0 : Int32), .int (7 : Int32)]) (rest := []) hS (c_X6_isWithin l g p2 (0 : Int32) (7 : Int32)) gX6_personOf_X6_isWithin rfl hd_X6_isWithin ⟨Nat.le_of_ble_eq_true rfl, Nat.le_of_ble_eq_true rfl⟩ hK (hP_nil) rfl hl.1 rfl (Nat.le_of_ble_eq_true rfl) dX6_personOf_15 ⟨Nat.zero_le _, Nat.zero_le _⟩ ?_
    refine lv_if_ne (tgt := 28) hx hb dX6_personOf_18 (by decide) (fun c6 => ?_) (fun c6 => ?_)
    · replace hM := itn c6 hM
      refine lv_aload_n hx hb dX6_personOf_28 rfl (lv_at hl 0 rfl) ?_
      refine wk_get hx hb hts hin_X6 hown hK hw.1 6 0 0 (.ref (a1 0)) rfl rfl (by decide) (mi 1 rfl) rfl rfl dX6_personOf_29 ?_
      refine lv_iload_n hx hb dX6_personOf_32 rfl (lv_at hl 1 rfl) ?_
      refine lv_iload_n hx hb dX6_personOf_33 rfl (lv_at hl 2 rfl) ?_
      obtain ⟨q10, h9, hM⟩ := bd hM
      refine rVR (wc := (wX5 g a1 T1)) (As := [.int p1, .int p2]) (rest := []) (q0 := 0) hS (c_X5_factOf l g a1 T1 p1 p2 h9) gX6_personOf_X5_factOf rfl hd_X5_factOf ⟨Nat.le_of_ble_eq_true rfl, Nat.le_of_ble_eq_true rfl⟩ hK (va_P.pm hw.1 (pm_9_1 _ _ _ _ _ _ _ _ _)) rfl rfl rfl rfl hl.1 rfl (Nat.le_of_ble_eq_true rfl) dX6_personOf_34 ⟨Nat.zero_le _, Nat.zero_le _⟩ ?_
      obtain rfl := Option.some.inj hM
      exact W.iret hx hb hr (fun t ht _ => ⟨rfl, by rw [ht]; exact hw.1, hw.2.2.F ht⟩) hw.2.2.2.2 dX6_personOf_37
    · replace hM := itp c6 hM
      refine lv_aload_n hx hb dX6_personOf_21 rfl (lv_at hl 0 rfl) ?_
      refine lv_bipush (v := (-2 : Int32)) hx hb dX6_personOf_22 (by decide) ?_
      obtain ⟨q8, h7, hM⟩ := bd hM
      refine rVWp (wc := ((wX6 g a0 (a1 0) (a2 0) (a3 0) (a4 0) (a5 0) (a6 0) (a7 0) (a8 0) Z0) ++ ((wX5 g a1 T1) ++ ((wX5 g a2 T2) ++ ((wX5 g a3 T3) ++ ((wX3 g a4 G4 R4) ++ ((wX4 g a5 P5) ++ ((wX2 g a6 (a1 0) (a3 0)) ++ ((wX1 g a7 (a1 0) (a3 0) O7 B7) ++ (wX0 g a8 (a1 0) (a3 0) (a4 0))))))))))) (wq := ((wX6 g a0 (a1 0) (a2 0) (a3 0) (a4 0) (a5 0) (a6 0) (a7 0) (a8 0) q8.2) ++ ((wX5 g a1 T1) ++ ((wX5 g a2 T2) ++ ((wX5 g a3 T3) ++ ((wX3 g a4 G4 R4) ++ ((wX4 g a5 P5) ++ ((wX2 g a6 (a1 0) (a3 0)) ++ ((wX1 g a7 (a1 0) (a3 0) O7 B7) ++ (wX0 g a8 (a1 0) (a3 0) (a4 0))))))))))) (As := [.int (-2 : Int32)]) (rest := []) (q0 := 0) hS (c_X6_refuse l g a0 a1 a2 a3 a4 a5 a6 a7 a8 Z0 T1 T2 T3 G4 R4 P5 O7 B7 (-2 : Int32) h7) gX6_personOf_X6_refuse rfl hd_X6_refuse ⟨Nat.le_of_ble_eq_true rfl, Nat.le_of_ble_eq_true rfl⟩ hK hw hA (pm_9_0_1_2_3_4_5_6_7_8 _ _ _ _ _ _ _ _ _) rfl (pm_9_0_1_2_3_4_5_6_7_8 _ _ _ _ _ _ _ _ _) rfl rfl rfl rfl hl.1 rfl (Nat.le_of_ble_eq_true rfl) dX6_personOf_24 ⟨Nat.zero_le _, Nat.zero_le _⟩ (fun H locs hw => ?_)
      obtain rfl := Option.some.inj hM
      exact W.iret hx hb hr (fun t ht _ => ⟨rfl, by rw [ht]; exact hw.1, hw.2.2.F ht⟩) hw.2.2.2.2 dX6_personOf_27
theorem hd_X6_round : yX6_round.cls = RX6 ∧ yX6_round.cls ≠ "java/lang/invoke/MethodHandle" ∧ yX6_round.cls ≠ "java/lang/invoke/VarHandle" ∧ (parseMethodDescriptor yX6_round.desc).map (fun d => d.parameters.length) = some 0 := by decide +kernel
set_option maxHeartbeats 4000000 in
set_option maxRecDepth 100000 in
theorem c_X6_round (l : Launch) (g : Gm) (a0 : Nat → Nat) (a1 : Nat → Nat) (a2 : Nat → Nat) (a3 : Nat → Nat) (a4 : Nat → Nat) (a5 : Nat → Nat) (a6 : Nat → Nat) (a7 : Nat → Nat) (a8 : Nat → Nat) (Z0 : TS) (T1 : TS) (T2 : TS) (T3 : TS) (G4 : TS) (R4 : LTS) (P5 : TS) (O7 : TS) (B7 : TS) {q : (Int32 × TS)} (hM : f_X6_round Z0 T1 T2 T3 G4 R4 P5 O7 B7 = some q) : MW l yX6_round wsX6_round 3 71 g [.ref (a0 0)] ((wX6 g a0 (a1 0) (a2 0) (a3 0) (a4 0) (a5 0) (a6 0) (a7 0) (a8 0) Z0) ++ ((wX5 g a1 T1) ++ ((wX5 g a2 T2) ++ ((wX5 g a3 T3) ++ ((wX3 g a4 G4 R4) ++ ((wX4 g a5 P5) ++ ((wX2 g a6 (a1 0) (a3 0)) ++ ((wX1 g a7 (a1 0) (a3 0) O7 B7) ++ (wX0 g a8 (a1 0) (a3 0) (a4 0)))))))))) (some (.int q.1)) ((wX6 g a0 (a1 0) (a2 0) (a3 0) (a4 0) (a5 0) (a6 0) (a7 0) (a8 0) Z0) ++ ((wX5 g a1 q.2) ++ ((wX5 g a2 T2) ++ ((wX5 g a3 T3) ++ ((wX3 g a4 G4 R4) ++ ((wX4 g a5 P5) ++ ((wX2 g a6 (a1 0) (a3 0)) ++ ((wX1 g a7 (a1 0) (a3 0) O7 B7) ++ (wX0 g a8 (a1 0) (a3 0) (a4 0)))))))))) := by
  intro sz
  refine Met.ofW (cc := cX6_round) (maxL := 1) (ret := (some .int)) (by decide) rfl ?_
  intro p e s m args below meth c s₁ B hml hv
  obtain ⟨rfl, hsz, hP, hK, hD0⟩ := hv
  have hx := B.exec; have hb := B.bytes; have hr := B.returns
  have hts := atoms_spec (ws := wsX6_round) B.pre
  have hown : s.vm.findClass RX6 = some m.cls := findClass_of_methodNamed B.named
  have hlocks := B.notSynchronized
  have hS : CallFix p m c cX6_round 1 s _ wsX6_round RX6 := ⟨hx, hb, hml, hown, hts⟩
  have hin_X6 : ∀ w ∈ wsX60, w ∈ wsX6_round := fun w h => (List.mem_cons_of_mem _ (List.mem_append_left _ (List.mem_append_right _ h)))
  subst hsz
  have hw := wk_start hP hD0
  have hA : ∀ q : Nat, s.heap.size ≤ q → va_A ((wX6 g a0 (a1 0) (a2 0) (a3 0) (a4 0) (a5 0) (a6 0) (a7 0) (a8 0) Z0) ++ ((wX5 g a1 T1) ++ ((wX5 g a2 T2) ++ ((wX5 g a3 T3) ++ ((wX3 g a4 G4 R4) ++ ((wX4 g a5 P5) ++ ((wX2 g a6 (a1 0) (a3 0)) ++ ((wX1 g a7 (a1 0) (a3 0) O7 B7) ++ (wX0 g a8 (a1 0) (a3 0) (a4 0)))))))))) s.heap.size q := fun q h => Or.inr h
  generalize va_A ((wX6 g a0 (a1 0) (a2 0) (a3 0) (a4 0) (a5 0) (a6 0) (a7 0) (a8 0) Z0) ++ ((wX5 g a1 T1) ++ ((wX5 g a2 T2) ++ ((wX5 g a3 T3) ++ ((wX3 g a4 G4 R4) ++ ((wX4 g a5 P5) ++ ((wX2 g a6 (a1 0) (a3 0)) ++ ((wX1 g a7 (a1 0) (a3 0) O7 B7) ++ (wX0 g a8 (a1 0) (a3 0) (a4 0)))))))))) s.heap.size = A at hw hA ⊢
  clear hP hD0
  have hl := lv_entry ([.ref (a0 0)]) (n := 1) (Nat.le_of_ble_eq_true rfl)
  rw [lg_entry_eq]
  generalize (lg_sl ([.ref (a0 0)]) ++ List.replicate (1 - (lg_sl ([.ref (a0 0)])).length) Slot.unset).toArray = ls at hl ⊢
  have hl : lv_has ls 1 [(0, .ref (a0 0))] := hl
  rw [f_X6_round] at hM
  refine lv_aload_n hx hb dX6_round_0 rfl (lv_at hl 0 rfl) ?_
  refine wk_get hx hb hts hin_X6 hown hK hw.1 6 0 0 (.ref (a1 0)) rfl rfl (by decide) (mi 1 rfl) rfl rfl dX6_round_1 ?_
  obtain ⟨q2, h1, hM⟩ := bd hM
  refine rVWp (wc := (wX5 g a1 T1)) (wq := ((wX6 g a0 (a1 0) (a2 0) (a3 0) (a4 0) (a5 0) (a6 0) (a7 0) (a8 0) Z0) ++ ((wX5 g a1 q2.2) ++ ((wX5 g a2 T2) ++ ((wX5 g a3 T3) ++ ((wX3 g a4 G4 R4) ++ ((wX4 g a5 P5) ++ ((wX2 g a6 (a1 0) (a3 0)) ++ ((wX1 g a7 (a1 0) (a3 0) O7 B7) ++ (wX0 g a8 (a1 0) (a3 0) (a4 0))))))))))) (As := []) (rest := []) (q0 := 0) hS (c_X5_passRound l g a1 T1 h1) gX6_round_X5_passRound rfl hd_X5_passRound ⟨Nat.le_of_ble_eq_true rfl, Nat.le_of_ble_eq_true rfl⟩ hK hw hA (pm_9_1 _ _ _ _ _ _ _ _ _) rfl (pm_9_1 _ _ _ _ _ _ _ _ _) rfl rfl rfl rfl hl.1 rfl (Nat.le_of_ble_eq_true rfl) dX6_round_4 ⟨Nat.zero_le _, Nat.zero_le _⟩ (fun H locs hw => ?_)
  refine lv_pop hx hb dX6_round_7 rfl ?_
  refine lv_aload_n hx hb dX6_round_8 rfl (lv_at hl 0 rfl) ?_
  refine wk_get hx hb hts hin_X6 hown hK hw.1 6 0 0 (.ref (a1 0)) rfl rfl (by decide) (mi 1 rfl) rfl rfl dX6_round_9 ?_
  obtain ⟨q4, h3, hM⟩ := bd hM
  refine rVR (wc := (wX5 g a1 q2.2)) (As := []) (rest := []) (q0 := 0) hS (c_X5_knownInAll l g a1 q2.2 h3) gX6_round_X5_knownInAll rfl hd_X5_knownInAll ⟨Nat.le_of_ble_eq_true rfl, Nat.le_of_ble_eq_true rfl⟩ hK (va_P.pm hw.1 (pm_9_1 _ _ _ _ _ _ _ _ _)) rfl rfl rfl rfl hl.1 rfl (Nat.le_of_ble_eq_true rfl) dX6_round_12 ⟨Nat.zero_le _, Nat.zero_le _⟩ ?_
  obtain rfl := Option.some.inj hM
  exact W.iret hx hb hr (fun t ht _ => ⟨rfl, by rw [ht]; exact hw.1, hw.2.2.F ht⟩) hw.2.2.2.2 dX6_round_15
theorem hd_X6_rounds : yX6_rounds.cls = RX6 ∧ yX6_rounds.cls ≠ "java/lang/invoke/MethodHandle" ∧ yX6_rounds.cls ≠ "java/lang/invoke/VarHandle" ∧ (parseMethodDescriptor yX6_rounds.desc).map (fun d => d.parameters.length) = some 0 := by decide +kernel
set_option maxHeartbeats 4000000 in
set_option maxRecDepth 100000 in
theorem c_X6_rounds (l : Launch) (g : Gm) (a0 : Nat → Nat) (a1 : Nat → Nat) (a2 : Nat → Nat) (a3 : Nat → Nat) (a4 : Nat → Nat) (a5 : Nat → Nat) (a6 : Nat → Nat) (a7 : Nat → Nat) (a8 : Nat → Nat) (Z0 : TS) (T1 : TS) (T2 : TS) (T3 : TS) (G4 : TS) (R4 : LTS) (P5 : TS) (O7 : TS) (B7 : TS) {q : (Int32 × TS)} (hM : f_X6_rounds Z0 T1 T2 T3 G4 R4 P5 O7 B7 = some q) : MW l yX6_rounds wsX6_rounds 4 122 g [.ref (a0 0)] ((wX6 g a0 (a1 0) (a2 0) (a3 0) (a4 0) (a5 0) (a6 0) (a7 0) (a8 0) Z0) ++ ((wX5 g a1 T1) ++ ((wX5 g a2 T2) ++ ((wX5 g a3 T3) ++ ((wX3 g a4 G4 R4) ++ ((wX4 g a5 P5) ++ ((wX2 g a6 (a1 0) (a3 0)) ++ ((wX1 g a7 (a1 0) (a3 0) O7 B7) ++ (wX0 g a8 (a1 0) (a3 0) (a4 0)))))))))) (some (.int q.1)) ((wX6 g a0 (a1 0) (a2 0) (a3 0) (a4 0) (a5 0) (a6 0) (a7 0) (a8 0) Z0) ++ ((wX5 g a1 T1) ++ ((wX5 g a2 T2) ++ ((wX5 g a3 q.2) ++ ((wX3 g a4 G4 R4) ++ ((wX4 g a5 P5) ++ ((wX2 g a6 (a1 0) (a3 0)) ++ ((wX1 g a7 (a1 0) (a3 0) O7 B7) ++ (wX0 g a8 (a1 0) (a3 0) (a4 0)))))))))) := by
  intro sz
  refine Met.ofW (cc := cX6_rounds) (maxL := 1) (ret := (some .int)) (by decide) rfl ?_
  intro p e s m args below meth c s₁ B hml hv
  obtain ⟨rfl, hsz, hP, hK, hD0⟩ := hv
  have hx := B.exec; have hb := B.bytes; have hr := B.returns
  have hts := atoms_spec (ws := wsX6_rounds) B.pre
  have hown : s.vm.findClass RX6 = some m.cls := findClass_of_methodNamed B.named
  have hlocks := B.notSynchronized
  have hS : CallFix p m c cX6_rounds 1 s _ wsX6_rounds RX6 := ⟨hx, hb, hml, hown, hts⟩
  have hin_X6 : ∀ w ∈ wsX60, w ∈ wsX6_rounds := fun w h => (List.mem_cons_of_mem _ (List.mem_append_left _ (List.mem_append_left _ (List.mem_append_right _ h))))
  subst hsz
  have hw := wk_start hP hD0
  have hA : ∀ q : Nat, s.heap.size ≤ q → va_A ((wX6 g a0 (a1 0) (a2 0) (a3 0) (a4 0) (a5 0) (a6 0) (a7 0) (a8 0) Z0) ++ ((wX5 g a1 T1) ++ ((wX5 g a2 T2) ++ ((wX5 g a3 T3) ++ ((wX3 g a4 G4 R4) ++ ((wX4 g a5 P5) ++ ((wX2 g a6 (a1 0) (a3 0)) ++ ((wX1 g a7 (a1 0) (a3 0) O7 B7) ++ (wX0 g a8 (a1 0) (a3 0) (a4 0)))))))))) s.heap.size q := fun q h => Or.inr h
  generalize va_A ((wX6 g a0 (a1 0) (a2 0) (a3 0) (a4 0) (a5 0) (a6 0) (a7 0) (a8 0) Z0) ++ ((wX5 g a1 T1) ++ ((wX5 g a2 T2) ++ ((wX5 g a3 T3) ++ ((wX3 g a4 G4 R4) ++ ((wX4 g a5 P5) ++ ((wX2 g a6 (a1 0) (a3 0)) ++ ((wX1 g a7 (a1 0) (a3 0) O7 B7) ++ (wX0 g a8 (a1 0) (a3 0) (a4 0)))))))))) s.heap.size = A at hw hA ⊢
  clear hP hD0
  have hl := lv_entry ([.ref (a0 0)]) (n := 1) (Nat.le_of_ble_eq_true rfl)
  rw [lg_entry_eq]
  generalize (lg_sl ([.ref (a0 0)]) ++ List.replicate (1 - (lg_sl ([.ref (a0 0)])).length) Slot.unset).toArray = ls at hl ⊢
  have hl : lv_has ls 1 [(0, .ref (a0 0))] := hl
  rw [f_X6_rounds] at hM
  refine lv_aload_n hx hb dX6_rounds_0 rfl (lv_at hl 0 rfl) ?_
  refine wk_get hx hb hts hin_X6 hown hK hw.1 6 0 5 (.ref (a6 0)) rfl rfl (by decide) (mi 1 rfl) rfl rfl dX6_rounds_1 ?_
  obtain ⟨q2, h1, hM⟩ := bd hM
  refine rVWp (wc := ((wX2 g a6 (a1 0) (a3 0)) ++ ((wX5 g a1 T1) ++ (wX5 g a3 T3)))) (wq := ((wX6 g a0 (a1 0) (a2 0) (a3 0) (a4 0) (a5 0) (a6 0) (a7 0) (a8 0) Z0) ++ ((wX5 g a1 T1) ++ ((wX5 g a2 T2) ++ ((wX5 g a3 q2.2) ++ ((wX3 g a4 G4 R4) ++ ((wX4 g a5 P5) ++ ((wX2 g a6 (a1 0) (a3 0)) ++ ((wX1 g a7 (a1 0) (a3 0) O7 B7) ++ (wX0 g a8 (a1 0) (a3 0) (a4 0))))))))))) (As := []) (rest := []) (q0 := 0) hS (c_X2_untilStill l g a6 a1 a3 T1 T3 h1) gX6_rounds_X2_untilStill rfl hd_X2_untilStill ⟨Nat.le_of_ble_eq_true rfl, Nat.le_of_ble_eq_true rfl⟩ hK hw hA (pm_9_6_1_3 _ _ _ _ _ _ _ _ _) rfl (pm_9_6_1_3 _ _ _ _ _ _ _ _ _) rfl rfl rfl rfl hl.1 rfl (Nat.le_of_ble_eq_true rfl) dX6_rounds_4 ⟨Nat.zero_le _, Nat.zero_le _⟩ (fun H locs hw => ?_)
  obtain rfl := Option.some.inj hM
  exact W.iret hx hb hr (fun t ht _ => ⟨rfl, by rw [ht]; exact hw.1, hw.2.2.F ht⟩) hw.2.2.2.2 dX6_rounds_7
theorem hd_X6_row : yX6_row.cls = RX6 ∧ yX6_row.cls ≠ "java/lang/invoke/MethodHandle" ∧ yX6_row.cls ≠ "java/lang/invoke/VarHandle" ∧ (parseMethodDescriptor yX6_row.desc).map (fun d => d.parameters.length) = some 3 := by decide +kernel
set_option maxHeartbeats 4000000 in
set_option maxRecDepth 100000 in
theorem c_X6_row (l : Launch) (g : Gm) (a0 : Nat → Nat) (a1 : Nat → Nat) (a2 : Nat → Nat) (a3 : Nat → Nat) (a4 : Nat → Nat) (a5 : Nat → Nat) (a6 : Nat → Nat) (a7 : Nat → Nat) (a8 : Nat → Nat) (Z0 : TS) (T1 : TS) (T2 : TS) (T3 : TS) (G4 : TS) (R4 : LTS) (P5 : TS) (O7 : TS) (B7 : TS) (p1 : Int32) (p2 : Int32) (p3 : Int32) {q : (Int32 × TS × TS × LTS)} (hM : f_X6_row Z0 T1 T2 T3 G4 R4 P5 O7 B7 p1 p2 p3 = some q) : MW l yX6_row wsX6_row 2 42 g [.ref (a0 0), .int p1, .int p2, .int p3] ((wX6 g a0 (a1 0) (a2 0) (a3 0) (a4 0) (a5 0) (a6 0) (a7 0) (a8 0) Z0) ++ ((wX5 g a1 T1) ++ ((wX5 g a2 T2) ++ ((wX5 g a3 T3) ++ ((wX3 g a4 G4 R4) ++ ((wX4 g a5 P5) ++ ((wX2 g a6 (a1 0) (a3 0)) ++ ((wX1 g a7 (a1 0) (a3 0) O7 B7) ++ (wX0 g a8 (a1 0) (a3 0) (a4 0)))))))))) (some (.int q.1)) ((wX6 g a0 (a1 0) (a2 0) (a3 0) (a4 0) (a5 0) (a6 0) (a7 0) (a8 0) q.2.1) ++ ((wX5 g a1 T1) ++ ((wX5 g a2 T2) ++ ((wX5 g a3 T3) ++ ((wX3 g a4 q.2.2.1 q.2.2.2) ++ ((wX4 g a5 P5) ++ ((wX2 g a6 (a1 0) (a3 0)) ++ ((wX1 g a7 (a1 0) (a3 0) O7 B7) ++ (wX0 g a8 (a1 0) (a3 0) (a4 0)))))))))) := by
  intro sz
  refine Met.ofW (cc := cX6_row) (maxL := 4) (ret := (some .int)) (by decide) rfl ?_
  intro p e s m args below meth c s₁ B hml hv
  obtain ⟨rfl, hsz, hP, hK, hD0⟩ := hv
  have hx := B.exec; have hb := B.bytes; have hr := B.returns
  have hts := atoms_spec (ws := wsX6_row) B.pre
  have hown : s.vm.findClass RX6 = some m.cls := findClass_of_methodNamed B.named
  have hlocks := B.notSynchronized
  have hS : CallFix p m c cX6_row 4 s _ wsX6_row RX6 := ⟨hx, hb, hml, hown, hts⟩
  have hin_X6 : ∀ w ∈ wsX60, w ∈ wsX6_row := fun w h => (List.mem_cons_of_mem _ (List.mem_append_left _ (List.mem_append_right _ h)))
  subst hsz
  have hw := wk_start hP hD0
  have hA : ∀ q : Nat, s.heap.size ≤ q → va_A ((wX6 g a0 (a1 0) (a2 0) (a3 0) (a4 0) (a5 0) (a6 0) (a7 0) (a8 0) Z0) ++ ((wX5 g a1 T1) ++ ((wX5 g a2 T2) ++ ((wX5 g a3 T3) ++ ((wX3 g a4 G4 R4) ++ ((wX4 g a5 P5) ++ ((wX2 g a6 (a1 0) (a3 0)) ++ ((wX1 g a7 (a1 0) (a3 0) O7 B7) ++ (wX0 g a8 (a1 0) (a3 0) (a4 0)))))))))) s.heap.size q := fun q h => Or.inr h
  generalize va_A ((wX6 g a0 (a1 0) (a2 0) (a3 0) (a4 0) (a5 0) (a6 0) (a7 0) (a8 0) Z0) ++ ((wX5 g a1 T1) ++ ((wX5 g a2 T2) ++ ((wX5 g a3 T3) ++ ((wX3 g a4 G4 R4) ++ ((wX4 g a5 P5) ++ ((wX2 g a6 (a1 0) (a3 0)) ++ ((wX1 g a7 (a1 0) (a3 0) O7 B7) ++ (wX0 g a8 (a1 0) (a3 0) (a4 0)))))))))) s.heap.size = A at hw hA ⊢
  clear hP hD0
  have hl := lv_entry ([.ref (a0 0), .int p1, .int p2, .int p3]) (n := 4) (Nat.le_of_ble_eq_true rfl)
  rw [lg_entry_eq]
  generalize (lg_sl ([.ref (a0 0), .int p1, .int p2, .int p3]) ++ List.replicate (4 - (lg_sl ([.ref (a0 0), .int p1, .int p2, .int p3])).length) Slot.unset).toArray = ls at hl ⊢
  have hl : lv_has ls 4 [(0, .ref (a0 0)), (1, .int p1), (2, .int p2), (3, .int p3)] := hl
  rw [f_X6_row] at hM
  refine lv_iload_n hx hb dX6_row_0 rfl (lv_at hl 1 rfl) ?_
  refine rSR (wc := ([] : va_W)) (As := [.int p1]) (rest := []) hS (c_X6_isShelf l g p1) gX6_row_X6_isShelf rfl hd_X6_isShelf ⟨Nat.le_of_ble_eq_true rfl, Nat.le_of_ble_eq_true rfl⟩ hK (hP_nil) rfl hl.1 rfl (Nat.le_of_ble_eq_true rfl) dX6_row_1 ⟨Nat.zero_le _, Nat.zero_le _⟩ ?_
  refine lv_if_eq (tgt := 26) hx hb dX6_row_4 (by decide) (fun c2 => ?_) (fun c2 => ?_)
  · replace hM := itp c2 hM
    refine lv_aload_n hx hb dX6_row_26 rfl (lv_at hl 0 rfl) ?_
    refine lv_bipush (v := (-2 : Int32)) hx hb dX6_row_27 (by decide) ?_
    obtain ⟨q4, h3, hM⟩ := bd hM
    refine rVWp (wc := ((wX6 g a0 (a1 0) (a2 0) (a3 0) (a4 0) (a5 0) (a6 0) (a7 0) (a8 0) Z0) ++ ((wX5 g a1 T1) ++ ((wX5 g a2 T2) ++ ((wX5 g a3 T3) ++ ((wX3 g a4 G4 R4) ++ ((wX4 g a5 P5) ++ ((wX2 g a6 (a1 0) (a3 0)) ++ ((wX1 g a7 (a1 0) (a3 0) O7 B7) ++ (wX0 g a8 (a1 0) (a3 0) (a4 0))))))))))) (wq := ((wX6 g a0 (a1 0) (a2 0) (a3 0) (a4 0) (a5 0) (a6 0) (a7 0) (a8 0) q4.2) ++ ((wX5 g a1 T1) ++ ((wX5 g a2 T2) ++ ((wX5 g a3 T3) ++ ((wX3 g a4 G4 R4) ++ ((wX4 g a5 P5) ++ ((wX2 g a6 (a1 0) (a3 0)) ++ ((wX1 g a7 (a1 0) (a3 0) O7 B7) ++ (wX0 g a8 (a1 0) (a3 0) (a4 0))))))))))) (As := [.int (-2 : Int32)]) (rest := []) (q0 := 0) hS (c_X6_refuse l g a0 a1 a2 a3 a4 a5 a6 a7 a8 Z0 T1 T2 T3 G4 R4 P5 O7 B7 (-2 : Int32) h3) gX6_row_X6_refuse rfl hd_X6_refuse ⟨Nat.le_of_ble_eq_true rfl, Nat.le_of_ble_eq_true rfl⟩ hK hw hA (pm_9_0_1_2_3_4_5_6_7_8 _ _ _ _ _ _ _ _ _) rfl (pm_9_0_1_2_3_4_5_6_7_8 _ _ _ _ _ _ _ _ _) rfl rfl rfl rfl hl.1 rfl (Nat.le_of_ble_eq_true rfl) dX6_row_29 ⟨Nat.zero_le _, Nat.zero_le _⟩ (fun H locs hw => ?_)
    obtain rfl := Option.some.inj hM
    exact W.iret hx hb hr (fun t ht _ => ⟨rfl, by rw [ht]; exact hw.1, hw.2.2.F ht⟩) hw.2.2.2.2 dX6_row_32
  · replace hM := itn c2 hM
    refine lv_iload_n hx hb dX6_row_7 rfl (lv_at hl 2 rfl) ?_
    refine lv_iconst (v := (0 : Int32)) hx hb dX6_row_8 (by decide) ?_
    refine lv_iconst (v := (4 : Int32)) hx hb dX6_row_9 (by decide) ?_
    refine rSR (wc := ([] : va_W)) (As := [.int p2, .int (0 : Int32), .int (4 : Int32)]) (rest := []) hS (c_X6_isWithin l g p2 (0 : Int32) (4 : Int32)) gX6_row_X6_isWithin rfl hd_X6_isWithin ⟨Nat.le_of_ble_eq_true rfl, Nat.le_of_ble_eq_true rfl⟩ hK (hP_nil) rfl hl.1 rfl (Nat.le_of_ble_eq_true rfl) dX6_row_10 ⟨Nat.zero_le _, Nat.zero_le _⟩ ?_
    refine lv_if_eq (tgt := 26) hx hb dX6_row_13 (by decide) (fun c6 => ?_) (fun c6 => ?_)
    · replace hM := itp c6 hM
      refine lv_aload_n hx hb dX6_row_26 rfl (lv_at hl 0 rfl) ?_
      refine lv_bipush (v := (-2 : Int32)) hx hb dX6_row_27 (by decide) ?_
      obtain ⟨q8, h7, hM⟩ := bd hM
      refine rVWp (wc := ((wX6 g a0 (a1 0) (a2 0) (a3 0) (a4 0) (a5 0) (a6 0) (a7 0) (a8 0) Z0) ++ ((wX5 g a1 T1) ++ ((wX5 g a2 T2) ++ ((wX5 g a3 T3) ++ ((wX3 g a4 G4 R4) ++ ((wX4 g a5 P5) ++ ((wX2 g a6 (a1 0) (a3 0)) ++ ((wX1 g a7 (a1 0) (a3 0) O7 B7) ++ (wX0 g a8 (a1 0) (a3 0) (a4 0))))))))))) (wq := ((wX6 g a0 (a1 0) (a2 0) (a3 0) (a4 0) (a5 0) (a6 0) (a7 0) (a8 0) q8.2) ++ ((wX5 g a1 T1) ++ ((wX5 g a2 T2) ++ ((wX5 g a3 T3) ++ ((wX3 g a4 G4 R4) ++ ((wX4 g a5 P5) ++ ((wX2 g a6 (a1 0) (a3 0)) ++ ((wX1 g a7 (a1 0) (a3 0) O7 B7) ++ (wX0 g a8 (a1 0) (a3 0) (a4 0))))))))))) (As := [.int (-2 : Int32)]) (rest := []) (q0 := 0) hS (c_X6_refuse l g a0 a1 a2 a3 a4 a5 a6 a7 a8 Z0 T1 T2 T3 G4 R4 P5 O7 B7 (-2 : Int32) h7) gX6_row_X6_refuse rfl hd_X6_refuse ⟨Nat.le_of_ble_eq_true rfl, Nat.le_of_ble_eq_true rfl⟩ hK hw hA (pm_9_0_1_2_3_4_5_6_7_8 _ _ _ _ _ _ _ _ _) rfl (pm_9_0_1_2_3_4_5_6_7_8 _ _ _ _ _ _ _ _ _) rfl rfl rfl rfl hl.1 rfl (Nat.le_of_ble_eq_true rfl) dX6_row_29 ⟨Nat.zero_le _, Nat.zero_le _⟩ (fun H locs hw => ?_)
      obtain rfl := Option.some.inj hM
      exact W.iret hx hb hr (fun t ht _ => ⟨rfl, by rw [ht]; exact hw.1, hw.2.2.F ht⟩) hw.2.2.2.2 dX6_row_32
    · replace hM := itn c6 hM
      refine lv_iload_n hx hb dX6_row_16 rfl (lv_at hl 3 rfl) ?_
      refine lv_iconst (v := (0 : Int32)) hx hb dX6_row_17 (by decide) ?_
      refine lv_bipush (v := (40 : Int32)) hx hb dX6_row_18 (by decide) ?_
      refine rSR (wc := ([] : va_W)) (As := [.int p3, .int (0 : Int32), .int (40 : Int32)]) (rest := []) hS (c_X6_isWithin l g p3 (0 : Int32) (40 : Int32)) gX6_row_X6_isWithin rfl hd_X6_isWithin ⟨Nat.le_of_ble_eq_true rfl, Nat.le_of_ble_eq_true rfl⟩ hK (hP_nil) rfl hl.1 rfl (Nat.le_of_ble_eq_true rfl) dX6_row_20 ⟨Nat.zero_le _, Nat.zero_le _⟩ ?_
      refine lv_if_ne (tgt := 33) hx hb dX6_row_23 (by decide) (fun c10 => ?_) (fun c10 => ?_)
      · replace hM := itn c10 hM
        refine lv_aload_n hx hb dX6_row_33 rfl (lv_at hl 0 rfl) ?_
        refine wk_get hx hb hts hin_X6 hown hK hw.1 6 0 3 (.ref (a4 0)) rfl rfl (by decide) (mi 1 rfl) rfl rfl dX6_row_34 ?_
        refine lv_iload_n hx hb dX6_row_37 rfl (lv_at hl 1 rfl) ?_
        refine lv_iload_n hx hb dX6_row_38 rfl (lv_at hl 2 rfl) ?_
        refine lv_iload_n hx hb dX6_row_39 rfl (lv_at hl 3 rfl) ?_
        obtain ⟨q14, h13, hM⟩ := bd hM
        refine rVWp (wc := (wX3 g a4 G4 R4)) (wq := ((wX6 g a0 (a1 0) (a2 0) (a3 0) (a4 0) (a5 0) (a6 0) (a7 0) (a8 0) Z0) ++ ((wX5 g a1 T1) ++ ((wX5 g a2 T2) ++ ((wX5 g a3 T3) ++ ((wX3 g a4 q14.1 q14.2) ++ ((wX4 g a5 P5) ++ ((wX2 g a6 (a1 0) (a3 0)) ++ ((wX1 g a7 (a1 0) (a3 0) O7 B7) ++ (wX0 g a8 (a1 0) (a3 0) (a4 0))))))))))) (As := [.int p1, .int p2, .int p3]) (rest := []) (q0 := 0) hS (c_X3_putRow l g a4 G4 R4 p1 p2 p3 h13) gX6_row_X3_putRow rfl hd_X3_putRow ⟨Nat.le_of_ble_eq_true rfl, Nat.le_of_ble_eq_true rfl⟩ hK hw hA (pm_9_4 _ _ _ _ _ _ _ _ _) rfl (pm_9_4 _ _ _ _ _ _ _ _ _) rfl rfl rfl rfl hl.1 rfl (Nat.le_of_ble_eq_true rfl) dX6_row_40 ⟨Nat.zero_le _, Nat.zero_le _⟩ (fun H locs hw => ?_)
        refine lv_iconst (v := (1 : Int32)) hx hb dX6_row_43 (by decide) ?_
        obtain rfl := Option.some.inj hM
        exact W.iret hx hb hr (fun t ht _ => ⟨rfl, by rw [ht]; exact hw.1, hw.2.2.F ht⟩) hw.2.2.2.2 dX6_row_44
      · replace hM := itp c10 hM
        refine lv_aload_n hx hb dX6_row_26 rfl (lv_at hl 0 rfl) ?_
        refine lv_bipush (v := (-2 : Int32)) hx hb dX6_row_27 (by decide) ?_
        obtain ⟨q12, h11, hM⟩ := bd hM
        refine rVWp (wc := ((wX6 g a0 (a1 0) (a2 0) (a3 0) (a4 0) (a5 0) (a6 0) (a7 0) (a8 0) Z0) ++ ((wX5 g a1 T1) ++ ((wX5 g a2 T2) ++ ((wX5 g a3 T3) ++ ((wX3 g a4 G4 R4) ++ ((wX4 g a5 P5) ++ ((wX2 g a6 (a1 0) (a3 0)) ++ ((wX1 g a7 (a1 0) (a3 0) O7 B7) ++ (wX0 g a8 (a1 0) (a3 0) (a4 0))))))))))) (wq := ((wX6 g a0 (a1 0) (a2 0) (a3 0) (a4 0) (a5 0) (a6 0) (a7 0) (a8 0) q12.2) ++ ((wX5 g a1 T1) ++ ((wX5 g a2 T2) ++ ((wX5 g a3 T3) ++ ((wX3 g a4 G4 R4) ++ ((wX4 g a5 P5) ++ ((wX2 g a6 (a1 0) (a3 0)) ++ ((wX1 g a7 (a1 0) (a3 0) O7 B7) ++ (wX0 g a8 (a1 0) (a3 0) (a4 0))))))))))) (As := [.int (-2 : Int32)]) (rest := []) (q0 := 0) hS (c_X6_refuse l g a0 a1 a2 a3 a4 a5 a6 a7 a8 Z0 T1 T2 T3 G4 R4 P5 O7 B7 (-2 : Int32) h11) gX6_row_X6_refuse rfl hd_X6_refuse ⟨Nat.le_of_ble_eq_true rfl, Nat.le_of_ble_eq_true rfl⟩ hK hw hA (pm_9_0_1_2_3_4_5_6_7_8 _ _ _ _ _ _ _ _ _) rfl (pm_9_0_1_2_3_4_5_6_7_8 _ _ _ _ _ _ _ _ _) rfl rfl rfl rfl hl.1 rfl (Nat.le_of_ble_eq_true rfl) dX6_row_29 ⟨Nat.zero_le _, Nat.zero_le _⟩ (fun H locs hw => ?_)
        obtain rfl := Option.some.inj hM
        exact W.iret hx hb hr (fun t ht _ => ⟨rfl, by rw [ht]; exact hw.1, hw.2.2.F ht⟩) hw.2.2.2.2 dX6_row_32
theorem hd_X6_say : yX6_say.cls = RX6 ∧ yX6_say.cls ≠ "java/lang/invoke/MethodHandle" ∧ yX6_say.cls ≠ "java/lang/invoke/VarHandle" ∧ (parseMethodDescriptor yX6_say.desc).map (fun d => d.parameters.length) = some 2 := by decide +kernel
set_option maxHeartbeats 4000000 in
set_option maxRecDepth 100000 in
theorem c_X6_say (l : Launch) (g : Gm) (a0 : Nat → Nat) (a1 : Nat → Nat) (a2 : Nat → Nat) (a3 : Nat → Nat) (a4 : Nat → Nat) (a5 : Nat → Nat) (a6 : Nat → Nat) (a7 : Nat → Nat) (a8 : Nat → Nat) (Z0 : TS) (T1 : TS) (T2 : TS) (T3 : TS) (G4 : TS) (R4 : LTS) (P5 : TS) (O7 : TS) (B7 : TS) (p1 : Int32) (p2 : Int32) {q : (Int32 × TS × TS)} (hM : f_X6_say Z0 T1 T2 T3 G4 R4 P5 O7 B7 p1 p2 = some q) : MW l yX6_say wsX6_say 2 48 g [.ref (a0 0), .int p1, .int p2] ((wX6 g a0 (a1 0) (a2 0) (a3 0) (a4 0) (a5 0) (a6 0) (a7 0) (a8 0) Z0) ++ ((wX5 g a1 T1) ++ ((wX5 g a2 T2) ++ ((wX5 g a3 T3) ++ ((wX3 g a4 G4 R4) ++ ((wX4 g a5 P5) ++ ((wX2 g a6 (a1 0) (a3 0)) ++ ((wX1 g a7 (a1 0) (a3 0) O7 B7) ++ (wX0 g a8 (a1 0) (a3 0) (a4 0)))))))))) (some (.int q.1)) ((wX6 g a0 (a1 0) (a2 0) (a3 0) (a4 0) (a5 0) (a6 0) (a7 0) (a8 0) q.2.1) ++ ((wX5 g a1 q.2.2) ++ ((wX5 g a2 T2) ++ ((wX5 g a3 T3) ++ ((wX3 g a4 G4 R4) ++ ((wX4 g a5 P5) ++ ((wX2 g a6 (a1 0) (a3 0)) ++ ((wX1 g a7 (a1 0) (a3 0) O7 B7) ++ (wX0 g a8 (a1 0) (a3 0) (a4 0)))))))))) := by
  intro sz
  refine Met.ofW (cc := cX6_say) (maxL := 3) (ret := (some .int)) (by decide) rfl ?_
  intro p e s m args below meth c s₁ B hml hv
  obtain ⟨rfl, hsz, hP, hK, hD0⟩ := hv
  have hx := B.exec; have hb := B.bytes; have hr := B.returns
  have hts := atoms_spec (ws := wsX6_say) B.pre
  have hown : s.vm.findClass RX6 = some m.cls := findClass_of_methodNamed B.named
  have hlocks := B.notSynchronized
  have hS : CallFix p m c cX6_say 3 s _ wsX6_say RX6 := ⟨hx, hb, hml, hown, hts⟩
  have hin_X6 : ∀ w ∈ wsX60, w ∈ wsX6_say := fun w h => (List.mem_cons_of_mem _ (List.mem_append_left _ (List.mem_append_right _ h)))
  subst hsz
  have hw := wk_start hP hD0
  have hA : ∀ q : Nat, s.heap.size ≤ q → va_A ((wX6 g a0 (a1 0) (a2 0) (a3 0) (a4 0) (a5 0) (a6 0) (a7 0) (a8 0) Z0) ++ ((wX5 g a1 T1) ++ ((wX5 g a2 T2) ++ ((wX5 g a3 T3) ++ ((wX3 g a4 G4 R4) ++ ((wX4 g a5 P5) ++ ((wX2 g a6 (a1 0) (a3 0)) ++ ((wX1 g a7 (a1 0) (a3 0) O7 B7) ++ (wX0 g a8 (a1 0) (a3 0) (a4 0)))))))))) s.heap.size q := fun q h => Or.inr h
  generalize va_A ((wX6 g a0 (a1 0) (a2 0) (a3 0) (a4 0) (a5 0) (a6 0) (a7 0) (a8 0) Z0) ++ ((wX5 g a1 T1) ++ ((wX5 g a2 T2) ++ ((wX5 g a3 T3) ++ ((wX3 g a4 G4 R4) ++ ((wX4 g a5 P5) ++ ((wX2 g a6 (a1 0) (a3 0)) ++ ((wX1 g a7 (a1 0) (a3 0) O7 B7) ++ (wX0 g a8 (a1 0) (a3 0) (a4 0)))))))))) s.heap.size = A at hw hA ⊢
  clear hP hD0
  have hl := lv_entry ([.ref (a0 0), .int p1, .int p2]) (n := 3) (Nat.le_of_ble_eq_true rfl)
  rw [lg_entry_eq]
  generalize (lg_sl ([.ref (a0 0), .int p1, .int p2]) ++ List.replicate (3 - (lg_sl ([.ref (a0 0), .int p1, .int p2])).length) Slot.unset).toArray = ls at hl ⊢
  have hl : lv_has ls 3 [(0, .ref (a0 0)), (1, .int p1), (2, .int p2)] := hl
  rw [f_X6_say] at hM
  refine lv_aload_n hx hb dX6_say_0 rfl (lv_at hl 0 rfl) ?_
  refine wk_get hx hb hts hin_X6 hown hK hw.1 6 0 0 (.ref (a1 0)) rfl rfl (by decide) (mi 1 rfl) rfl rfl dX6_say_1 ?_
  refine lv_iload_n hx hb dX6_say_4 rfl (lv_at hl 1 rfl) ?_
  refine rVR (wc := (wX5 g a1 T1)) (As := [.int p1]) (rest := []) (q0 := 0) hS (c_X5_isOne l g a1 T1 p1) gX6_say_X5_isOne rfl hd_X5_isOne ⟨Nat.le_of_ble_eq_true rfl, Nat.le_of_ble_eq_true rfl⟩ hK (va_P.pm hw.1 (pm_9_1 _ _ _ _ _ _ _ _ _)) rfl rfl rfl rfl hl.1 rfl (Nat.le_of_ble_eq_true rfl) dX6_say_5 ⟨Nat.zero_le _, Nat.zero_le _⟩ ?_
  refine lv_if_eq (tgt := 22) hx hb dX6_say_8 (by decide) (fun c2 => ?_) (fun c2 => ?_)
  · replace hM := itp c2 hM
    refine lv_aload_n hx hb dX6_say_22 rfl (lv_at hl 0 rfl) ?_
    refine lv_bipush (v := (-2 : Int32)) hx hb dX6_say_23 (by decide) ?_
    obtain ⟨q4, h3, hM⟩ := bd hM
    refine rVWp (wc := ((wX6 g a0 (a1 0) (a2 0) (a3 0) (a4 0) (a5 0) (a6 0) (a7 0) (a8 0) Z0) ++ ((wX5 g a1 T1) ++ ((wX5 g a2 T2) ++ ((wX5 g a3 T3) ++ ((wX3 g a4 G4 R4) ++ ((wX4 g a5 P5) ++ ((wX2 g a6 (a1 0) (a3 0)) ++ ((wX1 g a7 (a1 0) (a3 0) O7 B7) ++ (wX0 g a8 (a1 0) (a3 0) (a4 0))))))))))) (wq := ((wX6 g a0 (a1 0) (a2 0) (a3 0) (a4 0) (a5 0) (a6 0) (a7 0) (a8 0) q4.2) ++ ((wX5 g a1 T1) ++ ((wX5 g a2 T2) ++ ((wX5 g a3 T3) ++ ((wX3 g a4 G4 R4) ++ ((wX4 g a5 P5) ++ ((wX2 g a6 (a1 0) (a3 0)) ++ ((wX1 g a7 (a1 0) (a3 0) O7 B7) ++ (wX0 g a8 (a1 0) (a3 0) (a4 0))))))))))) (As := [.int (-2 : Int32)]) (rest := []) (q0 := 0) hS (c_X6_refuse l g a0 a1 a2 a3 a4 a5 a6 a7 a8 Z0 T1 T2 T3 G4 R4 P5 O7 B7 (-2 : Int32) h3) gX6_say_X6_refuse rfl hd_X6_refuse ⟨Nat.le_of_ble_eq_true rfl, Nat.le_of_ble_eq_true rfl⟩ hK hw hA (pm_9_0_1_2_3_4_5_6_7_8 _ _ _ _ _ _ _ _ _) rfl (pm_9_0_1_2_3_4_5_6_7_8 _ _ _ _ _ _ _ _ _) rfl rfl rfl rfl hl.1 rfl (Nat.le_of_ble_eq_true rfl) dX6_say_25 ⟨Nat.zero_le _, Nat.zero_le _⟩ (fun H locs hw => ?_)
    obtain rfl := Option.some.inj hM
    exact W.iret hx hb hr (fun t ht _ => ⟨rfl, by rw [ht]; exact hw.1, hw.2.2.F ht⟩) hw.2.2.2.2 dX6_say_28
  · replace hM := itn c2 hM
    refine lv_aload_n hx hb dX6_say_11 rfl (lv_at hl 0 rfl) ?_
    refine wk_get hx hb hts hin_X6 hown hK hw.1 6 0 0 (.ref (a1 0)) rfl rfl (by decide) (mi 1 rfl) rfl rfl dX6_say_12 ?_
    refine lv_iload_n hx hb dX6_say_15 rfl (lv_at hl 2 rfl) ?_
    refine rVR (wc := (wX5 g a1 T1)) (As := [.int p2]) (rest := []) (q0 := 0) hS (c_X5_isSight l g a1 T1 p2) gX6_say_X5_isSight rfl hd_X5_isSight ⟨Nat.le_of_ble_eq_true rfl, Nat.le_of_ble_eq_true rfl⟩ hK (va_P.pm hw.1 (pm_9_1 _ _ _ _ _ _ _ _ _)) rfl rfl rfl rfl hl.1 rfl (Nat.le_of_ble_eq_true rfl) dX6_say_16 ⟨Nat.zero_le _, Nat.zero_le _⟩ ?_
    refine lv_if_ne (tgt := 29) hx hb dX6_say_19 (by decide) (fun c6 => ?_) (fun c6 => ?_)
    · replace hM := itn c6 hM
      refine lv_aload_n hx hb dX6_say_29 rfl (lv_at hl 0 rfl) ?_
      refine wk_get hx hb hts hin_X6 hown hK hw.1 6 0 0 (.ref (a1 0)) rfl rfl (by decide) (mi 1 rfl) rfl rfl dX6_say_30 ?_
      refine lv_iload_n hx hb dX6_say_33 rfl (lv_at hl 1 rfl) ?_
      obtain ⟨q10, h9, hM⟩ := bd hM
      refine rVR (wc := (wX5 g a1 T1)) (As := [.int p1]) (rest := []) (q0 := 0) hS (c_X5_sayableBy l g a1 T1 p1 h9) gX6_say_X5_sayableBy rfl hd_X5_sayableBy ⟨Nat.le_of_ble_eq_true rfl, Nat.le_of_ble_eq_true rfl⟩ hK (va_P.pm hw.1 (pm_9_1 _ _ _ _ _ _ _ _ _)) rfl rfl rfl rfl hl.1 rfl (Nat.le_of_ble_eq_true rfl) dX6_say_34 ⟨Nat.zero_le _, Nat.zero_le _⟩ ?_
      refine lv_iload_n hx hb dX6_say_37 rfl (lv_at hl 2 rfl) ?_
      refine rSR (wc := ([] : va_W)) (As := [.int q10, .int p2]) (rest := []) hS (c_X6_has l g q10 p2) gX6_say_X6_has rfl hd_X6_has ⟨Nat.le_of_ble_eq_true rfl, Nat.le_of_ble_eq_true rfl⟩ hK (hP_nil) rfl hl.1 rfl (Nat.le_of_ble_eq_true rfl) dX6_say_38 ⟨Nat.zero_le _, Nat.zero_le _⟩ ?_
      refine lv_if_ne (tgt := 51) hx hb dX6_say_41 (by decide) (fun c12 => ?_) (fun c12 => ?_)
      · replace hM := itn c12 hM
        refine lv_aload_n hx hb dX6_say_51 rfl (lv_at hl 0 rfl) ?_
        refine wk_get hx hb hts hin_X6 hown hK hw.1 6 0 0 (.ref (a1 0)) rfl rfl (by decide) (mi 1 rfl) rfl rfl dX6_say_52 ?_
        refine lv_iload_n hx hb dX6_say_55 rfl (lv_at hl 1 rfl) ?_
        refine lv_iconst (v := (1 : Int32)) hx hb dX6_say_56 (by decide) ?_
        refine lv_iload_n hx hb dX6_say_57 rfl (lv_at hl 2 rfl) ?_
        refine lv_ishl hx hb dX6_say_58 ?_
        obtain ⟨q16, h15, hM⟩ := bd hM
        refine rVWp (wc := (wX5 g a1 T1)) (wq := ((wX6 g a0 (a1 0) (a2 0) (a3 0) (a4 0) (a5 0) (a6 0) (a7 0) (a8 0) Z0) ++ ((wX5 g a1 q16.2) ++ ((wX5 g a2 T2) ++ ((wX5 g a3 T3) ++ ((wX3 g a4 G4 R4) ++ ((wX4 g a5 P5) ++ ((wX2 g a6 (a1 0) (a3 0)) ++ ((wX1 g a7 (a1 0) (a3 0) O7 B7) ++ (wX0 g a8 (a1 0) (a3 0) (a4 0))))))))))) (As := [.int p1, .int ((1 : Int32) <<< (p2 &&& 31))]) (rest := []) (q0 := 0) hS (c_X5_tell l g a1 T1 p1 ((1 : Int32) <<< (p2 &&& 31)) h15) gX6_say_X5_tell rfl hd_X5_tell ⟨Nat.le_of_ble_eq_true rfl, Nat.le_of_ble_eq_true rfl⟩ hK hw hA (pm_9_1 _ _ _ _ _ _ _ _ _) rfl (pm_9_1 _ _ _ _ _ _ _ _ _) rfl rfl rfl rfl hl.1 rfl (Nat.le_of_ble_eq_true rfl) dX6_say_59 ⟨Nat.zero_le _, Nat.zero_le _⟩ (fun H locs hw => ?_)
        obtain rfl := Option.some.inj hM
        exact W.iret hx hb hr (fun t ht _ => ⟨rfl, by rw [ht]; exact hw.1, hw.2.2.F ht⟩) hw.2.2.2.2 dX6_say_62
      · replace hM := itp c12 hM
        refine lv_aload_n hx hb dX6_say_44 rfl (lv_at hl 0 rfl) ?_
        refine lv_bipush (v := (-5 : Int32)) hx hb dX6_say_45 (by decide) ?_
        obtain ⟨q14, h13, hM⟩ := bd hM
        refine rVWp (wc := ((wX6 g a0 (a1 0) (a2 0) (a3 0) (a4 0) (a5 0) (a6 0) (a7 0) (a8 0) Z0) ++ ((wX5 g a1 T1) ++ ((wX5 g a2 T2) ++ ((wX5 g a3 T3) ++ ((wX3 g a4 G4 R4) ++ ((wX4 g a5 P5) ++ ((wX2 g a6 (a1 0) (a3 0)) ++ ((wX1 g a7 (a1 0) (a3 0) O7 B7) ++ (wX0 g a8 (a1 0) (a3 0) (a4 0))))))))))) (wq := ((wX6 g a0 (a1 0) (a2 0) (a3 0) (a4 0) (a5 0) (a6 0) (a7 0) (a8 0) q14.2) ++ ((wX5 g a1 T1) ++ ((wX5 g a2 T2) ++ ((wX5 g a3 T3) ++ ((wX3 g a4 G4 R4) ++ ((wX4 g a5 P5) ++ ((wX2 g a6 (a1 0) (a3 0)) ++ ((wX1 g a7 (a1 0) (a3 0) O7 B7) ++ (wX0 g a8 (a1 0) (a3 0) (a4 0))))))))))) (As := [.int (-5 : Int32)]) (rest := []) (q0 := 0) hS (c_X6_refuse l g a0 a1 a2 a3 a4 a5 a6 a7 a8 Z0 T1 T2 T3 G4 R4 P5 O7 B7 (-5 : Int32) h13) gX6_say_X6_refuse rfl hd_X6_refuse ⟨Nat.le_of_ble_eq_true rfl, Nat.le_of_ble_eq_true rfl⟩ hK hw hA (pm_9_0_1_2_3_4_5_6_7_8 _ _ _ _ _ _ _ _ _) rfl (pm_9_0_1_2_3_4_5_6_7_8 _ _ _ _ _ _ _ _ _) rfl rfl rfl rfl hl.1 rfl (Nat.le_of_ble_eq_true rfl) dX6_say_47 ⟨Nat.zero_le _, Nat.zero_le _⟩ (fun H locs hw => ?_)
        obtain rfl := Option.some.inj hM
        exact W.iret hx hb hr (fun t ht _ => ⟨rfl, by rw [ht]; exact hw.1, hw.2.2.F ht⟩) hw.2.2.2.2 dX6_say_50
    · replace hM := itp c6 hM
      refine lv_aload_n hx hb dX6_say_22 rfl (lv_at hl 0 rfl) ?_
      refine lv_bipush (v := (-2 : Int32)) hx hb dX6_say_23 (by decide) ?_
      obtain ⟨q8, h7, hM⟩ := bd hM
      refine rVWp (wc := ((wX6 g a0 (a1 0) (a2 0) (a3 0) (a4 0) (a5 0) (a6 0) (a7 0) (a8 0) Z0) ++ ((wX5 g a1 T1) ++ ((wX5 g a2 T2) ++ ((wX5 g a3 T3) ++ ((wX3 g a4 G4 R4) ++ ((wX4 g a5 P5) ++ ((wX2 g a6 (a1 0) (a3 0)) ++ ((wX1 g a7 (a1 0) (a3 0) O7 B7) ++ (wX0 g a8 (a1 0) (a3 0) (a4 0))))))))))) (wq := ((wX6 g a0 (a1 0) (a2 0) (a3 0) (a4 0) (a5 0) (a6 0) (a7 0) (a8 0) q8.2) ++ ((wX5 g a1 T1) ++ ((wX5 g a2 T2) ++ ((wX5 g a3 T3) ++ ((wX3 g a4 G4 R4) ++ ((wX4 g a5 P5) ++ ((wX2 g a6 (a1 0) (a3 0)) ++ ((wX1 g a7 (a1 0) (a3 0) O7 B7) ++ (wX0 g a8 (a1 0) (a3 0) (a4 0))))))))))) (As := [.int (-2 : Int32)]) (rest := []) (q0 := 0) hS (c_X6_refuse l g a0 a1 a2 a3 a4 a5 a6 a7 a8 Z0 T1 T2 T3 G4 R4 P5 O7 B7 (-2 : Int32) h7) gX6_say_X6_refuse rfl hd_X6_refuse ⟨Nat.le_of_ble_eq_true rfl, Nat.le_of_ble_eq_true rfl⟩ hK hw hA (pm_9_0_1_2_3_4_5_6_7_8 _ _ _ _ _ _ _ _ _) rfl (pm_9_0_1_2_3_4_5_6_7_8 _ _ _ _ _ _ _ _ _) rfl rfl rfl rfl hl.1 rfl (Nat.le_of_ble_eq_true rfl) dX6_say_25 ⟨Nat.zero_le _, Nat.zero_le _⟩ (fun H locs hw => ?_)
      obtain rfl := Option.some.inj hM
      exact W.iret hx hb hr (fun t ht _ => ⟨rfl, by rw [ht]; exact hw.1, hw.2.2.F ht⟩) hw.2.2.2.2 dX6_say_28
theorem hd_X6_says : yX6_says.cls = RX6 ∧ yX6_says.cls ≠ "java/lang/invoke/MethodHandle" ∧ yX6_says.cls ≠ "java/lang/invoke/VarHandle" ∧ (parseMethodDescriptor yX6_says.desc).map (fun d => d.parameters.length) = some 2 := by decide +kernel
set_option maxHeartbeats 4000000 in
set_option maxRecDepth 100000 in
theorem c_X6_says (l : Launch) (g : Gm) (a0 : Nat → Nat) (a1 : Nat → Nat) (a2 : Nat → Nat) (a3 : Nat → Nat) (a4 : Nat → Nat) (a5 : Nat → Nat) (a6 : Nat → Nat) (a7 : Nat → Nat) (a8 : Nat → Nat) (Z0 : TS) (T1 : TS) (T2 : TS) (T3 : TS) (G4 : TS) (R4 : LTS) (P5 : TS) (O7 : TS) (B7 : TS) (p1 : Int32) (p2 : Int32) {q : (Int32 × TS)} (hM : f_X6_says Z0 T1 T2 T3 G4 R4 P5 O7 B7 p1 p2 = some q) : MW l yX6_says wsX6_says 3 70 g [.ref (a0 0), .int p1, .int p2] ((wX6 g a0 (a1 0) (a2 0) (a3 0) (a4 0) (a5 0) (a6 0) (a7 0) (a8 0) Z0) ++ ((wX5 g a1 T1) ++ ((wX5 g a2 T2) ++ ((wX5 g a3 T3) ++ ((wX3 g a4 G4 R4) ++ ((wX4 g a5 P5) ++ ((wX2 g a6 (a1 0) (a3 0)) ++ ((wX1 g a7 (a1 0) (a3 0) O7 B7) ++ (wX0 g a8 (a1 0) (a3 0) (a4 0)))))))))) (some (.int q.1)) ((wX6 g a0 (a1 0) (a2 0) (a3 0) (a4 0) (a5 0) (a6 0) (a7 0) (a8 0) q.2) ++ ((wX5 g a1 T1) ++ ((wX5 g a2 T2) ++ ((wX5 g a3 T3) ++ ((wX3 g a4 G4 R4) ++ ((wX4 g a5 P5) ++ ((wX2 g a6 (a1 0) (a3 0)) ++ ((wX1 g a7 (a1 0) (a3 0) O7 B7) ++ (wX0 g a8 (a1 0) (a3 0) (a4 0)))))))))) := by
  intro sz
  refine Met.ofW (cc := cX6_says) (maxL := 5) (ret := (some .int)) (by decide) rfl ?_
  intro p e s m args below meth c s₁ B hml hv
  obtain ⟨rfl, hsz, hP, hK, hD0⟩ := hv
  have hx := B.exec; have hb := B.bytes; have hr := B.returns
  have hts := atoms_spec (ws := wsX6_says) B.pre
  have hown : s.vm.findClass RX6 = some m.cls := findClass_of_methodNamed B.named
  have hlocks := B.notSynchronized
  have hS : CallFix p m c cX6_says 5 s _ wsX6_says RX6 := ⟨hx, hb, hml, hown, hts⟩
  have hin_X6 : ∀ w ∈ wsX60, w ∈ wsX6_says := fun w h => (List.mem_cons_of_mem _ (List.mem_append_left _ (List.mem_append_left _ (List.mem_append_right _ h))))
  subst hsz
  have hw := wk_start hP hD0
  have hA : ∀ q : Nat, s.heap.size ≤ q → va_A ((wX6 g a0 (a1 0) (a2 0) (a3 0) (a4 0) (a5 0) (a6 0) (a7 0) (a8 0) Z0) ++ ((wX5 g a1 T1) ++ ((wX5 g a2 T2) ++ ((wX5 g a3 T3) ++ ((wX3 g a4 G4 R4) ++ ((wX4 g a5 P5) ++ ((wX2 g a6 (a1 0) (a3 0)) ++ ((wX1 g a7 (a1 0) (a3 0) O7 B7) ++ (wX0 g a8 (a1 0) (a3 0) (a4 0)))))))))) s.heap.size q := fun q h => Or.inr h
  generalize va_A ((wX6 g a0 (a1 0) (a2 0) (a3 0) (a4 0) (a5 0) (a6 0) (a7 0) (a8 0) Z0) ++ ((wX5 g a1 T1) ++ ((wX5 g a2 T2) ++ ((wX5 g a3 T3) ++ ((wX3 g a4 G4 R4) ++ ((wX4 g a5 P5) ++ ((wX2 g a6 (a1 0) (a3 0)) ++ ((wX1 g a7 (a1 0) (a3 0) O7 B7) ++ (wX0 g a8 (a1 0) (a3 0) (a4 0)))))))))) s.heap.size = A at hw hA ⊢
  clear hP hD0
  have hl := lv_entry ([.ref (a0 0), .int p1, .int p2]) (n := 5) (Nat.le_of_ble_eq_true rfl)
  rw [lg_entry_eq]
  generalize (lg_sl ([.ref (a0 0), .int p1, .int p2]) ++ List.replicate (5 - (lg_sl ([.ref (a0 0), .int p1, .int p2])).length) Slot.unset).toArray = ls at hl ⊢
  have hl : lv_has ls 5 [(0, .ref (a0 0)), (1, .int p1), (2, .int p2)] := hl
  rw [f_X6_says] at hM
  refine lv_iload_n hx hb dX6_says_0 rfl (lv_at hl 1 rfl) ?_
  refine rSR (wc := ([] : va_W)) (As := [.int p1]) (rest := []) hS (c_X6_isShelf l g p1) gX6_says_X6_isShelf rfl hd_X6_isShelf ⟨Nat.le_of_ble_eq_true rfl, Nat.le_of_ble_eq_true rfl⟩ hK (hP_nil) rfl hl.1 rfl (Nat.le_of_ble_eq_true rfl) dX6_says_1 ⟨Nat.zero_le _, Nat.zero_le _⟩ ?_
  refine lv_if_eq (tgt := 14) hx hb dX6_says_4 (by decide) (fun c2 => ?_) (fun c2 => ?_)
  · replace hM := itp c2 hM
    refine lv_aload_n hx hb dX6_says_14 rfl (lv_at hl 0 rfl) ?_
    refine lv_bipush (v := (-2 : Int32)) hx hb dX6_says_15 (by decide) ?_
    obtain ⟨q4, h3, hM⟩ := bd hM
    refine rVWp (wc := ((wX6 g a0 (a1 0) (a2 0) (a3 0) (a4 0) (a5 0) (a6 0) (a7 0) (a8 0) Z0) ++ ((wX5 g a1 T1) ++ ((wX5 g a2 T2) ++ ((wX5 g a3 T3) ++ ((wX3 g a4 G4 R4) ++ ((wX4 g a5 P5) ++ ((wX2 g a6 (a1 0) (a3 0)) ++ ((wX1 g a7 (a1 0) (a3 0) O7 B7) ++ (wX0 g a8 (a1 0) (a3 0) (a4 0))))))))))) (wq := ((wX6 g a0 (a1 0) (a2 0) (a3 0) (a4 0) (a5 0) (a6 0) (a7 0) (a8 0) q4.2) ++ ((wX5 g a1 T1) ++ ((wX5 g a2 T2) ++ ((wX5 g a3 T3) ++ ((wX3 g a4 G4 R4) ++ ((wX4 g a5 P5) ++ ((wX2 g a6 (a1 0) (a3 0)) ++ ((wX1 g a7 (a1 0) (a3 0) O7 B7) ++ (wX0 g a8 (a1 0) (a3 0) (a4 0))))))))))) (As := [.int (-2 : Int32)]) (rest := []) (q0 := 0) hS (c_X6_refuse l g a0 a1 a2 a3 a4 a5 a6 a7 a8 Z0 T1 T2 T3 G4 R4 P5 O7 B7 (-2 : Int32) h3) gX6_says_X6_refuse rfl hd_X6_refuse ⟨Nat.le_of_ble_eq_true rfl, Nat.le_of_ble_eq_true rfl⟩ hK hw hA (pm_9_0_1_2_3_4_5_6_7_8 _ _ _ _ _ _ _ _ _) rfl (pm_9_0_1_2_3_4_5_6_7_8 _ _ _ _ _ _ _ _ _) rfl rfl rfl rfl hl.1 rfl (Nat.le_of_ble_eq_true rfl) dX6_says_17 ⟨Nat.zero_le _, Nat.zero_le _⟩ (fun H locs hw => ?_)
    obtain rfl := Option.some.inj hM
    exact W.iret hx hb hr (fun t ht _ => ⟨rfl, by rw [ht]; exact hw.1, hw.2.2.F ht⟩) hw.2.2.2.2 dX6_says_20
  · replace hM := itn c2 hM
    refine lv_iload_n hx hb dX6_says_7 rfl (lv_at hl 2 rfl) ?_
    refine rSR (wc := ([] : va_W)) (As := [.int p2]) (rest := []) hS (c_X6_isKind l g p2) gX6_says_X6_isKind rfl hd_X6_isKind ⟨Nat.le_of_ble_eq_true rfl, Nat.le_of_ble_eq_true rfl⟩ hK (hP_nil) rfl hl.1 rfl (Nat.le_of_ble_eq_true rfl) dX6_says_8 ⟨Nat.zero_le _, Nat.zero_le _⟩ ?_
    refine lv_if_ne (tgt := 21) hx hb dX6_says_11 (by decide) (fun c6 => ?_) (fun c6 => ?_)
    · replace hM := itn c6 hM
      refine lv_aload_n hx hb dX6_says_21 rfl (lv_at hl 0 rfl) ?_
      refine wk_get hx hb hts hin_X6 hown hK hw.1 6 0 3 (.ref (a4 0)) rfl rfl (by decide) (mi 1 rfl) rfl rfl dX6_says_22 ?_
      refine lv_iload_n hx hb dX6_says_25 rfl (lv_at hl 1 rfl) ?_
      obtain ⟨q10, h9, hM⟩ := bd hM
      refine rVR (wc := (wX3 g a4 G4 R4)) (As := [.int p1]) (rest := []) (q0 := 0) hS (c_X3_heldBy l g a4 G4 R4 p1 h9) gX6_says_X3_heldBy rfl hd_X3_heldBy ⟨Nat.le_of_ble_eq_true rfl, Nat.le_of_ble_eq_true rfl⟩ hK (va_P.pm hw.1 (pm_9_4 _ _ _ _ _ _ _ _ _)) rfl rfl rfl rfl hl.1 rfl (Nat.le_of_ble_eq_true rfl) dX6_says_26 ⟨Nat.zero_le _, Nat.zero_le _⟩ ?_
      refine lv_istore_n (lv' := [(3, .int q10), (0, .ref (a0 0)), (1, .int p1), (2, .int p2)]) hx hb dX6_says_29 rfl hl (by decide) rfl (fun ls hl => ?_)
      refine lv_iload_n hx hb dX6_says_30 rfl (lv_at hl 0 rfl) ?_
      refine lv_iconst (v := (-1 : Int32)) hx hb dX6_says_31 (by decide) ?_
      refine lv_icmp_ne (tgt := 42) hx hb dX6_says_32 (by decide) (fun c11 => ?_) (fun c11 => ?_)
      · replace hM := itn c11 hM
        refine lv_iload_n hx hb dX6_says_42 rfl (lv_at hl 0 rfl) ?_
        refine lv_bipush (v := (10 : Int32)) hx hb dX6_says_43 (by decide) ?_
        refine lv_isub hx hb dX6_says_45 ?_
        refine lv_istore (lv' := [(4, .int (q10 - (10 : Int32))), (3, .int q10), (0, .ref (a0 0)), (1, .int p1), (2, .int p2)]) hx hb dX6_says_46 hl (by decide) rfl (fun ls hl => ?_)
        refine lv_aload_n hx hb dX6_says_48 rfl (lv_at hl 2 rfl) ?_
        refine wk_get hx hb hts hin_X6 hown hK hw.1 6 0 0 (.ref (a1 0)) rfl rfl (by decide) (mi 2 rfl) rfl rfl dX6_says_49 ?_
        refine lv_iload hx hb dX6_says_52 (lv_at hl 0 rfl) ?_
        refine rVR (wc := (wX5 g a1 T1)) (As := [.int (q10 - (10 : Int32))]) (rest := []) (q0 := 0) hS (c_X5_isOne l g a1 T1 (q10 - (10 : Int32))) gX6_says_X5_isOne rfl hd_X5_isOne ⟨Nat.le_of_ble_eq_true rfl, Nat.le_of_ble_eq_true rfl⟩ hK (va_P.pm hw.1 (pm_9_1 _ _ _ _ _ _ _ _ _)) rfl rfl rfl rfl hl.1 rfl (Nat.le_of_ble_eq_true rfl) dX6_says_54 ⟨Nat.zero_le _, Nat.zero_le _⟩ ?_
        refine lv_if_eq (tgt := 73) hx hb dX6_says_57 (by decide) (fun c15 => ?_) (fun c15 => ?_)
        · replace hM := itp c15 hM
          refine lv_aload_n hx hb dX6_says_73 rfl (lv_at hl 2 rfl) ?_
          refine lv_bipush (v := (-3 : Int32)) hx hb dX6_says_74 (by decide) ?_
          obtain ⟨q17, h16, hM⟩ := bd hM
          refine rVWp (wc := ((wX6 g a0 (a1 0) (a2 0) (a3 0) (a4 0) (a5 0) (a6 0) (a7 0) (a8 0) Z0) ++ ((wX5 g a1 T1) ++ ((wX5 g a2 T2) ++ ((wX5 g a3 T3) ++ ((wX3 g a4 G4 R4) ++ ((wX4 g a5 P5) ++ ((wX2 g a6 (a1 0) (a3 0)) ++ ((wX1 g a7 (a1 0) (a3 0) O7 B7) ++ (wX0 g a8 (a1 0) (a3 0) (a4 0))))))))))) (wq := ((wX6 g a0 (a1 0) (a2 0) (a3 0) (a4 0) (a5 0) (a6 0) (a7 0) (a8 0) q17.2) ++ ((wX5 g a1 T1) ++ ((wX5 g a2 T2) ++ ((wX5 g a3 T3) ++ ((wX3 g a4 G4 R4) ++ ((wX4 g a5 P5) ++ ((wX2 g a6 (a1 0) (a3 0)) ++ ((wX1 g a7 (a1 0) (a3 0) O7 B7) ++ (wX0 g a8 (a1 0) (a3 0) (a4 0))))))))))) (As := [.int (-3 : Int32)]) (rest := []) (q0 := 0) hS (c_X6_refuse l g a0 a1 a2 a3 a4 a5 a6 a7 a8 Z0 T1 T2 T3 G4 R4 P5 O7 B7 (-3 : Int32) h16) gX6_says_X6_refuse rfl hd_X6_refuse ⟨Nat.le_of_ble_eq_true rfl, Nat.le_of_ble_eq_true rfl⟩ hK hw hA (pm_9_0_1_2_3_4_5_6_7_8 _ _ _ _ _ _ _ _ _) rfl (pm_9_0_1_2_3_4_5_6_7_8 _ _ _ _ _ _ _ _ _) rfl rfl rfl rfl hl.1 rfl (Nat.le_of_ble_eq_true rfl) dX6_says_76 ⟨Nat.zero_le _, Nat.zero_le _⟩ (fun H locs hw => ?_)
          obtain rfl := Option.some.inj hM
          exact W.iret hx hb hr (fun t ht _ => ⟨rfl, by rw [ht]; exact hw.1, hw.2.2.F ht⟩) hw.2.2.2.2 dX6_says_79
        · replace hM := itn c15 hM
          refine lv_aload_n hx hb dX6_says_60 rfl (lv_at hl 2 rfl) ?_
          refine wk_get hx hb hts hin_X6 hown hK hw.1 6 0 0 (.ref (a1 0)) rfl rfl (by decide) (mi 2 rfl) rfl rfl dX6_says_61 ?_
          refine lv_iload hx hb dX6_says_64 (lv_at hl 0 rfl) ?_
          refine lv_iload_n hx hb dX6_says_66 rfl (lv_at hl 4 rfl) ?_
          obtain ⟨q19, h18, hM⟩ := bd hM
          refine rVR (wc := (wX5 g a1 T1)) (As := [.int (q10 - (10 : Int32)), .int p2]) (rest := []) (q0 := 0) hS (c_X5_isOfKind l g a1 T1 (q10 - (10 : Int32)) p2 h18) gX6_says_X5_isOfKind rfl hd_X5_isOfKind ⟨Nat.le_of_ble_eq_true rfl, Nat.le_of_ble_eq_true rfl⟩ hK (va_P.pm hw.1 (pm_9_1 _ _ _ _ _ _ _ _ _)) rfl rfl rfl rfl hl.1 rfl (Nat.le_of_ble_eq_true rfl) dX6_says_67 ⟨Nat.zero_le _, Nat.zero_le _⟩ ?_
          refine lv_if_ne (tgt := 80) hx hb dX6_says_70 (by decide) (fun c20 => ?_) (fun c20 => ?_)
          · replace hM := itn c20 hM
            refine lv_aload_n hx hb dX6_says_80 rfl (lv_at hl 2 rfl) ?_
            refine wk_get hx hb hts hin_X6 hown hK hw.1 6 0 0 (.ref (a1 0)) rfl rfl (by decide) (mi 2 rfl) rfl rfl dX6_says_81 ?_
            refine lv_iload hx hb dX6_says_84 (lv_at hl 0 rfl) ?_
            refine lv_iload_n hx hb dX6_says_86 rfl (lv_at hl 4 rfl) ?_
            obtain ⟨q24, h23, hM⟩ := bd hM
            refine rVR (wc := (wX5 g a1 T1)) (As := [.int (q10 - (10 : Int32)), .int p2]) (rest := []) (q0 := 0) hS (c_X5_sayingAs l g a1 T1 (q10 - (10 : Int32)) p2 h23) gX6_says_X5_sayingAs rfl hd_X5_sayingAs ⟨Nat.le_of_ble_eq_true rfl, Nat.le_of_ble_eq_true rfl⟩ hK (va_P.pm hw.1 (pm_9_1 _ _ _ _ _ _ _ _ _)) rfl rfl rfl rfl hl.1 rfl (Nat.le_of_ble_eq_true rfl) dX6_says_87 ⟨Nat.zero_le _, Nat.zero_le _⟩ ?_
            obtain rfl := Option.some.inj hM
            exact W.iret hx hb hr (fun t ht _ => ⟨rfl, by rw [ht]; exact hw.1, hw.2.2.F ht⟩) hw.2.2.2.2 dX6_says_90
          · replace hM := itp c20 hM
            refine lv_aload_n hx hb dX6_says_73 rfl (lv_at hl 2 rfl) ?_
            refine lv_bipush (v := (-3 : Int32)) hx hb dX6_says_74 (by decide) ?_
            obtain ⟨q22, h21, hM⟩ := bd hM
            refine rVWp (wc := ((wX6 g a0 (a1 0) (a2 0) (a3 0) (a4 0) (a5 0) (a6 0) (a7 0) (a8 0) Z0) ++ ((wX5 g a1 T1) ++ ((wX5 g a2 T2) ++ ((wX5 g a3 T3) ++ ((wX3 g a4 G4 R4) ++ ((wX4 g a5 P5) ++ ((wX2 g a6 (a1 0) (a3 0)) ++ ((wX1 g a7 (a1 0) (a3 0) O7 B7) ++ (wX0 g a8 (a1 0) (a3 0) (a4 0))))))))))) (wq := ((wX6 g a0 (a1 0) (a2 0) (a3 0) (a4 0) (a5 0) (a6 0) (a7 0) (a8 0) q22.2) ++ ((wX5 g a1 T1) ++ ((wX5 g a2 T2) ++ ((wX5 g a3 T3) ++ ((wX3 g a4 G4 R4) ++ ((wX4 g a5 P5) ++ ((wX2 g a6 (a1 0) (a3 0)) ++ ((wX1 g a7 (a1 0) (a3 0) O7 B7) ++ (wX0 g a8 (a1 0) (a3 0) (a4 0))))))))))) (As := [.int (-3 : Int32)]) (rest := []) (q0 := 0) hS (c_X6_refuse l g a0 a1 a2 a3 a4 a5 a6 a7 a8 Z0 T1 T2 T3 G4 R4 P5 O7 B7 (-3 : Int32) h21) gX6_says_X6_refuse rfl hd_X6_refuse ⟨Nat.le_of_ble_eq_true rfl, Nat.le_of_ble_eq_true rfl⟩ hK hw hA (pm_9_0_1_2_3_4_5_6_7_8 _ _ _ _ _ _ _ _ _) rfl (pm_9_0_1_2_3_4_5_6_7_8 _ _ _ _ _ _ _ _ _) rfl rfl rfl rfl hl.1 rfl (Nat.le_of_ble_eq_true rfl) dX6_says_76 ⟨Nat.zero_le _, Nat.zero_le _⟩ (fun H locs hw => ?_)
            obtain rfl := Option.some.inj hM
            exact W.iret hx hb hr (fun t ht _ => ⟨rfl, by rw [ht]; exact hw.1, hw.2.2.F ht⟩) hw.2.2.2.2 dX6_says_79
      · replace hM := itp c11 hM
        refine lv_aload_n hx hb dX6_says_35 rfl (lv_at hl 1 rfl) ?_
        refine lv_bipush (v := (-4 : Int32)) hx hb dX6_says_36 (by decide) ?_
        obtain ⟨q13, h12, hM⟩ := bd hM
        refine rVWp (wc := ((wX6 g a0 (a1 0) (a2 0) (a3 0) (a4 0) (a5 0) (a6 0) (a7 0) (a8 0) Z0) ++ ((wX5 g a1 T1) ++ ((wX5 g a2 T2) ++ ((wX5 g a3 T3) ++ ((wX3 g a4 G4 R4) ++ ((wX4 g a5 P5) ++ ((wX2 g a6 (a1 0) (a3 0)) ++ ((wX1 g a7 (a1 0) (a3 0) O7 B7) ++ (wX0 g a8 (a1 0) (a3 0) (a4 0))))))))))) (wq := ((wX6 g a0 (a1 0) (a2 0) (a3 0) (a4 0) (a5 0) (a6 0) (a7 0) (a8 0) q13.2) ++ ((wX5 g a1 T1) ++ ((wX5 g a2 T2) ++ ((wX5 g a3 T3) ++ ((wX3 g a4 G4 R4) ++ ((wX4 g a5 P5) ++ ((wX2 g a6 (a1 0) (a3 0)) ++ ((wX1 g a7 (a1 0) (a3 0) O7 B7) ++ (wX0 g a8 (a1 0) (a3 0) (a4 0))))))))))) (As := [.int (-4 : Int32)]) (rest := []) (q0 := 0) hS (c_X6_refuse l g a0 a1 a2 a3 a4 a5 a6 a7 a8 Z0 T1 T2 T3 G4 R4 P5 O7 B7 (-4 : Int32) h12) gX6_says_X6_refuse rfl hd_X6_refuse ⟨Nat.le_of_ble_eq_true rfl, Nat.le_of_ble_eq_true rfl⟩ hK hw hA (pm_9_0_1_2_3_4_5_6_7_8 _ _ _ _ _ _ _ _ _) rfl (pm_9_0_1_2_3_4_5_6_7_8 _ _ _ _ _ _ _ _ _) rfl rfl rfl rfl hl.1 rfl (Nat.le_of_ble_eq_true rfl) dX6_says_38 ⟨Nat.zero_le _, Nat.zero_le _⟩ (fun H locs hw => ?_)
        obtain rfl := Option.some.inj hM
        exact W.iret hx hb hr (fun t ht _ => ⟨rfl, by rw [ht]; exact hw.1, hw.2.2.F ht⟩) hw.2.2.2.2 dX6_says_41
    · replace hM := itp c6 hM
      refine lv_aload_n hx hb dX6_says_14 rfl (lv_at hl 0 rfl) ?_
      refine lv_bipush (v := (-2 : Int32)) hx hb dX6_says_15 (by decide) ?_
      obtain ⟨q8, h7, hM⟩ := bd hM
      refine rVWp (wc := ((wX6 g a0 (a1 0) (a2 0) (a3 0) (a4 0) (a5 0) (a6 0) (a7 0) (a8 0) Z0) ++ ((wX5 g a1 T1) ++ ((wX5 g a2 T2) ++ ((wX5 g a3 T3) ++ ((wX3 g a4 G4 R4) ++ ((wX4 g a5 P5) ++ ((wX2 g a6 (a1 0) (a3 0)) ++ ((wX1 g a7 (a1 0) (a3 0) O7 B7) ++ (wX0 g a8 (a1 0) (a3 0) (a4 0))))))))))) (wq := ((wX6 g a0 (a1 0) (a2 0) (a3 0) (a4 0) (a5 0) (a6 0) (a7 0) (a8 0) q8.2) ++ ((wX5 g a1 T1) ++ ((wX5 g a2 T2) ++ ((wX5 g a3 T3) ++ ((wX3 g a4 G4 R4) ++ ((wX4 g a5 P5) ++ ((wX2 g a6 (a1 0) (a3 0)) ++ ((wX1 g a7 (a1 0) (a3 0) O7 B7) ++ (wX0 g a8 (a1 0) (a3 0) (a4 0))))))))))) (As := [.int (-2 : Int32)]) (rest := []) (q0 := 0) hS (c_X6_refuse l g a0 a1 a2 a3 a4 a5 a6 a7 a8 Z0 T1 T2 T3 G4 R4 P5 O7 B7 (-2 : Int32) h7) gX6_says_X6_refuse rfl hd_X6_refuse ⟨Nat.le_of_ble_eq_true rfl, Nat.le_of_ble_eq_true rfl⟩ hK hw hA (pm_9_0_1_2_3_4_5_6_7_8 _ _ _ _ _ _ _ _ _) rfl (pm_9_0_1_2_3_4_5_6_7_8 _ _ _ _ _ _ _ _ _) rfl rfl rfl rfl hl.1 rfl (Nat.le_of_ble_eq_true rfl) dX6_says_17 ⟨Nat.zero_le _, Nat.zero_le _⟩ (fun H locs hw => ?_)
      obtain rfl := Option.some.inj hM
      exact W.iret hx hb hr (fun t ht _ => ⟨rfl, by rw [ht]; exact hw.1, hw.2.2.F ht⟩) hw.2.2.2.2 dX6_says_20
