theorem hd_X2_after : yX2_after.cls = RX2 ∧ yX2_after.cls ≠ "java/lang/invoke/MethodHandle" ∧ yX2_after.cls ≠ "java/lang/invoke/VarHandle" ∧ (parseMethodDescriptor yX2_after.desc).map (fun d => d.parameters.length) = some 1 := by decide +kernel
set_option maxHeartbeats 4000000 in
set_option maxRecDepth 100000 in
theorem c_X2_after (l : Launch) (g : Gm) (a0 : Nat → Nat) (a1 : Nat → Nat) (a2 : Nat → Nat) (T1 : TS) (T2 : TS) (p1 : Int32) {q : TS} (hM : f_X2_after T1 T2 p1 = some q) : MW l yX2_after wsX2_after 4 101 g [.ref (a0 0), .int p1] ((wX2 g a0 (a1 0) (a2 0)) ++ ((wX5 g a1 T1) ++ (wX5 g a2 T2))) (some (.ref (a2 0))) ((wX2 g a0 (a1 0) (a2 0)) ++ ((wX5 g a1 T1) ++ (wX5 g a2 q))) := by
  intro sz
  refine Met.ofW (cc := cX2_after) (maxL := 2) (ret := (some (.object "OnlyUnseen$Town"))) (by decide) rfl ?_
  intro p e s m args below meth c s₁ B hml hv
  obtain ⟨rfl, hsz, hP, hK, hD0⟩ := hv
  have hx := B.exec; have hb := B.bytes; have hr := B.returns
  have hts := atoms_spec (ws := wsX2_after) B.pre
  have hown : s.vm.findClass RX2 = some m.cls := findClass_of_methodNamed B.named
  have hlocks := B.notSynchronized
  have hS : CallFix p m c cX2_after 2 s _ wsX2_after RX2 := ⟨hx, hb, hml, hown, hts⟩
  have hin_X2 : ∀ w ∈ wsX20, w ∈ wsX2_after := fun w h => (List.mem_cons_of_mem _ (List.mem_append_left _ (List.mem_append_right _ h)))
  subst hsz
  have hw := wk_start hP hD0
  have hA : ∀ q : Nat, s.heap.size ≤ q → va_A ((wX2 g a0 (a1 0) (a2 0)) ++ ((wX5 g a1 T1) ++ (wX5 g a2 T2))) s.heap.size q := fun q h => Or.inr h
  generalize va_A ((wX2 g a0 (a1 0) (a2 0)) ++ ((wX5 g a1 T1) ++ (wX5 g a2 T2))) s.heap.size = A at hw hA ⊢
  clear hP hD0
  have hl := lv_entry ([.ref (a0 0), .int p1]) (n := 2) (Nat.le_of_ble_eq_true rfl)
  rw [lg_entry_eq]
  generalize (lg_sl ([.ref (a0 0), .int p1]) ++ List.replicate (2 - (lg_sl ([.ref (a0 0), .int p1])).length) Slot.unset).toArray = ls at hl ⊢
  have hl : lv_has ls 2 [(0, .ref (a0 0)), (1, .int p1)] := hl
  rw [f_X2_after] at hM
  refine lv_aload_n hx hb dX2_after_0 rfl (lv_at hl 0 rfl) ?_
  refine wk_get hx hb hts hin_X2 hown hK hw.1 2 0 1 (.ref (a2 0)) rfl rfl (by decide) (mi 1 rfl) rfl rfl dX2_after_1 ?_
  refine lv_aload_n hx hb dX2_after_4 rfl (lv_at hl 0 rfl) ?_
  refine wk_get hx hb hts hin_X2 hown hK hw.1 2 0 0 (.ref (a1 0)) rfl rfl (by decide) (mi 2 rfl) rfl rfl dX2_after_5 ?_
  obtain ⟨q2, h1, hM⟩ := bd hM
  refine rVWp (wc := ((wX5 g a2 T2) ++ (wX5 g a1 T1))) (wq := ((wX2 g a0 (a1 0) (a2 0)) ++ ((wX5 g a1 T1) ++ (wX5 g a2 q2)))) (As := [.ref (a1 0)]) (rest := []) (q0 := 0) hS (c_X5_become l g a2 a1 T2 T1 h1) gX2_after_X5_become rfl hd_X5_become ⟨Nat.le_of_ble_eq_true rfl, Nat.le_of_ble_eq_true rfl⟩ hK hw hA (pm_3_2_1 _ _ _) rfl (pm_3_2_1 _ _ _) rfl rfl rfl rfl hl.1 rfl (Nat.le_of_ble_eq_true rfl) dX2_after_8 ⟨Nat.zero_le _, Nat.zero_le _⟩ (fun H locs hw => ?_)
  refine lv_aload_n hx hb dX2_after_11 rfl (lv_at hl 0 rfl) ?_
  refine wk_get hx hb hts hin_X2 hown hK hw.1 2 0 1 (.ref (a2 0)) rfl rfl (by decide) (mi 1 rfl) rfl rfl dX2_after_12 ?_
  refine lv_iload_n hx hb dX2_after_15 rfl (lv_at hl 1 rfl) ?_
  obtain ⟨q4, h3, hM⟩ := bd hM
  refine rVWp (wc := (wX5 g a2 q2)) (wq := ((wX2 g a0 (a1 0) (a2 0)) ++ ((wX5 g a1 T1) ++ (wX5 g a2 q4)))) (As := [.int p1]) (rest := []) (q0 := 0) hS (c_X5_passRounds l g a2 q2 p1 h3) gX2_after_X5_passRounds rfl hd_X5_passRounds ⟨Nat.le_of_ble_eq_true rfl, Nat.le_of_ble_eq_true rfl⟩ hK hw hA (pm_3_2 _ _ _) rfl (pm_3_2 _ _ _) rfl rfl rfl rfl hl.1 rfl (Nat.le_of_ble_eq_true rfl) dX2_after_16 ⟨Nat.zero_le _, Nat.zero_le _⟩ (fun H locs hw => ?_)
  refine lv_aload_n hx hb dX2_after_19 rfl (lv_at hl 0 rfl) ?_
  refine wk_get hx hb hts hin_X2 hown hK hw.1 2 0 1 (.ref (a2 0)) rfl rfl (by decide) (mi 1 rfl) rfl rfl dX2_after_20 ?_
  obtain rfl := Option.some.inj hM
  exact W.aret hx hb hr (Or.inl ⟨_, rfl⟩) (Or.inr ⟨_, rfl⟩) (fun t ht _ => ⟨rfl, by rw [ht]; exact hw.1, hw.2.2.F ht⟩) hw.2.2.2.2 dX2_after_23
theorem hd_X2_bestToTell : yX2_bestToTell.cls = RX2 ∧ yX2_bestToTell.cls ≠ "java/lang/invoke/MethodHandle" ∧ yX2_bestToTell.cls ≠ "java/lang/invoke/VarHandle" ∧ (parseMethodDescriptor yX2_bestToTell.desc).map (fun d => d.parameters.length) = some 2 := by decide +kernel
set_option maxHeartbeats 4000000 in
set_option maxRecDepth 100000 in
theorem c_X2_bestToTell (l : Launch) (g : Gm) (a0 : Nat → Nat) (a1 : Nat → Nat) (a2 : Nat → Nat) (T1 : TS) (T2 : TS) (p1 : Int32) (p2 : Int32) {q : (Int32 × TS)} (hM : f_X2_bestToTell T1 T2 p1 p2 = some q) : MW l yX2_bestToTell wsX2_bestToTell 4 101 g [.ref (a0 0), .int p1, .int p2] ((wX2 g a0 (a1 0) (a2 0)) ++ ((wX5 g a1 T1) ++ (wX5 g a2 T2))) (some (.int q.1)) ((wX2 g a0 (a1 0) (a2 0)) ++ ((wX5 g a1 T1) ++ (wX5 g a2 q.2))) := by
  intro sz
  refine Met.ofW (cc := cX2_bestToTell) (maxL := 7) (ret := (some .int)) (by decide) rfl ?_
  intro p e s m args below meth c s₁ B hml hv
  obtain ⟨rfl, hsz, hP, hK, hD0⟩ := hv
  have hx := B.exec; have hb := B.bytes; have hr := B.returns
  have hts := atoms_spec (ws := wsX2_bestToTell) B.pre
  have hown : s.vm.findClass RX2 = some m.cls := findClass_of_methodNamed B.named
  have hlocks := B.notSynchronized
  have hS : CallFix p m c cX2_bestToTell 7 s _ wsX2_bestToTell RX2 := ⟨hx, hb, hml, hown, hts⟩
  have hin_X2 : ∀ w ∈ wsX20, w ∈ wsX2_bestToTell := fun w h => (List.mem_cons_of_mem _ (List.mem_append_left _ (List.mem_append_right _ h)))
  have hin_X5 : ∀ w ∈ wsX50, w ∈ wsX2_bestToTell := fun w h => (List.mem_cons_of_mem _ (List.mem_append_right _ h))
  subst hsz
  have hw := wk_start hP hD0
  have hA : ∀ q : Nat, s.heap.size ≤ q → va_A ((wX2 g a0 (a1 0) (a2 0)) ++ ((wX5 g a1 T1) ++ (wX5 g a2 T2))) s.heap.size q := fun q h => Or.inr h
  generalize va_A ((wX2 g a0 (a1 0) (a2 0)) ++ ((wX5 g a1 T1) ++ (wX5 g a2 T2))) s.heap.size = A at hw hA ⊢
  clear hP hD0
  have hl := lv_entry ([.ref (a0 0), .int p1, .int p2]) (n := 7) (Nat.le_of_ble_eq_true rfl)
  rw [lg_entry_eq]
  generalize (lg_sl ([.ref (a0 0), .int p1, .int p2]) ++ List.replicate (7 - (lg_sl ([.ref (a0 0), .int p1, .int p2])).length) Slot.unset).toArray = ls at hl ⊢
  have hl : lv_has ls 7 [(0, .ref (a0 0)), (1, .int p1), (2, .int p2)] := hl
  rw [f_X2_bestToTell] at hM
  refine lv_iconst (v := (-1 : Int32)) hx hb dX2_bestToTell_0 (by decide) ?_
  refine lv_istore_n (lv' := [(3, .int (-1 : Int32)), (0, .ref (a0 0)), (1, .int p1), (2, .int p2)]) hx hb dX2_bestToTell_1 rfl hl (by decide) rfl (fun ls hl => ?_)
  refine lv_iconst (v := (-1 : Int32)) hx hb dX2_bestToTell_2 (by decide) ?_
  refine lv_istore (lv' := [(4, .int (-1 : Int32)), (3, .int (-1 : Int32)), (0, .ref (a0 0)), (1, .int p1), (2, .int p2)]) hx hb dX2_bestToTell_3 hl (by decide) rfl (fun ls hl => ?_)
  refine lv_iconst (v := (0 : Int32)) hx hb dX2_bestToTell_5 (by decide) ?_
  refine lv_istore (lv' := [(5, .int (0 : Int32)), (4, .int (-1 : Int32)), (3, .int (-1 : Int32)), (0, .ref (a0 0)), (1, .int p1), (2, .int p2)]) hx hb dX2_bestToTell_6 hl (by decide) rfl (fun ls hl => ?_)
  obtain ⟨q5, hL8, hM⟩ := bd hM
  have hJ8 : ∀ (H : Heap) (locs : List Loc), Wk g A s.heap H locs ((wX2 g a0 (a1 0) (a2 0)) ++ ((wX5 g a1 T1) ++ (wX5 g a2 q5.2))) → ∀ (ls : Array Slot), lv_has ls 7 [(3, .int q5.1)] → W p l e (headSpec wsX2_bestToTell ({ frames := 4, cells := 0, slots := 0, locals := 101 } : Room)).room s m ([.ref (a0 0), .int p1, .int p2] : List Value).toArray below meth c H locs 0 0 (MQ below (QcW g (some (.int q.1)) ((wX2 g a0 (a1 0) (a2 0)) ++ ((wX5 g a1 T1) ++ (wX5 g a2 q.2))) A) ([.ref (a0 0), .int p1, .int p2] : List Value).toArray s 0 0 A) (F0 m 83 ls []) := by
    intro H locs hw ls hl
    refine lv_iload_n hx hb dX2_bestToTell_83 rfl (lv_at hl 0 rfl) ?_
    obtain rfl := Option.some.inj hM
    exact W.iret hx hb hr (fun t ht _ => ⟨rfl, by rw [ht]; exact hw.1, hw.2.2.F ht⟩) hw.2.2.2.2 dX2_bestToTell_84
  have hW8 : ∀ (n : Nat) (v5_1 : Int32) (v4_2 : Int32) (v3_3 : Int32) (TL4 : TS), L_X2_bestToTell_8 T1 p1 p2 n v5_1 v4_2 v3_3 TL4 = some q5 → ∀ (H : Heap) (locs : List Loc), Wk g A s.heap H locs ((wX2 g a0 (a1 0) (a2 0)) ++ ((wX5 g a1 T1) ++ (wX5 g a2 TL4))) → ∀ (ls : Array Slot), lv_has ls 7 [(5, .int v5_1), (4, .int v4_2), (3, .int v3_3), (0, .ref (a0 0)), (1, .int p1), (2, .int p2)] → W p l e (headSpec wsX2_bestToTell ({ frames := 4, cells := 0, slots := 0, locals := 101 } : Room)).room s m ([.ref (a0 0), .int p1, .int p2] : List Value).toArray below meth c H locs 0 0 (MQ below (QcW g (some (.int q.1)) ((wX2 g a0 (a1 0) (a2 0)) ++ ((wX5 g a1 T1) ++ (wX5 g a2 q.2))) A) ([.ref (a0 0), .int p1, .int p2] : List Value).toArray s 0 0 A) (F0 m 8 ls []) := by
    intro n
    induction n with
    | zero => intro v5_1 v4_2 v3_3 TL4 hM; rw [L_X2_bestToTell_8] at hM; exact nn hM
    | succ n ih8 =>
      intro v5_1 v4_2 v3_3 TL4 hM H locs hw ls hl
      rw [L_X2_bestToTell_8] at hM
      refine lv_iload hx hb dX2_bestToTell_8 (lv_at hl 0 rfl) ?_
      refine lv_aload_n hx hb dX2_bestToTell_10 rfl (lv_at hl 3 rfl) ?_
      refine wk_get hx hb hts hin_X2 hown hK hw.1 2 0 0 (.ref (a1 0)) rfl rfl (by decide) (mi 1 rfl) rfl rfl dX2_bestToTell_11 ?_
      refine wk_get hx hb hts hin_X5 hown hK hw.1 5 1 1 (.int (T1 1 0)) rfl rfl (by decide) (mi 2 rfl) rfl rfl dX2_bestToTell_14 ?_
      refine lv_icmp_ge (tgt := 83) hx hb dX2_bestToTell_17 (by decide) (fun c6 => ?_) (fun c6 => ?_)
      · replace hM := itp c6 hM
        obtain rfl := Option.some.inj hM
        exact hJ8 _ _ hw _ (lv_sub hl [2] rfl)
      · replace hM := itn c6 hM
        refine lv_aload_n hx hb dX2_bestToTell_20 rfl (lv_at hl 3 rfl) ?_
        refine wk_get hx hb hts hin_X2 hown hK hw.1 2 0 1 (.ref (a2 0)) rfl rfl (by decide) (mi 3 rfl) rfl rfl dX2_bestToTell_21 ?_
        refine lv_aload_n hx hb dX2_bestToTell_24 rfl (lv_at hl 3 rfl) ?_
        refine wk_get hx hb hts hin_X2 hown hK hw.1 2 0 0 (.ref (a1 0)) rfl rfl (by decide) (mi 1 rfl) rfl rfl dX2_bestToTell_25 ?_
        obtain ⟨q8, h7, hM⟩ := bd hM
        refine rVWp (wc := ((wX5 g a2 TL4) ++ (wX5 g a1 T1))) (wq := ((wX2 g a0 (a1 0) (a2 0)) ++ ((wX5 g a1 T1) ++ (wX5 g a2 q8)))) (As := [.ref (a1 0)]) (rest := []) (q0 := 0) hS (c_X5_become l g a2 a1 TL4 T1 h7) gX2_bestToTell_X5_become rfl hd_X5_become ⟨Nat.le_of_ble_eq_true rfl, Nat.le_of_ble_eq_true rfl⟩ hK hw hA (pm_3_2_1 _ _ _) rfl (pm_3_2_1 _ _ _) rfl rfl rfl rfl hl.1 rfl (Nat.le_of_ble_eq_true rfl) dX2_bestToTell_28 ⟨Nat.zero_le _, Nat.zero_le _⟩ (fun H locs hw => ?_)
        refine lv_aload_n hx hb dX2_bestToTell_31 rfl (lv_at hl 3 rfl) ?_
        refine wk_get hx hb hts hin_X2 hown hK hw.1 2 0 1 (.ref (a2 0)) rfl rfl (by decide) (mi 3 rfl) rfl rfl dX2_bestToTell_32 ?_
        refine lv_iload hx hb dX2_bestToTell_35 (lv_at hl 0 rfl) ?_
        refine lv_iload_n hx hb dX2_bestToTell_37 rfl (lv_at hl 4 rfl) ?_
        refine lv_iconst (v := (1 : Int32)) hx hb dX2_bestToTell_38 (by decide) ?_
        obtain ⟨q10, h9, hM⟩ := bd hM
        refine rVWp (wc := (wX5 g a2 q8)) (wq := ((wX2 g a0 (a1 0) (a2 0)) ++ ((wX5 g a1 T1) ++ (wX5 g a2 q10)))) (As := [.int v5_1, .int p1, .int (1 : Int32)]) (rest := []) (q0 := 0) hS (c_X5_putHeard l g a2 q8 v5_1 p1 (1 : Int32) h9) gX2_bestToTell_X5_putHeard rfl hd_X5_putHeard ⟨Nat.le_of_ble_eq_true rfl, Nat.le_of_ble_eq_true rfl⟩ hK hw hA (pm_3_2 _ _ _) rfl (pm_3_2 _ _ _) rfl rfl rfl rfl hl.1 rfl (Nat.le_of_ble_eq_true rfl) dX2_bestToTell_39 ⟨Nat.zero_le _, Nat.zero_le _⟩ (fun H locs hw => ?_)
        refine lv_aload_n hx hb dX2_bestToTell_42 rfl (lv_at hl 3 rfl) ?_
        refine wk_get hx hb hts hin_X2 hown hK hw.1 2 0 1 (.ref (a2 0)) rfl rfl (by decide) (mi 3 rfl) rfl rfl dX2_bestToTell_43 ?_
        refine lv_iload_n hx hb dX2_bestToTell_46 rfl (lv_at hl 5 rfl) ?_
        obtain ⟨q12, h11, hM⟩ := bd hM
        refine rVWp (wc := (wX5 g a2 q10)) (wq := ((wX2 g a0 (a1 0) (a2 0)) ++ ((wX5 g a1 T1) ++ (wX5 g a2 q12)))) (As := [.int p2]) (rest := []) (q0 := 0) hS (c_X5_passRounds l g a2 q10 p2 h11) gX2_bestToTell_X5_passRounds rfl hd_X5_passRounds ⟨Nat.le_of_ble_eq_true rfl, Nat.le_of_ble_eq_true rfl⟩ hK hw hA (pm_3_2 _ _ _) rfl (pm_3_2 _ _ _) rfl rfl rfl rfl hl.1 rfl (Nat.le_of_ble_eq_true rfl) dX2_bestToTell_47 ⟨Nat.zero_le _, Nat.zero_le _⟩ (fun H locs hw => ?_)
        refine lv_aload_n hx hb dX2_bestToTell_50 rfl (lv_at hl 3 rfl) ?_
        refine wk_get hx hb hts hin_X2 hown hK hw.1 2 0 1 (.ref (a2 0)) rfl rfl (by decide) (mi 3 rfl) rfl rfl dX2_bestToTell_51 ?_
        refine lv_iload_n hx hb dX2_bestToTell_54 rfl (lv_at hl 4 rfl) ?_
        obtain ⟨q14, h13, hM⟩ := bd hM
        refine rVR (wc := (wX5 g a2 q12)) (As := [.int p1]) (rest := []) (q0 := 0) hS (c_X5_whoKnows l g a2 q12 p1 h13) gX2_bestToTell_X5_whoKnows rfl hd_X5_whoKnows ⟨Nat.le_of_ble_eq_true rfl, Nat.le_of_ble_eq_true rfl⟩ hK (va_P.pm hw.1 (pm_3_2 _ _ _)) rfl rfl rfl rfl hl.1 rfl (Nat.le_of_ble_eq_true rfl) dX2_bestToTell_55 ⟨Nat.zero_le _, Nat.zero_le _⟩ ?_
        refine rSR (wc := ([] : va_W)) (As := [.int q14]) (rest := []) hS (c_J6_bitCount_0f7a4 l g q14) gX2_bestToTell_J6_bitCount_0f7a4 rfl hd_J6_bitCount_0f7a4 ⟨Nat.le_of_ble_eq_true rfl, Nat.le_of_ble_eq_true rfl⟩ hK (hP_nil) rfl hl.1 rfl (Nat.le_of_ble_eq_true rfl) dX2_bestToTell_58 ⟨Nat.zero_le _, Nat.zero_le _⟩ ?_
        refine lv_istore (lv' := [(6, .int (f_J6_bitCount_0f7a4 q14)), (5, .int v5_1), (4, .int v4_2), (3, .int v3_3), (0, .ref (a0 0)), (1, .int p1), (2, .int p2)]) hx hb dX2_bestToTell_61 hl (by decide) rfl (fun ls hl => ?_)
        refine lv_iload hx hb dX2_bestToTell_63 (lv_at hl 0 rfl) ?_
        refine lv_iload hx hb dX2_bestToTell_65 (lv_at hl 2 rfl) ?_
        have hJ25 : ∀ (H : Heap) (locs : List Loc) (x23 : Int32) (x24 : Int32) (ls : Array Slot), Wk g A s.heap H locs ((wX2 g a0 (a1 0) (a2 0)) ++ ((wX5 g a1 T1) ++ (wX5 g a2 q12))) → x23 = (if (f_J6_bitCount_0f7a4 q14) ≤ v4_2 then v4_2 else (f_J6_bitCount_0f7a4 q14)) → x24 = (if (f_J6_bitCount_0f7a4 q14) ≤ v4_2 then v3_3 else v5_1) → lv_has ls 7 [(5, .int v5_1), (4, .int x23), (3, .int x24), (0, .ref (a0 0)), (1, .int p1), (2, .int p2)] → W p l e (headSpec wsX2_bestToTell ({ frames := 4, cells := 0, slots := 0, locals := 101 } : Room)).room s m ([.ref (a0 0), .int p1, .int p2] : List Value).toArray below meth c H locs 0 0 (MQ below (QcW g (some (.int q.1)) ((wX2 g a0 (a1 0) (a2 0)) ++ ((wX5 g a1 T1) ++ (wX5 g a2 q.2))) A) ([.ref (a0 0), .int p1, .int p2] : List Value).toArray s 0 0 A) (F0 m 77 ls []) := by
          intro H locs x23 x24 ls hw hxx23 hxx24 hl
          subst hxx23
          subst hxx24
          refine lv_iinc (v := (v5_1 + (1 : Int32))) (lv' := [(5, .int (v5_1 + (1 : Int32))), (4, .int (if (f_J6_bitCount_0f7a4 q14) ≤ v4_2 then v4_2 else (f_J6_bitCount_0f7a4 q14))), (3, .int (if (f_J6_bitCount_0f7a4 q14) ≤ v4_2 then v3_3 else v5_1)), (0, .ref (a0 0)), (1, .int p1), (2, .int p2)]) hx hb dX2_bestToTell_77 hl (k := 0) rfl rfl (by decide) rfl (fun ls hl => ?_)
          refine lv_goto (tgt := 8) hx hb dX2_bestToTell_80 (by decide) ?_
          exact ih8 (v5_1 + (1 : Int32)) (if (f_J6_bitCount_0f7a4 q14) ≤ v4_2 then v4_2 else (f_J6_bitCount_0f7a4 q14)) (if (f_J6_bitCount_0f7a4 q14) ≤ v4_2 then v3_3 else v5_1) q12 hM _ _ hw _ (lv_sub hl [0, 1, 2, 3, 4, 5] rfl)
        refine lv_icmp_le (tgt := 77) hx hb dX2_bestToTell_67 (by decide) (fun c16 => ?_) (fun c16 => ?_)
        · exact hJ25 _ _ _ _ _ hw (by first | rfl | (simp only [if_pos c16])) (by first | rfl | (simp only [if_pos c16])) (lv_sub hl [1, 2, 3, 4, 5, 6] rfl)
        · refine lv_iload hx hb dX2_bestToTell_70 (lv_at hl 0 rfl) ?_
          refine lv_istore (lv' := [(4, .int (f_J6_bitCount_0f7a4 q14)), (6, .int (f_J6_bitCount_0f7a4 q14)), (5, .int v5_1), (3, .int v3_3), (0, .ref (a0 0)), (1, .int p1), (2, .int p2)]) hx hb dX2_bestToTell_72 hl (by decide) rfl (fun ls hl => ?_)
          refine lv_iload hx hb dX2_bestToTell_74 (lv_at hl 2 rfl) ?_
          refine lv_istore_n (lv' := [(3, .int v5_1), (4, .int (f_J6_bitCount_0f7a4 q14)), (6, .int (f_J6_bitCount_0f7a4 q14)), (5, .int v5_1), (0, .ref (a0 0)), (1, .int p1), (2, .int p2)]) hx hb dX2_bestToTell_76 rfl hl (by decide) rfl (fun ls hl => ?_)
          exact hJ25 _ _ _ _ _ hw (by first | rfl | (simp only [if_neg c16])) (by first | rfl | (simp only [if_neg c16])) (lv_sub hl [3, 1, 0, 4, 5, 6] rfl)
  exact hW8 300 (0 : Int32) (-1 : Int32) (-1 : Int32) T2 hL8 _ _ hw _ (lv_sub hl [0, 1, 2, 3, 4, 5] rfl)
theorem hd_X2_isHushed : yX2_isHushed.cls = RX2 ∧ yX2_isHushed.cls ≠ "java/lang/invoke/MethodHandle" ∧ yX2_isHushed.cls ≠ "java/lang/invoke/VarHandle" ∧ (parseMethodDescriptor yX2_isHushed.desc).map (fun d => d.parameters.length) = some 3 := by decide +kernel
set_option maxHeartbeats 4000000 in
set_option maxRecDepth 100000 in
theorem c_X2_isHushed (l : Launch) (g : Gm) (a0 : Nat → Nat) (a1 : Nat → Nat) (a2 : Nat → Nat) (T1 : TS) (T2 : TS) (p1 : Int32) (p2 : Int32) (p3 : Int32) {q : (Int32 × TS)} (hM : f_X2_isHushed T1 T2 p1 p2 p3 = some q) : MW l yX2_isHushed wsX2_isHushed 3 101 g [.ref (a0 0), .int p1, .int p2, .int p3] ((wX2 g a0 (a1 0) (a2 0)) ++ ((wX5 g a1 T1) ++ (wX5 g a2 T2))) (some (.int q.1)) ((wX2 g a0 (a1 0) (a2 0)) ++ ((wX5 g a1 T1) ++ (wX5 g a2 q.2))) := by
  intro sz
  refine Met.ofW (cc := cX2_isHushed) (maxL := 6) (ret := (some .boolean)) (by decide) rfl ?_
  intro p e s m args below meth c s₁ B hml hv
  obtain ⟨rfl, hsz, hP, hK, hD0⟩ := hv
  have hx := B.exec; have hb := B.bytes; have hr := B.returns
  have hts := atoms_spec (ws := wsX2_isHushed) B.pre
  have hown : s.vm.findClass RX2 = some m.cls := findClass_of_methodNamed B.named
  have hlocks := B.notSynchronized
  have hS : CallFix p m c cX2_isHushed 6 s _ wsX2_isHushed RX2 := ⟨hx, hb, hml, hown, hts⟩
  have hin_X2 : ∀ w ∈ wsX20, w ∈ wsX2_isHushed := fun w h => (List.mem_cons_of_mem _ (List.mem_append_left _ (List.mem_append_right _ h)))
  subst hsz
  have hw := wk_start hP hD0
  have hA : ∀ q : Nat, s.heap.size ≤ q → va_A ((wX2 g a0 (a1 0) (a2 0)) ++ ((wX5 g a1 T1) ++ (wX5 g a2 T2))) s.heap.size q := fun q h => Or.inr h
  generalize va_A ((wX2 g a0 (a1 0) (a2 0)) ++ ((wX5 g a1 T1) ++ (wX5 g a2 T2))) s.heap.size = A at hw hA ⊢
  clear hP hD0
  have hl := lv_entry ([.ref (a0 0), .int p1, .int p2, .int p3]) (n := 6) (Nat.le_of_ble_eq_true rfl)
  rw [lg_entry_eq]
  generalize (lg_sl ([.ref (a0 0), .int p1, .int p2, .int p3]) ++ List.replicate (6 - (lg_sl ([.ref (a0 0), .int p1, .int p2, .int p3])).length) Slot.unset).toArray = ls at hl ⊢
  have hl : lv_has ls 6 [(0, .ref (a0 0)), (1, .int p1), (2, .int p2), (3, .int p3)] := hl
  rw [f_X2_isHushed] at hM
  refine lv_aload_n hx hb dX2_isHushed_0 rfl (lv_at hl 0 rfl) ?_
  refine wk_get hx hb hts hin_X2 hown hK hw.1 2 0 1 (.ref (a2 0)) rfl rfl (by decide) (mi 1 rfl) rfl rfl dX2_isHushed_1 ?_
  refine lv_aload_n hx hb dX2_isHushed_4 rfl (lv_at hl 0 rfl) ?_
  refine wk_get hx hb hts hin_X2 hown hK hw.1 2 0 0 (.ref (a1 0)) rfl rfl (by decide) (mi 2 rfl) rfl rfl dX2_isHushed_5 ?_
  obtain ⟨q2, h1, hM⟩ := bd hM
  refine rVWp (wc := ((wX5 g a2 T2) ++ (wX5 g a1 T1))) (wq := ((wX2 g a0 (a1 0) (a2 0)) ++ ((wX5 g a1 T1) ++ (wX5 g a2 q2)))) (As := [.ref (a1 0)]) (rest := []) (q0 := 0) hS (c_X5_become l g a2 a1 T2 T1 h1) gX2_isHushed_X5_become rfl hd_X5_become ⟨Nat.le_of_ble_eq_true rfl, Nat.le_of_ble_eq_true rfl⟩ hK hw hA (pm_3_2_1 _ _ _) rfl (pm_3_2_1 _ _ _) rfl rfl rfl rfl hl.1 rfl (Nat.le_of_ble_eq_true rfl) dX2_isHushed_8 ⟨Nat.zero_le _, Nat.zero_le _⟩ (fun H locs hw => ?_)
  refine lv_aload_n hx hb dX2_isHushed_11 rfl (lv_at hl 0 rfl) ?_
  refine wk_get hx hb hts hin_X2 hown hK hw.1 2 0 1 (.ref (a2 0)) rfl rfl (by decide) (mi 1 rfl) rfl rfl dX2_isHushed_12 ?_
  refine lv_iload_n hx hb dX2_isHushed_15 rfl (lv_at hl 1 rfl) ?_
  refine lv_iload_n hx hb dX2_isHushed_16 rfl (lv_at hl 2 rfl) ?_
  obtain ⟨q4, h3, hM⟩ := bd hM
  refine rVWp (wc := (wX5 g a2 q2)) (wq := ((wX2 g a0 (a1 0) (a2 0)) ++ ((wX5 g a1 T1) ++ (wX5 g a2 q4)))) (As := [.int p1, .int p2]) (rest := []) (q0 := 0) hS (c_X5_showTo l g a2 q2 p1 p2 h3) gX2_isHushed_X5_showTo rfl hd_X5_showTo ⟨Nat.le_of_ble_eq_true rfl, Nat.le_of_ble_eq_true rfl⟩ hK hw hA (pm_3_2 _ _ _) rfl (pm_3_2 _ _ _) rfl rfl rfl rfl hl.1 rfl (Nat.le_of_ble_eq_true rfl) dX2_isHushed_17 ⟨Nat.zero_le _, Nat.zero_le _⟩ (fun H locs hw => ?_)
  refine lv_iconst (v := (1 : Int32)) hx hb dX2_isHushed_20 (by decide) ?_
  refine lv_istore (lv' := [(4, .int (1 : Int32)), (0, .ref (a0 0)), (1, .int p1), (2, .int p2), (3, .int p3)]) hx hb dX2_isHushed_21 hl (by decide) rfl (fun ls hl => ?_)
  refine lv_iconst (v := (0 : Int32)) hx hb dX2_isHushed_23 (by decide) ?_
  refine lv_istore (lv' := [(5, .int (0 : Int32)), (4, .int (1 : Int32)), (0, .ref (a0 0)), (1, .int p1), (2, .int p2), (3, .int p3)]) hx hb dX2_isHushed_24 hl (by decide) rfl (fun ls hl => ?_)
  obtain ⟨q8, hL26, hM26⟩ := bd hM
  have hJ26 : ∀ (q8x : TS), q8 = .inr q8x → ∀ (H : Heap) (locs : List Loc), Wk g A s.heap H locs ((wX2 g a0 (a1 0) (a2 0)) ++ ((wX5 g a1 T1) ++ (wX5 g a2 q8x))) → ∀ (ls : Array Slot), lv_has ls 6 [] → W p l e (headSpec wsX2_isHushed ({ frames := 3, cells := 0, slots := 0, locals := 101 } : Room)).room s m ([.ref (a0 0), .int p1, .int p2, .int p3] : List Value).toArray below meth c H locs 0 0 (MQ below (QcW g (some (.int q.1)) ((wX2 g a0 (a1 0) (a2 0)) ++ ((wX5 g a1 T1) ++ (wX5 g a2 q.2))) A) ([.ref (a0 0), .int p1, .int p2, .int p3] : List Value).toArray s 0 0 A) (F0 m 65 ls []) := by
    intro q8x hX26 H locs hw ls hl
    rw [hX26] at hM26
    have hM := eo_inr hM26
    refine lv_iconst (v := (1 : Int32)) hx hb dX2_isHushed_65 (by decide) ?_
    obtain rfl := Option.some.inj hM
    exact W.zret hx hb hr (nz (Or.inr rfl)) (fun t ht _ => ⟨rfl, by rw [ht]; exact hw.1, hw.2.2.F ht⟩) hw.2.2.2.2 dX2_isHushed_66
  have hW26 : ∀ (n : Nat) (v5_5 : Int32) (v4_6 : Int32) (TL7 : TS), L_X2_isHushed_26 p2 p3 n v5_5 v4_6 TL7 = some q8 → ∀ (H : Heap) (locs : List Loc), Wk g A s.heap H locs ((wX2 g a0 (a1 0) (a2 0)) ++ ((wX5 g a1 T1) ++ (wX5 g a2 TL7))) → ∀ (ls : Array Slot), lv_has ls 6 [(5, .int v5_5), (4, .int v4_6), (0, .ref (a0 0)), (2, .int p2), (3, .int p3)] → W p l e (headSpec wsX2_isHushed ({ frames := 3, cells := 0, slots := 0, locals := 101 } : Room)).room s m ([.ref (a0 0), .int p1, .int p2, .int p3] : List Value).toArray below meth c H locs 0 0 (MQ below (QcW g (some (.int q.1)) ((wX2 g a0 (a1 0) (a2 0)) ++ ((wX5 g a1 T1) ++ (wX5 g a2 q.2))) A) ([.ref (a0 0), .int p1, .int p2, .int p3] : List Value).toArray s 0 0 A) (F0 m 26 ls []) := by
    intro n
    induction n with
    | zero => intro v5_5 v4_6 TL7 hM; rw [L_X2_isHushed_26] at hM; exact nn hM
    | succ n ih26 =>
      intro v5_5 v4_6 TL7 hM H locs hw ls hl
      rw [L_X2_isHushed_26] at hM
      refine lv_iload hx hb dX2_isHushed_26 (lv_at hl 0 rfl) ?_
      refine lv_iload_n hx hb dX2_isHushed_28 rfl (lv_at hl 4 rfl) ?_
      refine lv_icmp_gt (tgt := 65) hx hb dX2_isHushed_29 (by decide) (fun c9 => ?_) (fun c9 => ?_)
      · replace hM := itp c9 hM
        exact hJ26 _ (Option.some.inj hM).symm _ _ hw _ (lv_sub hl [] rfl)
      · replace hM := itn c9 hM
        refine lv_iload hx hb dX2_isHushed_32 (lv_at hl 1 rfl) ?_
        refine lv_if_eq (tgt := 65) hx hb dX2_isHushed_34 (by decide) (fun c10 => ?_) (fun c10 => ?_)
        · replace hM := itp c10 hM
          exact hJ26 _ (Option.some.inj hM).symm _ _ hw _ (lv_sub hl [] rfl)
        · replace hM := itn c10 hM
          refine lv_aload_n hx hb dX2_isHushed_37 rfl (lv_at hl 2 rfl) ?_
          refine wk_get hx hb hts hin_X2 hown hK hw.1 2 0 1 (.ref (a2 0)) rfl rfl (by decide) (mi 1 rfl) rfl rfl dX2_isHushed_38 ?_
          refine lv_iload_n hx hb dX2_isHushed_41 rfl (lv_at hl 3 rfl) ?_
          obtain ⟨q12, h11, hM⟩ := bd hM
          refine rVR (wc := (wX5 g a2 TL7)) (As := [.int p2]) (rest := []) (q0 := 0) hS (c_X5_whoMaySay l g a2 TL7 p2 h11) gX2_isHushed_X5_whoMaySay rfl hd_X5_whoMaySay ⟨Nat.le_of_ble_eq_true rfl, Nat.le_of_ble_eq_true rfl⟩ hK (va_P.pm hw.1 (pm_3_2 _ _ _)) rfl rfl rfl rfl hl.1 rfl (Nat.le_of_ble_eq_true rfl) dX2_isHushed_42 ⟨Nat.zero_le _, Nat.zero_le _⟩ ?_
          refine lv_if_eq (tgt := 50) hx hb dX2_isHushed_45 (by decide) (fun c13 => ?_) (fun c13 => ?_)
          · replace hM := itp c13 hM
            refine lv_aload_n hx hb dX2_isHushed_50 rfl (lv_at hl 2 rfl) ?_
            refine wk_get hx hb hts hin_X2 hown hK hw.1 2 0 1 (.ref (a2 0)) rfl rfl (by decide) (mi 1 rfl) rfl rfl dX2_isHushed_51 ?_
            obtain ⟨q15, h14, hM⟩ := bd hM
            refine rVWp (wc := (wX5 g a2 TL7)) (wq := ((wX2 g a0 (a1 0) (a2 0)) ++ ((wX5 g a1 T1) ++ (wX5 g a2 q15.2)))) (As := []) (rest := []) (q0 := 0) hS (c_X5_passRound l g a2 TL7 h14) gX2_isHushed_X5_passRound rfl hd_X5_passRound ⟨Nat.le_of_ble_eq_true rfl, Nat.le_of_ble_eq_true rfl⟩ hK hw hA (pm_3_2 _ _ _) rfl (pm_3_2 _ _ _) rfl rfl rfl rfl hl.1 rfl (Nat.le_of_ble_eq_true rfl) dX2_isHushed_54 ⟨Nat.zero_le _, Nat.zero_le _⟩ (fun H locs hw => ?_)
            refine lv_istore (lv' := [(4, .int q15.1), (5, .int v5_5), (0, .ref (a0 0)), (2, .int p2), (3, .int p3)]) hx hb dX2_isHushed_57 hl (by decide) rfl (fun ls hl => ?_)
            refine lv_iinc (v := (v5_5 + (1 : Int32))) (lv' := [(5, .int (v5_5 + (1 : Int32))), (4, .int q15.1), (0, .ref (a0 0)), (2, .int p2), (3, .int p3)]) hx hb dX2_isHushed_59 hl (k := 1) rfl rfl (by decide) rfl (fun ls hl => ?_)
            refine lv_goto (tgt := 26) hx hb dX2_isHushed_62 (by decide) ?_
            exact ih26 (v5_5 + (1 : Int32)) q15.1 q15.2 hM _ _ hw _ (lv_sub hl [0, 1, 2, 3, 4] rfl)
          · replace hM := itn c13 hM
            refine lv_iconst (v := (0 : Int32)) hx hb dX2_isHushed_48 (by decide) ?_
            have hE := Option.some.inj hM
            have hM26' := hM26
            rw [← hE] at hM26'
            obtain rfl := eo_inl hM26'
            exact W.zret hx hb hr (nz (Or.inl rfl)) (fun t ht _ => ⟨rfl, by rw [ht]; exact hw.1, hw.2.2.F ht⟩) hw.2.2.2.2 dX2_isHushed_49
  exact hW26 300 (0 : Int32) (1 : Int32) q4 hL26 _ _ hw _ (lv_sub hl [0, 1, 2, 4, 5] rfl)
theorem hd_X2_fewestToShow : yX2_fewestToShow.cls = RX2 ∧ yX2_fewestToShow.cls ≠ "java/lang/invoke/MethodHandle" ∧ yX2_fewestToShow.cls ≠ "java/lang/invoke/VarHandle" ∧ (parseMethodDescriptor yX2_fewestToShow.desc).map (fun d => d.parameters.length) = some 2 := by decide +kernel
set_option maxHeartbeats 4000000 in
set_option maxRecDepth 100000 in
theorem c_X2_fewestToShow (l : Launch) (g : Gm) (a0 : Nat → Nat) (a1 : Nat → Nat) (a2 : Nat → Nat) (T1 : TS) (T2 : TS) (p1 : Int32) (p2 : Int32) {q : (Int32 × TS)} (hM : f_X2_fewestToShow T1 T2 p1 p2 = some q) : MW l yX2_fewestToShow wsX2_fewestToShow 4 126 g [.ref (a0 0), .int p1, .int p2] ((wX2 g a0 (a1 0) (a2 0)) ++ ((wX5 g a1 T1) ++ (wX5 g a2 T2))) (some (.int q.1)) ((wX2 g a0 (a1 0) (a2 0)) ++ ((wX5 g a1 T1) ++ (wX5 g a2 q.2))) := by
  intro sz
  refine Met.ofW (cc := cX2_fewestToShow) (maxL := 7) (ret := (some .int)) (by decide) rfl ?_
  intro p e s m args below meth c s₁ B hml hv
  obtain ⟨rfl, hsz, hP, hK, hD0⟩ := hv
  have hx := B.exec; have hb := B.bytes; have hr := B.returns
  have hts := atoms_spec (ws := wsX2_fewestToShow) B.pre
  have hown : s.vm.findClass RX2 = some m.cls := findClass_of_methodNamed B.named
  have hlocks := B.notSynchronized
  have hS : CallFix p m c cX2_fewestToShow 7 s _ wsX2_fewestToShow RX2 := ⟨hx, hb, hml, hown, hts⟩
  have hin_X2 : ∀ w ∈ wsX20, w ∈ wsX2_fewestToShow := fun w h => (List.mem_cons_of_mem _ (List.mem_append_left _ (List.mem_append_right _ h)))
  have hin_X5 : ∀ w ∈ wsX50, w ∈ wsX2_fewestToShow := fun w h => (List.mem_cons_of_mem _ (List.mem_append_right _ h))
  subst hsz
  have hw := wk_start hP hD0
  have hA : ∀ q : Nat, s.heap.size ≤ q → va_A ((wX2 g a0 (a1 0) (a2 0)) ++ ((wX5 g a1 T1) ++ (wX5 g a2 T2))) s.heap.size q := fun q h => Or.inr h
  generalize va_A ((wX2 g a0 (a1 0) (a2 0)) ++ ((wX5 g a1 T1) ++ (wX5 g a2 T2))) s.heap.size = A at hw hA ⊢
  clear hP hD0
  have hl := lv_entry ([.ref (a0 0), .int p1, .int p2]) (n := 7) (Nat.le_of_ble_eq_true rfl)
  rw [lg_entry_eq]
  generalize (lg_sl ([.ref (a0 0), .int p1, .int p2]) ++ List.replicate (7 - (lg_sl ([.ref (a0 0), .int p1, .int p2])).length) Slot.unset).toArray = ls at hl ⊢
  have hl : lv_has ls 7 [(0, .ref (a0 0)), (1, .int p1), (2, .int p2)] := hl
  rw [f_X2_fewestToShow] at hM
  refine lv_aload_n hx hb dX2_fewestToShow_0 rfl (lv_at hl 0 rfl) ?_
  refine wk_get hx hb hts hin_X2 hown hK hw.1 2 0 0 (.ref (a1 0)) rfl rfl (by decide) (mi 1 rfl) rfl rfl dX2_fewestToShow_1 ?_
  refine rVR (wc := (wX5 g a1 T1)) (As := []) (rest := []) (q0 := 0) hS (c_X5_allPeople l g a1 T1) gX2_fewestToShow_X5_allPeople rfl hd_X5_allPeople ⟨Nat.le_of_ble_eq_true rfl, Nat.le_of_ble_eq_true rfl⟩ hK (va_P.pm hw.1 (pm_3_1 _ _ _)) rfl rfl rfl rfl hl.1 rfl (Nat.le_of_ble_eq_true rfl) dX2_fewestToShow_4 ⟨Nat.zero_le _, Nat.zero_le _⟩ ?_
  refine lv_aload_n hx hb dX2_fewestToShow_7 rfl (lv_at hl 0 rfl) ?_
  refine wk_get hx hb hts hin_X2 hown hK hw.1 2 0 0 (.ref (a1 0)) rfl rfl (by decide) (mi 1 rfl) rfl rfl dX2_fewestToShow_8 ?_
  obtain ⟨q3, h2, hM⟩ := bd hM
  refine rVR (wc := (wX5 g a1 T1)) (As := []) (rest := [.int (f_X5_allPeople T1)]) (q0 := 0) hS (c_X5_allBlind l g a1 T1 h2) gX2_fewestToShow_X5_allBlind rfl hd_X5_allBlind ⟨Nat.le_of_ble_eq_true rfl, Nat.le_of_ble_eq_true rfl⟩ hK (va_P.pm hw.1 (pm_3_1 _ _ _)) rfl rfl rfl rfl hl.1 rfl (Nat.le_of_ble_eq_true rfl) dX2_fewestToShow_11 ⟨Nat.zero_le _, Nat.zero_le _⟩ ?_
  refine lv_iconst (v := (-1 : Int32)) hx hb dX2_fewestToShow_14 (by decide) ?_
  refine lv_ixor hx hb dX2_fewestToShow_15 ?_
  refine lv_iand hx hb dX2_fewestToShow_16 ?_
  refine lv_istore_n (lv' := [(3, .int ((f_X5_allPeople T1) &&& (q3 ^^^ (-1 : Int32)))), (0, .ref (a0 0)), (1, .int p1), (2, .int p2)]) hx hb dX2_fewestToShow_17 rfl hl (by decide) rfl (fun ls hl => ?_)
  refine lv_iconst (v := (0 : Int32)) hx hb dX2_fewestToShow_18 (by decide) ?_
  refine lv_istore (lv' := [(4, .int (0 : Int32)), (3, .int ((f_X5_allPeople T1) &&& (q3 ^^^ (-1 : Int32)))), (0, .ref (a0 0)), (1, .int p1), (2, .int p2)]) hx hb dX2_fewestToShow_19 hl (by decide) rfl (fun ls hl => ?_)
  obtain ⟨q6, hL21, hM21⟩ := bd hM
  have hJ21 : ∀ (q6x : TS), q6 = .inr q6x → ∀ (H : Heap) (locs : List Loc), Wk g A s.heap H locs ((wX2 g a0 (a1 0) (a2 0)) ++ ((wX5 g a1 T1) ++ (wX5 g a2 q6x))) → ∀ (ls : Array Slot), lv_has ls 7 [] → W p l e (headSpec wsX2_fewestToShow ({ frames := 4, cells := 0, slots := 0, locals := 126 } : Room)).room s m ([.ref (a0 0), .int p1, .int p2] : List Value).toArray below meth c H locs 0 0 (MQ below (QcW g (some (.int q.1)) ((wX2 g a0 (a1 0) (a2 0)) ++ ((wX5 g a1 T1) ++ (wX5 g a2 q.2))) A) ([.ref (a0 0), .int p1, .int p2] : List Value).toArray s 0 0 A) (F0 m 99 ls []) := by
    intro q6x hX21 H locs hw ls hl
    rw [hX21] at hM21
    have hM := eo_inr hM21
    refine lv_iconst (v := (-1 : Int32)) hx hb dX2_fewestToShow_99 (by decide) ?_
    obtain rfl := Option.some.inj hM
    exact W.iret hx hb hr (fun t ht _ => ⟨rfl, by rw [ht]; exact hw.1, hw.2.2.F ht⟩) hw.2.2.2.2 dX2_fewestToShow_100
  have hW21 : ∀ (n : Nat) (v4_4 : Int32) (TL5 : TS), L_X2_fewestToShow_21 T1 p1 p2 q3 n v4_4 TL5 = some q6 → ∀ (H : Heap) (locs : List Loc), Wk g A s.heap H locs ((wX2 g a0 (a1 0) (a2 0)) ++ ((wX5 g a1 T1) ++ (wX5 g a2 TL5))) → ∀ (ls : Array Slot), lv_has ls 7 [(4, .int v4_4), (3, .int ((f_X5_allPeople T1) &&& (q3 ^^^ (-1 : Int32)))), (0, .ref (a0 0)), (1, .int p1), (2, .int p2)] → W p l e (headSpec wsX2_fewestToShow ({ frames := 4, cells := 0, slots := 0, locals := 126 } : Room)).room s m ([.ref (a0 0), .int p1, .int p2] : List Value).toArray below meth c H locs 0 0 (MQ below (QcW g (some (.int q.1)) ((wX2 g a0 (a1 0) (a2 0)) ++ ((wX5 g a1 T1) ++ (wX5 g a2 q.2))) A) ([.ref (a0 0), .int p1, .int p2] : List Value).toArray s 0 0 A) (F0 m 21 ls []) := by
    intro n
    induction n with
    | zero => intro v4_4 TL5 hM; rw [L_X2_fewestToShow_21] at hM; exact nn hM
    | succ n ih21 =>
      intro v4_4 TL5 hM H locs hw ls hl
      rw [L_X2_fewestToShow_21] at hM
      refine lv_iload hx hb dX2_fewestToShow_21 (lv_at hl 0 rfl) ?_
      refine lv_aload_n hx hb dX2_fewestToShow_23 rfl (lv_at hl 2 rfl) ?_
      refine wk_get hx hb hts hin_X2 hown hK hw.1 2 0 0 (.ref (a1 0)) rfl rfl (by decide) (mi 1 rfl) rfl rfl dX2_fewestToShow_24 ?_
      refine wk_get hx hb hts hin_X5 hown hK hw.1 5 1 1 (.int (T1 1 0)) rfl rfl (by decide) (mi 2 rfl) rfl rfl dX2_fewestToShow_27 ?_
      refine lv_icmp_gt (tgt := 99) hx hb dX2_fewestToShow_30 (by decide) (fun c7 => ?_) (fun c7 => ?_)
      · replace hM := itp c7 hM
        exact hJ21 _ (Option.some.inj hM).symm _ _ hw _ (lv_sub hl [] rfl)
      · replace hM := itn c7 hM
        refine lv_iconst (v := (0 : Int32)) hx hb dX2_fewestToShow_33 (by decide) ?_
        refine lv_istore (lv' := [(5, .int (0 : Int32)), (4, .int v4_4), (3, .int ((f_X5_allPeople T1) &&& (q3 ^^^ (-1 : Int32)))), (0, .ref (a0 0)), (1, .int p1), (2, .int p2)]) hx hb dX2_fewestToShow_34 hl (by decide) rfl (fun ls hl => ?_)
        obtain ⟨q10, hL36, hM36⟩ := bd hM
        have hJ36 : ∀ (q10x : TS), q10 = .inr q10x → ∀ (H : Heap) (locs : List Loc), Wk g A s.heap H locs ((wX2 g a0 (a1 0) (a2 0)) ++ ((wX5 g a1 T1) ++ (wX5 g a2 q10x))) → ∀ (ls : Array Slot), lv_has ls 7 [(4, .int v4_4), (3, .int ((f_X5_allPeople T1) &&& (q3 ^^^ (-1 : Int32)))), (0, .ref (a0 0)), (1, .int p1), (2, .int p2)] → W p l e (headSpec wsX2_fewestToShow ({ frames := 4, cells := 0, slots := 0, locals := 126 } : Room)).room s m ([.ref (a0 0), .int p1, .int p2] : List Value).toArray below meth c H locs 0 0 (MQ below (QcW g (some (.int q.1)) ((wX2 g a0 (a1 0) (a2 0)) ++ ((wX5 g a1 T1) ++ (wX5 g a2 q.2))) A) ([.ref (a0 0), .int p1, .int p2] : List Value).toArray s 0 0 A) (F0 m 93 ls []) := by
          intro q10x hX36 H locs hw ls hl
          rw [hX36] at hM36
          have hM := eoS_inr hM36
          refine lv_iinc (v := (v4_4 + (1 : Int32))) (lv' := [(4, .int (v4_4 + (1 : Int32))), (3, .int ((f_X5_allPeople T1) &&& (q3 ^^^ (-1 : Int32)))), (0, .ref (a0 0)), (1, .int p1), (2, .int p2)]) hx hb dX2_fewestToShow_93 hl (k := 0) rfl rfl (by decide) rfl (fun ls hl => ?_)
          refine lv_goto (tgt := 21) hx hb dX2_fewestToShow_96 (by decide) ?_
          exact ih21 (v4_4 + (1 : Int32)) q10x hM _ _ hw _ (lv_sub hl [0, 1, 2, 3, 4] rfl)
        have hW36 : ∀ (n : Nat) (v5_8 : Int32) (TL9 : TS), L_X2_fewestToShow_36 T1 p1 p2 q3 v4_4 n v5_8 TL9 = some q10 → ∀ (H : Heap) (locs : List Loc), Wk g A s.heap H locs ((wX2 g a0 (a1 0) (a2 0)) ++ ((wX5 g a1 T1) ++ (wX5 g a2 TL9))) → ∀ (ls : Array Slot), lv_has ls 7 [(5, .int v5_8), (4, .int v4_4), (3, .int ((f_X5_allPeople T1) &&& (q3 ^^^ (-1 : Int32)))), (0, .ref (a0 0)), (1, .int p1), (2, .int p2)] → W p l e (headSpec wsX2_fewestToShow ({ frames := 4, cells := 0, slots := 0, locals := 126 } : Room)).room s m ([.ref (a0 0), .int p1, .int p2] : List Value).toArray below meth c H locs 0 0 (MQ below (QcW g (some (.int q.1)) ((wX2 g a0 (a1 0) (a2 0)) ++ ((wX5 g a1 T1) ++ (wX5 g a2 q.2))) A) ([.ref (a0 0), .int p1, .int p2] : List Value).toArray s 0 0 A) (F0 m 36 ls []) := by
          intro n
          induction n with
          | zero => intro v5_8 TL9 hM; rw [L_X2_fewestToShow_36] at hM; exact nn hM
          | succ n ih36 =>
            intro v5_8 TL9 hM H locs hw ls hl
            rw [L_X2_fewestToShow_36] at hM
            refine lv_iload hx hb dX2_fewestToShow_36 (lv_at hl 0 rfl) ?_
            refine lv_iload_n hx hb dX2_fewestToShow_38 rfl (lv_at hl 2 rfl) ?_
            refine lv_icmp_gt (tgt := 93) hx hb dX2_fewestToShow_39 (by decide) (fun c11 => ?_) (fun c11 => ?_)
            · replace hM := itp c11 hM
              exact hJ36 _ (Option.some.inj hM).symm _ _ hw _ (lv_sub hl [1, 2, 3, 4, 5] rfl)
            · replace hM := itn c11 hM
              refine lv_iload hx hb dX2_fewestToShow_42 (lv_at hl 0 rfl) ?_
              refine lv_iload_n hx hb dX2_fewestToShow_44 rfl (lv_at hl 2 rfl) ?_
              refine lv_iconst (v := (-1 : Int32)) hx hb dX2_fewestToShow_45 (by decide) ?_
              refine lv_ixor hx hb dX2_fewestToShow_46 ?_
              refine lv_iand hx hb dX2_fewestToShow_47 ?_
              have hJ24 : ∀ (H : Heap) (locs : List Loc) (x23 : Int32) (ls : Array Slot), Wk g A s.heap H locs ((wX2 g a0 (a1 0) (a2 0)) ++ ((wX5 g a1 T1) ++ (wX5 g a2 TL9))) → x23 = (if (v5_8 &&& (((f_X5_allPeople T1) &&& (q3 ^^^ (-1 : Int32))) ^^^ (-1 : Int32))) = 0 then (if (f_J6_bitCount_0f7a4 v5_8) = v4_4 then (1 : Int32) else (0 : Int32)) else (0 : Int32)) → lv_has ls 7 [(5, .int v5_8), (4, .int v4_4), (3, .int ((f_X5_allPeople T1) &&& (q3 ^^^ (-1 : Int32)))), (0, .ref (a0 0)), (1, .int p1), (2, .int p2)] → W p l e (headSpec wsX2_fewestToShow ({ frames := 4, cells := 0, slots := 0, locals := 126 } : Room)).room s m ([.ref (a0 0), .int p1, .int p2] : List Value).toArray below meth c H locs 0 0 (MQ below (QcW g (some (.int q.1)) ((wX2 g a0 (a1 0) (a2 0)) ++ ((wX5 g a1 T1) ++ (wX5 g a2 q.2))) A) ([.ref (a0 0), .int p1, .int p2] : List Value).toArray s 0 0 A) (F0 m 66 ls [.int x23]) := by
                intro H locs x23 ls hw hxx23 hl
                subst hxx23
                refine lv_istore (lv' := [(6, .int (if (v5_8 &&& (((f_X5_allPeople T1) &&& (q3 ^^^ (-1 : Int32))) ^^^ (-1 : Int32))) = 0 then (if (f_J6_bitCount_0f7a4 v5_8) = v4_4 then (1 : Int32) else (0 : Int32)) else (0 : Int32))), (5, .int v5_8), (4, .int v4_4), (3, .int ((f_X5_allPeople T1) &&& (q3 ^^^ (-1 : Int32)))), (0, .ref (a0 0)), (1, .int p1), (2, .int p2)]) hx hb dX2_fewestToShow_66 hl (by decide) rfl (fun ls hl => ?_)
                refine lv_iload hx hb dX2_fewestToShow_68 (lv_at hl 0 rfl) ?_
                refine lv_if_eq (tgt := 87) hx hb dX2_fewestToShow_70 (by decide) (fun c15 => ?_) (fun c15 => ?_)
                · replace hM := itp c15 hM
                  refine lv_iinc (v := (v5_8 + (1 : Int32))) (lv' := [(5, .int (v5_8 + (1 : Int32))), (6, .int (if (v5_8 &&& (((f_X5_allPeople T1) &&& (q3 ^^^ (-1 : Int32))) ^^^ (-1 : Int32))) = 0 then (if (f_J6_bitCount_0f7a4 v5_8) = v4_4 then (1 : Int32) else (0 : Int32)) else (0 : Int32))), (4, .int v4_4), (3, .int ((f_X5_allPeople T1) &&& (q3 ^^^ (-1 : Int32)))), (0, .ref (a0 0)), (1, .int p1), (2, .int p2)]) hx hb dX2_fewestToShow_87 hl (k := 1) rfl rfl (by decide) rfl (fun ls hl => ?_)
                  refine lv_goto (tgt := 36) hx hb dX2_fewestToShow_90 (by decide) ?_
                  exact ih36 (v5_8 + (1 : Int32)) TL9 hM _ _ hw _ (lv_sub hl [0, 2, 3, 4, 5, 6] rfl)
                · replace hM := itn c15 hM
                  refine lv_aload_n hx hb dX2_fewestToShow_73 rfl (lv_at hl 4 rfl) ?_
                  refine lv_iload hx hb dX2_fewestToShow_74 (lv_at hl 1 rfl) ?_
                  refine lv_iload_n hx hb dX2_fewestToShow_76 rfl (lv_at hl 5 rfl) ?_
                  refine lv_iload_n hx hb dX2_fewestToShow_77 rfl (lv_at hl 6 rfl) ?_
                  obtain ⟨q17, h16, hM⟩ := bd hM
                  refine rVWp (wc := ((wX2 g a0 (a1 0) (a2 0)) ++ ((wX5 g a1 T1) ++ (wX5 g a2 TL9)))) (wq := ((wX2 g a0 (a1 0) (a2 0)) ++ ((wX5 g a1 T1) ++ (wX5 g a2 q17.2)))) (As := [.int v5_8, .int p1, .int p2]) (rest := []) (q0 := 0) hS (c_X2_isHushed l g a0 a1 a2 T1 TL9 v5_8 p1 p2 h16) gX2_fewestToShow_X2_isHushed rfl hd_X2_isHushed ⟨Nat.le_of_ble_eq_true rfl, Nat.le_of_ble_eq_true rfl⟩ hK hw hA (pm_3_0_1_2 _ _ _) rfl (pm_3_0_1_2 _ _ _) rfl rfl rfl rfl hl.1 rfl (Nat.le_of_ble_eq_true rfl) dX2_fewestToShow_78 ⟨Nat.zero_le _, Nat.zero_le _⟩ (fun H locs hw => ?_)
                  refine lv_if_eq (tgt := 87) hx hb dX2_fewestToShow_81 (by decide) (fun c18 => ?_) (fun c18 => ?_)
                  · replace hM := itp c18 hM
                    refine lv_iinc (v := (v5_8 + (1 : Int32))) (lv' := [(5, .int (v5_8 + (1 : Int32))), (6, .int (if (v5_8 &&& (((f_X5_allPeople T1) &&& (q3 ^^^ (-1 : Int32))) ^^^ (-1 : Int32))) = 0 then (if (f_J6_bitCount_0f7a4 v5_8) = v4_4 then (1 : Int32) else (0 : Int32)) else (0 : Int32))), (4, .int v4_4), (3, .int ((f_X5_allPeople T1) &&& (q3 ^^^ (-1 : Int32)))), (0, .ref (a0 0)), (1, .int p1), (2, .int p2)]) hx hb dX2_fewestToShow_87 hl (k := 1) rfl rfl (by decide) rfl (fun ls hl => ?_)
                    refine lv_goto (tgt := 36) hx hb dX2_fewestToShow_90 (by decide) ?_
                    exact ih36 (v5_8 + (1 : Int32)) q17.2 hM _ _ hw _ (lv_sub hl [0, 2, 3, 4, 5, 6] rfl)
                  · replace hM := itn c18 hM
                    refine lv_iload hx hb dX2_fewestToShow_84 (lv_at hl 1 rfl) ?_
                    have hE := Option.some.inj hM
                    have hM36' := hM36
                    rw [← hE] at hM36'
                    have hE36 := eoS_inl hM36'
                    have hM21' := hM21
                    rw [← hE36] at hM21'
                    obtain rfl := eo_inl hM21'
                    exact W.iret hx hb hr (fun t ht _ => ⟨rfl, by rw [ht]; exact hw.1, hw.2.2.F ht⟩) hw.2.2.2.2 dX2_fewestToShow_86
              refine lv_if_ne (tgt := 65) hx hb dX2_fewestToShow_48 (by decide) (fun c12 => ?_) (fun c12 => ?_)
              · refine lv_iconst (v := (0 : Int32)) hx hb dX2_fewestToShow_65 (by decide) ?_
                exact hJ24 _ _ _ _ hw (by first | rfl | (simp only [if_neg c12])) (lv_sub hl [0, 1, 2, 3, 4, 5] rfl)
              · refine lv_iload hx hb dX2_fewestToShow_51 (lv_at hl 0 rfl) ?_
                refine rSR (wc := ([] : va_W)) (As := [.int v5_8]) (rest := []) hS (c_J6_bitCount_0f7a4 l g v5_8) gX2_fewestToShow_J6_bitCount_0f7a4 rfl hd_J6_bitCount_0f7a4 ⟨Nat.le_of_ble_eq_true rfl, Nat.le_of_ble_eq_true rfl⟩ hK (hP_nil) rfl hl.1 rfl (Nat.le_of_ble_eq_true rfl) dX2_fewestToShow_53 ⟨Nat.zero_le _, Nat.zero_le _⟩ ?_
                refine lv_iload hx hb dX2_fewestToShow_56 (lv_at hl 1 rfl) ?_
                refine lv_icmp_ne (tgt := 65) hx hb dX2_fewestToShow_58 (by decide) (fun c14 => ?_) (fun c14 => ?_)
                · refine lv_iconst (v := (0 : Int32)) hx hb dX2_fewestToShow_65 (by decide) ?_
                  exact hJ24 _ _ _ _ hw (by first | rfl | (simp only [if_pos c12, if_neg c14])) (lv_sub hl [0, 1, 2, 3, 4, 5] rfl)
                · refine lv_iconst (v := (1 : Int32)) hx hb dX2_fewestToShow_61 (by decide) ?_
                  refine lv_goto (tgt := 66) hx hb dX2_fewestToShow_62 (by decide) ?_
                  exact hJ24 _ _ _ _ hw (by first | rfl | (simp only [if_pos c12, if_pos c14])) (lv_sub hl [0, 1, 2, 3, 4, 5] rfl)
        exact hW36 300 (0 : Int32) TL5 hL36 _ _ hw _ (lv_sub hl [0, 1, 2, 3, 4, 5] rfl)
  exact hW21 300 (0 : Int32) T2 hL21 _ _ hw _ (lv_sub hl [0, 1, 2, 3, 4] rfl)
theorem hd_X2_gainByBlind : yX2_gainByBlind.cls = RX2 ∧ yX2_gainByBlind.cls ≠ "java/lang/invoke/MethodHandle" ∧ yX2_gainByBlind.cls ≠ "java/lang/invoke/VarHandle" ∧ (parseMethodDescriptor yX2_gainByBlind.desc).map (fun d => d.parameters.length) = some 2 := by decide +kernel
set_option maxHeartbeats 4000000 in
set_option maxRecDepth 100000 in
theorem c_X2_gainByBlind (l : Launch) (g : Gm) (a0 : Nat → Nat) (a1 : Nat → Nat) (a2 : Nat → Nat) (T1 : TS) (T2 : TS) (p1 : Int32) (p2 : Int32) {q : (Int32 × TS)} (hM : f_X2_gainByBlind T1 T2 p1 p2 = some q) : MW l yX2_gainByBlind wsX2_gainByBlind 5 122 g [.ref (a0 0), .int p1, .int p2] ((wX2 g a0 (a1 0) (a2 0)) ++ ((wX5 g a1 T1) ++ (wX5 g a2 T2))) (some (.int q.1)) ((wX2 g a0 (a1 0) (a2 0)) ++ ((wX5 g a1 T1) ++ (wX5 g a2 q.2))) := by
  intro sz
  refine Met.ofW (cc := cX2_gainByBlind) (maxL := 4) (ret := (some .int)) (by decide) rfl ?_
  intro p e s m args below meth c s₁ B hml hv
  obtain ⟨rfl, hsz, hP, hK, hD0⟩ := hv
  have hx := B.exec; have hb := B.bytes; have hr := B.returns
  have hts := atoms_spec (ws := wsX2_gainByBlind) B.pre
  have hown : s.vm.findClass RX2 = some m.cls := findClass_of_methodNamed B.named
  have hlocks := B.notSynchronized
  have hS : CallFix p m c cX2_gainByBlind 4 s _ wsX2_gainByBlind RX2 := ⟨hx, hb, hml, hown, hts⟩
  have hin_X2 : ∀ w ∈ wsX20, w ∈ wsX2_gainByBlind := fun w h => (List.mem_cons_of_mem _ (List.mem_append_left _ (List.mem_append_right _ h)))
  subst hsz
  have hw := wk_start hP hD0
  have hA : ∀ q : Nat, s.heap.size ≤ q → va_A ((wX2 g a0 (a1 0) (a2 0)) ++ ((wX5 g a1 T1) ++ (wX5 g a2 T2))) s.heap.size q := fun q h => Or.inr h
  generalize va_A ((wX2 g a0 (a1 0) (a2 0)) ++ ((wX5 g a1 T1) ++ (wX5 g a2 T2))) s.heap.size = A at hw hA ⊢
  clear hP hD0
  have hl := lv_entry ([.ref (a0 0), .int p1, .int p2]) (n := 4) (Nat.le_of_ble_eq_true rfl)
  rw [lg_entry_eq]
  generalize (lg_sl ([.ref (a0 0), .int p1, .int p2]) ++ List.replicate (4 - (lg_sl ([.ref (a0 0), .int p1, .int p2])).length) Slot.unset).toArray = ls at hl ⊢
  have hl : lv_has ls 4 [(0, .ref (a0 0)), (1, .int p1), (2, .int p2)] := hl
  rw [f_X2_gainByBlind] at hM
  refine lv_aload_n hx hb dX2_gainByBlind_0 rfl (lv_at hl 0 rfl) ?_
  refine lv_iload_n hx hb dX2_gainByBlind_1 rfl (lv_at hl 2 rfl) ?_
  obtain ⟨q2, h1, hM⟩ := bd hM
  refine rVWp (wc := ((wX2 g a0 (a1 0) (a2 0)) ++ ((wX5 g a1 T1) ++ (wX5 g a2 T2)))) (wq := ((wX2 g a0 (a1 0) (a2 0)) ++ ((wX5 g a1 T1) ++ (wX5 g a2 q2)))) (As := [.int p2]) (rest := []) (q0 := 0) hS (c_X2_after l g a0 a1 a2 T1 T2 p2 h1) gX2_gainByBlind_X2_after rfl hd_X2_after ⟨Nat.le_of_ble_eq_true rfl, Nat.le_of_ble_eq_true rfl⟩ hK hw hA (pm_3_0_1_2 _ _ _) rfl (pm_3_0_1_2 _ _ _) rfl rfl rfl rfl hl.1 rfl (Nat.le_of_ble_eq_true rfl) dX2_gainByBlind_2 ⟨Nat.zero_le _, Nat.zero_le _⟩ (fun H locs hw => ?_)
  obtain ⟨q4, h3, hM⟩ := bd hM
  refine rVR (wc := (wX5 g a2 q2)) (As := []) (rest := []) (q0 := 0) hS (c_X5_knownInAll l g a2 q2 h3) gX2_gainByBlind_X5_knownInAll rfl hd_X5_knownInAll ⟨Nat.le_of_ble_eq_true rfl, Nat.le_of_ble_eq_true rfl⟩ hK (va_P.pm hw.1 (pm_3_2 _ _ _)) rfl rfl rfl rfl hl.1 rfl (Nat.le_of_ble_eq_true rfl) dX2_gainByBlind_5 ⟨Nat.zero_le _, Nat.zero_le _⟩ ?_
  refine lv_istore_n (lv' := [(3, .int q4), (0, .ref (a0 0)), (1, .int p1), (2, .int p2)]) hx hb dX2_gainByBlind_8 rfl hl (by decide) rfl (fun ls hl => ?_)
  refine lv_aload_n hx hb dX2_gainByBlind_9 rfl (lv_at hl 1 rfl) ?_
  refine wk_get hx hb hts hin_X2 hown hK hw.1 2 0 1 (.ref (a2 0)) rfl rfl (by decide) (mi 1 rfl) rfl rfl dX2_gainByBlind_10 ?_
  refine lv_aload_n hx hb dX2_gainByBlind_13 rfl (lv_at hl 1 rfl) ?_
  refine wk_get hx hb hts hin_X2 hown hK hw.1 2 0 0 (.ref (a1 0)) rfl rfl (by decide) (mi 2 rfl) rfl rfl dX2_gainByBlind_14 ?_
  obtain ⟨q6, h5, hM⟩ := bd hM
  refine rVWp (wc := ((wX5 g a2 q2) ++ (wX5 g a1 T1))) (wq := ((wX2 g a0 (a1 0) (a2 0)) ++ ((wX5 g a1 T1) ++ (wX5 g a2 q6)))) (As := [.ref (a1 0)]) (rest := []) (q0 := 0) hS (c_X5_become l g a2 a1 q2 T1 h5) gX2_gainByBlind_X5_become rfl hd_X5_become ⟨Nat.le_of_ble_eq_true rfl, Nat.le_of_ble_eq_true rfl⟩ hK hw hA (pm_3_2_1 _ _ _) rfl (pm_3_2_1 _ _ _) rfl rfl rfl rfl hl.1 rfl (Nat.le_of_ble_eq_true rfl) dX2_gainByBlind_17 ⟨Nat.zero_le _, Nat.zero_le _⟩ (fun H locs hw => ?_)
  refine lv_aload_n hx hb dX2_gainByBlind_20 rfl (lv_at hl 1 rfl) ?_
  refine wk_get hx hb hts hin_X2 hown hK hw.1 2 0 1 (.ref (a2 0)) rfl rfl (by decide) (mi 1 rfl) rfl rfl dX2_gainByBlind_21 ?_
  refine lv_iload_n hx hb dX2_gainByBlind_24 rfl (lv_at hl 2 rfl) ?_
  obtain ⟨q8, h7, hM⟩ := bd hM
  refine rVWp (wc := (wX5 g a2 q6)) (wq := ((wX2 g a0 (a1 0) (a2 0)) ++ ((wX5 g a1 T1) ++ (wX5 g a2 q8)))) (As := [.int p1]) (rest := []) (q0 := 0) hS (c_X5_makeBlind l g a2 q6 p1 h7) gX2_gainByBlind_X5_makeBlind rfl hd_X5_makeBlind ⟨Nat.le_of_ble_eq_true rfl, Nat.le_of_ble_eq_true rfl⟩ hK hw hA (pm_3_2 _ _ _) rfl (pm_3_2 _ _ _) rfl rfl rfl rfl hl.1 rfl (Nat.le_of_ble_eq_true rfl) dX2_gainByBlind_25 ⟨Nat.zero_le _, Nat.zero_le _⟩ (fun H locs hw => ?_)
  refine lv_aload_n hx hb dX2_gainByBlind_28 rfl (lv_at hl 1 rfl) ?_
  refine wk_get hx hb hts hin_X2 hown hK hw.1 2 0 1 (.ref (a2 0)) rfl rfl (by decide) (mi 1 rfl) rfl rfl dX2_gainByBlind_29 ?_
  refine lv_iload_n hx hb dX2_gainByBlind_32 rfl (lv_at hl 3 rfl) ?_
  obtain ⟨q10, h9, hM⟩ := bd hM
  refine rVWp (wc := (wX5 g a2 q8)) (wq := ((wX2 g a0 (a1 0) (a2 0)) ++ ((wX5 g a1 T1) ++ (wX5 g a2 q10)))) (As := [.int p2]) (rest := []) (q0 := 0) hS (c_X5_passRounds l g a2 q8 p2 h9) gX2_gainByBlind_X5_passRounds rfl hd_X5_passRounds ⟨Nat.le_of_ble_eq_true rfl, Nat.le_of_ble_eq_true rfl⟩ hK hw hA (pm_3_2 _ _ _) rfl (pm_3_2 _ _ _) rfl rfl rfl rfl hl.1 rfl (Nat.le_of_ble_eq_true rfl) dX2_gainByBlind_33 ⟨Nat.zero_le _, Nat.zero_le _⟩ (fun H locs hw => ?_)
  refine lv_aload_n hx hb dX2_gainByBlind_36 rfl (lv_at hl 1 rfl) ?_
  refine wk_get hx hb hts hin_X2 hown hK hw.1 2 0 1 (.ref (a2 0)) rfl rfl (by decide) (mi 1 rfl) rfl rfl dX2_gainByBlind_37 ?_
  obtain ⟨q12, h11, hM⟩ := bd hM
  refine rVR (wc := (wX5 g a2 q10)) (As := []) (rest := []) (q0 := 0) hS (c_X5_knownInAll l g a2 q10 h11) gX2_gainByBlind_X5_knownInAll rfl hd_X5_knownInAll ⟨Nat.le_of_ble_eq_true rfl, Nat.le_of_ble_eq_true rfl⟩ hK (va_P.pm hw.1 (pm_3_2 _ _ _)) rfl rfl rfl rfl hl.1 rfl (Nat.le_of_ble_eq_true rfl) dX2_gainByBlind_40 ⟨Nat.zero_le _, Nat.zero_le _⟩ ?_
  refine lv_iload_n hx hb dX2_gainByBlind_43 rfl (lv_at hl 0 rfl) ?_
  refine lv_isub hx hb dX2_gainByBlind_44 ?_
  obtain rfl := Option.some.inj hM
  exact W.iret hx hb hr (fun t ht _ => ⟨rfl, by rw [ht]; exact hw.1, hw.2.2.F ht⟩) hw.2.2.2.2 dX2_gainByBlind_45
theorem hd_X2_knownAtDusk : yX2_knownAtDusk.cls = RX2 ∧ yX2_knownAtDusk.cls ≠ "java/lang/invoke/MethodHandle" ∧ yX2_knownAtDusk.cls ≠ "java/lang/invoke/VarHandle" ∧ (parseMethodDescriptor yX2_knownAtDusk.desc).map (fun d => d.parameters.length) = some 2 := by decide +kernel
set_option maxHeartbeats 4000000 in
set_option maxRecDepth 100000 in
theorem c_X2_knownAtDusk (l : Launch) (g : Gm) (a0 : Nat → Nat) (a1 : Nat → Nat) (a2 : Nat → Nat) (T1 : TS) (T2 : TS) (p1 : Int32) (p2 : Int32) {q : (Int32 × TS)} (hM : f_X2_knownAtDusk T1 T2 p1 p2 = some q) : MW l yX2_knownAtDusk wsX2_knownAtDusk 4 101 g [.ref (a0 0), .int p1, .int p2] ((wX2 g a0 (a1 0) (a2 0)) ++ ((wX5 g a1 T1) ++ (wX5 g a2 T2))) (some (.int q.1)) ((wX2 g a0 (a1 0) (a2 0)) ++ ((wX5 g a1 T1) ++ (wX5 g a2 q.2))) := by
  intro sz
  refine Met.ofW (cc := cX2_knownAtDusk) (maxL := 3) (ret := (some .int)) (by decide) rfl ?_
  intro p e s m args below meth c s₁ B hml hv
  obtain ⟨rfl, hsz, hP, hK, hD0⟩ := hv
  have hx := B.exec; have hb := B.bytes; have hr := B.returns
  have hts := atoms_spec (ws := wsX2_knownAtDusk) B.pre
  have hown : s.vm.findClass RX2 = some m.cls := findClass_of_methodNamed B.named
  have hlocks := B.notSynchronized
  have hS : CallFix p m c cX2_knownAtDusk 3 s _ wsX2_knownAtDusk RX2 := ⟨hx, hb, hml, hown, hts⟩
  have hin_X2 : ∀ w ∈ wsX20, w ∈ wsX2_knownAtDusk := fun w h => (List.mem_cons_of_mem _ (List.mem_append_left _ (List.mem_append_right _ h)))
  have hin_X5 : ∀ w ∈ wsX50, w ∈ wsX2_knownAtDusk := fun w h => (List.mem_cons_of_mem _ (List.mem_append_right _ h))
  subst hsz
  have hw := wk_start hP hD0
  have hA : ∀ q : Nat, s.heap.size ≤ q → va_A ((wX2 g a0 (a1 0) (a2 0)) ++ ((wX5 g a1 T1) ++ (wX5 g a2 T2))) s.heap.size q := fun q h => Or.inr h
  generalize va_A ((wX2 g a0 (a1 0) (a2 0)) ++ ((wX5 g a1 T1) ++ (wX5 g a2 T2))) s.heap.size = A at hw hA ⊢
  clear hP hD0
  have hl := lv_entry ([.ref (a0 0), .int p1, .int p2]) (n := 3) (Nat.le_of_ble_eq_true rfl)
  rw [lg_entry_eq]
  generalize (lg_sl ([.ref (a0 0), .int p1, .int p2]) ++ List.replicate (3 - (lg_sl ([.ref (a0 0), .int p1, .int p2])).length) Slot.unset).toArray = ls at hl ⊢
  have hl : lv_has ls 3 [(0, .ref (a0 0)), (1, .int p1), (2, .int p2)] := hl
  rw [f_X2_knownAtDusk] at hM
  refine lv_aload_n hx hb dX2_knownAtDusk_0 rfl (lv_at hl 0 rfl) ?_
  refine wk_get hx hb hts hin_X2 hown hK hw.1 2 0 1 (.ref (a2 0)) rfl rfl (by decide) (mi 1 rfl) rfl rfl dX2_knownAtDusk_1 ?_
  refine lv_aload_n hx hb dX2_knownAtDusk_4 rfl (lv_at hl 0 rfl) ?_
  refine wk_get hx hb hts hin_X2 hown hK hw.1 2 0 0 (.ref (a1 0)) rfl rfl (by decide) (mi 2 rfl) rfl rfl dX2_knownAtDusk_5 ?_
  obtain ⟨q2, h1, hM⟩ := bd hM
  refine rVWp (wc := ((wX5 g a2 T2) ++ (wX5 g a1 T1))) (wq := ((wX2 g a0 (a1 0) (a2 0)) ++ ((wX5 g a1 T1) ++ (wX5 g a2 q2)))) (As := [.ref (a1 0)]) (rest := []) (q0 := 0) hS (c_X5_become l g a2 a1 T2 T1 h1) gX2_knownAtDusk_X5_become rfl hd_X5_become ⟨Nat.le_of_ble_eq_true rfl, Nat.le_of_ble_eq_true rfl⟩ hK hw hA (pm_3_2_1 _ _ _) rfl (pm_3_2_1 _ _ _) rfl rfl rfl rfl hl.1 rfl (Nat.le_of_ble_eq_true rfl) dX2_knownAtDusk_8 ⟨Nat.zero_le _, Nat.zero_le _⟩ (fun H locs hw => ?_)
  refine lv_aload_n hx hb dX2_knownAtDusk_11 rfl (lv_at hl 0 rfl) ?_
  refine wk_get hx hb hts hin_X2 hown hK hw.1 2 0 1 (.ref (a2 0)) rfl rfl (by decide) (mi 1 rfl) rfl rfl dX2_knownAtDusk_12 ?_
  refine lv_iload_n hx hb dX2_knownAtDusk_15 rfl (lv_at hl 1 rfl) ?_
  refine wk_put (wq := ((wX2 g a0 (a1 0) (a2 0)) ++ ((wX5 g a1 T1) ++ (wX5 g a2 (up q2 2 (fun _ => p1)))))) hx hb hts hin_X5 tyX5 tyX5_ok nmX5 hown hK hw 5 9 2 rfl rfl (by decide) (mi 3 rfl) rfl rfl rfl rfl (Nat.le_of_ble_eq_true rfl) dX2_knownAtDusk_16 rfl (fun H locs hw => ?_)
  refine lv_aload_n hx hb dX2_knownAtDusk_19 rfl (lv_at hl 0 rfl) ?_
  refine wk_get hx hb hts hin_X2 hown hK hw.1 2 0 1 (.ref (a2 0)) rfl rfl (by decide) (mi 1 rfl) rfl rfl dX2_knownAtDusk_20 ?_
  refine lv_iload_n hx hb dX2_knownAtDusk_23 rfl (lv_at hl 2 rfl) ?_
  obtain ⟨q4, h3, hM⟩ := bd hM
  refine rVWp (wc := (wX5 g a2 (up q2 2 (fun _ => p1)))) (wq := ((wX2 g a0 (a1 0) (a2 0)) ++ ((wX5 g a1 T1) ++ (wX5 g a2 q4)))) (As := [.int p2]) (rest := []) (q0 := 0) hS (c_X5_passRounds l g a2 (up q2 2 (fun _ => p1)) p2 h3) gX2_knownAtDusk_X5_passRounds rfl hd_X5_passRounds ⟨Nat.le_of_ble_eq_true rfl, Nat.le_of_ble_eq_true rfl⟩ hK hw hA (pm_3_2 _ _ _) rfl (pm_3_2 _ _ _) rfl rfl rfl rfl hl.1 rfl (Nat.le_of_ble_eq_true rfl) dX2_knownAtDusk_24 ⟨Nat.zero_le _, Nat.zero_le _⟩ (fun H locs hw => ?_)
  refine lv_aload_n hx hb dX2_knownAtDusk_27 rfl (lv_at hl 0 rfl) ?_
  refine wk_get hx hb hts hin_X2 hown hK hw.1 2 0 1 (.ref (a2 0)) rfl rfl (by decide) (mi 1 rfl) rfl rfl dX2_knownAtDusk_28 ?_
  obtain ⟨q6, h5, hM⟩ := bd hM
  refine rVR (wc := (wX5 g a2 q4)) (As := []) (rest := []) (q0 := 0) hS (c_X5_knownInAll l g a2 q4 h5) gX2_knownAtDusk_X5_knownInAll rfl hd_X5_knownInAll ⟨Nat.le_of_ble_eq_true rfl, Nat.le_of_ble_eq_true rfl⟩ hK (va_P.pm hw.1 (pm_3_2 _ _ _)) rfl rfl rfl rfl hl.1 rfl (Nat.le_of_ble_eq_true rfl) dX2_knownAtDusk_31 ⟨Nat.zero_le _, Nat.zero_le _⟩ ?_
  obtain rfl := Option.some.inj hM
  exact W.iret hx hb hr (fun t ht _ => ⟨rfl, by rw [ht]; exact hw.1, hw.2.2.F ht⟩) hw.2.2.2.2 dX2_knownAtDusk_34
theorem hd_X2_gainByLight : yX2_gainByLight.cls = RX2 ∧ yX2_gainByLight.cls ≠ "java/lang/invoke/MethodHandle" ∧ yX2_gainByLight.cls ≠ "java/lang/invoke/VarHandle" ∧ (parseMethodDescriptor yX2_gainByLight.desc).map (fun d => d.parameters.length) = some 1 := by decide +kernel
set_option maxHeartbeats 4000000 in
set_option maxRecDepth 100000 in
theorem c_X2_gainByLight (l : Launch) (g : Gm) (a0 : Nat → Nat) (a1 : Nat → Nat) (a2 : Nat → Nat) (T1 : TS) (T2 : TS) (p1 : Int32) {q : (Int32 × TS)} (hM : f_X2_gainByLight T1 T2 p1 = some q) : MW l yX2_gainByLight wsX2_gainByLight 5 123 g [.ref (a0 0), .int p1] ((wX2 g a0 (a1 0) (a2 0)) ++ ((wX5 g a1 T1) ++ (wX5 g a2 T2))) (some (.int q.1)) ((wX2 g a0 (a1 0) (a2 0)) ++ ((wX5 g a1 T1) ++ (wX5 g a2 q.2))) := by
  intro sz
  refine Met.ofW (cc := cX2_gainByLight) (maxL := 2) (ret := (some .int)) (by decide) rfl ?_
  intro p e s m args below meth c s₁ B hml hv
  obtain ⟨rfl, hsz, hP, hK, hD0⟩ := hv
  have hx := B.exec; have hb := B.bytes; have hr := B.returns
  have hts := atoms_spec (ws := wsX2_gainByLight) B.pre
  have hown : s.vm.findClass RX2 = some m.cls := findClass_of_methodNamed B.named
  have hlocks := B.notSynchronized
  have hS : CallFix p m c cX2_gainByLight 2 s _ wsX2_gainByLight RX2 := ⟨hx, hb, hml, hown, hts⟩
  subst hsz
  have hw := wk_start hP hD0
  have hA : ∀ q : Nat, s.heap.size ≤ q → va_A ((wX2 g a0 (a1 0) (a2 0)) ++ ((wX5 g a1 T1) ++ (wX5 g a2 T2))) s.heap.size q := fun q h => Or.inr h
  generalize va_A ((wX2 g a0 (a1 0) (a2 0)) ++ ((wX5 g a1 T1) ++ (wX5 g a2 T2))) s.heap.size = A at hw hA ⊢
  clear hP hD0
  have hl := lv_entry ([.ref (a0 0), .int p1]) (n := 2) (Nat.le_of_ble_eq_true rfl)
  rw [lg_entry_eq]
  generalize (lg_sl ([.ref (a0 0), .int p1]) ++ List.replicate (2 - (lg_sl ([.ref (a0 0), .int p1])).length) Slot.unset).toArray = ls at hl ⊢
  have hl : lv_has ls 2 [(0, .ref (a0 0)), (1, .int p1)] := hl
  rw [f_X2_gainByLight] at hM
  refine lv_aload_n hx hb dX2_gainByLight_0 rfl (lv_at hl 0 rfl) ?_
  refine lv_iconst (v := (0 : Int32)) hx hb dX2_gainByLight_1 (by decide) ?_
  refine lv_iload_n hx hb dX2_gainByLight_2 rfl (lv_at hl 1 rfl) ?_
  obtain ⟨q2, h1, hM⟩ := bd hM
  refine rVWp (wc := ((wX2 g a0 (a1 0) (a2 0)) ++ ((wX5 g a1 T1) ++ (wX5 g a2 T2)))) (wq := ((wX2 g a0 (a1 0) (a2 0)) ++ ((wX5 g a1 T1) ++ (wX5 g a2 q2.2)))) (As := [.int (0 : Int32), .int p1]) (rest := []) (q0 := 0) hS (c_X2_knownAtDusk l g a0 a1 a2 T1 T2 (0 : Int32) p1 h1) gX2_gainByLight_X2_knownAtDusk rfl hd_X2_knownAtDusk ⟨Nat.le_of_ble_eq_true rfl, Nat.le_of_ble_eq_true rfl⟩ hK hw hA (pm_3_0_1_2 _ _ _) rfl (pm_3_0_1_2 _ _ _) rfl rfl rfl rfl hl.1 rfl (Nat.le_of_ble_eq_true rfl) dX2_gainByLight_3 ⟨Nat.zero_le _, Nat.zero_le _⟩ (fun H locs hw => ?_)
  refine lv_aload_n hx hb dX2_gainByLight_6 rfl (lv_at hl 0 rfl) ?_
  refine lv_iconst (v := (1 : Int32)) hx hb dX2_gainByLight_7 (by decide) ?_
  refine lv_iload_n hx hb dX2_gainByLight_8 rfl (lv_at hl 1 rfl) ?_
  obtain ⟨q4, h3, hM⟩ := bd hM
  refine rVWp (wc := ((wX2 g a0 (a1 0) (a2 0)) ++ ((wX5 g a1 T1) ++ (wX5 g a2 q2.2)))) (wq := ((wX2 g a0 (a1 0) (a2 0)) ++ ((wX5 g a1 T1) ++ (wX5 g a2 q4.2)))) (As := [.int (1 : Int32), .int p1]) (rest := [.int q2.1]) (q0 := 0) hS (c_X2_knownAtDusk l g a0 a1 a2 T1 q2.2 (1 : Int32) p1 h3) gX2_gainByLight_X2_knownAtDusk rfl hd_X2_knownAtDusk ⟨Nat.le_of_ble_eq_true rfl, Nat.le_of_ble_eq_true rfl⟩ hK hw hA (pm_3_0_1_2 _ _ _) rfl (pm_3_0_1_2 _ _ _) rfl rfl rfl rfl hl.1 rfl (Nat.le_of_ble_eq_true rfl) dX2_gainByLight_9 ⟨Nat.zero_le _, Nat.zero_le _⟩ (fun H locs hw => ?_)
  refine lv_isub hx hb dX2_gainByLight_12 ?_
  obtain rfl := Option.some.inj hM
  exact W.iret hx hb hr (fun t ht _ => ⟨rfl, by rw [ht]; exact hw.1, hw.2.2.F ht⟩) hw.2.2.2.2 dX2_gainByLight_13
theorem hd_X2_knownToOthersThen : yX2_knownToOthersThen.cls = RX2 ∧ yX2_knownToOthersThen.cls ≠ "java/lang/invoke/MethodHandle" ∧ yX2_knownToOthersThen.cls ≠ "java/lang/invoke/VarHandle" ∧ (parseMethodDescriptor yX2_knownToOthersThen.desc).map (fun d => d.parameters.length) = some 2 := by decide +kernel
set_option maxHeartbeats 4000000 in
set_option maxRecDepth 100000 in
theorem c_X2_knownToOthersThen (l : Launch) (g : Gm) (a0 : Nat → Nat) (a1 : Nat → Nat) (a2 : Nat → Nat) (T1 : TS) (T2 : TS) (p1 : Int32) (p2 : Int32) {q : (Int32 × TS)} (hM : f_X2_knownToOthersThen T1 T2 p1 p2 = some q) : MW l yX2_knownToOthersThen wsX2_knownToOthersThen 4 94 g [.ref (a0 0), .int p1, .int p2] ((wX2 g a0 (a1 0) (a2 0)) ++ ((wX5 g a1 T1) ++ (wX5 g a2 T2))) (some (.int q.1)) ((wX2 g a0 (a1 0) (a2 0)) ++ ((wX5 g a1 T1) ++ (wX5 g a2 q.2))) := by
  intro sz
  refine Met.ofW (cc := cX2_knownToOthersThen) (maxL := 3) (ret := (some .int)) (by decide) rfl ?_
  intro p e s m args below meth c s₁ B hml hv
  obtain ⟨rfl, hsz, hP, hK, hD0⟩ := hv
  have hx := B.exec; have hb := B.bytes; have hr := B.returns
  have hts := atoms_spec (ws := wsX2_knownToOthersThen) B.pre
  have hown : s.vm.findClass RX2 = some m.cls := findClass_of_methodNamed B.named
  have hlocks := B.notSynchronized
  have hS : CallFix p m c cX2_knownToOthersThen 3 s _ wsX2_knownToOthersThen RX2 := ⟨hx, hb, hml, hown, hts⟩
  have hin_X2 : ∀ w ∈ wsX20, w ∈ wsX2_knownToOthersThen := fun w h => (List.mem_cons_of_mem _ (List.mem_append_left _ (List.mem_append_right _ h)))
  subst hsz
  have hw := wk_start hP hD0
  have hA : ∀ q : Nat, s.heap.size ≤ q → va_A ((wX2 g a0 (a1 0) (a2 0)) ++ ((wX5 g a1 T1) ++ (wX5 g a2 T2))) s.heap.size q := fun q h => Or.inr h
  generalize va_A ((wX2 g a0 (a1 0) (a2 0)) ++ ((wX5 g a1 T1) ++ (wX5 g a2 T2))) s.heap.size = A at hw hA ⊢
  clear hP hD0
  have hl := lv_entry ([.ref (a0 0), .int p1, .int p2]) (n := 3) (Nat.le_of_ble_eq_true rfl)
  rw [lg_entry_eq]
  generalize (lg_sl ([.ref (a0 0), .int p1, .int p2]) ++ List.replicate (3 - (lg_sl ([.ref (a0 0), .int p1, .int p2])).length) Slot.unset).toArray = ls at hl ⊢
  have hl : lv_has ls 3 [(0, .ref (a0 0)), (1, .int p1), (2, .int p2)] := hl
  rw [f_X2_knownToOthersThen] at hM
  refine lv_aload_n hx hb dX2_knownToOthersThen_0 rfl (lv_at hl 0 rfl) ?_
  refine wk_get hx hb hts hin_X2 hown hK hw.1 2 0 1 (.ref (a2 0)) rfl rfl (by decide) (mi 1 rfl) rfl rfl dX2_knownToOthersThen_1 ?_
  refine lv_iload_n hx hb dX2_knownToOthersThen_4 rfl (lv_at hl 2 rfl) ?_
  obtain ⟨q2, h1, hM⟩ := bd hM
  refine rVWp (wc := (wX5 g a2 T2)) (wq := ((wX2 g a0 (a1 0) (a2 0)) ++ ((wX5 g a1 T1) ++ (wX5 g a2 q2)))) (As := [.int p2]) (rest := []) (q0 := 0) hS (c_X5_passRounds l g a2 T2 p2 h1) gX2_knownToOthersThen_X5_passRounds rfl hd_X5_passRounds ⟨Nat.le_of_ble_eq_true rfl, Nat.le_of_ble_eq_true rfl⟩ hK hw hA (pm_3_2 _ _ _) rfl (pm_3_2 _ _ _) rfl rfl rfl rfl hl.1 rfl (Nat.le_of_ble_eq_true rfl) dX2_knownToOthersThen_5 ⟨Nat.zero_le _, Nat.zero_le _⟩ (fun H locs hw => ?_)
  refine lv_aload_n hx hb dX2_knownToOthersThen_8 rfl (lv_at hl 0 rfl) ?_
  refine wk_get hx hb hts hin_X2 hown hK hw.1 2 0 1 (.ref (a2 0)) rfl rfl (by decide) (mi 1 rfl) rfl rfl dX2_knownToOthersThen_9 ?_
  obtain ⟨q4, h3, hM⟩ := bd hM
  refine rVR (wc := (wX5 g a2 q2)) (As := []) (rest := []) (q0 := 0) hS (c_X5_knownInAll l g a2 q2 h3) gX2_knownToOthersThen_X5_knownInAll rfl hd_X5_knownInAll ⟨Nat.le_of_ble_eq_true rfl, Nat.le_of_ble_eq_true rfl⟩ hK (va_P.pm hw.1 (pm_3_2 _ _ _)) rfl rfl rfl rfl hl.1 rfl (Nat.le_of_ble_eq_true rfl) dX2_knownToOthersThen_12 ⟨Nat.zero_le _, Nat.zero_le _⟩ ?_
  refine lv_aload_n hx hb dX2_knownToOthersThen_15 rfl (lv_at hl 0 rfl) ?_
  refine wk_get hx hb hts hin_X2 hown hK hw.1 2 0 1 (.ref (a2 0)) rfl rfl (by decide) (mi 1 rfl) rfl rfl dX2_knownToOthersThen_16 ?_
  refine lv_iload_n hx hb dX2_knownToOthersThen_19 rfl (lv_at hl 1 rfl) ?_
  obtain ⟨q6, h5, hM⟩ := bd hM
  refine rVR (wc := (wX5 g a2 q2)) (As := [.int p1]) (rest := [.int q4]) (q0 := 0) hS (c_X5_knownTo l g a2 q2 p1 h5) gX2_knownToOthersThen_X5_knownTo rfl hd_X5_knownTo ⟨Nat.le_of_ble_eq_true rfl, Nat.le_of_ble_eq_true rfl⟩ hK (va_P.pm hw.1 (pm_3_2 _ _ _)) rfl rfl rfl rfl hl.1 rfl (Nat.le_of_ble_eq_true rfl) dX2_knownToOthersThen_20 ⟨Nat.zero_le _, Nat.zero_le _⟩ ?_
  refine rSR (wc := ([] : va_W)) (As := [.int q6]) (rest := [.int q4]) hS (c_J6_bitCount_0f7a4 l g q6) gX2_knownToOthersThen_J6_bitCount_0f7a4 rfl hd_J6_bitCount_0f7a4 ⟨Nat.le_of_ble_eq_true rfl, Nat.le_of_ble_eq_true rfl⟩ hK (hP_nil) rfl hl.1 rfl (Nat.le_of_ble_eq_true rfl) dX2_knownToOthersThen_23 ⟨Nat.zero_le _, Nat.zero_le _⟩ ?_
  refine lv_isub hx hb dX2_knownToOthersThen_26 ?_
  obtain rfl := Option.some.inj hM
  exact W.iret hx hb hr (fun t ht _ => ⟨rfl, by rw [ht]; exact hw.1, hw.2.2.F ht⟩) hw.2.2.2.2 dX2_knownToOthersThen_27
theorem hd_X2_lostWithout : yX2_lostWithout.cls = RX2 ∧ yX2_lostWithout.cls ≠ "java/lang/invoke/MethodHandle" ∧ yX2_lostWithout.cls ≠ "java/lang/invoke/VarHandle" ∧ (parseMethodDescriptor yX2_lostWithout.desc).map (fun d => d.parameters.length) = some 2 := by decide +kernel
set_option maxHeartbeats 4000000 in
set_option maxRecDepth 100000 in
theorem c_X2_lostWithout (l : Launch) (g : Gm) (a0 : Nat → Nat) (a1 : Nat → Nat) (a2 : Nat → Nat) (T1 : TS) (T2 : TS) (p1 : Int32) (p2 : Int32) {q : (Int32 × TS)} (hM : f_X2_lostWithout T1 T2 p1 p2 = some q) : MW l yX2_lostWithout wsX2_lostWithout 5 116 g [.ref (a0 0), .int p1, .int p2] ((wX2 g a0 (a1 0) (a2 0)) ++ ((wX5 g a1 T1) ++ (wX5 g a2 T2))) (some (.int q.1)) ((wX2 g a0 (a1 0) (a2 0)) ++ ((wX5 g a1 T1) ++ (wX5 g a2 q.2))) := by
  intro sz
  refine Met.ofW (cc := cX2_lostWithout) (maxL := 4) (ret := (some .int)) (by decide) rfl ?_
  intro p e s m args below meth c s₁ B hml hv
  obtain ⟨rfl, hsz, hP, hK, hD0⟩ := hv
  have hx := B.exec; have hb := B.bytes; have hr := B.returns
  have hts := atoms_spec (ws := wsX2_lostWithout) B.pre
  have hown : s.vm.findClass RX2 = some m.cls := findClass_of_methodNamed B.named
  have hlocks := B.notSynchronized
  have hS : CallFix p m c cX2_lostWithout 4 s _ wsX2_lostWithout RX2 := ⟨hx, hb, hml, hown, hts⟩
  have hin_X2 : ∀ w ∈ wsX20, w ∈ wsX2_lostWithout := fun w h => (List.mem_cons_of_mem _ (List.mem_append_left _ (List.mem_append_right _ h)))
  subst hsz
  have hw := wk_start hP hD0
  have hA : ∀ q : Nat, s.heap.size ≤ q → va_A ((wX2 g a0 (a1 0) (a2 0)) ++ ((wX5 g a1 T1) ++ (wX5 g a2 T2))) s.heap.size q := fun q h => Or.inr h
  generalize va_A ((wX2 g a0 (a1 0) (a2 0)) ++ ((wX5 g a1 T1) ++ (wX5 g a2 T2))) s.heap.size = A at hw hA ⊢
  clear hP hD0
  have hl := lv_entry ([.ref (a0 0), .int p1, .int p2]) (n := 4) (Nat.le_of_ble_eq_true rfl)
  rw [lg_entry_eq]
  generalize (lg_sl ([.ref (a0 0), .int p1, .int p2]) ++ List.replicate (4 - (lg_sl ([.ref (a0 0), .int p1, .int p2])).length) Slot.unset).toArray = ls at hl ⊢
  have hl : lv_has ls 4 [(0, .ref (a0 0)), (1, .int p1), (2, .int p2)] := hl
  rw [f_X2_lostWithout] at hM
  refine lv_aload_n hx hb dX2_lostWithout_0 rfl (lv_at hl 0 rfl) ?_
  refine wk_get hx hb hts hin_X2 hown hK hw.1 2 0 1 (.ref (a2 0)) rfl rfl (by decide) (mi 1 rfl) rfl rfl dX2_lostWithout_1 ?_
  refine lv_aload_n hx hb dX2_lostWithout_4 rfl (lv_at hl 0 rfl) ?_
  refine wk_get hx hb hts hin_X2 hown hK hw.1 2 0 0 (.ref (a1 0)) rfl rfl (by decide) (mi 2 rfl) rfl rfl dX2_lostWithout_5 ?_
  obtain ⟨q2, h1, hM⟩ := bd hM
  refine rVWp (wc := ((wX5 g a2 T2) ++ (wX5 g a1 T1))) (wq := ((wX2 g a0 (a1 0) (a2 0)) ++ ((wX5 g a1 T1) ++ (wX5 g a2 q2)))) (As := [.ref (a1 0)]) (rest := []) (q0 := 0) hS (c_X5_become l g a2 a1 T2 T1 h1) gX2_lostWithout_X5_become rfl hd_X5_become ⟨Nat.le_of_ble_eq_true rfl, Nat.le_of_ble_eq_true rfl⟩ hK hw hA (pm_3_2_1 _ _ _) rfl (pm_3_2_1 _ _ _) rfl rfl rfl rfl hl.1 rfl (Nat.le_of_ble_eq_true rfl) dX2_lostWithout_8 ⟨Nat.zero_le _, Nat.zero_le _⟩ (fun H locs hw => ?_)
  refine lv_aload_n hx hb dX2_lostWithout_11 rfl (lv_at hl 0 rfl) ?_
  refine lv_iload_n hx hb dX2_lostWithout_12 rfl (lv_at hl 1 rfl) ?_
  refine lv_iload_n hx hb dX2_lostWithout_13 rfl (lv_at hl 2 rfl) ?_
  obtain ⟨q4, h3, hM⟩ := bd hM
  refine rVWp (wc := ((wX2 g a0 (a1 0) (a2 0)) ++ ((wX5 g a1 T1) ++ (wX5 g a2 q2)))) (wq := ((wX2 g a0 (a1 0) (a2 0)) ++ ((wX5 g a1 T1) ++ (wX5 g a2 q4.2)))) (As := [.int p1, .int p2]) (rest := []) (q0 := 0) hS (c_X2_knownToOthersThen l g a0 a1 a2 T1 q2 p1 p2 h3) gX2_lostWithout_X2_knownToOthersThen rfl hd_X2_knownToOthersThen ⟨Nat.le_of_ble_eq_true rfl, Nat.le_of_ble_eq_true rfl⟩ hK hw hA (pm_3_0_1_2 _ _ _) rfl (pm_3_0_1_2 _ _ _) rfl rfl rfl rfl hl.1 rfl (Nat.le_of_ble_eq_true rfl) dX2_lostWithout_14 ⟨Nat.zero_le _, Nat.zero_le _⟩ (fun H locs hw => ?_)
  refine lv_istore_n (lv' := [(3, .int q4.1), (0, .ref (a0 0)), (1, .int p1), (2, .int p2)]) hx hb dX2_lostWithout_17 rfl hl (by decide) rfl (fun ls hl => ?_)
  refine lv_aload_n hx hb dX2_lostWithout_18 rfl (lv_at hl 1 rfl) ?_
  refine wk_get hx hb hts hin_X2 hown hK hw.1 2 0 1 (.ref (a2 0)) rfl rfl (by decide) (mi 1 rfl) rfl rfl dX2_lostWithout_19 ?_
  refine lv_aload_n hx hb dX2_lostWithout_22 rfl (lv_at hl 1 rfl) ?_
  refine wk_get hx hb hts hin_X2 hown hK hw.1 2 0 0 (.ref (a1 0)) rfl rfl (by decide) (mi 2 rfl) rfl rfl dX2_lostWithout_23 ?_
  obtain ⟨q6, h5, hM⟩ := bd hM
  refine rVWp (wc := ((wX5 g a2 q4.2) ++ (wX5 g a1 T1))) (wq := ((wX2 g a0 (a1 0) (a2 0)) ++ ((wX5 g a1 T1) ++ (wX5 g a2 q6)))) (As := [.ref (a1 0)]) (rest := []) (q0 := 0) hS (c_X5_become l g a2 a1 q4.2 T1 h5) gX2_lostWithout_X5_become rfl hd_X5_become ⟨Nat.le_of_ble_eq_true rfl, Nat.le_of_ble_eq_true rfl⟩ hK hw hA (pm_3_2_1 _ _ _) rfl (pm_3_2_1 _ _ _) rfl rfl rfl rfl hl.1 rfl (Nat.le_of_ble_eq_true rfl) dX2_lostWithout_26 ⟨Nat.zero_le _, Nat.zero_le _⟩ (fun H locs hw => ?_)
  refine lv_aload_n hx hb dX2_lostWithout_29 rfl (lv_at hl 1 rfl) ?_
  refine wk_get hx hb hts hin_X2 hown hK hw.1 2 0 1 (.ref (a2 0)) rfl rfl (by decide) (mi 1 rfl) rfl rfl dX2_lostWithout_30 ?_
  refine lv_iload_n hx hb dX2_lostWithout_33 rfl (lv_at hl 2 rfl) ?_
  obtain ⟨q8, h7, hM⟩ := bd hM
  refine rVWp (wc := (wX5 g a2 q6)) (wq := ((wX2 g a0 (a1 0) (a2 0)) ++ ((wX5 g a1 T1) ++ (wX5 g a2 q8)))) (As := [.int p1]) (rest := []) (q0 := 0) hS (c_X5_cutOff l g a2 q6 p1 h7) gX2_lostWithout_X5_cutOff rfl hd_X5_cutOff ⟨Nat.le_of_ble_eq_true rfl, Nat.le_of_ble_eq_true rfl⟩ hK hw hA (pm_3_2 _ _ _) rfl (pm_3_2 _ _ _) rfl rfl rfl rfl hl.1 rfl (Nat.le_of_ble_eq_true rfl) dX2_lostWithout_34 ⟨Nat.zero_le _, Nat.zero_le _⟩ (fun H locs hw => ?_)
  refine lv_iload_n hx hb dX2_lostWithout_37 rfl (lv_at hl 0 rfl) ?_
  refine lv_aload_n hx hb dX2_lostWithout_38 rfl (lv_at hl 1 rfl) ?_
  refine lv_iload_n hx hb dX2_lostWithout_39 rfl (lv_at hl 2 rfl) ?_
  refine lv_iload_n hx hb dX2_lostWithout_40 rfl (lv_at hl 3 rfl) ?_
  obtain ⟨q10, h9, hM⟩ := bd hM
  refine rVWp (wc := ((wX2 g a0 (a1 0) (a2 0)) ++ ((wX5 g a1 T1) ++ (wX5 g a2 q8)))) (wq := ((wX2 g a0 (a1 0) (a2 0)) ++ ((wX5 g a1 T1) ++ (wX5 g a2 q10.2)))) (As := [.int p1, .int p2]) (rest := [.int q4.1]) (q0 := 0) hS (c_X2_knownToOthersThen l g a0 a1 a2 T1 q8 p1 p2 h9) gX2_lostWithout_X2_knownToOthersThen rfl hd_X2_knownToOthersThen ⟨Nat.le_of_ble_eq_true rfl, Nat.le_of_ble_eq_true rfl⟩ hK hw hA (pm_3_0_1_2 _ _ _) rfl (pm_3_0_1_2 _ _ _) rfl rfl rfl rfl hl.1 rfl (Nat.le_of_ble_eq_true rfl) dX2_lostWithout_41 ⟨Nat.zero_le _, Nat.zero_le _⟩ (fun H locs hw => ?_)
  refine lv_isub hx hb dX2_lostWithout_44 ?_
  obtain rfl := Option.some.inj hM
  exact W.iret hx hb hr (fun t ht _ => ⟨rfl, by rw [ht]; exact hw.1, hw.2.2.F ht⟩) hw.2.2.2.2 dX2_lostWithout_45
theorem hd_X2_untilKnown : yX2_untilKnown.cls = RX2 ∧ yX2_untilKnown.cls ≠ "java/lang/invoke/MethodHandle" ∧ yX2_untilKnown.cls ≠ "java/lang/invoke/VarHandle" ∧ (parseMethodDescriptor yX2_untilKnown.desc).map (fun d => d.parameters.length) = some 2 := by decide +kernel
set_option maxHeartbeats 4000000 in
set_option maxRecDepth 100000 in
theorem c_X2_untilKnown (l : Launch) (g : Gm) (a0 : Nat → Nat) (a1 : Nat → Nat) (a2 : Nat → Nat) (T1 : TS) (T2 : TS) (p1 : Int32) (p2 : Int32) {q : (Int32 × TS)} (hM : f_X2_untilKnown T1 T2 p1 p2 = some q) : MW l yX2_untilKnown wsX2_untilKnown 3 101 g [.ref (a0 0), .int p1, .int p2] ((wX2 g a0 (a1 0) (a2 0)) ++ ((wX5 g a1 T1) ++ (wX5 g a2 T2))) (some (.int q.1)) ((wX2 g a0 (a1 0) (a2 0)) ++ ((wX5 g a1 T1) ++ (wX5 g a2 q.2))) := by
  intro sz
  refine Met.ofW (cc := cX2_untilKnown) (maxL := 5) (ret := (some .int)) (by decide) rfl ?_
  intro p e s m args below meth c s₁ B hml hv
  obtain ⟨rfl, hsz, hP, hK, hD0⟩ := hv
  have hx := B.exec; have hb := B.bytes; have hr := B.returns
  have hts := atoms_spec (ws := wsX2_untilKnown) B.pre
  have hown : s.vm.findClass RX2 = some m.cls := findClass_of_methodNamed B.named
  have hlocks := B.notSynchronized
  have hS : CallFix p m c cX2_untilKnown 5 s _ wsX2_untilKnown RX2 := ⟨hx, hb, hml, hown, hts⟩
  have hin_X2 : ∀ w ∈ wsX20, w ∈ wsX2_untilKnown := fun w h => (List.mem_cons_of_mem _ (List.mem_append_left _ (List.mem_append_right _ h)))
  subst hsz
  have hw := wk_start hP hD0
  have hA : ∀ q : Nat, s.heap.size ≤ q → va_A ((wX2 g a0 (a1 0) (a2 0)) ++ ((wX5 g a1 T1) ++ (wX5 g a2 T2))) s.heap.size q := fun q h => Or.inr h
  generalize va_A ((wX2 g a0 (a1 0) (a2 0)) ++ ((wX5 g a1 T1) ++ (wX5 g a2 T2))) s.heap.size = A at hw hA ⊢
  clear hP hD0
  have hl := lv_entry ([.ref (a0 0), .int p1, .int p2]) (n := 5) (Nat.le_of_ble_eq_true rfl)
  rw [lg_entry_eq]
  generalize (lg_sl ([.ref (a0 0), .int p1, .int p2]) ++ List.replicate (5 - (lg_sl ([.ref (a0 0), .int p1, .int p2])).length) Slot.unset).toArray = ls at hl ⊢
  have hl : lv_has ls 5 [(0, .ref (a0 0)), (1, .int p1), (2, .int p2)] := hl
  rw [f_X2_untilKnown] at hM
  refine lv_aload_n hx hb dX2_untilKnown_0 rfl (lv_at hl 0 rfl) ?_
  refine wk_get hx hb hts hin_X2 hown hK hw.1 2 0 1 (.ref (a2 0)) rfl rfl (by decide) (mi 1 rfl) rfl rfl dX2_untilKnown_1 ?_
  refine lv_aload_n hx hb dX2_untilKnown_4 rfl (lv_at hl 0 rfl) ?_
  refine wk_get hx hb hts hin_X2 hown hK hw.1 2 0 0 (.ref (a1 0)) rfl rfl (by decide) (mi 2 rfl) rfl rfl dX2_untilKnown_5 ?_
  obtain ⟨q2, h1, hM⟩ := bd hM
  refine rVWp (wc := ((wX5 g a2 T2) ++ (wX5 g a1 T1))) (wq := ((wX2 g a0 (a1 0) (a2 0)) ++ ((wX5 g a1 T1) ++ (wX5 g a2 q2)))) (As := [.ref (a1 0)]) (rest := []) (q0 := 0) hS (c_X5_become l g a2 a1 T2 T1 h1) gX2_untilKnown_X5_become rfl hd_X5_become ⟨Nat.le_of_ble_eq_true rfl, Nat.le_of_ble_eq_true rfl⟩ hK hw hA (pm_3_2_1 _ _ _) rfl (pm_3_2_1 _ _ _) rfl rfl rfl rfl hl.1 rfl (Nat.le_of_ble_eq_true rfl) dX2_untilKnown_8 ⟨Nat.zero_le _, Nat.zero_le _⟩ (fun H locs hw => ?_)
  refine lv_iconst (v := (1 : Int32)) hx hb dX2_untilKnown_11 (by decide) ?_
  refine lv_istore_n (lv' := [(3, .int (1 : Int32)), (0, .ref (a0 0)), (1, .int p1), (2, .int p2)]) hx hb dX2_untilKnown_12 rfl hl (by decide) rfl (fun ls hl => ?_)
  refine lv_iconst (v := (0 : Int32)) hx hb dX2_untilKnown_13 (by decide) ?_
  refine lv_istore (lv' := [(4, .int (0 : Int32)), (3, .int (1 : Int32)), (0, .ref (a0 0)), (1, .int p1), (2, .int p2)]) hx hb dX2_untilKnown_14 hl (by decide) rfl (fun ls hl => ?_)
  obtain ⟨q6, hL16, hM16⟩ := bd hM
  have hJ16 : ∀ (q6x : TS), q6 = .inr q6x → ∀ (H : Heap) (locs : List Loc), Wk g A s.heap H locs ((wX2 g a0 (a1 0) (a2 0)) ++ ((wX5 g a1 T1) ++ (wX5 g a2 q6x))) → ∀ (ls : Array Slot), lv_has ls 5 [] → W p l e (headSpec wsX2_untilKnown ({ frames := 3, cells := 0, slots := 0, locals := 101 } : Room)).room s m ([.ref (a0 0), .int p1, .int p2] : List Value).toArray below meth c H locs 0 0 (MQ below (QcW g (some (.int q.1)) ((wX2 g a0 (a1 0) (a2 0)) ++ ((wX5 g a1 T1) ++ (wX5 g a2 q.2))) A) ([.ref (a0 0), .int p1, .int p2] : List Value).toArray s 0 0 A) (F0 m 59 ls []) := by
    intro q6x hX16 H locs hw ls hl
    rw [hX16] at hM16
    have hM := eo_inr hM16
    refine lv_iconst (v := (-1 : Int32)) hx hb dX2_untilKnown_59 (by decide) ?_
    obtain rfl := Option.some.inj hM
    exact W.iret hx hb hr (fun t ht _ => ⟨rfl, by rw [ht]; exact hw.1, hw.2.2.F ht⟩) hw.2.2.2.2 dX2_untilKnown_60
  have hW16 : ∀ (n : Nat) (v4_3 : Int32) (v3_4 : Int32) (TL5 : TS), L_X2_untilKnown_16 p1 p2 n v4_3 v3_4 TL5 = some q6 → ∀ (H : Heap) (locs : List Loc), Wk g A s.heap H locs ((wX2 g a0 (a1 0) (a2 0)) ++ ((wX5 g a1 T1) ++ (wX5 g a2 TL5))) → ∀ (ls : Array Slot), lv_has ls 5 [(4, .int v4_3), (3, .int v3_4), (0, .ref (a0 0)), (1, .int p1), (2, .int p2)] → W p l e (headSpec wsX2_untilKnown ({ frames := 3, cells := 0, slots := 0, locals := 101 } : Room)).room s m ([.ref (a0 0), .int p1, .int p2] : List Value).toArray below meth c H locs 0 0 (MQ below (QcW g (some (.int q.1)) ((wX2 g a0 (a1 0) (a2 0)) ++ ((wX5 g a1 T1) ++ (wX5 g a2 q.2))) A) ([.ref (a0 0), .int p1, .int p2] : List Value).toArray s 0 0 A) (F0 m 16 ls []) := by
    intro n
    induction n with
    | zero => intro v4_3 v3_4 TL5 hM; rw [L_X2_untilKnown_16] at hM; exact nn hM
    | succ n ih16 =>
      intro v4_3 v3_4 TL5 hM H locs hw ls hl
      rw [L_X2_untilKnown_16] at hM
      refine lv_iload hx hb dX2_untilKnown_16 (lv_at hl 0 rfl) ?_
      refine lv_bipush (v := (20 : Int32)) hx hb dX2_untilKnown_18 (by decide) ?_
      refine lv_icmp_gt (tgt := 59) hx hb dX2_untilKnown_20 (by decide) (fun c7 => ?_) (fun c7 => ?_)
      · replace hM := itp c7 hM
        exact hJ16 _ (Option.some.inj hM).symm _ _ hw _ (lv_sub hl [] rfl)
      · replace hM := itn c7 hM
        refine lv_iload_n hx hb dX2_untilKnown_23 rfl (lv_at hl 1 rfl) ?_
        refine lv_if_eq (tgt := 59) hx hb dX2_untilKnown_24 (by decide) (fun c8 => ?_) (fun c8 => ?_)
        · replace hM := itp c8 hM
          exact hJ16 _ (Option.some.inj hM).symm _ _ hw _ (lv_sub hl [] rfl)
        · replace hM := itn c8 hM
          refine lv_aload_n hx hb dX2_untilKnown_27 rfl (lv_at hl 2 rfl) ?_
          refine wk_get hx hb hts hin_X2 hown hK hw.1 2 0 1 (.ref (a2 0)) rfl rfl (by decide) (mi 1 rfl) rfl rfl dX2_untilKnown_28 ?_
          refine lv_iload_n hx hb dX2_untilKnown_31 rfl (lv_at hl 3 rfl) ?_
          obtain ⟨q10, h9, hM⟩ := bd hM
          refine rVR (wc := (wX5 g a2 TL5)) (As := [.int p1]) (rest := []) (q0 := 0) hS (c_X5_knownTo l g a2 TL5 p1 h9) gX2_untilKnown_X5_knownTo rfl hd_X5_knownTo ⟨Nat.le_of_ble_eq_true rfl, Nat.le_of_ble_eq_true rfl⟩ hK (va_P.pm hw.1 (pm_3_2 _ _ _)) rfl rfl rfl rfl hl.1 rfl (Nat.le_of_ble_eq_true rfl) dX2_untilKnown_32 ⟨Nat.zero_le _, Nat.zero_le _⟩ ?_
          refine lv_iload_n hx hb dX2_untilKnown_35 rfl (lv_at hl 4 rfl) ?_
          refine rNR (wc := ([] : va_W)) (As := [.int q10, .int p2]) (rest := []) hS (c_X6_has l g q10 p2) gX2_untilKnown_X6_has_n36 rfl (mi 29 rfl) (mi 30 rfl) 10 rfl hd_X6_has ⟨Nat.le_of_ble_eq_true rfl, Nat.le_of_ble_eq_true rfl⟩ hK (hP_nil) rfl hl.1 rfl (Nat.le_of_ble_eq_true rfl) dX2_untilKnown_36 ⟨Nat.zero_le _, Nat.zero_le _⟩ ?_
          refine lv_if_eq (tgt := 45) hx hb dX2_untilKnown_39 (by decide) (fun c12 => ?_) (fun c12 => ?_)
          · replace hM := itp c12 hM
            refine lv_aload_n hx hb dX2_untilKnown_45 rfl (lv_at hl 2 rfl) ?_
            refine wk_get hx hb hts hin_X2 hown hK hw.1 2 0 1 (.ref (a2 0)) rfl rfl (by decide) (mi 1 rfl) rfl rfl dX2_untilKnown_46 ?_
            obtain ⟨q14, h13, hM⟩ := bd hM
            refine rVWp (wc := (wX5 g a2 TL5)) (wq := ((wX2 g a0 (a1 0) (a2 0)) ++ ((wX5 g a1 T1) ++ (wX5 g a2 q14.2)))) (As := []) (rest := []) (q0 := 0) hS (c_X5_passRound l g a2 TL5 h13) gX2_untilKnown_X5_passRound rfl hd_X5_passRound ⟨Nat.le_of_ble_eq_true rfl, Nat.le_of_ble_eq_true rfl⟩ hK hw hA (pm_3_2 _ _ _) rfl (pm_3_2 _ _ _) rfl rfl rfl rfl hl.1 rfl (Nat.le_of_ble_eq_true rfl) dX2_untilKnown_49 ⟨Nat.zero_le _, Nat.zero_le _⟩ (fun H locs hw => ?_)
            refine lv_istore_n (lv' := [(3, .int q14.1), (4, .int v4_3), (0, .ref (a0 0)), (1, .int p1), (2, .int p2)]) hx hb dX2_untilKnown_52 rfl hl (by decide) rfl (fun ls hl => ?_)
            refine lv_iinc (v := (v4_3 + (1 : Int32))) (lv' := [(4, .int (v4_3 + (1 : Int32))), (3, .int q14.1), (0, .ref (a0 0)), (1, .int p1), (2, .int p2)]) hx hb dX2_untilKnown_53 hl (k := 1) rfl rfl (by decide) rfl (fun ls hl => ?_)
            refine lv_goto (tgt := 16) hx hb dX2_untilKnown_56 (by decide) ?_
            exact ih16 (v4_3 + (1 : Int32)) q14.1 q14.2 hM _ _ hw _ (lv_sub hl [0, 1, 2, 3, 4] rfl)
          · replace hM := itn c12 hM
            refine lv_iload hx hb dX2_untilKnown_42 (lv_at hl 0 rfl) ?_
            have hE := Option.some.inj hM
            have hM16' := hM16
            rw [← hE] at hM16'
            obtain rfl := eo_inl hM16'
            exact W.iret hx hb hr (fun t ht _ => ⟨rfl, by rw [ht]; exact hw.1, hw.2.2.F ht⟩) hw.2.2.2.2 dX2_untilKnown_44
  exact hW16 300 (0 : Int32) (1 : Int32) q2 hL16 _ _ hw _ (lv_sub hl [0, 1, 2, 3, 4] rfl)
theorem hd_X2_untilStill : yX2_untilStill.cls = RX2 ∧ yX2_untilStill.cls ≠ "java/lang/invoke/MethodHandle" ∧ yX2_untilStill.cls ≠ "java/lang/invoke/VarHandle" ∧ (parseMethodDescriptor yX2_untilStill.desc).map (fun d => d.parameters.length) = some 0 := by decide +kernel
set_option maxHeartbeats 4000000 in
set_option maxRecDepth 100000 in
theorem c_X2_untilStill (l : Launch) (g : Gm) (a0 : Nat → Nat) (a1 : Nat → Nat) (a2 : Nat → Nat) (T1 : TS) (T2 : TS) {q : (Int32 × TS)} (hM : f_X2_untilStill T1 T2 = some q) : MW l yX2_untilStill wsX2_untilStill 3 101 g [.ref (a0 0)] ((wX2 g a0 (a1 0) (a2 0)) ++ ((wX5 g a1 T1) ++ (wX5 g a2 T2))) (some (.int q.1)) ((wX2 g a0 (a1 0) (a2 0)) ++ ((wX5 g a1 T1) ++ (wX5 g a2 q.2))) := by
  intro sz
  refine Met.ofW (cc := cX2_untilStill) (maxL := 2) (ret := (some .int)) (by decide) rfl ?_
  intro p e s m args below meth c s₁ B hml hv
  obtain ⟨rfl, hsz, hP, hK, hD0⟩ := hv
  have hx := B.exec; have hb := B.bytes; have hr := B.returns
  have hts := atoms_spec (ws := wsX2_untilStill) B.pre
  have hown : s.vm.findClass RX2 = some m.cls := findClass_of_methodNamed B.named
  have hlocks := B.notSynchronized
  have hS : CallFix p m c cX2_untilStill 2 s _ wsX2_untilStill RX2 := ⟨hx, hb, hml, hown, hts⟩
  have hin_X2 : ∀ w ∈ wsX20, w ∈ wsX2_untilStill := fun w h => (List.mem_cons_of_mem _ (List.mem_append_left _ (List.mem_append_right _ h)))
  subst hsz
  have hw := wk_start hP hD0
  have hA : ∀ q : Nat, s.heap.size ≤ q → va_A ((wX2 g a0 (a1 0) (a2 0)) ++ ((wX5 g a1 T1) ++ (wX5 g a2 T2))) s.heap.size q := fun q h => Or.inr h
  generalize va_A ((wX2 g a0 (a1 0) (a2 0)) ++ ((wX5 g a1 T1) ++ (wX5 g a2 T2))) s.heap.size = A at hw hA ⊢
  clear hP hD0
  have hl := lv_entry ([.ref (a0 0)]) (n := 2) (Nat.le_of_ble_eq_true rfl)
  rw [lg_entry_eq]
  generalize (lg_sl ([.ref (a0 0)]) ++ List.replicate (2 - (lg_sl ([.ref (a0 0)])).length) Slot.unset).toArray = ls at hl ⊢
  have hl : lv_has ls 2 [(0, .ref (a0 0))] := hl
  rw [f_X2_untilStill] at hM
  refine lv_aload_n hx hb dX2_untilStill_0 rfl (lv_at hl 0 rfl) ?_
  refine wk_get hx hb hts hin_X2 hown hK hw.1 2 0 1 (.ref (a2 0)) rfl rfl (by decide) (mi 1 rfl) rfl rfl dX2_untilStill_1 ?_
  refine lv_aload_n hx hb dX2_untilStill_4 rfl (lv_at hl 0 rfl) ?_
  refine wk_get hx hb hts hin_X2 hown hK hw.1 2 0 0 (.ref (a1 0)) rfl rfl (by decide) (mi 2 rfl) rfl rfl dX2_untilStill_5 ?_
  obtain ⟨q2, h1, hM⟩ := bd hM
  refine rVWp (wc := ((wX5 g a2 T2) ++ (wX5 g a1 T1))) (wq := ((wX2 g a0 (a1 0) (a2 0)) ++ ((wX5 g a1 T1) ++ (wX5 g a2 q2)))) (As := [.ref (a1 0)]) (rest := []) (q0 := 0) hS (c_X5_become l g a2 a1 T2 T1 h1) gX2_untilStill_X5_become rfl hd_X5_become ⟨Nat.le_of_ble_eq_true rfl, Nat.le_of_ble_eq_true rfl⟩ hK hw hA (pm_3_2_1 _ _ _) rfl (pm_3_2_1 _ _ _) rfl rfl rfl rfl hl.1 rfl (Nat.le_of_ble_eq_true rfl) dX2_untilStill_8 ⟨Nat.zero_le _, Nat.zero_le _⟩ (fun H locs hw => ?_)
  refine lv_iconst (v := (0 : Int32)) hx hb dX2_untilStill_11 (by decide) ?_
  refine lv_istore_n (lv' := [(1, .int (0 : Int32)), (0, .ref (a0 0))]) hx hb dX2_untilStill_12 rfl hl (by decide) rfl (fun ls hl => ?_)
  obtain ⟨q5, hL13, hM13⟩ := bd hM
  have hJ13 : ∀ (q5x : TS), q5 = .inr q5x → ∀ (H : Heap) (locs : List Loc), Wk g A s.heap H locs ((wX2 g a0 (a1 0) (a2 0)) ++ ((wX5 g a1 T1) ++ (wX5 g a2 q5x))) → ∀ (ls : Array Slot), lv_has ls 2 [] → W p l e (headSpec wsX2_untilStill ({ frames := 3, cells := 0, slots := 0, locals := 101 } : Room)).room s m ([.ref (a0 0)] : List Value).toArray below meth c H locs 0 0 (MQ below (QcW g (some (.int q.1)) ((wX2 g a0 (a1 0) (a2 0)) ++ ((wX5 g a1 T1) ++ (wX5 g a2 q.2))) A) ([.ref (a0 0)] : List Value).toArray s 0 0 A) (F0 m 37 ls []) := by
    intro q5x hX13 H locs hw ls hl
    rw [hX13] at hM13
    have hM := eo_inr hM13
    refine lv_bipush (v := (20 : Int32)) hx hb dX2_untilStill_37 (by decide) ?_
    obtain rfl := Option.some.inj hM
    exact W.iret hx hb hr (fun t ht _ => ⟨rfl, by rw [ht]; exact hw.1, hw.2.2.F ht⟩) hw.2.2.2.2 dX2_untilStill_39
  have hW13 : ∀ (n : Nat) (v1_3 : Int32) (TL4 : TS), L_X2_untilStill_13 n v1_3 TL4 = some q5 → ∀ (H : Heap) (locs : List Loc), Wk g A s.heap H locs ((wX2 g a0 (a1 0) (a2 0)) ++ ((wX5 g a1 T1) ++ (wX5 g a2 TL4))) → ∀ (ls : Array Slot), lv_has ls 2 [(1, .int v1_3), (0, .ref (a0 0))] → W p l e (headSpec wsX2_untilStill ({ frames := 3, cells := 0, slots := 0, locals := 101 } : Room)).room s m ([.ref (a0 0)] : List Value).toArray below meth c H locs 0 0 (MQ below (QcW g (some (.int q.1)) ((wX2 g a0 (a1 0) (a2 0)) ++ ((wX5 g a1 T1) ++ (wX5 g a2 q.2))) A) ([.ref (a0 0)] : List Value).toArray s 0 0 A) (F0 m 13 ls []) := by
    intro n
    induction n with
    | zero => intro v1_3 TL4 hM; rw [L_X2_untilStill_13] at hM; exact nn hM
    | succ n ih13 =>
      intro v1_3 TL4 hM H locs hw ls hl
      rw [L_X2_untilStill_13] at hM
      refine lv_iload_n hx hb dX2_untilStill_13 rfl (lv_at hl 0 rfl) ?_
      refine lv_bipush (v := (20 : Int32)) hx hb dX2_untilStill_14 (by decide) ?_
      refine lv_icmp_ge (tgt := 37) hx hb dX2_untilStill_16 (by decide) (fun c6 => ?_) (fun c6 => ?_)
      · replace hM := itp c6 hM
        exact hJ13 _ (Option.some.inj hM).symm _ _ hw _ (lv_sub hl [] rfl)
      · replace hM := itn c6 hM
        refine lv_aload_n hx hb dX2_untilStill_19 rfl (lv_at hl 1 rfl) ?_
        refine wk_get hx hb hts hin_X2 hown hK hw.1 2 0 1 (.ref (a2 0)) rfl rfl (by decide) (mi 1 rfl) rfl rfl dX2_untilStill_20 ?_
        obtain ⟨q8, h7, hM⟩ := bd hM
        refine rVWp (wc := (wX5 g a2 TL4)) (wq := ((wX2 g a0 (a1 0) (a2 0)) ++ ((wX5 g a1 T1) ++ (wX5 g a2 q8.2)))) (As := []) (rest := []) (q0 := 0) hS (c_X5_passRound l g a2 TL4 h7) gX2_untilStill_X5_passRound rfl hd_X5_passRound ⟨Nat.le_of_ble_eq_true rfl, Nat.le_of_ble_eq_true rfl⟩ hK hw hA (pm_3_2 _ _ _) rfl (pm_3_2 _ _ _) rfl rfl rfl rfl hl.1 rfl (Nat.le_of_ble_eq_true rfl) dX2_untilStill_23 ⟨Nat.zero_le _, Nat.zero_le _⟩ (fun H locs hw => ?_)
        refine lv_if_ne (tgt := 31) hx hb dX2_untilStill_26 (by decide) (fun c9 => ?_) (fun c9 => ?_)
        · replace hM := itn c9 hM
          refine lv_iinc (v := (v1_3 + (1 : Int32))) (lv' := [(1, .int (v1_3 + (1 : Int32))), (0, .ref (a0 0))]) hx hb dX2_untilStill_31 hl (k := 0) rfl rfl (by decide) rfl (fun ls hl => ?_)
          refine lv_goto (tgt := 13) hx hb dX2_untilStill_34 (by decide) ?_
          exact ih13 (v1_3 + (1 : Int32)) q8.2 hM _ _ hw _ (lv_sub hl [0, 1] rfl)
        · replace hM := itp c9 hM
          refine lv_iload_n hx hb dX2_untilStill_29 rfl (lv_at hl 0 rfl) ?_
          have hE := Option.some.inj hM
          have hM13' := hM13
          rw [← hE] at hM13'
          obtain rfl := eo_inl hM13'
          exact W.iret hx hb hr (fun t ht _ => ⟨rfl, by rw [ht]; exact hw.1, hw.2.2.F ht⟩) hw.2.2.2.2 dX2_untilStill_30
  exact hW13 300 (0 : Int32) q2 hL13 _ _ hw _ (lv_sub hl [0, 1] rfl)
theorem hd_X1_knownWhenAllIsSaid : yX1_knownWhenAllIsSaid.cls = RX1 ∧ yX1_knownWhenAllIsSaid.cls ≠ "java/lang/invoke/MethodHandle" ∧ yX1_knownWhenAllIsSaid.cls ≠ "java/lang/invoke/VarHandle" ∧ (parseMethodDescriptor yX1_knownWhenAllIsSaid.desc).map (fun d => d.parameters.length) = some 0 := by decide +kernel
set_option maxHeartbeats 4000000 in
set_option maxRecDepth 100000 in
theorem c_X1_knownWhenAllIsSaid (l : Launch) (g : Gm) (a0 : Nat → Nat) (a1 : Nat → Nat) (a2 : Nat → Nat) (O0 : TS) (B0 : TS) (T1 : TS) (T2 : TS) {q : (Int32 × TS)} (hM : f_X1_knownWhenAllIsSaid O0 B0 T1 T2 = some q) : MW l yX1_knownWhenAllIsSaid wsX1_knownWhenAllIsSaid 4 101 g [.ref (a0 0)] ((wX1 g a0 (a1 0) (a2 0) O0 B0) ++ ((wX5 g a1 T1) ++ (wX5 g a2 T2))) (some (.int q.1)) ((wX1 g a0 (a1 0) (a2 0) O0 B0) ++ ((wX5 g a1 T1) ++ (wX5 g a2 q.2))) := by
  intro sz
  refine Met.ofW (cc := cX1_knownWhenAllIsSaid) (maxL := 1) (ret := (some .int)) (by decide) rfl ?_
  intro p e s m args below meth c s₁ B hml hv
  obtain ⟨rfl, hsz, hP, hK, hD0⟩ := hv
  have hx := B.exec; have hb := B.bytes; have hr := B.returns
  have hts := atoms_spec (ws := wsX1_knownWhenAllIsSaid) B.pre
  have hown : s.vm.findClass RX1 = some m.cls := findClass_of_methodNamed B.named
  have hlocks := B.notSynchronized
  have hS : CallFix p m c cX1_knownWhenAllIsSaid 1 s _ wsX1_knownWhenAllIsSaid RX1 := ⟨hx, hb, hml, hown, hts⟩
  have hin_X1 : ∀ w ∈ wsX10, w ∈ wsX1_knownWhenAllIsSaid := fun w h => (List.mem_cons_of_mem _ (List.mem_append_left _ (List.mem_append_right _ h)))
  have hin_X5 : ∀ w ∈ wsX50, w ∈ wsX1_knownWhenAllIsSaid := fun w h => (List.mem_cons_of_mem _ (List.mem_append_right _ h))
  subst hsz
  have hw := wk_start hP hD0
  have hA : ∀ q : Nat, s.heap.size ≤ q → va_A ((wX1 g a0 (a1 0) (a2 0) O0 B0) ++ ((wX5 g a1 T1) ++ (wX5 g a2 T2))) s.heap.size q := fun q h => Or.inr h
  generalize va_A ((wX1 g a0 (a1 0) (a2 0) O0 B0) ++ ((wX5 g a1 T1) ++ (wX5 g a2 T2))) s.heap.size = A at hw hA ⊢
  clear hP hD0
  have hl := lv_entry ([.ref (a0 0)]) (n := 1) (Nat.le_of_ble_eq_true rfl)
  rw [lg_entry_eq]
  generalize (lg_sl ([.ref (a0 0)]) ++ List.replicate (1 - (lg_sl ([.ref (a0 0)])).length) Slot.unset).toArray = ls at hl ⊢
  have hl : lv_has ls 1 [(0, .ref (a0 0))] := hl
  rw [f_X1_knownWhenAllIsSaid] at hM
  refine lv_aload_n hx hb dX1_knownWhenAllIsSaid_0 rfl (lv_at hl 0 rfl) ?_
  refine wk_get hx hb hts hin_X1 hown hK hw.1 1 0 1 (.ref (a2 0)) rfl rfl (by decide) (mi 1 rfl) rfl rfl dX1_knownWhenAllIsSaid_1 ?_
  refine lv_aload_n hx hb dX1_knownWhenAllIsSaid_4 rfl (lv_at hl 0 rfl) ?_
  refine wk_get hx hb hts hin_X1 hown hK hw.1 1 0 0 (.ref (a1 0)) rfl rfl (by decide) (mi 2 rfl) rfl rfl dX1_knownWhenAllIsSaid_5 ?_
  obtain ⟨q2, h1, hM⟩ := bd hM
  refine rVWp (wc := ((wX5 g a2 T2) ++ (wX5 g a1 T1))) (wq := ((wX1 g a0 (a1 0) (a2 0) O0 B0) ++ ((wX5 g a1 T1) ++ (wX5 g a2 q2)))) (As := [.ref (a1 0)]) (rest := []) (q0 := 0) hS (c_X5_become l g a2 a1 T2 T1 h1) gX1_knownWhenAllIsSaid_X5_become rfl hd_X5_become ⟨Nat.le_of_ble_eq_true rfl, Nat.le_of_ble_eq_true rfl⟩ hK hw hA (pm_3_2_1 _ _ _) rfl (pm_3_2_1 _ _ _) rfl rfl rfl rfl hl.1 rfl (Nat.le_of_ble_eq_true rfl) dX1_knownWhenAllIsSaid_8 ⟨Nat.zero_le _, Nat.zero_le _⟩ (fun H locs hw => ?_)
  refine lv_aload_n hx hb dX1_knownWhenAllIsSaid_11 rfl (lv_at hl 0 rfl) ?_
  refine wk_get hx hb hts hin_X1 hown hK hw.1 1 0 1 (.ref (a2 0)) rfl rfl (by decide) (mi 1 rfl) rfl rfl dX1_knownWhenAllIsSaid_12 ?_
  refine lv_iconst (v := (0 : Int32)) hx hb dX1_knownWhenAllIsSaid_15 (by decide) ?_
  refine wk_put (wq := ((wX1 g a0 (a1 0) (a2 0) O0 B0) ++ ((wX5 g a1 T1) ++ (wX5 g a2 (up q2 3 (fun _ => (0 : Int32))))))) hx hb hts hin_X5 tyX5 tyX5_ok nmX5 hown hK hw 5 19 3 rfl rfl (by decide) (mi 3 rfl) rfl rfl rfl rfl (Nat.le_of_ble_eq_true rfl) dX1_knownWhenAllIsSaid_16 rfl (fun H locs hw => ?_)
  refine lv_aload_n hx hb dX1_knownWhenAllIsSaid_19 rfl (lv_at hl 0 rfl) ?_
  refine wk_get hx hb hts hin_X1 hown hK hw.1 1 0 1 (.ref (a2 0)) rfl rfl (by decide) (mi 1 rfl) rfl rfl dX1_knownWhenAllIsSaid_20 ?_
  refine lv_bipush (v := (57 : Int32)) hx hb dX1_knownWhenAllIsSaid_23 (by decide) ?_
  obtain ⟨q4, h3, hM⟩ := bd hM
  refine rVWp (wc := (wX5 g a2 (up q2 3 (fun _ => (0 : Int32))))) (wq := ((wX1 g a0 (a1 0) (a2 0) O0 B0) ++ ((wX5 g a1 T1) ++ (wX5 g a2 q4)))) (As := [.int (57 : Int32)]) (rest := []) (q0 := 0) hS (c_X5_passRounds l g a2 (up q2 3 (fun _ => (0 : Int32))) (57 : Int32) h3) gX1_knownWhenAllIsSaid_X5_passRounds rfl hd_X5_passRounds ⟨Nat.le_of_ble_eq_true rfl, Nat.le_of_ble_eq_true rfl⟩ hK hw hA (pm_3_2 _ _ _) rfl (pm_3_2 _ _ _) rfl rfl rfl rfl hl.1 rfl (Nat.le_of_ble_eq_true rfl) dX1_knownWhenAllIsSaid_25 ⟨Nat.zero_le _, Nat.zero_le _⟩ (fun H locs hw => ?_)
  refine lv_aload_n hx hb dX1_knownWhenAllIsSaid_28 rfl (lv_at hl 0 rfl) ?_
  refine wk_get hx hb hts hin_X1 hown hK hw.1 1 0 1 (.ref (a2 0)) rfl rfl (by decide) (mi 1 rfl) rfl rfl dX1_knownWhenAllIsSaid_29 ?_
  obtain ⟨q6, h5, hM⟩ := bd hM
  refine rVR (wc := (wX5 g a2 q4)) (As := []) (rest := []) (q0 := 0) hS (c_X5_knownInAll l g a2 q4 h5) gX1_knownWhenAllIsSaid_X5_knownInAll rfl hd_X5_knownInAll ⟨Nat.le_of_ble_eq_true rfl, Nat.le_of_ble_eq_true rfl⟩ hK (va_P.pm hw.1 (pm_3_2 _ _ _)) rfl rfl rfl rfl hl.1 rfl (Nat.le_of_ble_eq_true rfl) dX1_knownWhenAllIsSaid_32 ⟨Nat.zero_le _, Nat.zero_le _⟩ ?_
  obtain rfl := Option.some.inj hM
  exact W.iret hx hb hr (fun t ht _ => ⟨rfl, by rw [ht]; exact hw.1, hw.2.2.F ht⟩) hw.2.2.2.2 dX1_knownWhenAllIsSaid_35
theorem hd_X1_mostKnown : yX1_mostKnown.cls = RX1 ∧ yX1_mostKnown.cls ≠ "java/lang/invoke/MethodHandle" ∧ yX1_mostKnown.cls ≠ "java/lang/invoke/VarHandle" ∧ (parseMethodDescriptor yX1_mostKnown.desc).map (fun d => d.parameters.length) = some 0 := by decide +kernel
set_option maxHeartbeats 4000000 in
set_option maxRecDepth 100000 in
theorem c_X1_mostKnown (l : Launch) (g : Gm) (a0 : Nat → Nat) (a1 : Nat → Nat) (a2 : Nat → Nat) (O0 : TS) (B0 : TS) (T1 : TS) (T2 : TS) : MR l yX1_mostKnown wsX1_mostKnown 0 0 g [.ref (a0 0)] ((wX1 g a0 (a1 0) (a2 0) O0 B0) ++ ((wX5 g a1 T1) ++ (wX5 g a2 T2))) (some (.int (f_X1_mostKnown O0 B0 T1 T2))) := by
  refine Met.ofW (cc := cX1_mostKnown) (maxL := 1) (ret := (some .int)) (by decide) rfl ?_
  intro p e s m args below meth c s₁ B hml hv
  obtain ⟨rfl, hP, hK⟩ := hv
  have hx := B.exec; have hb := B.bytes; have hr := B.returns
  have hts := atoms_spec (ws := wsX1_mostKnown) B.pre
  have hown : s.vm.findClass RX1 = some m.cls := findClass_of_methodNamed B.named
  have hlocks := B.notSynchronized
  have hS : CallFix p m c cX1_mostKnown 1 s _ wsX1_mostKnown RX1 := ⟨hx, hb, hml, hown, hts⟩
  have hin_X1 : ∀ w ∈ wsX10, w ∈ wsX1_mostKnown := fun w h => (List.mem_cons_of_mem _ (List.mem_append_right _ h))
  have hl := lv_entry ([.ref (a0 0)]) (n := 1) (Nat.le_of_ble_eq_true rfl)
  rw [lg_entry_eq]
  generalize (lg_sl ([.ref (a0 0)]) ++ List.replicate (1 - (lg_sl ([.ref (a0 0)])).length) Slot.unset).toArray = ls at hl ⊢
  have hl : lv_has ls 1 [(0, .ref (a0 0))] := hl
  obtain ⟨rr, hM⟩ : ∃ rr, f_X1_mostKnown O0 B0 T1 T2 = rr := ⟨_, rfl⟩
  rw [hM]
  rw [f_X1_mostKnown] at hM
  refine lv_aload_n hx hb dX1_mostKnown_0 rfl (lv_at hl 0 rfl) ?_
  refine wk_get hx hb hts hin_X1 hown hK hP 1 0 5 (.int (O0 5 0)) rfl rfl (by decide) (mi 1 rfl) rfl rfl dX1_mostKnown_1 ?_
  subst hM
  exact W.iret hx hb hr (fun t ht _ => ⟨rfl, ht⟩) (fun q hq => by cases hq) dX1_mostKnown_4
