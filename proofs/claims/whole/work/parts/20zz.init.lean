theorem mk_X7_init (h0 q8 q9 q10 q11 q12 q13 q14 q16 q0 q1 q2 q3 q4 q5 q6 q7 q15 q17 q18 : Nat) (r_3 : Nat → Nat) : ∃ a : Nat → Nat, h0 = a 0 ∧ q8 = a 1 ∧ q9 = a 2 ∧ q10 = a 3 ∧ q11 = a 4 ∧ q12 = a 5 ∧ q13 = a 6 ∧ q14 = a 7 ∧ q16 = a 8 ∧ q0 = a 9 ∧ q1 = a 10 ∧ q2 = a 11 ∧ q3 = a 12 ∧ q4 = a 13 ∧ q5 = a 14 ∧ q6 = a 15 ∧ q7 = a 16 ∧ q15 = a 17 ∧ q17 = a 18 ∧ q18 = a 19 ∧ r_3 = (fun i => a (20 + i)) := ⟨fun k => match k with | 0 => h0 | 1 => q8 | 2 => q9 | 3 => q10 | 4 => q11 | 5 => q12 | 6 => q13 | 7 => q14 | 8 => q16 | 9 => q0 | 10 => q1 | 11 => q2 | 12 => q3 | 13 => q4 | 14 => q5 | 15 => q6 | 16 => q7 | 17 => q15 | 18 => q17 | 19 => q18 | k + 20 => r_3 k, rfl, rfl, rfl, rfl, rfl, rfl, rfl, rfl, rfl, rfl, rfl, rfl, rfl, rfl, rfl, rfl, rfl, rfl, rfl, rfl, funext fun i => by rw [Nat.add_comm]⟩
set_option maxRecDepth 100000 in
theorem pmE7 {α : Type} (b0 b1 b2 b3 b4 b5 b6 b7 b8 b9 b10 b11 b12 b13 b14 b15 b16 b17 b18 b19 b20 : List α) : List.Perm (b0 ++ (((((((((((((((((((b1 ++ b2) ++ b3) ++ b4) ++ b5) ++ b6) ++ b7) ++ b8) ++ b9) ++ b10) ++ b11) ++ b12) ++ b13) ++ b14) ++ b15) ++ b16) ++ b17) ++ b18) ++ b19) ++ b20)) (((b0 ++ (b10 ++ (b11 ++ (b12 ++ (b13 ++ (b14 ++ (b15 ++ (b16 ++ b18)))))))) ++ (b1 ++ (b2 ++ (b3 ++ (b4 ++ (b6 ++ (b7 ++ (b8 ++ (b9 ++ (b17 ++ (b19 ++ b20))))))))))) ++ b5) := by
  classical
  exact List.perm_iff_count.mpr (fun x => by simp only [List.count_append, List.count_nil] <;> omega)
set_option maxHeartbeats 4000000 in
set_option maxRecDepth 100000 in
theorem iE7 (g : Gm) (h0 q8 q9 q10 q11 q12 q13 q14 q16 q0 q1 q2 q3 q4 q5 q6 q7 q15 q17 q18 : Nat) (r_3 : Nat → Nat) : ∃ a : Nat → Nat, a 0 = h0 ∧ List.Perm (([(h0, .inr (7, [.ref q0, .ref q1, .ref q2, .ref q3, .ref q4, .ref q5, .ref q6, .int 0, .ref q7, .int (4 : Int32), .int 0, .ref q8, .ref q9, .ref q10, .ref q11, .ref q12, .ref q13, .ref q14, .int 0, .int (1 : Int32), .null, .null, .int 0, .int 0, .int 0, .int 0, .int 0, .ref q15, .int 0, .ref q16, .ref q17, .ref q18, .int 0]))] ++ ((((((((((((((((((([(q0, .inl (g.2 0, 8, .inl (fun _ => 0)))] ++ [(q1, .inl (g.2 0, 8, .inl (fun _ => 0)))]) ++ [(q2, .inl (g.2 0, 8, .inl (fun _ => 0)))]) ++ [(q3, .inl (g.2 3, 8, .inr (.inr (.inr (.inr (fun i => some (r_3 i)))))))]) ++ (List.range 8).map (fun i => (r_3 i, .inl (g.2 1, 40, .inr (.inl (fun _ => 0)))))) ++ [(q4, .inl (g.2 1, 40, .inr (.inl (fun _ => 0))))]) ++ [(q5, .inl (g.2 0, 8, .inl (fun _ => 0)))]) ++ [(q6, .inl (g.2 0, 250, .inl (fun _ => 0)))]) ++ [(q7, .inl (g.2 0, 8, .inl (fun _ => 0)))]) ++ [(q8, .inl (g.2 0, 7, .inl (fun _ => 0)))]) ++ [(q9, .inl (g.2 0, 7, .inl (fun _ => 0)))]) ++ [(q10, .inl (g.2 0, 7, .inl (fun _ => 0)))]) ++ [(q11, .inl (g.2 0, 7, .inl (fun _ => 0)))]) ++ [(q12, .inl (g.2 0, 7, .inl (fun _ => 0)))]) ++ [(q13, .inl (g.2 0, 7, .inl (fun _ => 0)))]) ++ [(q14, .inl (g.2 0, 3, .inl (fun _ => 0)))]) ++ [(q15, .inl (g.2 0, 2, .inl (fun _ => 0)))]) ++ [(q16, .inl (g.2 0, 7, .inl (fun _ => 0)))]) ++ [(q17, .inl (g.2 0, 7, .inl (fun _ => 0)))]) ++ [(q18, .inl (g.2 0, 7, .inl (fun _ => 0)))])) : va_W) (wXM g a iU7 iV7 iM7 iR7 .null .null) := by
  obtain ⟨a, e0, e1, e2, e3, e4, e5, e6, e7, e8, e9, e10, e11, e12, e13, e14, e15, e16, e17, e18, e19, e20⟩ := mk_X7_init h0 q8 q9 q10 q11 q12 q13 q14 q16 q0 q1 q2 q3 q4 q5 q6 q7 q15 q17 q18 r_3
  subst e0 e1 e2 e3 e4 e5 e6 e7 e8 e9 e10 e11 e12 e13 e14 e15 e16 e17 e18 e19 e20
  refine ⟨a, rfl, (pmE7 _ _ _ _ _ _ _ _ _ _ _ _ _ _ _ _ _ _ _ _ _ ).trans (List.Perm.of_eq ?_)⟩
  rfl
set_option maxRecDepth 100000 in
theorem iE7w (g : Gm) (h0 q8 q9 q10 q11 q12 q13 q14 q16 q0 q1 q2 q3 q4 q5 q6 q7 q15 q17 q18 : Nat) (r_3 : Nat → Nat) (w1 w2 w3 w4 w5 w6 w7 w8 w9 w10 w11 w12 w13 w14 w15 w16 w17 w18 w19 : va_W) (hw1 : w1 = [(q0, .inl (g.2 0, 8, .inl (fun _ => 0)))]) (hw2 : w2 = (w1 ++ [(q1, .inl (g.2 0, 8, .inl (fun _ => 0)))])) (hw3 : w3 = (w2 ++ [(q2, .inl (g.2 0, 8, .inl (fun _ => 0)))])) (hw4 : w4 = ((w3 ++ [(q3, .inl (g.2 3, 8, .inr (.inr (.inr (.inr (fun i => some (r_3 i)))))))]) ++ (List.range 8).map (fun i => (r_3 i, .inl (g.2 1, 40, .inr (.inl (fun _ => 0))))))) (hw5 : w5 = (w4 ++ [(q4, .inl (g.2 1, 40, .inr (.inl (fun _ => 0))))])) (hw6 : w6 = (w5 ++ [(q5, .inl (g.2 0, 8, .inl (fun _ => 0)))])) (hw7 : w7 = (w6 ++ [(q6, .inl (g.2 0, 250, .inl (fun _ => 0)))])) (hw8 : w8 = (w7 ++ [(q7, .inl (g.2 0, 8, .inl (fun _ => 0)))])) (hw9 : w9 = (w8 ++ [(q8, .inl (g.2 0, 7, .inl (fun _ => 0)))])) (hw10 : w10 = (w9 ++ [(q9, .inl (g.2 0, 7, .inl (fun _ => 0)))])) (hw11 : w11 = (w10 ++ [(q10, .inl (g.2 0, 7, .inl (fun _ => 0)))])) (hw12 : w12 = (w11 ++ [(q11, .inl (g.2 0, 7, .inl (fun _ => 0)))])) (hw13 : w13 = (w12 ++ [(q12, .inl (g.2 0, 7, .inl (fun _ => 0)))])) (hw14 : w14 = (w13 ++ [(q13, .inl (g.2 0, 7, .inl (fun _ => 0)))])) (hw15 : w15 = (w14 ++ [(q14, .inl (g.2 0, 3, .inl (fun _ => 0)))])) (hw16 : w16 = (w15 ++ [(q15, .inl (g.2 0, 2, .inl (fun _ => 0)))])) (hw17 : w17 = (w16 ++ [(q16, .inl (g.2 0, 7, .inl (fun _ => 0)))])) (hw18 : w18 = (w17 ++ [(q17, .inl (g.2 0, 7, .inl (fun _ => 0)))])) (hw19 : w19 = (w18 ++ [(q18, .inl (g.2 0, 7, .inl (fun _ => 0)))])) : ∃ a : Nat → Nat, a 0 = h0 ∧ List.Perm ([(h0, .inr (7, [.ref q0, .ref q1, .ref q2, .ref q3, .ref q4, .ref q5, .ref q6, .int 0, .ref q7, .int (4 : Int32), .int 0, .ref q8, .ref q9, .ref q10, .ref q11, .ref q12, .ref q13, .ref q14, .int 0, .int (1 : Int32), .null, .null, .int 0, .int 0, .int 0, .int 0, .int 0, .ref q15, .int 0, .ref q16, .ref q17, .ref q18, .int 0]))] ++ w19) (wXM g a iU7 iV7 iM7 iR7 .null .null) := by
  subst hw19 hw18 hw17 hw16 hw15 hw14 hw13 hw12 hw11 hw10 hw9 hw8 hw7 hw6 hw5 hw4 hw3 hw2 hw1
  exact iE7 g h0 q8 q9 q10 q11 q12 q13 q14 q16 q0 q1 q2 q3 q4 q5 q6 q7 q15 q17 q18 r_3
theorem hd_X7_init : yX7_init.cls ≠ "java/lang/invoke/MethodHandle" ∧ yX7_init.cls ≠ "java/lang/invoke/VarHandle" ∧ (parseMethodDescriptor yX7_init.desc).map (fun d => d.parameters.length) = some 0 := by decide +kernel
set_option maxHeartbeats 4000000 in
set_option maxRecDepth 100000 in
theorem c_X7_init (l : Launch) (g : Gm) (h0 : Nat) : MI l yX7_init wsX7_init 1 31 27 726 g [.ref h0] [(h0, .inr (7, [.null, .null, .null, .null, .null, .null, .null, .int 0, .null, .int 0, .int 0, .null, .null, .null, .null, .null, .null, .null, .int 0, .int 0, .null, .null, .int 0, .int 0, .int 0, .int 0, .int 0, .null, .int 0, .null, .null, .null, .int 0]))] h0 (fun a => (wXM g (a 0) iU7 iV7 iM7 iR7 .null .null)) := by
  intro sz
  refine Met.ofW (cc := cX7_init) (maxL := 1) (ret := none) (by decide) rfl ?_
  intro p e s m args below meth c s₁ B hml hv
  obtain ⟨rfl, hsz, hP, hK, hD0⟩ := hv
  have hx := B.exec; have hb := B.bytes; have hr := B.returns
  have hts := atoms_spec (ws := wsX7_init) B.pre
  have hown : s.vm.findClass RX7 = some m.cls := findClass_of_methodNamed B.named
  have hlocks := B.notSynchronized
  have hname : meth.name = "<init>" := (name_of_methodNamed B.named B.method).1
  have hS : CallFix p m c cX7_init 1 s _ wsX7_init RX7 := ⟨hx, hb, hml, hown, hts⟩
  have hin_X7 : ∀ w ∈ wsX70, w ∈ wsX7_init := fun w h => (List.mem_cons_of_mem _ (List.mem_append_right _ h))
  subst hsz
  have hw := wk_start hP hD0
  have hA : ∀ q : Nat, s.heap.size ≤ q → va_A [(h0, .inr (7, [.null, .null, .null, .null, .null, .null, .null, .int 0, .null, .int 0, .int 0, .null, .null, .null, .null, .null, .null, .null, .int 0, .int 0, .null, .null, .int 0, .int 0, .int 0, .int 0, .int 0, .null, .int 0, .null, .null, .null, .int 0]))] s.heap.size q := fun q h => Or.inr h
  generalize va_A [(h0, .inr (7, [.null, .null, .null, .null, .null, .null, .null, .int 0, .null, .int 0, .int 0, .null, .null, .null, .null, .null, .null, .null, .int 0, .int 0, .null, .null, .int 0, .int 0, .int 0, .int 0, .int 0, .null, .int 0, .null, .null, .null, .int 0]))] s.heap.size = A at hw hA ⊢
  clear hP hD0
  obtain ⟨locs, hlc⟩ : ∃ locs : List Loc, locs = [] := ⟨_, rfl⟩
  rw [← hlc] at hw ⊢
  have hl := lv_entry ([.ref h0]) (n := 1) (Nat.le_of_ble_eq_true rfl)
  rw [lg_entry_eq]
  generalize (lg_sl ([.ref h0]) ++ List.replicate (1 - (lg_sl ([.ref h0])).length) Slot.unset).toArray = ls at hl ⊢
  have hl : lv_has ls 1 [(0, .ref h0)] := hl
  refine lv_aload_n hx hb dX7_init_0 rfl (lv_at hl 0 rfl) ?_
  refine W.objInit hx hb hown (hts _ (mi 1 rfl)) (hts _ (mi 2 rfl)) (hts _ (mi 3 rfl)) rfl (by rw [hml]; exact hl.1) rfl dX7_init_1 (Nat.le_of_ble_eq_true rfl) (Nat.le_of_ble_eq_true rfl) ?_
  refine W.eq (g2 := F0 m 4 ls []) rfl ?_
  refine lv_aload_n hx hb dX7_init_4 rfl (lv_at hl 0 rfl) ?_
  refine lv_bipush (v := (8 : Int32)) hx hb dX7_init_5 (by decide) ?_
  refine wk_newi hx hb hts (mi 4 rfl) hK hw hA 8 (by decide) (by decide) (by decide) (Nat.le_of_ble_eq_true rfl) (Nat.le_of_ble_eq_true rfl) dX7_init_7 (fun q0 H hw => ?_)
  have hw : Wk g A s.heap H locs ([(h0, .inr (7, [.null, .null, .null, .null, .null, .null, .null, .int 0, .null, .int 0, .int 0, .null, .null, .null, .null, .null, .null, .null, .int 0, .int 0, .null, .null, .int 0, .int 0, .int 0, .int 0, .int 0, .null, .int 0, .null, .null, .null, .int 0]))] ++ [(q0, .inl (g.2 0, 8, .inl (fun _ => 0)))]) := by simpa only [List.append_assoc] using hw
  obtain ⟨w1, hw1⟩ : ∃ w : va_W, w = [(q0, .inl (g.2 0, 8, .inl (fun _ => 0)))] := ⟨_, rfl⟩
  rw [← hw1] at hw
  refine wk_putF (wq := ([(h0, .inr (7, [.ref q0, .null, .null, .null, .null, .null, .null, .int 0, .null, .int 0, .int 0, .null, .null, .null, .null, .null, .null, .null, .int 0, .int 0, .null, .null, .int 0, .int 0, .int 0, .int 0, .int 0, .null, .int 0, .null, .null, .null, .int 0]))] ++ w1)) hx hb hts hin_X7 tyX7 tyX7_ok nmX7 hown hK hw hname 7 0 0 rfl rfl (by decide) (mi 5 rfl) rfl rfl rfl rfl rfl (Nat.le_of_ble_eq_true rfl) dX7_init_9 rfl (fun H locs hw => ?_)
  refine lv_aload_n hx hb dX7_init_12 rfl (lv_at hl 0 rfl) ?_
  refine lv_bipush (v := (8 : Int32)) hx hb dX7_init_13 (by decide) ?_
  refine wk_newi hx hb hts (mi 4 rfl) hK hw hA 8 (by decide) (by decide) (by decide) (Nat.le_of_ble_eq_true rfl) (Nat.le_of_ble_eq_true rfl) dX7_init_15 (fun q1 H hw => ?_)
  have hw : Wk g A s.heap H locs ([(h0, .inr (7, [.ref q0, .null, .null, .null, .null, .null, .null, .int 0, .null, .int 0, .int 0, .null, .null, .null, .null, .null, .null, .null, .int 0, .int 0, .null, .null, .int 0, .int 0, .int 0, .int 0, .int 0, .null, .int 0, .null, .null, .null, .int 0]))] ++ (w1 ++ [(q1, .inl (g.2 0, 8, .inl (fun _ => 0)))])) := by simpa only [List.append_assoc] using hw
  obtain ⟨w2, hw2⟩ : ∃ w : va_W, w = (w1 ++ [(q1, .inl (g.2 0, 8, .inl (fun _ => 0)))]) := ⟨_, rfl⟩
  rw [← hw2] at hw
  refine wk_putF (wq := ([(h0, .inr (7, [.ref q0, .ref q1, .null, .null, .null, .null, .null, .int 0, .null, .int 0, .int 0, .null, .null, .null, .null, .null, .null, .null, .int 0, .int 0, .null, .null, .int 0, .int 0, .int 0, .int 0, .int 0, .null, .int 0, .null, .null, .null, .int 0]))] ++ w2)) hx hb hts hin_X7 tyX7 tyX7_ok nmX7 hown hK hw hname 7 0 1 rfl rfl (by decide) (mi 6 rfl) rfl rfl rfl rfl rfl (Nat.le_of_ble_eq_true rfl) dX7_init_17 rfl (fun H locs hw => ?_)
  refine lv_aload_n hx hb dX7_init_20 rfl (lv_at hl 0 rfl) ?_
  refine lv_bipush (v := (8 : Int32)) hx hb dX7_init_21 (by decide) ?_
  refine wk_newi hx hb hts (mi 4 rfl) hK hw hA 8 (by decide) (by decide) (by decide) (Nat.le_of_ble_eq_true rfl) (Nat.le_of_ble_eq_true rfl) dX7_init_23 (fun q2 H hw => ?_)
  have hw : Wk g A s.heap H locs ([(h0, .inr (7, [.ref q0, .ref q1, .null, .null, .null, .null, .null, .int 0, .null, .int 0, .int 0, .null, .null, .null, .null, .null, .null, .null, .int 0, .int 0, .null, .null, .int 0, .int 0, .int 0, .int 0, .int 0, .null, .int 0, .null, .null, .null, .int 0]))] ++ (w2 ++ [(q2, .inl (g.2 0, 8, .inl (fun _ => 0)))])) := by simpa only [List.append_assoc] using hw
  obtain ⟨w3, hw3⟩ : ∃ w : va_W, w = (w2 ++ [(q2, .inl (g.2 0, 8, .inl (fun _ => 0)))]) := ⟨_, rfl⟩
  rw [← hw3] at hw
  refine wk_putF (wq := ([(h0, .inr (7, [.ref q0, .ref q1, .ref q2, .null, .null, .null, .null, .int 0, .null, .int 0, .int 0, .null, .null, .null, .null, .null, .null, .null, .int 0, .int 0, .null, .null, .int 0, .int 0, .int 0, .int 0, .int 0, .null, .int 0, .null, .null, .null, .int 0]))] ++ w3)) hx hb hts hin_X7 tyX7 tyX7_ok nmX7 hown hK hw hname 7 0 2 rfl rfl (by decide) (mi 7 rfl) rfl rfl rfl rfl rfl (Nat.le_of_ble_eq_true rfl) dX7_init_25 rfl (fun H locs hw => ?_)
  refine lv_aload_n hx hb dX7_init_28 rfl (lv_at hl 0 rfl) ?_
  refine lv_bipush (v := (8 : Int32)) hx hb dX7_init_29 (by decide) ?_
  refine lv_bipush (v := (40 : Int32)) hx hb dX7_init_31 (by decide) ?_
  refine wk_mnl hx hb hts hown (mi 8 rfl) (mi 9 rfl) hK hw hA 8 40 (by decide) (by decide) (by decide) (by decide) (by decide) (by decide) (by decide) (Nat.le_of_ble_eq_true rfl) (Nat.le_of_ble_eq_true rfl) dX7_init_33 (fun q3 r_3 H hw => ?_)
  have hw : Wk g A s.heap H locs ([(h0, .inr (7, [.ref q0, .ref q1, .ref q2, .null, .null, .null, .null, .int 0, .null, .int 0, .int 0, .null, .null, .null, .null, .null, .null, .null, .int 0, .int 0, .null, .null, .int 0, .int 0, .int 0, .int 0, .int 0, .null, .int 0, .null, .null, .null, .int 0]))] ++ ((w3 ++ [(q3, .inl (g.2 3, 8, .inr (.inr (.inr (.inr (fun i => some (r_3 i)))))))]) ++ (List.range 8).map (fun i => (r_3 i, .inl (g.2 1, 40, .inr (.inl (fun _ => 0))))))) := by simpa only [List.append_assoc] using hw
  obtain ⟨w4, hw4⟩ : ∃ w : va_W, w = ((w3 ++ [(q3, .inl (g.2 3, 8, .inr (.inr (.inr (.inr (fun i => some (r_3 i)))))))]) ++ (List.range 8).map (fun i => (r_3 i, .inl (g.2 1, 40, .inr (.inl (fun _ => 0)))))) := ⟨_, rfl⟩
  rw [← hw4] at hw
  refine wk_putF (wq := ([(h0, .inr (7, [.ref q0, .ref q1, .ref q2, .ref q3, .null, .null, .null, .int 0, .null, .int 0, .int 0, .null, .null, .null, .null, .null, .null, .null, .int 0, .int 0, .null, .null, .int 0, .int 0, .int 0, .int 0, .int 0, .null, .int 0, .null, .null, .null, .int 0]))] ++ w4)) hx hb hts hin_X7 tyX7 tyX7_ok nmX7 hown hK hw hname 7 0 3 rfl rfl (by decide) (mi 10 rfl) rfl rfl rfl rfl rfl (Nat.le_of_ble_eq_true rfl) dX7_init_37 rfl (fun H locs hw => ?_)
  refine lv_aload_n hx hb dX7_init_40 rfl (lv_at hl 0 rfl) ?_
  refine lv_bipush (v := (40 : Int32)) hx hb dX7_init_41 (by decide) ?_
  refine wk_newl hx hb hts (mi 9 rfl) hK hw hA 40 (by decide) (by decide) (by decide) (Nat.le_of_ble_eq_true rfl) (Nat.le_of_ble_eq_true rfl) dX7_init_43 (fun q4 H hw => ?_)
  have hw : Wk g A s.heap H locs ([(h0, .inr (7, [.ref q0, .ref q1, .ref q2, .ref q3, .null, .null, .null, .int 0, .null, .int 0, .int 0, .null, .null, .null, .null, .null, .null, .null, .int 0, .int 0, .null, .null, .int 0, .int 0, .int 0, .int 0, .int 0, .null, .int 0, .null, .null, .null, .int 0]))] ++ (w4 ++ [(q4, .inl (g.2 1, 40, .inr (.inl (fun _ => 0))))])) := by simpa only [List.append_assoc] using hw
  obtain ⟨w5, hw5⟩ : ∃ w : va_W, w = (w4 ++ [(q4, .inl (g.2 1, 40, .inr (.inl (fun _ => 0))))]) := ⟨_, rfl⟩
  rw [← hw5] at hw
  refine wk_putF (wq := ([(h0, .inr (7, [.ref q0, .ref q1, .ref q2, .ref q3, .ref q4, .null, .null, .int 0, .null, .int 0, .int 0, .null, .null, .null, .null, .null, .null, .null, .int 0, .int 0, .null, .null, .int 0, .int 0, .int 0, .int 0, .int 0, .null, .int 0, .null, .null, .null, .int 0]))] ++ w5)) hx hb hts hin_X7 tyX7 tyX7_ok nmX7 hown hK hw hname 7 0 4 rfl rfl (by decide) (mi 11 rfl) rfl rfl rfl rfl rfl (Nat.le_of_ble_eq_true rfl) dX7_init_45 rfl (fun H locs hw => ?_)
  refine lv_aload_n hx hb dX7_init_48 rfl (lv_at hl 0 rfl) ?_
  refine lv_bipush (v := (8 : Int32)) hx hb dX7_init_49 (by decide) ?_
  refine wk_newi hx hb hts (mi 4 rfl) hK hw hA 8 (by decide) (by decide) (by decide) (Nat.le_of_ble_eq_true rfl) (Nat.le_of_ble_eq_true rfl) dX7_init_51 (fun q5 H hw => ?_)
  have hw : Wk g A s.heap H locs ([(h0, .inr (7, [.ref q0, .ref q1, .ref q2, .ref q3, .ref q4, .null, .null, .int 0, .null, .int 0, .int 0, .null, .null, .null, .null, .null, .null, .null, .int 0, .int 0, .null, .null, .int 0, .int 0, .int 0, .int 0, .int 0, .null, .int 0, .null, .null, .null, .int 0]))] ++ (w5 ++ [(q5, .inl (g.2 0, 8, .inl (fun _ => 0)))])) := by simpa only [List.append_assoc] using hw
  obtain ⟨w6, hw6⟩ : ∃ w : va_W, w = (w5 ++ [(q5, .inl (g.2 0, 8, .inl (fun _ => 0)))]) := ⟨_, rfl⟩
  rw [← hw6] at hw
  refine wk_putF (wq := ([(h0, .inr (7, [.ref q0, .ref q1, .ref q2, .ref q3, .ref q4, .ref q5, .null, .int 0, .null, .int 0, .int 0, .null, .null, .null, .null, .null, .null, .null, .int 0, .int 0, .null, .null, .int 0, .int 0, .int 0, .int 0, .int 0, .null, .int 0, .null, .null, .null, .int 0]))] ++ w6)) hx hb hts hin_X7 tyX7 tyX7_ok nmX7 hown hK hw hname 7 0 5 rfl rfl (by decide) (mi 12 rfl) rfl rfl rfl rfl rfl (Nat.le_of_ble_eq_true rfl) dX7_init_53 rfl (fun H locs hw => ?_)
  refine lv_aload_n hx hb dX7_init_56 rfl (lv_at hl 0 rfl) ?_
  refine lv_sipush (v := (250 : Int32)) hx hb dX7_init_57 (by decide) ?_
  refine wk_newi hx hb hts (mi 4 rfl) hK hw hA 250 (by decide) (by decide) (by decide) (Nat.le_of_ble_eq_true rfl) (Nat.le_of_ble_eq_true rfl) dX7_init_60 (fun q6 H hw => ?_)
  have hw : Wk g A s.heap H locs ([(h0, .inr (7, [.ref q0, .ref q1, .ref q2, .ref q3, .ref q4, .ref q5, .null, .int 0, .null, .int 0, .int 0, .null, .null, .null, .null, .null, .null, .null, .int 0, .int 0, .null, .null, .int 0, .int 0, .int 0, .int 0, .int 0, .null, .int 0, .null, .null, .null, .int 0]))] ++ (w6 ++ [(q6, .inl (g.2 0, 250, .inl (fun _ => 0)))])) := by simpa only [List.append_assoc] using hw
  obtain ⟨w7, hw7⟩ : ∃ w : va_W, w = (w6 ++ [(q6, .inl (g.2 0, 250, .inl (fun _ => 0)))]) := ⟨_, rfl⟩
  rw [← hw7] at hw
  refine wk_putF (wq := ([(h0, .inr (7, [.ref q0, .ref q1, .ref q2, .ref q3, .ref q4, .ref q5, .ref q6, .int 0, .null, .int 0, .int 0, .null, .null, .null, .null, .null, .null, .null, .int 0, .int 0, .null, .null, .int 0, .int 0, .int 0, .int 0, .int 0, .null, .int 0, .null, .null, .null, .int 0]))] ++ w7)) hx hb hts hin_X7 tyX7 tyX7_ok nmX7 hown hK hw hname 7 0 6 rfl rfl (by decide) (mi 13 rfl) rfl rfl rfl rfl rfl (Nat.le_of_ble_eq_true rfl) dX7_init_62 rfl (fun H locs hw => ?_)
  refine lv_aload_n hx hb dX7_init_65 rfl (lv_at hl 0 rfl) ?_
  refine lv_bipush (v := (8 : Int32)) hx hb dX7_init_66 (by decide) ?_
  refine wk_newi hx hb hts (mi 4 rfl) hK hw hA 8 (by decide) (by decide) (by decide) (Nat.le_of_ble_eq_true rfl) (Nat.le_of_ble_eq_true rfl) dX7_init_68 (fun q7 H hw => ?_)
  have hw : Wk g A s.heap H locs ([(h0, .inr (7, [.ref q0, .ref q1, .ref q2, .ref q3, .ref q4, .ref q5, .ref q6, .int 0, .null, .int 0, .int 0, .null, .null, .null, .null, .null, .null, .null, .int 0, .int 0, .null, .null, .int 0, .int 0, .int 0, .int 0, .int 0, .null, .int 0, .null, .null, .null, .int 0]))] ++ (w7 ++ [(q7, .inl (g.2 0, 8, .inl (fun _ => 0)))])) := by simpa only [List.append_assoc] using hw
  obtain ⟨w8, hw8⟩ : ∃ w : va_W, w = (w7 ++ [(q7, .inl (g.2 0, 8, .inl (fun _ => 0)))]) := ⟨_, rfl⟩
  rw [← hw8] at hw
  refine wk_putF (wq := ([(h0, .inr (7, [.ref q0, .ref q1, .ref q2, .ref q3, .ref q4, .ref q5, .ref q6, .int 0, .ref q7, .int 0, .int 0, .null, .null, .null, .null, .null, .null, .null, .int 0, .int 0, .null, .null, .int 0, .int 0, .int 0, .int 0, .int 0, .null, .int 0, .null, .null, .null, .int 0]))] ++ w8)) hx hb hts hin_X7 tyX7 tyX7_ok nmX7 hown hK hw hname 7 0 8 rfl rfl (by decide) (mi 14 rfl) rfl rfl rfl rfl rfl (Nat.le_of_ble_eq_true rfl) dX7_init_70 rfl (fun H locs hw => ?_)
  refine lv_aload_n hx hb dX7_init_73 rfl (lv_at hl 0 rfl) ?_
  refine lv_iconst (v := (4 : Int32)) hx hb dX7_init_74 (by decide) ?_
  refine wk_put (wq := ([(h0, .inr (7, [.ref q0, .ref q1, .ref q2, .ref q3, .ref q4, .ref q5, .ref q6, .int 0, .ref q7, .int (4 : Int32), .int 0, .null, .null, .null, .null, .null, .null, .null, .int 0, .int 0, .null, .null, .int 0, .int 0, .int 0, .int 0, .int 0, .null, .int 0, .null, .null, .null, .int 0]))] ++ w8)) hx hb hts hin_X7 tyX7 tyX7_ok nmX7 hown hK hw 7 0 9 rfl rfl (by decide) (mi 15 rfl) rfl rfl rfl rfl (Nat.le_of_ble_eq_true rfl) dX7_init_75 rfl (fun H locs hw => ?_)
  refine lv_aload_n hx hb dX7_init_78 rfl (lv_at hl 0 rfl) ?_
  refine lv_bipush (v := (7 : Int32)) hx hb dX7_init_79 (by decide) ?_
  refine wk_newi hx hb hts (mi 4 rfl) hK hw hA 7 (by decide) (by decide) (by decide) (Nat.le_of_ble_eq_true rfl) (Nat.le_of_ble_eq_true rfl) dX7_init_81 (fun q8 H hw => ?_)
  have hw : Wk g A s.heap H locs ([(h0, .inr (7, [.ref q0, .ref q1, .ref q2, .ref q3, .ref q4, .ref q5, .ref q6, .int 0, .ref q7, .int (4 : Int32), .int 0, .null, .null, .null, .null, .null, .null, .null, .int 0, .int 0, .null, .null, .int 0, .int 0, .int 0, .int 0, .int 0, .null, .int 0, .null, .null, .null, .int 0]))] ++ (w8 ++ [(q8, .inl (g.2 0, 7, .inl (fun _ => 0)))])) := by simpa only [List.append_assoc] using hw
  obtain ⟨w9, hw9⟩ : ∃ w : va_W, w = (w8 ++ [(q8, .inl (g.2 0, 7, .inl (fun _ => 0)))]) := ⟨_, rfl⟩
  rw [← hw9] at hw
  refine wk_putF (wq := ([(h0, .inr (7, [.ref q0, .ref q1, .ref q2, .ref q3, .ref q4, .ref q5, .ref q6, .int 0, .ref q7, .int (4 : Int32), .int 0, .ref q8, .null, .null, .null, .null, .null, .null, .int 0, .int 0, .null, .null, .int 0, .int 0, .int 0, .int 0, .int 0, .null, .int 0, .null, .null, .null, .int 0]))] ++ w9)) hx hb hts hin_X7 tyX7 tyX7_ok nmX7 hown hK hw hname 7 0 11 rfl rfl (by decide) (mi 16 rfl) rfl rfl rfl rfl rfl (Nat.le_of_ble_eq_true rfl) dX7_init_83 rfl (fun H locs hw => ?_)
  refine lv_aload_n hx hb dX7_init_86 rfl (lv_at hl 0 rfl) ?_
  refine lv_bipush (v := (7 : Int32)) hx hb dX7_init_87 (by decide) ?_
  refine wk_newi hx hb hts (mi 4 rfl) hK hw hA 7 (by decide) (by decide) (by decide) (Nat.le_of_ble_eq_true rfl) (Nat.le_of_ble_eq_true rfl) dX7_init_89 (fun q9 H hw => ?_)
  have hw : Wk g A s.heap H locs ([(h0, .inr (7, [.ref q0, .ref q1, .ref q2, .ref q3, .ref q4, .ref q5, .ref q6, .int 0, .ref q7, .int (4 : Int32), .int 0, .ref q8, .null, .null, .null, .null, .null, .null, .int 0, .int 0, .null, .null, .int 0, .int 0, .int 0, .int 0, .int 0, .null, .int 0, .null, .null, .null, .int 0]))] ++ (w9 ++ [(q9, .inl (g.2 0, 7, .inl (fun _ => 0)))])) := by simpa only [List.append_assoc] using hw
  obtain ⟨w10, hw10⟩ : ∃ w : va_W, w = (w9 ++ [(q9, .inl (g.2 0, 7, .inl (fun _ => 0)))]) := ⟨_, rfl⟩
  rw [← hw10] at hw
  refine wk_putF (wq := ([(h0, .inr (7, [.ref q0, .ref q1, .ref q2, .ref q3, .ref q4, .ref q5, .ref q6, .int 0, .ref q7, .int (4 : Int32), .int 0, .ref q8, .ref q9, .null, .null, .null, .null, .null, .int 0, .int 0, .null, .null, .int 0, .int 0, .int 0, .int 0, .int 0, .null, .int 0, .null, .null, .null, .int 0]))] ++ w10)) hx hb hts hin_X7 tyX7 tyX7_ok nmX7 hown hK hw hname 7 0 12 rfl rfl (by decide) (mi 17 rfl) rfl rfl rfl rfl rfl (Nat.le_of_ble_eq_true rfl) dX7_init_91 rfl (fun H locs hw => ?_)
  refine lv_aload_n hx hb dX7_init_94 rfl (lv_at hl 0 rfl) ?_
  refine lv_bipush (v := (7 : Int32)) hx hb dX7_init_95 (by decide) ?_
  refine wk_newi hx hb hts (mi 4 rfl) hK hw hA 7 (by decide) (by decide) (by decide) (Nat.le_of_ble_eq_true rfl) (Nat.le_of_ble_eq_true rfl) dX7_init_97 (fun q10 H hw => ?_)
  have hw : Wk g A s.heap H locs ([(h0, .inr (7, [.ref q0, .ref q1, .ref q2, .ref q3, .ref q4, .ref q5, .ref q6, .int 0, .ref q7, .int (4 : Int32), .int 0, .ref q8, .ref q9, .null, .null, .null, .null, .null, .int 0, .int 0, .null, .null, .int 0, .int 0, .int 0, .int 0, .int 0, .null, .int 0, .null, .null, .null, .int 0]))] ++ (w10 ++ [(q10, .inl (g.2 0, 7, .inl (fun _ => 0)))])) := by simpa only [List.append_assoc] using hw
  obtain ⟨w11, hw11⟩ : ∃ w : va_W, w = (w10 ++ [(q10, .inl (g.2 0, 7, .inl (fun _ => 0)))]) := ⟨_, rfl⟩
  rw [← hw11] at hw
  refine wk_putF (wq := ([(h0, .inr (7, [.ref q0, .ref q1, .ref q2, .ref q3, .ref q4, .ref q5, .ref q6, .int 0, .ref q7, .int (4 : Int32), .int 0, .ref q8, .ref q9, .ref q10, .null, .null, .null, .null, .int 0, .int 0, .null, .null, .int 0, .int 0, .int 0, .int 0, .int 0, .null, .int 0, .null, .null, .null, .int 0]))] ++ w11)) hx hb hts hin_X7 tyX7 tyX7_ok nmX7 hown hK hw hname 7 0 13 rfl rfl (by decide) (mi 18 rfl) rfl rfl rfl rfl rfl (Nat.le_of_ble_eq_true rfl) dX7_init_99 rfl (fun H locs hw => ?_)
  refine lv_aload_n hx hb dX7_init_102 rfl (lv_at hl 0 rfl) ?_
  refine lv_bipush (v := (7 : Int32)) hx hb dX7_init_103 (by decide) ?_
  refine wk_newi hx hb hts (mi 4 rfl) hK hw hA 7 (by decide) (by decide) (by decide) (Nat.le_of_ble_eq_true rfl) (Nat.le_of_ble_eq_true rfl) dX7_init_105 (fun q11 H hw => ?_)
  have hw : Wk g A s.heap H locs ([(h0, .inr (7, [.ref q0, .ref q1, .ref q2, .ref q3, .ref q4, .ref q5, .ref q6, .int 0, .ref q7, .int (4 : Int32), .int 0, .ref q8, .ref q9, .ref q10, .null, .null, .null, .null, .int 0, .int 0, .null, .null, .int 0, .int 0, .int 0, .int 0, .int 0, .null, .int 0, .null, .null, .null, .int 0]))] ++ (w11 ++ [(q11, .inl (g.2 0, 7, .inl (fun _ => 0)))])) := by simpa only [List.append_assoc] using hw
  obtain ⟨w12, hw12⟩ : ∃ w : va_W, w = (w11 ++ [(q11, .inl (g.2 0, 7, .inl (fun _ => 0)))]) := ⟨_, rfl⟩
  rw [← hw12] at hw
  refine wk_putF (wq := ([(h0, .inr (7, [.ref q0, .ref q1, .ref q2, .ref q3, .ref q4, .ref q5, .ref q6, .int 0, .ref q7, .int (4 : Int32), .int 0, .ref q8, .ref q9, .ref q10, .ref q11, .null, .null, .null, .int 0, .int 0, .null, .null, .int 0, .int 0, .int 0, .int 0, .int 0, .null, .int 0, .null, .null, .null, .int 0]))] ++ w12)) hx hb hts hin_X7 tyX7 tyX7_ok nmX7 hown hK hw hname 7 0 14 rfl rfl (by decide) (mi 19 rfl) rfl rfl rfl rfl rfl (Nat.le_of_ble_eq_true rfl) dX7_init_107 rfl (fun H locs hw => ?_)
  refine lv_aload_n hx hb dX7_init_110 rfl (lv_at hl 0 rfl) ?_
  refine lv_bipush (v := (7 : Int32)) hx hb dX7_init_111 (by decide) ?_
  refine wk_newi hx hb hts (mi 4 rfl) hK hw hA 7 (by decide) (by decide) (by decide) (Nat.le_of_ble_eq_true rfl) (Nat.le_of_ble_eq_true rfl) dX7_init_113 (fun q12 H hw => ?_)
  have hw : Wk g A s.heap H locs ([(h0, .inr (7, [.ref q0, .ref q1, .ref q2, .ref q3, .ref q4, .ref q5, .ref q6, .int 0, .ref q7, .int (4 : Int32), .int 0, .ref q8, .ref q9, .ref q10, .ref q11, .null, .null, .null, .int 0, .int 0, .null, .null, .int 0, .int 0, .int 0, .int 0, .int 0, .null, .int 0, .null, .null, .null, .int 0]))] ++ (w12 ++ [(q12, .inl (g.2 0, 7, .inl (fun _ => 0)))])) := by simpa only [List.append_assoc] using hw
  obtain ⟨w13, hw13⟩ : ∃ w : va_W, w = (w12 ++ [(q12, .inl (g.2 0, 7, .inl (fun _ => 0)))]) := ⟨_, rfl⟩
  rw [← hw13] at hw
  refine wk_putF (wq := ([(h0, .inr (7, [.ref q0, .ref q1, .ref q2, .ref q3, .ref q4, .ref q5, .ref q6, .int 0, .ref q7, .int (4 : Int32), .int 0, .ref q8, .ref q9, .ref q10, .ref q11, .ref q12, .null, .null, .int 0, .int 0, .null, .null, .int 0, .int 0, .int 0, .int 0, .int 0, .null, .int 0, .null, .null, .null, .int 0]))] ++ w13)) hx hb hts hin_X7 tyX7 tyX7_ok nmX7 hown hK hw hname 7 0 15 rfl rfl (by decide) (mi 20 rfl) rfl rfl rfl rfl rfl (Nat.le_of_ble_eq_true rfl) dX7_init_115 rfl (fun H locs hw => ?_)
  refine lv_aload_n hx hb dX7_init_118 rfl (lv_at hl 0 rfl) ?_
  refine lv_bipush (v := (7 : Int32)) hx hb dX7_init_119 (by decide) ?_
  refine wk_newi hx hb hts (mi 4 rfl) hK hw hA 7 (by decide) (by decide) (by decide) (Nat.le_of_ble_eq_true rfl) (Nat.le_of_ble_eq_true rfl) dX7_init_121 (fun q13 H hw => ?_)
  have hw : Wk g A s.heap H locs ([(h0, .inr (7, [.ref q0, .ref q1, .ref q2, .ref q3, .ref q4, .ref q5, .ref q6, .int 0, .ref q7, .int (4 : Int32), .int 0, .ref q8, .ref q9, .ref q10, .ref q11, .ref q12, .null, .null, .int 0, .int 0, .null, .null, .int 0, .int 0, .int 0, .int 0, .int 0, .null, .int 0, .null, .null, .null, .int 0]))] ++ (w13 ++ [(q13, .inl (g.2 0, 7, .inl (fun _ => 0)))])) := by simpa only [List.append_assoc] using hw
  obtain ⟨w14, hw14⟩ : ∃ w : va_W, w = (w13 ++ [(q13, .inl (g.2 0, 7, .inl (fun _ => 0)))]) := ⟨_, rfl⟩
  rw [← hw14] at hw
  refine wk_putF (wq := ([(h0, .inr (7, [.ref q0, .ref q1, .ref q2, .ref q3, .ref q4, .ref q5, .ref q6, .int 0, .ref q7, .int (4 : Int32), .int 0, .ref q8, .ref q9, .ref q10, .ref q11, .ref q12, .ref q13, .null, .int 0, .int 0, .null, .null, .int 0, .int 0, .int 0, .int 0, .int 0, .null, .int 0, .null, .null, .null, .int 0]))] ++ w14)) hx hb hts hin_X7 tyX7 tyX7_ok nmX7 hown hK hw hname 7 0 16 rfl rfl (by decide) (mi 21 rfl) rfl rfl rfl rfl rfl (Nat.le_of_ble_eq_true rfl) dX7_init_123 rfl (fun H locs hw => ?_)
  refine lv_aload_n hx hb dX7_init_126 rfl (lv_at hl 0 rfl) ?_
  refine lv_iconst (v := (3 : Int32)) hx hb dX7_init_127 (by decide) ?_
  refine wk_newi hx hb hts (mi 4 rfl) hK hw hA 3 (by decide) (by decide) (by decide) (Nat.le_of_ble_eq_true rfl) (Nat.le_of_ble_eq_true rfl) dX7_init_128 (fun q14 H hw => ?_)
  have hw : Wk g A s.heap H locs ([(h0, .inr (7, [.ref q0, .ref q1, .ref q2, .ref q3, .ref q4, .ref q5, .ref q6, .int 0, .ref q7, .int (4 : Int32), .int 0, .ref q8, .ref q9, .ref q10, .ref q11, .ref q12, .ref q13, .null, .int 0, .int 0, .null, .null, .int 0, .int 0, .int 0, .int 0, .int 0, .null, .int 0, .null, .null, .null, .int 0]))] ++ (w14 ++ [(q14, .inl (g.2 0, 3, .inl (fun _ => 0)))])) := by simpa only [List.append_assoc] using hw
  obtain ⟨w15, hw15⟩ : ∃ w : va_W, w = (w14 ++ [(q14, .inl (g.2 0, 3, .inl (fun _ => 0)))]) := ⟨_, rfl⟩
  rw [← hw15] at hw
  refine wk_putF (wq := ([(h0, .inr (7, [.ref q0, .ref q1, .ref q2, .ref q3, .ref q4, .ref q5, .ref q6, .int 0, .ref q7, .int (4 : Int32), .int 0, .ref q8, .ref q9, .ref q10, .ref q11, .ref q12, .ref q13, .ref q14, .int 0, .int 0, .null, .null, .int 0, .int 0, .int 0, .int 0, .int 0, .null, .int 0, .null, .null, .null, .int 0]))] ++ w15)) hx hb hts hin_X7 tyX7 tyX7_ok nmX7 hown hK hw hname 7 0 17 rfl rfl (by decide) (mi 22 rfl) rfl rfl rfl rfl rfl (Nat.le_of_ble_eq_true rfl) dX7_init_130 rfl (fun H locs hw => ?_)
  refine lv_aload_n hx hb dX7_init_133 rfl (lv_at hl 0 rfl) ?_
  refine lv_iconst (v := (1 : Int32)) hx hb dX7_init_134 (by decide) ?_
  refine wk_put (wq := ([(h0, .inr (7, [.ref q0, .ref q1, .ref q2, .ref q3, .ref q4, .ref q5, .ref q6, .int 0, .ref q7, .int (4 : Int32), .int 0, .ref q8, .ref q9, .ref q10, .ref q11, .ref q12, .ref q13, .ref q14, .int 0, .int (1 : Int32), .null, .null, .int 0, .int 0, .int 0, .int 0, .int 0, .null, .int 0, .null, .null, .null, .int 0]))] ++ w15)) hx hb hts hin_X7 tyX7 tyX7_ok nmX7 hown hK hw 7 0 19 rfl rfl (by decide) (mi 23 rfl) rfl rfl rfl rfl (Nat.le_of_ble_eq_true rfl) dX7_init_135 rfl (fun H locs hw => ?_)
  refine lv_aload_n hx hb dX7_init_138 rfl (lv_at hl 0 rfl) ?_
  refine lv_iconst (v := (2 : Int32)) hx hb dX7_init_139 (by decide) ?_
  refine wk_newi hx hb hts (mi 4 rfl) hK hw hA 2 (by decide) (by decide) (by decide) (Nat.le_of_ble_eq_true rfl) (Nat.le_of_ble_eq_true rfl) dX7_init_140 (fun q15 H hw => ?_)
  have hw : Wk g A s.heap H locs ([(h0, .inr (7, [.ref q0, .ref q1, .ref q2, .ref q3, .ref q4, .ref q5, .ref q6, .int 0, .ref q7, .int (4 : Int32), .int 0, .ref q8, .ref q9, .ref q10, .ref q11, .ref q12, .ref q13, .ref q14, .int 0, .int (1 : Int32), .null, .null, .int 0, .int 0, .int 0, .int 0, .int 0, .null, .int 0, .null, .null, .null, .int 0]))] ++ (w15 ++ [(q15, .inl (g.2 0, 2, .inl (fun _ => 0)))])) := by simpa only [List.append_assoc] using hw
  obtain ⟨w16, hw16⟩ : ∃ w : va_W, w = (w15 ++ [(q15, .inl (g.2 0, 2, .inl (fun _ => 0)))]) := ⟨_, rfl⟩
  rw [← hw16] at hw
  refine wk_putF (wq := ([(h0, .inr (7, [.ref q0, .ref q1, .ref q2, .ref q3, .ref q4, .ref q5, .ref q6, .int 0, .ref q7, .int (4 : Int32), .int 0, .ref q8, .ref q9, .ref q10, .ref q11, .ref q12, .ref q13, .ref q14, .int 0, .int (1 : Int32), .null, .null, .int 0, .int 0, .int 0, .int 0, .int 0, .ref q15, .int 0, .null, .null, .null, .int 0]))] ++ w16)) hx hb hts hin_X7 tyX7 tyX7_ok nmX7 hown hK hw hname 7 0 27 rfl rfl (by decide) (mi 24 rfl) rfl rfl rfl rfl rfl (Nat.le_of_ble_eq_true rfl) dX7_init_142 rfl (fun H locs hw => ?_)
  refine lv_aload_n hx hb dX7_init_145 rfl (lv_at hl 0 rfl) ?_
  refine lv_bipush (v := (7 : Int32)) hx hb dX7_init_146 (by decide) ?_
  refine wk_newi hx hb hts (mi 4 rfl) hK hw hA 7 (by decide) (by decide) (by decide) (Nat.le_of_ble_eq_true rfl) (Nat.le_of_ble_eq_true rfl) dX7_init_148 (fun q16 H hw => ?_)
  have hw : Wk g A s.heap H locs ([(h0, .inr (7, [.ref q0, .ref q1, .ref q2, .ref q3, .ref q4, .ref q5, .ref q6, .int 0, .ref q7, .int (4 : Int32), .int 0, .ref q8, .ref q9, .ref q10, .ref q11, .ref q12, .ref q13, .ref q14, .int 0, .int (1 : Int32), .null, .null, .int 0, .int 0, .int 0, .int 0, .int 0, .ref q15, .int 0, .null, .null, .null, .int 0]))] ++ (w16 ++ [(q16, .inl (g.2 0, 7, .inl (fun _ => 0)))])) := by simpa only [List.append_assoc] using hw
  obtain ⟨w17, hw17⟩ : ∃ w : va_W, w = (w16 ++ [(q16, .inl (g.2 0, 7, .inl (fun _ => 0)))]) := ⟨_, rfl⟩
  rw [← hw17] at hw
  refine wk_putF (wq := ([(h0, .inr (7, [.ref q0, .ref q1, .ref q2, .ref q3, .ref q4, .ref q5, .ref q6, .int 0, .ref q7, .int (4 : Int32), .int 0, .ref q8, .ref q9, .ref q10, .ref q11, .ref q12, .ref q13, .ref q14, .int 0, .int (1 : Int32), .null, .null, .int 0, .int 0, .int 0, .int 0, .int 0, .ref q15, .int 0, .ref q16, .null, .null, .int 0]))] ++ w17)) hx hb hts hin_X7 tyX7 tyX7_ok nmX7 hown hK hw hname 7 0 29 rfl rfl (by decide) (mi 25 rfl) rfl rfl rfl rfl rfl (Nat.le_of_ble_eq_true rfl) dX7_init_150 rfl (fun H locs hw => ?_)
  refine lv_aload_n hx hb dX7_init_153 rfl (lv_at hl 0 rfl) ?_
  refine lv_bipush (v := (7 : Int32)) hx hb dX7_init_154 (by decide) ?_
  refine wk_newi hx hb hts (mi 4 rfl) hK hw hA 7 (by decide) (by decide) (by decide) (Nat.le_of_ble_eq_true rfl) (Nat.le_of_ble_eq_true rfl) dX7_init_156 (fun q17 H hw => ?_)
  have hw : Wk g A s.heap H locs ([(h0, .inr (7, [.ref q0, .ref q1, .ref q2, .ref q3, .ref q4, .ref q5, .ref q6, .int 0, .ref q7, .int (4 : Int32), .int 0, .ref q8, .ref q9, .ref q10, .ref q11, .ref q12, .ref q13, .ref q14, .int 0, .int (1 : Int32), .null, .null, .int 0, .int 0, .int 0, .int 0, .int 0, .ref q15, .int 0, .ref q16, .null, .null, .int 0]))] ++ (w17 ++ [(q17, .inl (g.2 0, 7, .inl (fun _ => 0)))])) := by simpa only [List.append_assoc] using hw
  obtain ⟨w18, hw18⟩ : ∃ w : va_W, w = (w17 ++ [(q17, .inl (g.2 0, 7, .inl (fun _ => 0)))]) := ⟨_, rfl⟩
  rw [← hw18] at hw
  refine wk_putF (wq := ([(h0, .inr (7, [.ref q0, .ref q1, .ref q2, .ref q3, .ref q4, .ref q5, .ref q6, .int 0, .ref q7, .int (4 : Int32), .int 0, .ref q8, .ref q9, .ref q10, .ref q11, .ref q12, .ref q13, .ref q14, .int 0, .int (1 : Int32), .null, .null, .int 0, .int 0, .int 0, .int 0, .int 0, .ref q15, .int 0, .ref q16, .ref q17, .null, .int 0]))] ++ w18)) hx hb hts hin_X7 tyX7 tyX7_ok nmX7 hown hK hw hname 7 0 30 rfl rfl (by decide) (mi 26 rfl) rfl rfl rfl rfl rfl (Nat.le_of_ble_eq_true rfl) dX7_init_158 rfl (fun H locs hw => ?_)
  refine lv_aload_n hx hb dX7_init_161 rfl (lv_at hl 0 rfl) ?_
  refine lv_bipush (v := (7 : Int32)) hx hb dX7_init_162 (by decide) ?_
  refine wk_newi hx hb hts (mi 4 rfl) hK hw hA 7 (by decide) (by decide) (by decide) (Nat.le_of_ble_eq_true rfl) (Nat.le_of_ble_eq_true rfl) dX7_init_164 (fun q18 H hw => ?_)
  have hw : Wk g A s.heap H locs ([(h0, .inr (7, [.ref q0, .ref q1, .ref q2, .ref q3, .ref q4, .ref q5, .ref q6, .int 0, .ref q7, .int (4 : Int32), .int 0, .ref q8, .ref q9, .ref q10, .ref q11, .ref q12, .ref q13, .ref q14, .int 0, .int (1 : Int32), .null, .null, .int 0, .int 0, .int 0, .int 0, .int 0, .ref q15, .int 0, .ref q16, .ref q17, .null, .int 0]))] ++ (w18 ++ [(q18, .inl (g.2 0, 7, .inl (fun _ => 0)))])) := by simpa only [List.append_assoc] using hw
  obtain ⟨w19, hw19⟩ : ∃ w : va_W, w = (w18 ++ [(q18, .inl (g.2 0, 7, .inl (fun _ => 0)))]) := ⟨_, rfl⟩
  rw [← hw19] at hw
  refine wk_putF (wq := ([(h0, .inr (7, [.ref q0, .ref q1, .ref q2, .ref q3, .ref q4, .ref q5, .ref q6, .int 0, .ref q7, .int (4 : Int32), .int 0, .ref q8, .ref q9, .ref q10, .ref q11, .ref q12, .ref q13, .ref q14, .int 0, .int (1 : Int32), .null, .null, .int 0, .int 0, .int 0, .int 0, .int 0, .ref q15, .int 0, .ref q16, .ref q17, .ref q18, .int 0]))] ++ w19)) hx hb hts hin_X7 tyX7 tyX7_ok nmX7 hown hK hw hname 7 0 31 rfl rfl (by decide) (mi 27 rfl) rfl rfl rfl rfl rfl (Nat.le_of_ble_eq_true rfl) dX7_init_166 rfl (fun H locs hw => ?_)
  obtain ⟨a, ha, hpm⟩ := iE7w g h0 q8 q9 q10 q11 q12 q13 q14 q16 q0 q1 q2 q3 q4 q5 q6 q7 q15 q17 q18 r_3 w1 w2 w3 w4 w5 w6 w7 w8 w9 w10 w11 w12 w13 w14 w15 w16 w17 w18 w19 hw1 hw2 hw3 hw4 hw5 hw6 hw7 hw8 hw9 hw10 hw11 hw12 hw13 hw14 hw15 hw16 hw17 hw18 hw19
  refine W.widen (k := 27) (n := 726) (Nat.le_of_ble_eq_true rfl) (Nat.le_of_ble_eq_true rfl) ?_
  have hp := hw.2.1.pm hpm
  have hq := hw.1.mem (fun q hq => hpm.mem_iff.mpr hq)
  exact W.vret hx hb hr (fun t ht _ => ⟨rfl, ⟨fun _ => a, ha, by rw [ht]; exact hq, hp⟩, hw.2.2.F ht⟩) hw.2.2.2.2 dX7_init_169
