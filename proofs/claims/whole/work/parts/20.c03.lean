theorem hd_X5_whoMaySayMost : yX5_whoMaySayMost.cls = RX5 ∧ yX5_whoMaySayMost.cls ≠ "java/lang/invoke/MethodHandle" ∧ yX5_whoMaySayMost.cls ≠ "java/lang/invoke/VarHandle" ∧ (parseMethodDescriptor yX5_whoMaySayMost.desc).map (fun d => d.parameters.length) = some 0 := by decide +kernel
set_option maxHeartbeats 4000000 in
set_option maxRecDepth 100000 in
theorem c_X5_whoMaySayMost (l : Launch) (g : Gm) (a0 : Nat → Nat) (T0 : TS) {q : Int32} (hM : f_X5_whoMaySayMost T0 = some q) : MR l yX5_whoMaySayMost wsX5_whoMaySayMost 2 48 g [.ref (a0 0)] (wX5 g a0 T0) (some (.int q)) := by
  refine Met.ofW (cc := cX5_whoMaySayMost) (maxL := 5) (ret := (some .int)) (by decide) rfl ?_
  intro p e s m args below meth c s₁ B hml hv
  obtain ⟨rfl, hP, hK⟩ := hv
  have hx := B.exec; have hb := B.bytes; have hr := B.returns
  have hts := atoms_spec (ws := wsX5_whoMaySayMost) B.pre
  have hown : s.vm.findClass RX5 = some m.cls := findClass_of_methodNamed B.named
  have hlocks := B.notSynchronized
  have hS : CallFix p m c cX5_whoMaySayMost 5 s _ wsX5_whoMaySayMost RX5 := ⟨hx, hb, hml, hown, hts⟩
  have hin_X5 : ∀ w ∈ wsX50, w ∈ wsX5_whoMaySayMost := fun w h => (List.mem_cons_of_mem _ (List.mem_append_right _ h))
  have hl := lv_entry ([.ref (a0 0)]) (n := 5) (Nat.le_of_ble_eq_true rfl)
  rw [lg_entry_eq]
  generalize (lg_sl ([.ref (a0 0)]) ++ List.replicate (5 - (lg_sl ([.ref (a0 0)])).length) Slot.unset).toArray = ls at hl ⊢
  have hl : lv_has ls 5 [(0, .ref (a0 0))] := hl
  rw [f_X5_whoMaySayMost] at hM
  refine lv_iconst (v := (-1 : Int32)) hx hb dX5_whoMaySayMost_0 (by decide) ?_
  refine lv_istore_n (lv' := [(1, .int (-1 : Int32)), (0, .ref (a0 0))]) hx hb dX5_whoMaySayMost_1 rfl hl (by decide) rfl (fun ls hl => ?_)
  refine lv_iconst (v := (-1 : Int32)) hx hb dX5_whoMaySayMost_2 (by decide) ?_
  refine lv_istore_n (lv' := [(2, .int (-1 : Int32)), (1, .int (-1 : Int32)), (0, .ref (a0 0))]) hx hb dX5_whoMaySayMost_3 rfl hl (by decide) rfl (fun ls hl => ?_)
  refine lv_iconst (v := (0 : Int32)) hx hb dX5_whoMaySayMost_4 (by decide) ?_
  refine lv_istore_n (lv' := [(3, .int (0 : Int32)), (2, .int (-1 : Int32)), (1, .int (-1 : Int32)), (0, .ref (a0 0))]) hx hb dX5_whoMaySayMost_5 rfl hl (by decide) rfl (fun ls hl => ?_)
  obtain ⟨q4, hL6, hM⟩ := bd hM
  have hJ6 : ∀ (ls : Array Slot), lv_has ls 5 [(1, .int q4)] → W p l e (headSpec wsX5_whoMaySayMost ({ frames := 2, cells := 0, slots := 0, locals := 48 } : Room)).room s m ([.ref (a0 0)] : List Value).toArray below meth c s.heap [] 0 0 (MQ below (QcR (some (.int q))) ([.ref (a0 0)] : List Value).toArray s 0 0 (fun _ => False)) (F0 m 41 ls []) := by
    intro ls hl
    refine lv_iload_n hx hb dX5_whoMaySayMost_41 rfl (lv_at hl 0 rfl) ?_
    obtain rfl := Option.some.inj hM
    exact W.iret hx hb hr (fun t ht _ => ⟨rfl, ht⟩) (fun q hq => by cases hq) dX5_whoMaySayMost_42
  have hW6 : ∀ (n : Nat) (v3_1 : Int32) (v2_2 : Int32) (v1_3 : Int32), L_X5_whoMaySayMost_6 T0 n v3_1 v2_2 v1_3 = some q4 → ∀ (ls : Array Slot), lv_has ls 5 [(3, .int v3_1), (2, .int v2_2), (1, .int v1_3), (0, .ref (a0 0))] → W p l e (headSpec wsX5_whoMaySayMost ({ frames := 2, cells := 0, slots := 0, locals := 48 } : Room)).room s m ([.ref (a0 0)] : List Value).toArray below meth c s.heap [] 0 0 (MQ below (QcR (some (.int q))) ([.ref (a0 0)] : List Value).toArray s 0 0 (fun _ => False)) (F0 m 6 ls []) := by
    intro n
    induction n with
    | zero => intro v3_1 v2_2 v1_3 hM; rw [L_X5_whoMaySayMost_6] at hM; exact nn hM
    | succ n ih6 =>
      intro v3_1 v2_2 v1_3 hM ls hl
      rw [L_X5_whoMaySayMost_6] at hM
      refine lv_iload_n hx hb dX5_whoMaySayMost_6 rfl (lv_at hl 0 rfl) ?_
      refine lv_aload_n hx hb dX5_whoMaySayMost_7 rfl (lv_at hl 3 rfl) ?_
      refine wk_get hx hb hts hin_X5 hown hK hP 5 0 1 (.int (T0 1 0)) rfl rfl (by decide) (mi 1 rfl) rfl rfl dX5_whoMaySayMost_8 ?_
      refine lv_icmp_ge (tgt := 41) hx hb dX5_whoMaySayMost_11 (by decide) (fun c5 => ?_) (fun c5 => ?_)
      · replace hM := itp c5 hM
        obtain rfl := Option.some.inj hM
        exact hJ6 _ (lv_sub hl [2] rfl)
      · replace hM := itn c5 hM
        refine lv_aload_n hx hb dX5_whoMaySayMost_14 rfl (lv_at hl 3 rfl) ?_
        refine lv_iload_n hx hb dX5_whoMaySayMost_15 rfl (lv_at hl 0 rfl) ?_
        obtain ⟨q7, h6, hM⟩ := bd hM
        refine rVR (wc := (wX5 g a0 T0)) (As := [.int v3_1]) (rest := []) (q0 := 0) hS (c_X5_sayableBy l g a0 T0 v3_1 h6) gX5_whoMaySayMost_X5_sayableBy rfl hd_X5_sayableBy ⟨Nat.le_of_ble_eq_true rfl, Nat.le_of_ble_eq_true rfl⟩ hK (va_P.pm hP (pm_1_0 _)) rfl rfl rfl rfl hl.1 rfl (Nat.le_of_ble_eq_true rfl) dX5_whoMaySayMost_16 ⟨Nat.zero_le _, Nat.zero_le _⟩ ?_
        refine rSR (wc := ([] : va_W)) (As := [.int q7]) (rest := []) hS (c_J6_bitCount_0f7a4 l g q7) gX5_whoMaySayMost_J6_bitCount_0f7a4 rfl hd_J6_bitCount_0f7a4 ⟨Nat.le_of_ble_eq_true rfl, Nat.le_of_ble_eq_true rfl⟩ hK (hP_nil) rfl hl.1 rfl (Nat.le_of_ble_eq_true rfl) dX5_whoMaySayMost_19 ⟨Nat.zero_le _, Nat.zero_le _⟩ ?_
        refine lv_istore (lv' := [(4, .int (f_J6_bitCount_0f7a4 q7)), (3, .int v3_1), (2, .int v2_2), (1, .int v1_3), (0, .ref (a0 0))]) hx hb dX5_whoMaySayMost_22 hl (by decide) rfl (fun ls hl => ?_)
        refine lv_iload hx hb dX5_whoMaySayMost_24 (lv_at hl 0 rfl) ?_
        refine lv_iload_n hx hb dX5_whoMaySayMost_26 rfl (lv_at hl 2 rfl) ?_
        have hJ18 : ∀ (x16 : Int32) (x17 : Int32) (ls : Array Slot), x16 = (if (f_J6_bitCount_0f7a4 q7) ≤ v2_2 then v2_2 else (f_J6_bitCount_0f7a4 q7)) → x17 = (if (f_J6_bitCount_0f7a4 q7) ≤ v2_2 then v1_3 else v3_1) → lv_has ls 5 [(3, .int v3_1), (2, .int x16), (1, .int x17), (0, .ref (a0 0))] → W p l e (headSpec wsX5_whoMaySayMost ({ frames := 2, cells := 0, slots := 0, locals := 48 } : Room)).room s m ([.ref (a0 0)] : List Value).toArray below meth c s.heap [] 0 0 (MQ below (QcR (some (.int q))) ([.ref (a0 0)] : List Value).toArray s 0 0 (fun _ => False)) (F0 m 35 ls []) := by
          intro x16 x17 ls hxx16 hxx17 hl
          subst hxx16
          subst hxx17
          refine lv_iinc (v := (v3_1 + (1 : Int32))) (lv' := [(3, .int (v3_1 + (1 : Int32))), (2, .int (if (f_J6_bitCount_0f7a4 q7) ≤ v2_2 then v2_2 else (f_J6_bitCount_0f7a4 q7))), (1, .int (if (f_J6_bitCount_0f7a4 q7) ≤ v2_2 then v1_3 else v3_1)), (0, .ref (a0 0))]) hx hb dX5_whoMaySayMost_35 hl (k := 0) rfl rfl (by decide) rfl (fun ls hl => ?_)
          refine lv_goto (tgt := 6) hx hb dX5_whoMaySayMost_38 (by decide) ?_
          exact ih6 (v3_1 + (1 : Int32)) (if (f_J6_bitCount_0f7a4 q7) ≤ v2_2 then v2_2 else (f_J6_bitCount_0f7a4 q7)) (if (f_J6_bitCount_0f7a4 q7) ≤ v2_2 then v1_3 else v3_1) hM _ (lv_sub hl [0, 1, 2, 3] rfl)
        refine lv_icmp_le (tgt := 35) hx hb dX5_whoMaySayMost_27 (by decide) (fun c9 => ?_) (fun c9 => ?_)
        · exact hJ18 _ _ _ (by first | rfl | (simp only [if_pos c9])) (by first | rfl | (simp only [if_pos c9])) (lv_sub hl [1, 2, 3, 4] rfl)
        · refine lv_iload hx hb dX5_whoMaySayMost_30 (lv_at hl 0 rfl) ?_
          refine lv_istore_n (lv' := [(2, .int (f_J6_bitCount_0f7a4 q7)), (4, .int (f_J6_bitCount_0f7a4 q7)), (3, .int v3_1), (1, .int v1_3), (0, .ref (a0 0))]) hx hb dX5_whoMaySayMost_32 rfl hl (by decide) rfl (fun ls hl => ?_)
          refine lv_iload_n hx hb dX5_whoMaySayMost_33 rfl (lv_at hl 2 rfl) ?_
          refine lv_istore_n (lv' := [(1, .int v3_1), (2, .int (f_J6_bitCount_0f7a4 q7)), (4, .int (f_J6_bitCount_0f7a4 q7)), (3, .int v3_1), (0, .ref (a0 0))]) hx hb dX5_whoMaySayMost_34 rfl hl (by decide) rfl (fun ls hl => ?_)
          exact hJ18 _ _ _ (by first | rfl | (simp only [if_neg c9])) (by first | rfl | (simp only [if_neg c9])) (lv_sub hl [3, 1, 0, 4] rfl)
  exact hW6 300 (0 : Int32) (-1 : Int32) (-1 : Int32) hL6 _ (lv_sub hl [0, 1, 2, 3] rfl)
theorem hd_X3_copyElements : yX3_copyElements.cls = RX3 ∧ yX3_copyElements.cls ≠ "java/lang/invoke/MethodHandle" ∧ yX3_copyElements.cls ≠ "java/lang/invoke/VarHandle" ∧ (parseMethodDescriptor yX3_copyElements.desc).map (fun d => d.parameters.length) = some 5 := by decide +kernel
set_option maxHeartbeats 4000000 in
set_option maxRecDepth 100000 in
theorem c_X3_copyElements (l : Launch) (g : Gm) (a0 : Nat → Nat) (G0 : TS) (R0 : LTS) (p1 : Int32) (p2 : Int32) (p3 : Int32) (p4 : Int32) (p5 : Int32) {q : LTS} (hM : f_X3_copyElements G0 R0 p1 p2 p3 p4 p5 = some q) : MW l yX3_copyElements wsX3_copyElements 1 80 g [.ref (a0 0), .int p1, .int p2, .int p3, .int p4, .int p5] (wX3 g a0 G0 R0) none (wX3 g a0 G0 q) := by
  intro sz
  refine Met.ofW (cc := cX3_copyElements) (maxL := 6) (ret := none) (by decide) rfl ?_
  intro p e s m args below meth c s₁ B hml hv
  obtain ⟨rfl, hsz, hP, hK, hD0⟩ := hv
  have hx := B.exec; have hb := B.bytes; have hr := B.returns
  have hts := atoms_spec (ws := wsX3_copyElements) B.pre
  have hown : s.vm.findClass RX3 = some m.cls := findClass_of_methodNamed B.named
  have hlocks := B.notSynchronized
  have hS : CallFix p m c cX3_copyElements 6 s _ wsX3_copyElements RX3 := ⟨hx, hb, hml, hown, hts⟩
  have hin_X3 : ∀ w ∈ wsX30, w ∈ wsX3_copyElements := fun w h => (List.mem_cons_of_mem _ (List.mem_append_right _ h))
  subst hsz
  have hw := wk_start hP hD0
  have hA : ∀ q : Nat, s.heap.size ≤ q → va_A (wX3 g a0 G0 R0) s.heap.size q := fun q h => Or.inr h
  generalize va_A (wX3 g a0 G0 R0) s.heap.size = A at hw hA ⊢
  clear hP hD0
  have hl := lv_entry ([.ref (a0 0), .int p1, .int p2, .int p3, .int p4, .int p5]) (n := 6) (Nat.le_of_ble_eq_true rfl)
  rw [lg_entry_eq]
  generalize (lg_sl ([.ref (a0 0), .int p1, .int p2, .int p3, .int p4, .int p5]) ++ List.replicate (6 - (lg_sl ([.ref (a0 0), .int p1, .int p2, .int p3, .int p4, .int p5])).length) Slot.unset).toArray = ls at hl ⊢
  have hl : lv_has ls 6 [(0, .ref (a0 0)), (1, .int p1), (2, .int p2), (3, .int p3), (4, .int p4), (5, .int p5)] := hl
  rw [f_X3_copyElements] at hM
  refine lv_aload_n hx hb dX3_copyElements_0 rfl (lv_at hl 0 rfl) ?_
  refine wk_get hx hb hts hin_X3 hown hK hw.1 3 0 2 (.ref (a0 3)) rfl rfl (by decide) (mi 1 rfl) rfl rfl dX3_copyElements_1 ?_
  refine lv_iload_n hx hb dX3_copyElements_4 rfl (lv_at hl 1 rfl) ?_
  obtain ⟨k1, hM⟩ := ck hM
  refine wk_aald hx hb hK hw.1 3 8 (fun i => a0 (4 + i)) 3 rfl (k1) rfl rfl dX3_copyElements_5 ?_
  refine lv_iload_n hx hb dX3_copyElements_6 rfl (lv_at hl 3 rfl) ?_
  refine lv_aload_n hx hb dX3_copyElements_7 rfl (lv_at hl 0 rfl) ?_
  refine wk_get hx hb hts hin_X3 hown hK hw.1 3 0 2 (.ref (a0 3)) rfl rfl (by decide) (mi 1 rfl) rfl rfl dX3_copyElements_8 ?_
  refine lv_iload_n hx hb dX3_copyElements_11 rfl (lv_at hl 2 rfl) ?_
  obtain ⟨k2, hM⟩ := ck hM
  refine wk_aald hx hb hK hw.1 3 8 (fun i => a0 (4 + i)) 3 rfl (k2) rfl rfl dX3_copyElements_12 ?_
  refine lv_iload hx hb dX3_copyElements_13 (lv_at hl 4 rfl) ?_
  refine lv_iload hx hb dX3_copyElements_15 (lv_at hl 5 rfl) ?_
  obtain ⟨k3, hM⟩ := ck hM
  refine wk_copyl (wq := (wX3 g a0 G0 (upL R0 (p2).toNatClampNeg (va_cpy (R0 (p1).toNatClampNeg) (R0 (p2).toNatClampNeg) (p3).toNatClampNeg (p4).toNatClampNeg (p5).toNatClampNeg)))) hx hb (hml.trans hl.1.symm) hown (hts _ (mi 2 rfl)) (hts _ (mi 3 rfl)) (hts _ (mi 4 rfl)) (hts _ (mi 5 rfl)) hK hw (4 + (p1).toNatClampNeg) (4 + (p2).toNatClampNeg) 40 40 (R0 (p1).toNatClampNeg) (R0 (p2).toNatClampNeg) (wX3_row (Nat.lt_of_not_le (fun z => k1 (Or.inr z)))) (wX3_row (Nat.lt_of_not_le (fun z => k2 (Or.inr z)))) k3 (Nat.le_of_ble_eq_true rfl) (Nat.le_of_ble_eq_true rfl) dX3_copyElements_17 (wX3_set (Nat.lt_of_not_le (fun z => k2 (Or.inr z)))) (fun H locs hw => ?_)
  obtain rfl := Option.some.inj hM
  exact W.vret hx hb hr (fun t ht _ => ⟨rfl, by rw [ht]; exact hw.1, hw.2.2.F ht⟩) hw.2.2.2.2 dX3_copyElements_20
theorem hd_X6_isWithin : yX6_isWithin.cls ≠ "java/lang/invoke/MethodHandle" ∧ yX6_isWithin.cls ≠ "java/lang/invoke/VarHandle" ∧ (parseMethodDescriptor yX6_isWithin.desc).map (fun d => d.parameters.length) = some 3 := by decide +kernel
set_option maxHeartbeats 4000000 in
set_option maxRecDepth 100000 in
theorem c_X6_isWithin (l : Launch) (g : Gm) (p0 : Int32) (p1 : Int32) (p2 : Int32) : MR l yX6_isWithin wsX6_isWithin 0 0 g [.int p0, .int p1, .int p2] ([] : va_W) (some (.int (f_X6_isWithin p0 p1 p2))) := by
  refine Met.ofW (cc := cX6_isWithin) (maxL := 3) (ret := (some .boolean)) (by decide) rfl ?_
  intro p e s m args below meth c s₁ B hml hv
  obtain ⟨rfl, hP, hK⟩ := hv
  have hx := B.exec; have hb := B.bytes; have hr := B.returns
  have hts := atoms_spec (ws := wsX6_isWithin) B.pre
  have hown : s.vm.findClass RX6 = some m.cls := findClass_of_methodNamed B.named
  have hlocks := B.notSynchronized
  have hS : CallFix p m c cX6_isWithin 3 s _ wsX6_isWithin RX6 := ⟨hx, hb, hml, hown, hts⟩
  have hl := lv_entry ([.int p0, .int p1, .int p2]) (n := 3) (Nat.le_of_ble_eq_true rfl)
  rw [lg_entry_eq]
  generalize (lg_sl ([.int p0, .int p1, .int p2]) ++ List.replicate (3 - (lg_sl ([.int p0, .int p1, .int p2])).length) Slot.unset).toArray = ls at hl ⊢
  have hl : lv_has ls 3 [(0, .int p0), (1, .int p1), (2, .int p2)] := hl
  obtain ⟨rr, hM⟩ : ∃ rr, f_X6_isWithin p0 p1 p2 = rr := ⟨_, rfl⟩
  rw [hM]
  rw [f_X6_isWithin] at hM
  refine lv_iload_n hx hb dX6_isWithin_0 rfl (lv_at hl 0 rfl) ?_
  refine lv_iload_n hx hb dX6_isWithin_1 rfl (lv_at hl 1 rfl) ?_
  have hJ8 : ∀ (x7 : Int32) (ls : Array Slot), x7 = (if p0 < p1 then (0 : Int32) else (if p2 < p0 then (0 : Int32) else (1 : Int32))) → lv_has ls 3 [] → W p l e (headSpec wsX6_isWithin ({ frames := 0, cells := 0, slots := 0, locals := 0 } : Room)).room s m ([.int p0, .int p1, .int p2] : List Value).toArray below meth c s.heap [] 0 0 (MQ below (QcR (some (.int rr))) ([.int p0, .int p1, .int p2] : List Value).toArray s 0 0 (fun _ => False)) (F0 m 15 ls [.int x7]) := by
    intro x7 ls hxx7 hl
    subst hxx7
    subst hM
    exact W.zret hx hb hr (nz (by repeat (first | exact Or.inl rfl | exact Or.inr rfl | split))) (fun t ht _ => ⟨rfl, ht⟩) (fun q hq => by cases hq) dX6_isWithin_15
  refine lv_icmp_lt (tgt := 14) hx hb dX6_isWithin_2 (by decide) (fun c1 => ?_) (fun c1 => ?_)
  · refine lv_iconst (v := (0 : Int32)) hx hb dX6_isWithin_14 (by decide) ?_
    exact hJ8 _ _ (by first | rfl | (simp only [if_pos c1])) (lv_sub hl [] rfl)
  · refine lv_iload_n hx hb dX6_isWithin_5 rfl (lv_at hl 0 rfl) ?_
    refine lv_iload_n hx hb dX6_isWithin_6 rfl (lv_at hl 2 rfl) ?_
    refine lv_icmp_gt (tgt := 14) hx hb dX6_isWithin_7 (by decide) (fun c2 => ?_) (fun c2 => ?_)
    · refine lv_iconst (v := (0 : Int32)) hx hb dX6_isWithin_14 (by decide) ?_
      exact hJ8 _ _ (by first | rfl | (simp only [if_neg c1, if_pos c2])) (lv_sub hl [] rfl)
    · refine lv_iconst (v := (1 : Int32)) hx hb dX6_isWithin_10 (by decide) ?_
      refine lv_goto (tgt := 15) hx hb dX6_isWithin_11 (by decide) ?_
      exact hJ8 _ _ (by first | rfl | (simp only [if_neg c1, if_neg c2])) (lv_sub hl [] rfl)
theorem hd_X6_isShelf : yX6_isShelf.cls ≠ "java/lang/invoke/MethodHandle" ∧ yX6_isShelf.cls ≠ "java/lang/invoke/VarHandle" ∧ (parseMethodDescriptor yX6_isShelf.desc).map (fun d => d.parameters.length) = some 1 := by decide +kernel
set_option maxHeartbeats 4000000 in
set_option maxRecDepth 100000 in
theorem c_X6_isShelf (l : Launch) (g : Gm) (p0 : Int32) : MR l yX6_isShelf wsX6_isShelf 1 22 g [.int p0] ([] : va_W) (some (.int (f_X6_isShelf p0))) := by
  refine Met.ofW (cc := cX6_isShelf) (maxL := 1) (ret := (some .boolean)) (by decide) rfl ?_
  intro p e s m args below meth c s₁ B hml hv
  obtain ⟨rfl, hP, hK⟩ := hv
  have hx := B.exec; have hb := B.bytes; have hr := B.returns
  have hts := atoms_spec (ws := wsX6_isShelf) B.pre
  have hown : s.vm.findClass RX6 = some m.cls := findClass_of_methodNamed B.named
  have hlocks := B.notSynchronized
  have hS : CallFix p m c cX6_isShelf 1 s _ wsX6_isShelf RX6 := ⟨hx, hb, hml, hown, hts⟩
  have hl := lv_entry ([.int p0]) (n := 1) (Nat.le_of_ble_eq_true rfl)
  rw [lg_entry_eq]
  generalize (lg_sl ([.int p0]) ++ List.replicate (1 - (lg_sl ([.int p0])).length) Slot.unset).toArray = ls at hl ⊢
  have hl : lv_has ls 1 [(0, .int p0)] := hl
  obtain ⟨rr, hM⟩ : ∃ rr, f_X6_isShelf p0 = rr := ⟨_, rfl⟩
  rw [hM]
  rw [f_X6_isShelf] at hM
  refine lv_iload_n hx hb dX6_isShelf_0 rfl (lv_at hl 0 rfl) ?_
  refine lv_iconst (v := (0 : Int32)) hx hb dX6_isShelf_1 (by decide) ?_
  refine lv_bipush (v := (7 : Int32)) hx hb dX6_isShelf_2 (by decide) ?_
  refine rSR (wc := ([] : va_W)) (As := [.int p0, .int (0 : Int32), .int (7 : Int32)]) (rest := []) hS (c_X6_isWithin l g p0 (0 : Int32) (7 : Int32)) gX6_isShelf_X6_isWithin rfl hd_X6_isWithin ⟨Nat.le_of_ble_eq_true rfl, Nat.le_of_ble_eq_true rfl⟩ hK (hP_nil) rfl hl.1 rfl (Nat.le_of_ble_eq_true rfl) dX6_isShelf_4 ⟨Nat.zero_le _, Nat.zero_le _⟩ ?_
  subst hM
  exact W.zret hx hb hr (nz (bz_X6_isWithin p0 (0 : Int32) (7 : Int32))) (fun t ht _ => ⟨rfl, ht⟩) (fun q hq => by cases hq) dX6_isShelf_7
theorem hd_X3_elementOf : yX3_elementOf.cls = RX3 ∧ yX3_elementOf.cls ≠ "java/lang/invoke/MethodHandle" ∧ yX3_elementOf.cls ≠ "java/lang/invoke/VarHandle" ∧ (parseMethodDescriptor yX3_elementOf.desc).map (fun d => d.parameters.length) = some 2 := by decide +kernel
set_option maxHeartbeats 4000000 in
set_option maxRecDepth 100000 in
theorem c_X3_elementOf (l : Launch) (g : Gm) (a0 : Nat → Nat) (G0 : TS) (R0 : LTS) (p1 : Int32) (p2 : Int32) {q : Int64} (hM : f_X3_elementOf G0 R0 p1 p2 = some q) : MR l yX3_elementOf wsX3_elementOf 2 42 g [.ref (a0 0), .int p1, .int p2] (wX3 g a0 G0 R0) (some (.long q)) := by
  refine Met.ofW (cc := cX3_elementOf) (maxL := 3) (ret := (some .long)) (by decide) rfl ?_
  intro p e s m args below meth c s₁ B hml hv
  obtain ⟨rfl, hP, hK⟩ := hv
  have hx := B.exec; have hb := B.bytes; have hr := B.returns
  have hts := atoms_spec (ws := wsX3_elementOf) B.pre
  have hown : s.vm.findClass RX3 = some m.cls := findClass_of_methodNamed B.named
  have hlocks := B.notSynchronized
  have hS : CallFix p m c cX3_elementOf 3 s _ wsX3_elementOf RX3 := ⟨hx, hb, hml, hown, hts⟩
  have hin_X3 : ∀ w ∈ wsX30, w ∈ wsX3_elementOf := fun w h => (List.mem_cons_of_mem _ (List.mem_append_right _ h))
  have hl := lv_entry ([.ref (a0 0), .int p1, .int p2]) (n := 3) (Nat.le_of_ble_eq_true rfl)
  rw [lg_entry_eq]
  generalize (lg_sl ([.ref (a0 0), .int p1, .int p2]) ++ List.replicate (3 - (lg_sl ([.ref (a0 0), .int p1, .int p2])).length) Slot.unset).toArray = ls at hl ⊢
  have hl : lv_has ls 3 [(0, .ref (a0 0)), (1, .int p1), (2, .int p2)] := hl
  rw [f_X3_elementOf] at hM
  refine lv_iload_n hx hb dX3_elementOf_0 rfl (lv_at hl 1 rfl) ?_
  refine rNR (wc := ([] : va_W)) (As := [.int p1]) (rest := []) hS (c_X6_isShelf l g p1) gX3_elementOf_X6_isShelf_n33 rfl (mi 3 rfl) (mi 4 rfl) 3 rfl hd_X6_isShelf ⟨Nat.le_of_ble_eq_true rfl, Nat.le_of_ble_eq_true rfl⟩ hK (hP_nil) rfl hl.1 rfl (Nat.le_of_ble_eq_true rfl) dX3_elementOf_1 ⟨Nat.zero_le _, Nat.zero_le _⟩ ?_
  refine lv_if_eq (tgt := 32) hx hb dX3_elementOf_4 (by decide) (fun c2 => ?_) (fun c2 => ?_)
  · replace hM := itp c2 hM
    refine lv_lconst (v := (0 : Int64)) hx hb dX3_elementOf_32 (by decide) ?_
    obtain rfl := Option.some.inj hM
    exact W.lret hx hb hr (fun t ht _ => ⟨rfl, ht⟩) (fun q hq => by cases hq) dX3_elementOf_33
  · replace hM := itn c2 hM
    refine lv_iload_n hx hb dX3_elementOf_7 rfl (lv_at hl 2 rfl) ?_
    refine lv_if_lt (tgt := 32) hx hb dX3_elementOf_8 (by decide) (fun c3 => ?_) (fun c3 => ?_)
    · replace hM := itp c3 hM
      refine lv_lconst (v := (0 : Int64)) hx hb dX3_elementOf_32 (by decide) ?_
      obtain rfl := Option.some.inj hM
      exact W.lret hx hb hr (fun t ht _ => ⟨rfl, ht⟩) (fun q hq => by cases hq) dX3_elementOf_33
    · replace hM := itn c3 hM
      refine lv_iload_n hx hb dX3_elementOf_11 rfl (lv_at hl 2 rfl) ?_
      refine lv_aload_n hx hb dX3_elementOf_12 rfl (lv_at hl 0 rfl) ?_
      refine wk_get hx hb hts hin_X3 hown hK hP 3 0 1 (.ref (a0 2)) rfl rfl (by decide) (mi 1 rfl) rfl rfl dX3_elementOf_13 ?_
      refine lv_iload_n hx hb dX3_elementOf_16 rfl (lv_at hl 1 rfl) ?_
      obtain ⟨k4, hM⟩ := ck hM
      refine wk_iald hx hb hK hP 2 8 (G0 1) rfl k4 dX3_elementOf_17 ?_
      refine lv_icmp_ge (tgt := 32) hx hb dX3_elementOf_18 (by decide) (fun c5 => ?_) (fun c5 => ?_)
      · replace hM := itp c5 hM
        refine lv_lconst (v := (0 : Int64)) hx hb dX3_elementOf_32 (by decide) ?_
        obtain rfl := Option.some.inj hM
        exact W.lret hx hb hr (fun t ht _ => ⟨rfl, ht⟩) (fun q hq => by cases hq) dX3_elementOf_33
      · replace hM := itn c5 hM
        refine lv_aload_n hx hb dX3_elementOf_21 rfl (lv_at hl 0 rfl) ?_
        refine wk_get hx hb hts hin_X3 hown hK hP 3 0 2 (.ref (a0 3)) rfl rfl (by decide) (mi 2 rfl) rfl rfl dX3_elementOf_22 ?_
        refine lv_iload_n hx hb dX3_elementOf_25 rfl (lv_at hl 1 rfl) ?_
        refine wk_aald hx hb hK hP 3 8 (fun i => a0 (4 + i)) 3 rfl (k4) rfl rfl dX3_elementOf_26 ?_
        refine lv_iload_n hx hb dX3_elementOf_27 rfl (lv_at hl 2 rfl) ?_
        obtain ⟨k6, hM⟩ := ck hM
        refine wk_lald hx hb hK hP (4 + (p1).toNatClampNeg) 40 (R0 (p1).toNatClampNeg) (wX3_row (Nat.lt_of_not_le (fun z => k4 (Or.inr z)))) k6 dX3_elementOf_28 ?_
        refine lv_goto (tgt := 33) hx hb dX3_elementOf_29 (by decide) ?_
        obtain rfl := Option.some.inj hM
        exact W.lret hx hb hr (fun t ht _ => ⟨rfl, ht⟩) (fun q hq => by cases hq) dX3_elementOf_33
theorem hd_X3_isApart : yX3_isApart.cls = RX3 ∧ yX3_isApart.cls ≠ "java/lang/invoke/MethodHandle" ∧ yX3_isApart.cls ≠ "java/lang/invoke/VarHandle" ∧ (parseMethodDescriptor yX3_isApart.desc).map (fun d => d.parameters.length) = some 4 := by decide +kernel
set_option maxHeartbeats 4000000 in
set_option maxRecDepth 100000 in
theorem c_X3_isApart (l : Launch) (g : Gm) (a0 : Nat → Nat) (G0 : TS) (R0 : LTS) (p1 : Int32) (p2 : Int32) (p3 : Int32) (p4 : Int32) {q : Int32} (hM : f_X3_isApart G0 R0 p1 p2 p3 p4 = some q) : MR l yX3_isApart wsX3_isApart 3 64 g [.ref (a0 0), .int p1, .int p2, .int p3, .int p4] (wX3 g a0 G0 R0) (some (.int q)) := by
  refine Met.ofW (cc := cX3_isApart) (maxL := 9) (ret := (some .boolean)) (by decide) rfl ?_
  intro p e s m args below meth c s₁ B hml hv
  obtain ⟨rfl, hP, hK⟩ := hv
  have hx := B.exec; have hb := B.bytes; have hr := B.returns
  have hts := atoms_spec (ws := wsX3_isApart) B.pre
  have hown : s.vm.findClass RX3 = some m.cls := findClass_of_methodNamed B.named
  have hlocks := B.notSynchronized
  have hS : CallFix p m c cX3_isApart 9 s _ wsX3_isApart RX3 := ⟨hx, hb, hml, hown, hts⟩
  have hl := lv_entry ([.ref (a0 0), .int p1, .int p2, .int p3, .int p4]) (n := 9) (Nat.le_of_ble_eq_true rfl)
  rw [lg_entry_eq]
  generalize (lg_sl ([.ref (a0 0), .int p1, .int p2, .int p3, .int p4]) ++ List.replicate (9 - (lg_sl ([.ref (a0 0), .int p1, .int p2, .int p3, .int p4])).length) Slot.unset).toArray = ls at hl ⊢
  have hl : lv_has ls 9 [(0, .ref (a0 0)), (1, .int p1), (2, .int p2), (3, .int p3), (4, .int p4)] := hl
  rw [f_X3_isApart] at hM
  refine lv_iconst (v := (0 : Int32)) hx hb dX3_isApart_0 (by decide) ?_
  refine lv_istore (lv' := [(5, .int (0 : Int32)), (0, .ref (a0 0)), (1, .int p1), (2, .int p2), (3, .int p3), (4, .int p4)]) hx hb dX3_isApart_1 hl (by decide) rfl (fun ls hl => ?_)
  obtain ⟨q2, hL3, hM3⟩ := bd hM
  have hJ3 : ∀ (q2x : Unit), q2 = .inr q2x → ∀ (ls : Array Slot), lv_has ls 9 [] → W p l e (headSpec wsX3_isApart ({ frames := 3, cells := 0, slots := 0, locals := 64 } : Room)).room s m ([.ref (a0 0), .int p1, .int p2, .int p3, .int p4] : List Value).toArray below meth c s.heap [] 0 0 (MQ below (QcR (some (.int q))) ([.ref (a0 0), .int p1, .int p2, .int p3, .int p4] : List Value).toArray s 0 0 (fun _ => False)) (F0 m 71 ls []) := by
    intro q2x hX3 ls hl
    rw [hX3] at hM3
    have hM := eo_inr hM3
    refine lv_iconst (v := (1 : Int32)) hx hb dX3_isApart_71 (by decide) ?_
    obtain rfl := Option.some.inj hM
    exact W.zret hx hb hr (nz (Or.inr rfl)) (fun t ht _ => ⟨rfl, ht⟩) (fun q hq => by cases hq) dX3_isApart_72
  have hW3 : ∀ (n : Nat) (v5_1 : Int32), L_X3_isApart_3 G0 R0 p1 p2 p3 p4 n v5_1 = some q2 → ∀ (ls : Array Slot), lv_has ls 9 [(5, .int v5_1), (0, .ref (a0 0)), (1, .int p1), (2, .int p2), (3, .int p3), (4, .int p4)] → W p l e (headSpec wsX3_isApart ({ frames := 3, cells := 0, slots := 0, locals := 64 } : Room)).room s m ([.ref (a0 0), .int p1, .int p2, .int p3, .int p4] : List Value).toArray below meth c s.heap [] 0 0 (MQ below (QcR (some (.int q))) ([.ref (a0 0), .int p1, .int p2, .int p3, .int p4] : List Value).toArray s 0 0 (fun _ => False)) (F0 m 3 ls []) := by
    intro n
    induction n with
    | zero => intro v5_1 hM; rw [L_X3_isApart_3] at hM; exact nn hM
    | succ n ih3 =>
      intro v5_1 hM ls hl
      rw [L_X3_isApart_3] at hM
      refine lv_iload hx hb dX3_isApart_3 (lv_at hl 0 rfl) ?_
      refine lv_iload_n hx hb dX3_isApart_5 rfl (lv_at hl 3 rfl) ?_
      refine lv_icmp_ge (tgt := 71) hx hb dX3_isApart_6 (by decide) (fun c3 => ?_) (fun c3 => ?_)
      · replace hM := itp c3 hM
        exact hJ3 _ (Option.some.inj hM).symm _ (lv_sub hl [] rfl)
      · replace hM := itn c3 hM
        refine lv_iconst (v := (0 : Int32)) hx hb dX3_isApart_9 (by decide) ?_
        refine lv_istore (lv' := [(6, .int (0 : Int32)), (5, .int v5_1), (0, .ref (a0 0)), (1, .int p1), (2, .int p2), (3, .int p3), (4, .int p4)]) hx hb dX3_isApart_10 hl (by decide) rfl (fun ls hl => ?_)
        obtain ⟨q5, hL12, hM12⟩ := bd hM
        have hJ12 : ∀ (q5x : Unit), q5 = .inr q5x → ∀ (ls : Array Slot), lv_has ls 9 [(5, .int v5_1), (0, .ref (a0 0)), (1, .int p1), (2, .int p2), (3, .int p3), (4, .int p4)] → W p l e (headSpec wsX3_isApart ({ frames := 3, cells := 0, slots := 0, locals := 64 } : Room)).room s m ([.ref (a0 0), .int p1, .int p2, .int p3, .int p4] : List Value).toArray below meth c s.heap [] 0 0 (MQ below (QcR (some (.int q))) ([.ref (a0 0), .int p1, .int p2, .int p3, .int p4] : List Value).toArray s 0 0 (fun _ => False)) (F0 m 65 ls []) := by
          intro q5x hX12 ls hl
          rw [hX12] at hM12
          have hM := eoS_inr hM12
          refine lv_iinc (v := (v5_1 + (1 : Int32))) (lv' := [(5, .int (v5_1 + (1 : Int32))), (0, .ref (a0 0)), (1, .int p1), (2, .int p2), (3, .int p3), (4, .int p4)]) hx hb dX3_isApart_65 hl (k := 0) rfl rfl (by decide) rfl (fun ls hl => ?_)
          refine lv_goto (tgt := 3) hx hb dX3_isApart_68 (by decide) ?_
          exact ih3 (v5_1 + (1 : Int32)) hM _ (lv_sub hl [0, 1, 2, 3, 4, 5] rfl)
        have hW12 : ∀ (n : Nat) (v6_4 : Int32), L_X3_isApart_12 G0 R0 p1 p3 p4 v5_1 n v6_4 = some q5 → ∀ (ls : Array Slot), lv_has ls 9 [(6, .int v6_4), (5, .int v5_1), (0, .ref (a0 0)), (1, .int p1), (2, .int p2), (3, .int p3), (4, .int p4)] → W p l e (headSpec wsX3_isApart ({ frames := 3, cells := 0, slots := 0, locals := 64 } : Room)).room s m ([.ref (a0 0), .int p1, .int p2, .int p3, .int p4] : List Value).toArray below meth c s.heap [] 0 0 (MQ below (QcR (some (.int q))) ([.ref (a0 0), .int p1, .int p2, .int p3, .int p4] : List Value).toArray s 0 0 (fun _ => False)) (F0 m 12 ls []) := by
          intro n
          induction n with
          | zero => intro v6_4 hM; rw [L_X3_isApart_12] at hM; exact nn hM
          | succ n ih12 =>
            intro v6_4 hM ls hl
            rw [L_X3_isApart_12] at hM
            refine lv_iload hx hb dX3_isApart_12 (lv_at hl 0 rfl) ?_
            refine lv_iload hx hb dX3_isApart_14 (lv_at hl 1 rfl) ?_
            refine lv_icmp_ge (tgt := 65) hx hb dX3_isApart_16 (by decide) (fun c6 => ?_) (fun c6 => ?_)
            · replace hM := itp c6 hM
              exact hJ12 _ (Option.some.inj hM).symm _ (lv_sub hl [1, 2, 3, 4, 5, 6] rfl)
            · replace hM := itn c6 hM
              refine lv_aload_n hx hb dX3_isApart_19 rfl (lv_at hl 2 rfl) ?_
              refine lv_iload_n hx hb dX3_isApart_20 rfl (lv_at hl 3 rfl) ?_
              refine lv_iload hx hb dX3_isApart_21 (lv_at hl 1 rfl) ?_
              obtain ⟨q8, h7, hM⟩ := bd hM
              refine rVR (wc := (wX3 g a0 G0 R0)) (As := [.int p1, .int v5_1]) (rest := []) (q0 := 0) hS (c_X3_elementOf l g a0 G0 R0 p1 v5_1 h7) gX3_isApart_X3_elementOf rfl hd_X3_elementOf ⟨Nat.le_of_ble_eq_true rfl, Nat.le_of_ble_eq_true rfl⟩ hK (va_P.pm hP (pm_1_0 _)) rfl rfl rfl rfl hl.1 rfl (Nat.le_of_ble_eq_true rfl) dX3_isApart_23 ⟨Nat.zero_le _, Nat.zero_le _⟩ ?_
              refine lv_aload_n hx hb dX3_isApart_26 rfl (lv_at hl 2 rfl) ?_
              refine lv_iload_n hx hb dX3_isApart_27 rfl (lv_at hl 3 rfl) ?_
              refine lv_iload hx hb dX3_isApart_28 (lv_at hl 0 rfl) ?_
              obtain ⟨q10, h9, hM⟩ := bd hM
              refine rVR (wc := (wX3 g a0 G0 R0)) (As := [.int p1, .int v6_4]) (rest := [.long q8]) (q0 := 0) hS (c_X3_elementOf l g a0 G0 R0 p1 v6_4 h9) gX3_isApart_X3_elementOf rfl hd_X3_elementOf ⟨Nat.le_of_ble_eq_true rfl, Nat.le_of_ble_eq_true rfl⟩ hK (va_P.pm hP (pm_1_0 _)) rfl rfl rfl rfl hl.1 rfl (Nat.le_of_ble_eq_true rfl) dX3_isApart_30 ⟨Nat.zero_le _, Nat.zero_le _⟩ ?_
              refine lv_lxor hx hb dX3_isApart_33 ?_
              refine lv_lstore (lv' := [(7, .long (q8 ^^^ q10)), (6, .int v6_4), (5, .int v5_1), (0, .ref (a0 0)), (1, .int p1), (2, .int p2), (3, .int p3), (4, .int p4)]) hx hb dX3_isApart_34 hl (by decide) rfl (fun ls hl => ?_)
              refine lv_lload hx hb dX3_isApart_36 (lv_at hl 0 rfl) ?_
              refine lv_iload hx hb dX3_isApart_38 (lv_at hl 7 rfl) ?_
              refine lv_i2l (v := ((p4).toInt64)) hx hb dX3_isApart_40 rfl ?_
              refine lv_land hx hb dX3_isApart_41 ?_
              refine lv_lconst (v := (0 : Int64)) hx hb dX3_isApart_42 (by decide) ?_
              refine W.lcmp hx hb dX3_isApart_43 ?_
              refine lv_if_eq (tgt := 59) hx hb dX3_isApart_44 (by decide) (fun c11 => ?_) (fun c11 => ?_)
              · replace hM := itp c11 hM
                refine lv_iinc (v := (v6_4 + (1 : Int32))) (lv' := [(6, .int (v6_4 + (1 : Int32))), (7, .long (q8 ^^^ q10)), (5, .int v5_1), (0, .ref (a0 0)), (1, .int p1), (2, .int p2), (3, .int p3), (4, .int p4)]) hx hb dX3_isApart_59 hl (k := 1) rfl rfl (by decide) rfl (fun ls hl => ?_)
                refine lv_goto (tgt := 12) hx hb dX3_isApart_62 (by decide) ?_
                exact ih12 (v6_4 + (1 : Int32)) hM _ (lv_sub hl [0, 2, 3, 4, 5, 6, 7] rfl)
              · replace hM := itn c11 hM
                refine lv_lload hx hb dX3_isApart_47 (lv_at hl 0 rfl) ?_
                refine lv_iload_n hx hb dX3_isApart_49 rfl (lv_at hl 6 rfl) ?_
                refine lv_i2l (v := ((p3).toInt64)) hx hb dX3_isApart_50 rfl ?_
                refine lv_land hx hb dX3_isApart_51 ?_
                refine lv_lconst (v := (0 : Int64)) hx hb dX3_isApart_52 (by decide) ?_
                refine W.lcmp hx hb dX3_isApart_53 ?_
                refine lv_if_ne (tgt := 59) hx hb dX3_isApart_54 (by decide) (fun c12 => ?_) (fun c12 => ?_)
                · replace hM := itn c12 hM
                  refine lv_iinc (v := (v6_4 + (1 : Int32))) (lv' := [(6, .int (v6_4 + (1 : Int32))), (7, .long (q8 ^^^ q10)), (5, .int v5_1), (0, .ref (a0 0)), (1, .int p1), (2, .int p2), (3, .int p3), (4, .int p4)]) hx hb dX3_isApart_59 hl (k := 1) rfl rfl (by decide) rfl (fun ls hl => ?_)
                  refine lv_goto (tgt := 12) hx hb dX3_isApart_62 (by decide) ?_
                  exact ih12 (v6_4 + (1 : Int32)) hM _ (lv_sub hl [0, 2, 3, 4, 5, 6, 7] rfl)
                · replace hM := itp c12 hM
                  refine lv_iconst (v := (0 : Int32)) hx hb dX3_isApart_57 (by decide) ?_
                  have hE := Option.some.inj hM
                  have hM12' := hM12
                  rw [← hE] at hM12'
                  have hE12 := eoS_inl hM12'
                  have hM3' := hM3
                  rw [← hE12] at hM3'
                  obtain rfl := eo_inl hM3'
                  exact W.zret hx hb hr (nz (Or.inl rfl)) (fun t ht _ => ⟨rfl, ht⟩) (fun q hq => by cases hq) dX3_isApart_58
        exact hW12 300 (0 : Int32) hL12 _ (lv_sub hl [0, 1, 2, 3, 4, 5, 6] rfl)
  exact hW3 300 (0 : Int32) hL3 _ (lv_sub hl [0, 1, 2, 3, 4, 5] rfl)
theorem hd_X3_fewestApart : yX3_fewestApart.cls = RX3 ∧ yX3_fewestApart.cls ≠ "java/lang/invoke/MethodHandle" ∧ yX3_fewestApart.cls ≠ "java/lang/invoke/VarHandle" ∧ (parseMethodDescriptor yX3_fewestApart.desc).map (fun d => d.parameters.length) = some 3 := by decide +kernel
set_option maxHeartbeats 4000000 in
set_option maxRecDepth 100000 in
theorem c_X3_fewestApart (l : Launch) (g : Gm) (a0 : Nat → Nat) (G0 : TS) (R0 : LTS) (p1 : Int32) (p2 : Int32) (p3 : Int32) {q : Int32} (hM : f_X3_fewestApart G0 R0 p1 p2 p3 = some q) : MR l yX3_fewestApart wsX3_fewestApart 4 92 g [.ref (a0 0), .int p1, .int p2, .int p3] (wX3 g a0 G0 R0) (some (.int q)) := by
  refine Met.ofW (cc := cX3_fewestApart) (maxL := 6) (ret := (some .int)) (by decide) rfl ?_
  intro p e s m args below meth c s₁ B hml hv
  obtain ⟨rfl, hP, hK⟩ := hv
  have hx := B.exec; have hb := B.bytes; have hr := B.returns
  have hts := atoms_spec (ws := wsX3_fewestApart) B.pre
  have hown : s.vm.findClass RX3 = some m.cls := findClass_of_methodNamed B.named
  have hlocks := B.notSynchronized
  have hS : CallFix p m c cX3_fewestApart 6 s _ wsX3_fewestApart RX3 := ⟨hx, hb, hml, hown, hts⟩
  have hl := lv_entry ([.ref (a0 0), .int p1, .int p2, .int p3]) (n := 6) (Nat.le_of_ble_eq_true rfl)
  rw [lg_entry_eq]
  generalize (lg_sl ([.ref (a0 0), .int p1, .int p2, .int p3]) ++ List.replicate (6 - (lg_sl ([.ref (a0 0), .int p1, .int p2, .int p3])).length) Slot.unset).toArray = ls at hl ⊢
  have hl : lv_has ls 6 [(0, .ref (a0 0)), (1, .int p1), (2, .int p2), (3, .int p3)] := hl
  rw [f_X3_fewestApart] at hM
  refine lv_iconst (v := (0 : Int32)) hx hb dX3_fewestApart_0 (by decide) ?_
  refine lv_istore (lv' := [(4, .int (0 : Int32)), (0, .ref (a0 0)), (1, .int p1), (2, .int p2), (3, .int p3)]) hx hb dX3_fewestApart_1 hl (by decide) rfl (fun ls hl => ?_)
  obtain ⟨q2, hL3, hM3⟩ := bd hM
  have hJ3 : ∀ (q2x : Unit), q2 = .inr q2x → ∀ (ls : Array Slot), lv_has ls 6 [(3, .int p3)] → W p l e (headSpec wsX3_fewestApart ({ frames := 4, cells := 0, slots := 0, locals := 92 } : Room)).room s m ([.ref (a0 0), .int p1, .int p2, .int p3] : List Value).toArray below meth c s.heap [] 0 0 (MQ below (QcR (some (.int q))) ([.ref (a0 0), .int p1, .int p2, .int p3] : List Value).toArray s 0 0 (fun _ => False)) (F0 m 56 ls []) := by
    intro q2x hX3 ls hl
    rw [hX3] at hM3
    have hM := eo_inr hM3
    refine lv_iload_n hx hb dX3_fewestApart_56 rfl (lv_at hl 0 rfl) ?_
    obtain rfl := Option.some.inj hM
    exact W.iret hx hb hr (fun t ht _ => ⟨rfl, ht⟩) (fun q hq => by cases hq) dX3_fewestApart_57
  have hW3 : ∀ (n : Nat) (v4_1 : Int32), L_X3_fewestApart_3 G0 R0 p1 p2 p3 n v4_1 = some q2 → ∀ (ls : Array Slot), lv_has ls 6 [(4, .int v4_1), (0, .ref (a0 0)), (1, .int p1), (2, .int p2), (3, .int p3)] → W p l e (headSpec wsX3_fewestApart ({ frames := 4, cells := 0, slots := 0, locals := 92 } : Room)).room s m ([.ref (a0 0), .int p1, .int p2, .int p3] : List Value).toArray below meth c s.heap [] 0 0 (MQ below (QcR (some (.int q))) ([.ref (a0 0), .int p1, .int p2, .int p3] : List Value).toArray s 0 0 (fun _ => False)) (F0 m 3 ls []) := by
    intro n
    induction n with
    | zero => intro v4_1 hM; rw [L_X3_fewestApart_3] at hM; exact nn hM
    | succ n ih3 =>
      intro v4_1 hM ls hl
      rw [L_X3_fewestApart_3] at hM
      refine lv_iload hx hb dX3_fewestApart_3 (lv_at hl 0 rfl) ?_
      refine lv_bipush (v := (7 : Int32)) hx hb dX3_fewestApart_5 (by decide) ?_
      refine lv_icmp_ge (tgt := 56) hx hb dX3_fewestApart_7 (by decide) (fun c3 => ?_) (fun c3 => ?_)
      · replace hM := itp c3 hM
        exact hJ3 _ (Option.some.inj hM).symm _ (lv_sub hl [4] rfl)
      · replace hM := itn c3 hM
        refine lv_iconst (v := (0 : Int32)) hx hb dX3_fewestApart_10 (by decide) ?_
        refine lv_istore (lv' := [(5, .int (0 : Int32)), (4, .int v4_1), (0, .ref (a0 0)), (1, .int p1), (2, .int p2), (3, .int p3)]) hx hb dX3_fewestApart_11 hl (by decide) rfl (fun ls hl => ?_)
        obtain ⟨q5, hL13, hM13⟩ := bd hM
        have hJ13 : ∀ (q5x : Unit), q5 = .inr q5x → ∀ (ls : Array Slot), lv_has ls 6 [(4, .int v4_1), (0, .ref (a0 0)), (1, .int p1), (2, .int p2), (3, .int p3)] → W p l e (headSpec wsX3_fewestApart ({ frames := 4, cells := 0, slots := 0, locals := 92 } : Room)).room s m ([.ref (a0 0), .int p1, .int p2, .int p3] : List Value).toArray below meth c s.heap [] 0 0 (MQ below (QcR (some (.int q))) ([.ref (a0 0), .int p1, .int p2, .int p3] : List Value).toArray s 0 0 (fun _ => False)) (F0 m 50 ls []) := by
          intro q5x hX13 ls hl
          rw [hX13] at hM13
          have hM := eoS_inr hM13
          refine lv_iinc (v := (v4_1 + (1 : Int32))) (lv' := [(4, .int (v4_1 + (1 : Int32))), (0, .ref (a0 0)), (1, .int p1), (2, .int p2), (3, .int p3)]) hx hb dX3_fewestApart_50 hl (k := 0) rfl rfl (by decide) rfl (fun ls hl => ?_)
          refine lv_goto (tgt := 3) hx hb dX3_fewestApart_53 (by decide) ?_
          exact ih3 (v4_1 + (1 : Int32)) hM _ (lv_sub hl [0, 1, 2, 3, 4] rfl)
        have hW13 : ∀ (n : Nat) (v5_4 : Int32), L_X3_fewestApart_13 G0 R0 p1 p2 p3 v4_1 n v5_4 = some q5 → ∀ (ls : Array Slot), lv_has ls 6 [(5, .int v5_4), (4, .int v4_1), (0, .ref (a0 0)), (1, .int p1), (2, .int p2), (3, .int p3)] → W p l e (headSpec wsX3_fewestApart ({ frames := 4, cells := 0, slots := 0, locals := 92 } : Room)).room s m ([.ref (a0 0), .int p1, .int p2, .int p3] : List Value).toArray below meth c s.heap [] 0 0 (MQ below (QcR (some (.int q))) ([.ref (a0 0), .int p1, .int p2, .int p3] : List Value).toArray s 0 0 (fun _ => False)) (F0 m 13 ls []) := by
          intro n
          induction n with
          | zero => intro v5_4 hM; rw [L_X3_fewestApart_13] at hM; exact nn hM
          | succ n ih13 =>
            intro v5_4 hM ls hl
            rw [L_X3_fewestApart_13] at hM
            refine lv_iload hx hb dX3_fewestApart_13 (lv_at hl 0 rfl) ?_
            refine lv_iload_n hx hb dX3_fewestApart_15 rfl (lv_at hl 5 rfl) ?_
            refine lv_icmp_gt (tgt := 50) hx hb dX3_fewestApart_16 (by decide) (fun c6 => ?_) (fun c6 => ?_)
            · replace hM := itp c6 hM
              exact hJ13 _ (Option.some.inj hM).symm _ (lv_sub hl [1, 2, 3, 4, 5] rfl)
            · replace hM := itn c6 hM
              refine lv_iload hx hb dX3_fewestApart_19 (lv_at hl 0 rfl) ?_
              refine rSR (wc := ([] : va_W)) (As := [.int v5_4]) (rest := []) hS (c_J6_bitCount_0f7a4 l g v5_4) gX3_fewestApart_J6_bitCount_0f7a4 rfl hd_J6_bitCount_0f7a4 ⟨Nat.le_of_ble_eq_true rfl, Nat.le_of_ble_eq_true rfl⟩ hK (hP_nil) rfl hl.1 rfl (Nat.le_of_ble_eq_true rfl) dX3_fewestApart_21 ⟨Nat.zero_le _, Nat.zero_le _⟩ ?_
              refine lv_iload hx hb dX3_fewestApart_24 (lv_at hl 1 rfl) ?_
              refine lv_icmp_ne (tgt := 44) hx hb dX3_fewestApart_26 (by decide) (fun c8 => ?_) (fun c8 => ?_)
              · replace hM := itn c8 hM
                refine lv_iinc (v := (v5_4 + (1 : Int32))) (lv' := [(5, .int (v5_4 + (1 : Int32))), (4, .int v4_1), (0, .ref (a0 0)), (1, .int p1), (2, .int p2), (3, .int p3)]) hx hb dX3_fewestApart_44 hl (k := 0) rfl rfl (by decide) rfl (fun ls hl => ?_)
                refine lv_goto (tgt := 13) hx hb dX3_fewestApart_47 (by decide) ?_
                exact ih13 (v5_4 + (1 : Int32)) hM _ (lv_sub hl [0, 1, 2, 3, 4, 5] rfl)
              · replace hM := itp c8 hM
                refine lv_aload_n hx hb dX3_fewestApart_29 rfl (lv_at hl 2 rfl) ?_
                refine lv_iload_n hx hb dX3_fewestApart_30 rfl (lv_at hl 3 rfl) ?_
                refine lv_iload_n hx hb dX3_fewestApart_31 rfl (lv_at hl 4 rfl) ?_
                refine lv_iload hx hb dX3_fewestApart_32 (lv_at hl 0 rfl) ?_
                refine lv_iload_n hx hb dX3_fewestApart_34 rfl (lv_at hl 5 rfl) ?_
                obtain ⟨q10, h9, hM⟩ := bd hM
                refine rVR (wc := (wX3 g a0 G0 R0)) (As := [.int p1, .int p2, .int v5_4, .int p3]) (rest := []) (q0 := 0) hS (c_X3_isApart l g a0 G0 R0 p1 p2 v5_4 p3 h9) gX3_fewestApart_X3_isApart rfl hd_X3_isApart ⟨Nat.le_of_ble_eq_true rfl, Nat.le_of_ble_eq_true rfl⟩ hK (va_P.pm hP (pm_1_0 _)) rfl rfl rfl rfl hl.1 rfl (Nat.le_of_ble_eq_true rfl) dX3_fewestApart_35 ⟨Nat.zero_le _, Nat.zero_le _⟩ ?_
                refine lv_if_eq (tgt := 44) hx hb dX3_fewestApart_38 (by decide) (fun c11 => ?_) (fun c11 => ?_)
                · replace hM := itp c11 hM
                  refine lv_iinc (v := (v5_4 + (1 : Int32))) (lv' := [(5, .int (v5_4 + (1 : Int32))), (4, .int v4_1), (0, .ref (a0 0)), (1, .int p1), (2, .int p2), (3, .int p3)]) hx hb dX3_fewestApart_44 hl (k := 0) rfl rfl (by decide) rfl (fun ls hl => ?_)
                  refine lv_goto (tgt := 13) hx hb dX3_fewestApart_47 (by decide) ?_
                  exact ih13 (v5_4 + (1 : Int32)) hM _ (lv_sub hl [0, 1, 2, 3, 4, 5] rfl)
                · replace hM := itn c11 hM
                  refine lv_iload hx hb dX3_fewestApart_41 (lv_at hl 0 rfl) ?_
                  have hE := Option.some.inj hM
                  have hM13' := hM13
                  rw [← hE] at hM13'
                  have hE13 := eoS_inl hM13'
                  have hM3' := hM3
                  rw [← hE13] at hM3'
                  obtain rfl := eo_inl hM3'
                  exact W.iret hx hb hr (fun t ht _ => ⟨rfl, ht⟩) (fun q hq => by cases hq) dX3_fewestApart_43
        exact hW13 300 (0 : Int32) hL13 _ (lv_sub hl [0, 1, 2, 3, 4, 5] rfl)
  exact hW3 300 (0 : Int32) hL3 _ (lv_sub hl [0, 1, 2, 3, 4] rfl)
theorem hd_X3_filled : yX3_filled.cls = RX3 ∧ yX3_filled.cls ≠ "java/lang/invoke/MethodHandle" ∧ yX3_filled.cls ≠ "java/lang/invoke/VarHandle" ∧ (parseMethodDescriptor yX3_filled.desc).map (fun d => d.parameters.length) = some 0 := by decide +kernel
set_option maxHeartbeats 4000000 in
set_option maxRecDepth 100000 in
theorem c_X3_filled (l : Launch) (g : Gm) (a0 : Nat → Nat) (G0 : TS) (R0 : LTS) {q : Int32} (hM : f_X3_filled G0 R0 = some q) : MR l yX3_filled wsX3_filled 0 0 g [.ref (a0 0)] (wX3 g a0 G0 R0) (some (.int q)) := by
  refine Met.ofW (cc := cX3_filled) (maxL := 3) (ret := (some .int)) (by decide) rfl ?_
  intro p e s m args below meth c s₁ B hml hv
  obtain ⟨rfl, hP, hK⟩ := hv
  have hx := B.exec; have hb := B.bytes; have hr := B.returns
  have hts := atoms_spec (ws := wsX3_filled) B.pre
  have hown : s.vm.findClass RX3 = some m.cls := findClass_of_methodNamed B.named
  have hlocks := B.notSynchronized
  have hS : CallFix p m c cX3_filled 3 s _ wsX3_filled RX3 := ⟨hx, hb, hml, hown, hts⟩
  have hin_X3 : ∀ w ∈ wsX30, w ∈ wsX3_filled := fun w h => (List.mem_cons_of_mem _ (List.mem_append_right _ h))
  have hl := lv_entry ([.ref (a0 0)]) (n := 3) (Nat.le_of_ble_eq_true rfl)
  rw [lg_entry_eq]
  generalize (lg_sl ([.ref (a0 0)]) ++ List.replicate (3 - (lg_sl ([.ref (a0 0)])).length) Slot.unset).toArray = ls at hl ⊢
  have hl : lv_has ls 3 [(0, .ref (a0 0))] := hl
  rw [f_X3_filled] at hM
  refine lv_iconst (v := (0 : Int32)) hx hb dX3_filled_0 (by decide) ?_
  refine lv_istore_n (lv' := [(1, .int (0 : Int32)), (0, .ref (a0 0))]) hx hb dX3_filled_1 rfl hl (by decide) rfl (fun ls hl => ?_)
  refine lv_iconst (v := (0 : Int32)) hx hb dX3_filled_2 (by decide) ?_
  refine lv_istore_n (lv' := [(2, .int (0 : Int32)), (1, .int (0 : Int32)), (0, .ref (a0 0))]) hx hb dX3_filled_3 rfl hl (by decide) rfl (fun ls hl => ?_)
  obtain ⟨q3, hL4, hM⟩ := bd hM
  have hJ4 : ∀ (ls : Array Slot), lv_has ls 3 [(1, .int q3)] → W p l e (headSpec wsX3_filled ({ frames := 0, cells := 0, slots := 0, locals := 0 } : Room)).room s m ([.ref (a0 0)] : List Value).toArray below meth c s.heap [] 0 0 (MQ below (QcR (some (.int q))) ([.ref (a0 0)] : List Value).toArray s 0 0 (fun _ => False)) (F0 m 29 ls []) := by
    intro ls hl
    refine lv_iload_n hx hb dX3_filled_29 rfl (lv_at hl 0 rfl) ?_
    obtain rfl := Option.some.inj hM
    exact W.iret hx hb hr (fun t ht _ => ⟨rfl, ht⟩) (fun q hq => by cases hq) dX3_filled_30
  have hW4 : ∀ (n : Nat) (v2_1 : Int32) (v1_2 : Int32), L_X3_filled_4 G0 n v2_1 v1_2 = some q3 → ∀ (ls : Array Slot), lv_has ls 3 [(2, .int v2_1), (1, .int v1_2), (0, .ref (a0 0))] → W p l e (headSpec wsX3_filled ({ frames := 0, cells := 0, slots := 0, locals := 0 } : Room)).room s m ([.ref (a0 0)] : List Value).toArray below meth c s.heap [] 0 0 (MQ below (QcR (some (.int q))) ([.ref (a0 0)] : List Value).toArray s 0 0 (fun _ => False)) (F0 m 4 ls []) := by
    intro n
    induction n with
    | zero => intro v2_1 v1_2 hM; rw [L_X3_filled_4] at hM; exact nn hM
    | succ n ih4 =>
      intro v2_1 v1_2 hM ls hl
      rw [L_X3_filled_4] at hM
      refine lv_iload_n hx hb dX3_filled_4 rfl (lv_at hl 0 rfl) ?_
      refine lv_bipush (v := (8 : Int32)) hx hb dX3_filled_5 (by decide) ?_
      refine lv_icmp_ge (tgt := 29) hx hb dX3_filled_7 (by decide) (fun c4 => ?_) (fun c4 => ?_)
      · replace hM := itp c4 hM
        obtain rfl := Option.some.inj hM
        exact hJ4 _ (lv_sub hl [1] rfl)
      · replace hM := itn c4 hM
        refine lv_aload_n hx hb dX3_filled_10 rfl (lv_at hl 2 rfl) ?_
        refine wk_get hx hb hts hin_X3 hown hK hP 3 0 0 (.ref (a0 1)) rfl rfl (by decide) (mi 1 rfl) rfl rfl dX3_filled_11 ?_
        refine lv_iload_n hx hb dX3_filled_14 rfl (lv_at hl 0 rfl) ?_
        obtain ⟨k5, hM⟩ := ck hM
        refine wk_iald hx hb hK hP 1 8 (G0 0) rfl k5 dX3_filled_15 ?_
        refine lv_iconst (v := (-1 : Int32)) hx hb dX3_filled_16 (by decide) ?_
        have hJ12 : ∀ (x11 : Int32) (ls : Array Slot), x11 = (if ((G0 0) (v2_1).toNatClampNeg) = (-1 : Int32) then v1_2 else (v1_2 + (1 : Int32))) → lv_has ls 3 [(2, .int v2_1), (1, .int x11), (0, .ref (a0 0))] → W p l e (headSpec wsX3_filled ({ frames := 0, cells := 0, slots := 0, locals := 0 } : Room)).room s m ([.ref (a0 0)] : List Value).toArray below meth c s.heap [] 0 0 (MQ below (QcR (some (.int q))) ([.ref (a0 0)] : List Value).toArray s 0 0 (fun _ => False)) (F0 m 23 ls []) := by
          intro x11 ls hxx11 hl
          subst hxx11
          refine lv_iinc (v := (v2_1 + (1 : Int32))) (lv' := [(2, .int (v2_1 + (1 : Int32))), (1, .int (if ((G0 0) (v2_1).toNatClampNeg) = (-1 : Int32) then v1_2 else (v1_2 + (1 : Int32)))), (0, .ref (a0 0))]) hx hb dX3_filled_23 hl (k := 0) rfl rfl (by decide) rfl (fun ls hl => ?_)
          refine lv_goto (tgt := 4) hx hb dX3_filled_26 (by decide) ?_
          exact ih4 (v2_1 + (1 : Int32)) (if ((G0 0) (v2_1).toNatClampNeg) = (-1 : Int32) then v1_2 else (v1_2 + (1 : Int32))) hM _ (lv_sub hl [0, 1, 2] rfl)
        refine lv_icmp_eq (tgt := 23) hx hb dX3_filled_17 (by decide) (fun c6 => ?_) (fun c6 => ?_)
        · exact hJ12 _ _ (by first | rfl | (simp only [if_pos c6])) (lv_sub hl [0, 1, 2] rfl)
        · refine lv_iinc (v := (v1_2 + (1 : Int32))) (lv' := [(1, .int (v1_2 + (1 : Int32))), (2, .int v2_1), (0, .ref (a0 0))]) hx hb dX3_filled_20 hl (k := 1) rfl rfl (by decide) rfl (fun ls hl => ?_)
          exact hJ12 _ _ (by first | rfl | (simp only [if_neg c6])) (lv_sub hl [1, 0, 2] rfl)
  exact hW4 300 (0 : Int32) (0 : Int32) hL4 _ (lv_sub hl [0, 1, 2] rfl)
theorem hd_X3_heldBy : yX3_heldBy.cls = RX3 ∧ yX3_heldBy.cls ≠ "java/lang/invoke/MethodHandle" ∧ yX3_heldBy.cls ≠ "java/lang/invoke/VarHandle" ∧ (parseMethodDescriptor yX3_heldBy.desc).map (fun d => d.parameters.length) = some 1 := by decide +kernel
set_option maxHeartbeats 4000000 in
set_option maxRecDepth 100000 in
theorem c_X3_heldBy (l : Launch) (g : Gm) (a0 : Nat → Nat) (G0 : TS) (R0 : LTS) (p1 : Int32) {q : Int32} (hM : f_X3_heldBy G0 R0 p1 = some q) : MR l yX3_heldBy wsX3_heldBy 2 42 g [.ref (a0 0), .int p1] (wX3 g a0 G0 R0) (some (.int q)) := by
  refine Met.ofW (cc := cX3_heldBy) (maxL := 2) (ret := (some .int)) (by decide) rfl ?_
  intro p e s m args below meth c s₁ B hml hv
  obtain ⟨rfl, hP, hK⟩ := hv
  have hx := B.exec; have hb := B.bytes; have hr := B.returns
  have hts := atoms_spec (ws := wsX3_heldBy) B.pre
  have hown : s.vm.findClass RX3 = some m.cls := findClass_of_methodNamed B.named
  have hlocks := B.notSynchronized
  have hS : CallFix p m c cX3_heldBy 2 s _ wsX3_heldBy RX3 := ⟨hx, hb, hml, hown, hts⟩
  have hin_X3 : ∀ w ∈ wsX30, w ∈ wsX3_heldBy := fun w h => (List.mem_cons_of_mem _ (List.mem_append_right _ h))
  have hl := lv_entry ([.ref (a0 0), .int p1]) (n := 2) (Nat.le_of_ble_eq_true rfl)
  rw [lg_entry_eq]
  generalize (lg_sl ([.ref (a0 0), .int p1]) ++ List.replicate (2 - (lg_sl ([.ref (a0 0), .int p1])).length) Slot.unset).toArray = ls at hl ⊢
  have hl : lv_has ls 2 [(0, .ref (a0 0)), (1, .int p1)] := hl
  rw [f_X3_heldBy] at hM
  refine lv_iload_n hx hb dX3_heldBy_0 rfl (lv_at hl 1 rfl) ?_
  refine rNR (wc := ([] : va_W)) (As := [.int p1]) (rest := []) hS (c_X6_isShelf l g p1) gX3_heldBy_X6_isShelf_n33 rfl (mi 2 rfl) (mi 3 rfl) 3 rfl hd_X6_isShelf ⟨Nat.le_of_ble_eq_true rfl, Nat.le_of_ble_eq_true rfl⟩ hK (hP_nil) rfl hl.1 rfl (Nat.le_of_ble_eq_true rfl) dX3_heldBy_1 ⟨Nat.zero_le _, Nat.zero_le _⟩ ?_
  refine lv_if_eq (tgt := 16) hx hb dX3_heldBy_4 (by decide) (fun c2 => ?_) (fun c2 => ?_)
  · replace hM := itp c2 hM
    refine lv_iconst (v := (-1 : Int32)) hx hb dX3_heldBy_16 (by decide) ?_
    obtain rfl := Option.some.inj hM
    exact W.iret hx hb hr (fun t ht _ => ⟨rfl, ht⟩) (fun q hq => by cases hq) dX3_heldBy_17
  · replace hM := itn c2 hM
    refine lv_aload_n hx hb dX3_heldBy_7 rfl (lv_at hl 0 rfl) ?_
    refine wk_get hx hb hts hin_X3 hown hK hP 3 0 0 (.ref (a0 1)) rfl rfl (by decide) (mi 1 rfl) rfl rfl dX3_heldBy_8 ?_
    refine lv_iload_n hx hb dX3_heldBy_11 rfl (lv_at hl 1 rfl) ?_
    obtain ⟨k3, hM⟩ := ck hM
    refine wk_iald hx hb hK hP 1 8 (G0 0) rfl k3 dX3_heldBy_12 ?_
    refine lv_goto (tgt := 17) hx hb dX3_heldBy_13 (by decide) ?_
    obtain rfl := Option.some.inj hM
    exact W.iret hx hb hr (fun t ht _ => ⟨rfl, ht⟩) (fun q hq => by cases hq) dX3_heldBy_17
theorem hd_X3_keepPeopleBelow : yX3_keepPeopleBelow.cls = RX3 ∧ yX3_keepPeopleBelow.cls ≠ "java/lang/invoke/MethodHandle" ∧ yX3_keepPeopleBelow.cls ≠ "java/lang/invoke/VarHandle" ∧ (parseMethodDescriptor yX3_keepPeopleBelow.desc).map (fun d => d.parameters.length) = some 1 := by decide +kernel
set_option maxHeartbeats 4000000 in
set_option maxRecDepth 100000 in
theorem c_X3_keepPeopleBelow (l : Launch) (g : Gm) (a0 : Nat → Nat) (G0 : TS) (R0 : LTS) (p1 : Int32) {q : TS} (hM : f_X3_keepPeopleBelow G0 R0 p1 = some q) : MW l yX3_keepPeopleBelow wsX3_keepPeopleBelow 0 0 g [.ref (a0 0), .int p1] (wX3 g a0 G0 R0) none (wX3 g a0 q R0) := by
  intro sz
  refine Met.ofW (cc := cX3_keepPeopleBelow) (maxL := 3) (ret := none) (by decide) rfl ?_
  intro p e s m args below meth c s₁ B hml hv
  obtain ⟨rfl, hsz, hP, hK, hD0⟩ := hv
  have hx := B.exec; have hb := B.bytes; have hr := B.returns
  have hts := atoms_spec (ws := wsX3_keepPeopleBelow) B.pre
  have hown : s.vm.findClass RX3 = some m.cls := findClass_of_methodNamed B.named
  have hlocks := B.notSynchronized
  have hS : CallFix p m c cX3_keepPeopleBelow 3 s _ wsX3_keepPeopleBelow RX3 := ⟨hx, hb, hml, hown, hts⟩
  have hin_X3 : ∀ w ∈ wsX30, w ∈ wsX3_keepPeopleBelow := fun w h => (List.mem_cons_of_mem _ (List.mem_append_right _ h))
  subst hsz
  have hw := wk_start hP hD0
  have hA : ∀ q : Nat, s.heap.size ≤ q → va_A (wX3 g a0 G0 R0) s.heap.size q := fun q h => Or.inr h
  generalize va_A (wX3 g a0 G0 R0) s.heap.size = A at hw hA ⊢
  clear hP hD0
  have hl := lv_entry ([.ref (a0 0), .int p1]) (n := 3) (Nat.le_of_ble_eq_true rfl)
  rw [lg_entry_eq]
  generalize (lg_sl ([.ref (a0 0), .int p1]) ++ List.replicate (3 - (lg_sl ([.ref (a0 0), .int p1])).length) Slot.unset).toArray = ls at hl ⊢
  have hl : lv_has ls 3 [(0, .ref (a0 0)), (1, .int p1)] := hl
  rw [f_X3_keepPeopleBelow] at hM
  refine lv_iconst (v := (0 : Int32)) hx hb dX3_keepPeopleBelow_0 (by decide) ?_
  refine lv_istore_n (lv' := [(2, .int (0 : Int32)), (0, .ref (a0 0)), (1, .int p1)]) hx hb dX3_keepPeopleBelow_1 rfl hl (by decide) rfl (fun ls hl => ?_)
  obtain ⟨q3, hL2, hM⟩ := bd hM
  have hJ2 : ∀ (H : Heap) (locs : List Loc), Wk g A s.heap H locs (wX3 g a0 q3 R0) → ∀ (ls : Array Slot), lv_has ls 3 [] → W p l e (headSpec wsX3_keepPeopleBelow ({ frames := 0, cells := 0, slots := 0, locals := 0 } : Room)).room s m ([.ref (a0 0), .int p1] : List Value).toArray below meth c H locs 0 0 (MQ below (QcW g none (wX3 g a0 q R0) A) ([.ref (a0 0), .int p1] : List Value).toArray s 0 0 A) (F0 m 34 ls []) := by
    intro H locs hw ls hl
    obtain rfl := Option.some.inj hM
    exact W.vret hx hb hr (fun t ht _ => ⟨rfl, by rw [ht]; exact hw.1, hw.2.2.F ht⟩) hw.2.2.2.2 dX3_keepPeopleBelow_34
  have hW2 : ∀ (n : Nat) (v2_1 : Int32) (GL2 : TS), L_X3_keepPeopleBelow_2 p1 n v2_1 GL2 = some q3 → ∀ (H : Heap) (locs : List Loc), Wk g A s.heap H locs (wX3 g a0 GL2 R0) → ∀ (ls : Array Slot), lv_has ls 3 [(2, .int v2_1), (0, .ref (a0 0)), (1, .int p1)] → W p l e (headSpec wsX3_keepPeopleBelow ({ frames := 0, cells := 0, slots := 0, locals := 0 } : Room)).room s m ([.ref (a0 0), .int p1] : List Value).toArray below meth c H locs 0 0 (MQ below (QcW g none (wX3 g a0 q R0) A) ([.ref (a0 0), .int p1] : List Value).toArray s 0 0 A) (F0 m 2 ls []) := by
    intro n
    induction n with
    | zero => intro v2_1 GL2 hM; rw [L_X3_keepPeopleBelow_2] at hM; exact nn hM
    | succ n ih2 =>
      intro v2_1 GL2 hM H locs hw ls hl
      rw [L_X3_keepPeopleBelow_2] at hM
      refine lv_iload_n hx hb dX3_keepPeopleBelow_2 rfl (lv_at hl 0 rfl) ?_
      refine lv_bipush (v := (8 : Int32)) hx hb dX3_keepPeopleBelow_3 (by decide) ?_
      refine lv_icmp_ge (tgt := 34) hx hb dX3_keepPeopleBelow_5 (by decide) (fun c4 => ?_) (fun c4 => ?_)
      · replace hM := itp c4 hM
        obtain rfl := Option.some.inj hM
        exact hJ2 _ _ hw _ (lv_sub hl [] rfl)
      · replace hM := itn c4 hM
        refine lv_aload_n hx hb dX3_keepPeopleBelow_8 rfl (lv_at hl 1 rfl) ?_
        refine wk_get hx hb hts hin_X3 hown hK hw.1 3 0 0 (.ref (a0 1)) rfl rfl (by decide) (mi 1 rfl) rfl rfl dX3_keepPeopleBelow_9 ?_
        refine lv_iload_n hx hb dX3_keepPeopleBelow_12 rfl (lv_at hl 0 rfl) ?_
        obtain ⟨k5, hM⟩ := ck hM
        refine wk_iald hx hb hK hw.1 1 8 (GL2 0) rfl k5 dX3_keepPeopleBelow_13 ?_
        refine lv_bipush (v := (10 : Int32)) hx hb dX3_keepPeopleBelow_14 (by decide) ?_
        refine lv_iload_n hx hb dX3_keepPeopleBelow_16 rfl (lv_at hl 2 rfl) ?_
        refine lv_iadd hx hb dX3_keepPeopleBelow_17 ?_
        refine lv_icmp_lt (tgt := 28) hx hb dX3_keepPeopleBelow_18 (by decide) (fun c6 => ?_) (fun c6 => ?_)
        · replace hM := itp c6 hM
          refine lv_iinc (v := (v2_1 + (1 : Int32))) (lv' := [(2, .int (v2_1 + (1 : Int32))), (0, .ref (a0 0)), (1, .int p1)]) hx hb dX3_keepPeopleBelow_28 hl (k := 0) rfl rfl (by decide) rfl (fun ls hl => ?_)
          refine lv_goto (tgt := 2) hx hb dX3_keepPeopleBelow_31 (by decide) ?_
          exact ih2 (v2_1 + (1 : Int32)) GL2 hM _ _ hw _ (lv_sub hl [0, 1, 2] rfl)
        · replace hM := itn c6 hM
          refine lv_aload_n hx hb dX3_keepPeopleBelow_21 rfl (lv_at hl 1 rfl) ?_
          refine wk_get hx hb hts hin_X3 hown hK hw.1 3 0 0 (.ref (a0 1)) rfl rfl (by decide) (mi 1 rfl) rfl rfl dX3_keepPeopleBelow_22 ?_
          refine lv_iload_n hx hb dX3_keepPeopleBelow_25 rfl (lv_at hl 0 rfl) ?_
          refine lv_iconst (v := (-1 : Int32)) hx hb dX3_keepPeopleBelow_26 (by decide) ?_
          refine wk_iast (wq := (wX3 g a0 (up GL2 0 (upd (GL2 0) (v2_1).toNatClampNeg (-1 : Int32))) R0)) hx hb hK hw 1 8 (GL2 0) rfl k5 dX3_keepPeopleBelow_27 rfl (fun H locs hw => ?_)
          refine lv_iinc (v := (v2_1 + (1 : Int32))) (lv' := [(2, .int (v2_1 + (1 : Int32))), (0, .ref (a0 0)), (1, .int p1)]) hx hb dX3_keepPeopleBelow_28 hl (k := 0) rfl rfl (by decide) rfl (fun ls hl => ?_)
          refine lv_goto (tgt := 2) hx hb dX3_keepPeopleBelow_31 (by decide) ?_
          exact ih2 (v2_1 + (1 : Int32)) (up GL2 0 (upd (GL2 0) (v2_1).toNatClampNeg (-1 : Int32))) hM _ _ hw _ (lv_sub hl [0, 1, 2] rfl)
  exact hW2 300 (0 : Int32) G0 hL2 _ _ hw _ (lv_sub hl [0, 1, 2] rfl)
theorem hd_X3_lowestBits : yX3_lowestBits.cls ≠ "java/lang/invoke/MethodHandle" ∧ yX3_lowestBits.cls ≠ "java/lang/invoke/VarHandle" ∧ (parseMethodDescriptor yX3_lowestBits.desc).map (fun d => d.parameters.length) = some 2 := by decide +kernel
set_option maxHeartbeats 4000000 in
set_option maxRecDepth 100000 in
theorem c_X3_lowestBits (l : Launch) (g : Gm) (p0 : Int32) (p1 : Int64) : MR l yX3_lowestBits wsX3_lowestBits 0 0 g [.int p0, .long p1] ([] : va_W) (some (.long (f_X3_lowestBits p0 p1))) := by
  refine Met.ofW (cc := cX3_lowestBits) (maxL := 3) (ret := (some .long)) (by decide) rfl ?_
  intro p e s m args below meth c s₁ B hml hv
  obtain ⟨rfl, hP, hK⟩ := hv
  have hx := B.exec; have hb := B.bytes; have hr := B.returns
  have hts := atoms_spec (ws := wsX3_lowestBits) B.pre
  have hown : s.vm.findClass RX3 = some m.cls := findClass_of_methodNamed B.named
  have hlocks := B.notSynchronized
  have hS : CallFix p m c cX3_lowestBits 3 s _ wsX3_lowestBits RX3 := ⟨hx, hb, hml, hown, hts⟩
  have hl := lv_entry ([.int p0, .long p1]) (n := 3) (Nat.le_of_ble_eq_true rfl)
  rw [lg_entry_eq]
  generalize (lg_sl ([.int p0, .long p1]) ++ List.replicate (3 - (lg_sl ([.int p0, .long p1])).length) Slot.unset).toArray = ls at hl ⊢
  have hl : lv_has ls 3 [(0, .int p0), (1, .long p1)] := hl
  obtain ⟨rr, hM⟩ : ∃ rr, f_X3_lowestBits p0 p1 = rr := ⟨_, rfl⟩
  rw [hM]
  rw [f_X3_lowestBits] at hM
  refine lv_iload_n hx hb dX3_lowestBits_0 rfl (lv_at hl 0 rfl) ?_
  by_cases c1_0 : p0 = (0 : Int32)
  · replace hM := itp c1_0 hM
    refine lv_tableIn (tgt := 36) hx hb dX3_lowestBits_1 (by rw [c1_0]; decide) (by rw [c1_0]; decide) (by rw [c1_0]; first | done | rfl) (by decide) ?_
    refine lv_lload_n hx hb dX3_lowestBits_36 rfl (lv_at hl 1 rfl) ?_
    refine lv_l2i (v := ((p1).toInt32)) hx hb dX3_lowestBits_37 rfl ?_
    refine lv_i2b (v := ((((p1).toInt32)).toInt8.toInt32)) hx hb dX3_lowestBits_38 rfl ?_
    refine lv_i2l (v := ((((((p1).toInt32)).toInt8.toInt32)).toInt64)) hx hb dX3_lowestBits_39 rfl ?_
    subst hM
    exact W.lret hx hb hr (fun t ht _ => ⟨rfl, ht⟩) (fun q hq => by cases hq) dX3_lowestBits_40
  replace hM := itn c1_0 hM
  by_cases c1_1 : p0 = (1 : Int32)
  · replace hM := itp c1_1 hM
    refine lv_tableIn (tgt := 41) hx hb dX3_lowestBits_1 (by rw [c1_1]; decide) (by rw [c1_1]; decide) (by rw [c1_1]; first | done | rfl) (by decide) ?_
    refine lv_lload_n hx hb dX3_lowestBits_41 rfl (lv_at hl 1 rfl) ?_
    refine lv_l2i (v := ((p1).toInt32)) hx hb dX3_lowestBits_42 rfl ?_
    refine lv_i2s (v := ((((p1).toInt32)).toInt16.toInt32)) hx hb dX3_lowestBits_43 rfl ?_
    refine lv_i2l (v := ((((((p1).toInt32)).toInt16.toInt32)).toInt64)) hx hb dX3_lowestBits_44 rfl ?_
    subst hM
    exact W.lret hx hb hr (fun t ht _ => ⟨rfl, ht⟩) (fun q hq => by cases hq) dX3_lowestBits_45
  replace hM := itn c1_1 hM
  by_cases c1_2 : p0 = (2 : Int32)
  · replace hM := itp c1_2 hM
    refine lv_tableIn (tgt := 46) hx hb dX3_lowestBits_1 (by rw [c1_2]; decide) (by rw [c1_2]; decide) (by rw [c1_2]; first | done | rfl) (by decide) ?_
    refine lv_lload_n hx hb dX3_lowestBits_46 rfl (lv_at hl 1 rfl) ?_
    refine lv_l2i (v := ((p1).toInt32)) hx hb dX3_lowestBits_47 rfl ?_
    refine lv_i2l (v := ((((p1).toInt32)).toInt64)) hx hb dX3_lowestBits_48 rfl ?_
    subst hM
    exact W.lret hx hb hr (fun t ht _ => ⟨rfl, ht⟩) (fun q hq => by cases hq) dX3_lowestBits_49
  replace hM := itn c1_2 hM
  by_cases c1_3 : p0 = (3 : Int32)
  · replace hM := itp c1_3 hM
    refine lv_tableIn (tgt := 62) hx hb dX3_lowestBits_1 (by rw [c1_3]; decide) (by rw [c1_3]; decide) (by rw [c1_3]; first | done | rfl) (by decide) ?_
    refine lv_lload_n hx hb dX3_lowestBits_62 rfl (lv_at hl 1 rfl) ?_
    subst hM
    exact W.lret hx hb hr (fun t ht _ => ⟨rfl, ht⟩) (fun q hq => by cases hq) dX3_lowestBits_63
  replace hM := itn c1_3 hM
  by_cases c1_4 : p0 = (4 : Int32)
  · replace hM := itp c1_4 hM
    refine lv_tableIn (tgt := 50) hx hb dX3_lowestBits_1 (by rw [c1_4]; decide) (by rw [c1_4]; decide) (by rw [c1_4]; first | done | rfl) (by decide) ?_
    refine lv_lload_n hx hb dX3_lowestBits_50 rfl (lv_at hl 1 rfl) ?_
    refine lv_lconst (v := (0 : Int64)) hx hb dX3_lowestBits_51 (by decide) ?_
    refine W.lcmp hx hb dX3_lowestBits_52 ?_
    have hJ8 : ∀ (x7 : Int64) (ls : Array Slot), x7 = (if (lg_cmp p1 (0 : Int64)) = 0 then (0 : Int64) else (1 : Int64)) → lv_has ls 3 [] → W p l e (headSpec wsX3_lowestBits ({ frames := 0, cells := 0, slots := 0, locals := 0 } : Room)).room s m ([.int p0, .long p1] : List Value).toArray below meth c s.heap [] 0 0 (MQ below (QcR (some (.long rr))) ([.int p0, .long p1] : List Value).toArray s 0 0 (fun _ => False)) (F0 m 61 ls [.long x7]) := by
      intro x7 ls hxx7 hl
      subst hxx7
      subst hM
      exact W.lret hx hb hr (fun t ht _ => ⟨rfl, ht⟩) (fun q hq => by cases hq) dX3_lowestBits_61
    refine lv_if_eq (tgt := 60) hx hb dX3_lowestBits_53 (by decide) (fun c2 => ?_) (fun c2 => ?_)
    · refine lv_lconst (v := (0 : Int64)) hx hb dX3_lowestBits_60 (by decide) ?_
      exact hJ8 _ _ (by first | rfl | (simp only [if_pos c2])) (lv_sub hl [] rfl)
    · refine lv_lconst (v := (1 : Int64)) hx hb dX3_lowestBits_56 (by decide) ?_
      refine lv_goto (tgt := 61) hx hb dX3_lowestBits_57 (by decide) ?_
      exact hJ8 _ _ (by first | rfl | (simp only [if_neg c2])) (lv_sub hl [] rfl)
  replace hM := itn c1_4 hM
  refine lv_tableOut (tgt := 62) hx hb dX3_lowestBits_1 (sw_out (lo := 0) (hi := 4) (by decide) (by decide) (fun k h1 h2 hk => by
            have hs : k = (0 : Int) ∨ k = (1 : Int) ∨ k = (2 : Int) ∨ k = (3 : Int) ∨ k = (4 : Int) := by omega
            rcases hs with hs | hs | hs | hs | hs <;> subst hs <;> first | exact c1_0 (Int32.toInt_inj.mp (hk.trans (by decide))) | exact c1_1 (Int32.toInt_inj.mp (hk.trans (by decide))) | exact c1_2 (Int32.toInt_inj.mp (hk.trans (by decide))) | exact c1_3 (Int32.toInt_inj.mp (hk.trans (by decide))) | exact c1_4 (Int32.toInt_inj.mp (hk.trans (by decide))))) (by decide) ?_
  refine lv_lload_n hx hb dX3_lowestBits_62 rfl (lv_at hl 1 rfl) ?_
  subst hM
  exact W.lret hx hb hr (fun t ht _ => ⟨rfl, ht⟩) (fun q hq => by cases hq) dX3_lowestBits_63
theorem hd_X3_putElement : yX3_putElement.cls = RX3 ∧ yX3_putElement.cls ≠ "java/lang/invoke/MethodHandle" ∧ yX3_putElement.cls ≠ "java/lang/invoke/VarHandle" ∧ (parseMethodDescriptor yX3_putElement.desc).map (fun d => d.parameters.length) = some 3 := by decide +kernel
set_option maxHeartbeats 4000000 in
set_option maxRecDepth 100000 in
theorem c_X3_putElement (l : Launch) (g : Gm) (a0 : Nat → Nat) (G0 : TS) (R0 : LTS) (p1 : Int32) (p2 : Int32) (p3 : Int64) {q : LTS} (hM : f_X3_putElement G0 R0 p1 p2 p3 = some q) : MW l yX3_putElement wsX3_putElement 1 22 g [.ref (a0 0), .int p1, .int p2, .long p3] (wX3 g a0 G0 R0) none (wX3 g a0 G0 q) := by
  intro sz
  refine Met.ofW (cc := cX3_putElement) (maxL := 5) (ret := none) (by decide) rfl ?_
  intro p e s m args below meth c s₁ B hml hv
  obtain ⟨rfl, hsz, hP, hK, hD0⟩ := hv
  have hx := B.exec; have hb := B.bytes; have hr := B.returns
  have hts := atoms_spec (ws := wsX3_putElement) B.pre
  have hown : s.vm.findClass RX3 = some m.cls := findClass_of_methodNamed B.named
  have hlocks := B.notSynchronized
  have hS : CallFix p m c cX3_putElement 5 s _ wsX3_putElement RX3 := ⟨hx, hb, hml, hown, hts⟩
  have hin_X3 : ∀ w ∈ wsX30, w ∈ wsX3_putElement := fun w h => (List.mem_cons_of_mem _ (List.mem_append_right _ h))
  subst hsz
  have hw := wk_start hP hD0
  have hA : ∀ q : Nat, s.heap.size ≤ q → va_A (wX3 g a0 G0 R0) s.heap.size q := fun q h => Or.inr h
  generalize va_A (wX3 g a0 G0 R0) s.heap.size = A at hw hA ⊢
  clear hP hD0
  have hl := lv_entry ([.ref (a0 0), .int p1, .int p2, .long p3]) (n := 5) (Nat.le_of_ble_eq_true rfl)
  rw [lg_entry_eq]
  generalize (lg_sl ([.ref (a0 0), .int p1, .int p2, .long p3]) ++ List.replicate (5 - (lg_sl ([.ref (a0 0), .int p1, .int p2, .long p3])).length) Slot.unset).toArray = ls at hl ⊢
  have hl : lv_has ls 5 [(0, .ref (a0 0)), (1, .int p1), (2, .int p2), (3, .long p3)] := hl
  rw [f_X3_putElement] at hM
  refine lv_aload_n hx hb dX3_putElement_0 rfl (lv_at hl 0 rfl) ?_
  refine wk_get hx hb hts hin_X3 hown hK hw.1 3 0 2 (.ref (a0 3)) rfl rfl (by decide) (mi 1 rfl) rfl rfl dX3_putElement_1 ?_
  refine lv_iload_n hx hb dX3_putElement_4 rfl (lv_at hl 1 rfl) ?_
  obtain ⟨k1, hM⟩ := ck hM
  refine wk_aald hx hb hK hw.1 3 8 (fun i => a0 (4 + i)) 3 rfl (k1) rfl rfl dX3_putElement_5 ?_
  refine lv_iload_n hx hb dX3_putElement_6 rfl (lv_at hl 2 rfl) ?_
  refine lv_aload_n hx hb dX3_putElement_7 rfl (lv_at hl 0 rfl) ?_
  refine wk_get hx hb hts hin_X3 hown hK hw.1 3 0 0 (.ref (a0 1)) rfl rfl (by decide) (mi 2 rfl) rfl rfl dX3_putElement_8 ?_
  refine lv_iload_n hx hb dX3_putElement_11 rfl (lv_at hl 1 rfl) ?_
  refine wk_iald hx hb hK hw.1 1 8 (G0 0) rfl k1 dX3_putElement_12 ?_
  refine lv_lload_n hx hb dX3_putElement_13 rfl (lv_at hl 3 rfl) ?_
  refine rSR (wc := ([] : va_W)) (As := [.int ((G0 0) (p1).toNatClampNeg), .long p3]) (rest := [.int p2, .ref (a0 (4 + (p1).toNatClampNeg))]) hS (c_X3_lowestBits l g ((G0 0) (p1).toNatClampNeg) p3) gX3_putElement_X3_lowestBits rfl hd_X3_lowestBits ⟨Nat.le_of_ble_eq_true rfl, Nat.le_of_ble_eq_true rfl⟩ hK (hP_nil) rfl hl.1 rfl (Nat.le_of_ble_eq_true rfl) dX3_putElement_14 ⟨Nat.zero_le _, Nat.zero_le _⟩ ?_
  obtain ⟨k3, hM⟩ := ck hM
  refine wk_last (wq := (wX3 g a0 G0 (upL R0 (p1).toNatClampNeg (vp_updL (R0 (p1).toNatClampNeg) (p2).toNatClampNeg (f_X3_lowestBits ((G0 0) (p1).toNatClampNeg) p3))))) hx hb hK hw (4 + (p1).toNatClampNeg) 40 (R0 (p1).toNatClampNeg) (wX3_row (Nat.lt_of_not_le (fun z => k1 (Or.inr z)))) k3 dX3_putElement_17 (wX3_set (Nat.lt_of_not_le (fun z => k1 (Or.inr z)))) (fun H locs hw => ?_)
  obtain rfl := Option.some.inj hM
  exact W.vret hx hb hr (fun t ht _ => ⟨rfl, by rw [ht]; exact hw.1, hw.2.2.F ht⟩) hw.2.2.2.2 dX3_putElement_18
theorem hd_X3_putOne : yX3_putOne.cls = RX3 ∧ yX3_putOne.cls ≠ "java/lang/invoke/MethodHandle" ∧ yX3_putOne.cls ≠ "java/lang/invoke/VarHandle" ∧ (parseMethodDescriptor yX3_putOne.desc).map (fun d => d.parameters.length) = some 2 := by decide +kernel
set_option maxHeartbeats 4000000 in
set_option maxRecDepth 100000 in
theorem c_X3_putOne (l : Launch) (g : Gm) (a0 : Nat → Nat) (G0 : TS) (R0 : LTS) (p1 : Int32) (p2 : Int32) {q : TS} (hM : f_X3_putOne G0 R0 p1 p2 = some q) : MW l yX3_putOne wsX3_putOne 0 0 g [.ref (a0 0), .int p1, .int p2] (wX3 g a0 G0 R0) none (wX3 g a0 q R0) := by
  intro sz
  refine Met.ofW (cc := cX3_putOne) (maxL := 3) (ret := none) (by decide) rfl ?_
  intro p e s m args below meth c s₁ B hml hv
  obtain ⟨rfl, hsz, hP, hK, hD0⟩ := hv
  have hx := B.exec; have hb := B.bytes; have hr := B.returns
  have hts := atoms_spec (ws := wsX3_putOne) B.pre
  have hown : s.vm.findClass RX3 = some m.cls := findClass_of_methodNamed B.named
  have hlocks := B.notSynchronized
  have hS : CallFix p m c cX3_putOne 3 s _ wsX3_putOne RX3 := ⟨hx, hb, hml, hown, hts⟩
  have hin_X3 : ∀ w ∈ wsX30, w ∈ wsX3_putOne := fun w h => (List.mem_cons_of_mem _ (List.mem_append_right _ h))
  subst hsz
  have hw := wk_start hP hD0
  have hA : ∀ q : Nat, s.heap.size ≤ q → va_A (wX3 g a0 G0 R0) s.heap.size q := fun q h => Or.inr h
  generalize va_A (wX3 g a0 G0 R0) s.heap.size = A at hw hA ⊢
  clear hP hD0
  have hl := lv_entry ([.ref (a0 0), .int p1, .int p2]) (n := 3) (Nat.le_of_ble_eq_true rfl)
  rw [lg_entry_eq]
  generalize (lg_sl ([.ref (a0 0), .int p1, .int p2]) ++ List.replicate (3 - (lg_sl ([.ref (a0 0), .int p1, .int p2])).length) Slot.unset).toArray = ls at hl ⊢
  have hl : lv_has ls 3 [(0, .ref (a0 0)), (1, .int p1), (2, .int p2)] := hl
  rw [f_X3_putOne] at hM
  refine lv_aload_n hx hb dX3_putOne_0 rfl (lv_at hl 0 rfl) ?_
  refine wk_get hx hb hts hin_X3 hown hK hw.1 3 0 0 (.ref (a0 1)) rfl rfl (by decide) (mi 1 rfl) rfl rfl dX3_putOne_1 ?_
  refine lv_iload_n hx hb dX3_putOne_4 rfl (lv_at hl 1 rfl) ?_
  refine lv_iload_n hx hb dX3_putOne_5 rfl (lv_at hl 2 rfl) ?_
  refine lv_iconst (v := (-1 : Int32)) hx hb dX3_putOne_6 (by decide) ?_
  have hJ8 : ∀ (H : Heap) (locs : List Loc) (x7 : Int32) (ls : Array Slot), Wk g A s.heap H locs (wX3 g a0 G0 R0) → x7 = (if p2 = (-1 : Int32) then (-1 : Int32) else ((10 : Int32) + p2)) → lv_has ls 3 [(0, .ref (a0 0)), (1, .int p1)] → W p l e (headSpec wsX3_putOne ({ frames := 0, cells := 0, slots := 0, locals := 0 } : Room)).room s m ([.ref (a0 0), .int p1, .int p2] : List Value).toArray below meth c H locs 0 0 (MQ below (QcW g none (wX3 g a0 q R0) A) ([.ref (a0 0), .int p1, .int p2] : List Value).toArray s 0 0 A) (F0 m 18 ls [.int x7, .int p1, .ref (a0 1)]) := by
    intro H locs x7 ls hw hxx7 hl
    subst hxx7
    obtain ⟨k2, hM⟩ := ck hM
    refine wk_iast (wq := (wX3 g a0 (up G0 0 (upd (G0 0) (p1).toNatClampNeg (if p2 = (-1 : Int32) then (-1 : Int32) else ((10 : Int32) + p2)))) R0)) hx hb hK hw 1 8 (G0 0) rfl k2 dX3_putOne_18 rfl (fun H locs hw => ?_)
    refine lv_aload_n hx hb dX3_putOne_19 rfl (lv_at hl 0 rfl) ?_
    refine wk_get hx hb hts hin_X3 hown hK hw.1 3 0 1 (.ref (a0 2)) rfl rfl (by decide) (mi 2 rfl) rfl rfl dX3_putOne_20 ?_
    refine lv_iload_n hx hb dX3_putOne_23 rfl (lv_at hl 1 rfl) ?_
    refine lv_iconst (v := (0 : Int32)) hx hb dX3_putOne_24 (by decide) ?_
    refine wk_iast (wq := (wX3 g a0 (up (up G0 0 (upd (G0 0) (p1).toNatClampNeg (if p2 = (-1 : Int32) then (-1 : Int32) else ((10 : Int32) + p2)))) 1 (upd (G0 1) (p1).toNatClampNeg (0 : Int32))) R0)) hx hb hK hw 2 8 (G0 1) rfl k2 dX3_putOne_25 rfl (fun H locs hw => ?_)
    obtain rfl := Option.some.inj hM
    exact W.vret hx hb hr (fun t ht _ => ⟨rfl, by rw [ht]; exact hw.1, hw.2.2.F ht⟩) hw.2.2.2.2 dX3_putOne_26
  refine lv_icmp_ne (tgt := 14) hx hb dX3_putOne_7 (by decide) (fun c1 => ?_) (fun c1 => ?_)
  · refine lv_bipush (v := (10 : Int32)) hx hb dX3_putOne_14 (by decide) ?_
    refine lv_iload_n hx hb dX3_putOne_16 rfl (lv_at hl 2 rfl) ?_
    refine lv_iadd hx hb dX3_putOne_17 ?_
    exact hJ8 _ _ _ _ hw (by first | rfl | (simp only [if_neg c1])) (lv_sub hl [0, 1] rfl)
  · refine lv_iconst (v := (-1 : Int32)) hx hb dX3_putOne_10 (by decide) ?_
    refine lv_goto (tgt := 18) hx hb dX3_putOne_11 (by decide) ?_
    exact hJ8 _ _ _ _ hw (by first | rfl | (simp only [if_pos c1])) (lv_sub hl [0, 1] rfl)
theorem hd_X3_putRow : yX3_putRow.cls = RX3 ∧ yX3_putRow.cls ≠ "java/lang/invoke/MethodHandle" ∧ yX3_putRow.cls ≠ "java/lang/invoke/VarHandle" ∧ (parseMethodDescriptor yX3_putRow.desc).map (fun d => d.parameters.length) = some 3 := by decide +kernel
set_option maxHeartbeats 4000000 in
set_option maxRecDepth 100000 in
theorem c_X3_putRow (l : Launch) (g : Gm) (a0 : Nat → Nat) (G0 : TS) (R0 : LTS) (p1 : Int32) (p2 : Int32) (p3 : Int32) {q : (TS × LTS)} (hM : f_X3_putRow G0 R0 p1 p2 p3 = some q) : MW l yX3_putRow wsX3_putRow 0 0 g [.ref (a0 0), .int p1, .int p2, .int p3] (wX3 g a0 G0 R0) none (wX3 g a0 q.1 q.2) := by
  intro sz
  refine Met.ofW (cc := cX3_putRow) (maxL := 5) (ret := none) (by decide) rfl ?_
  intro p e s m args below meth c s₁ B hml hv
  obtain ⟨rfl, hsz, hP, hK, hD0⟩ := hv
  have hx := B.exec; have hb := B.bytes; have hr := B.returns
  have hts := atoms_spec (ws := wsX3_putRow) B.pre
  have hown : s.vm.findClass RX3 = some m.cls := findClass_of_methodNamed B.named
  have hlocks := B.notSynchronized
  have hS : CallFix p m c cX3_putRow 5 s _ wsX3_putRow RX3 := ⟨hx, hb, hml, hown, hts⟩
  have hin_X3 : ∀ w ∈ wsX30, w ∈ wsX3_putRow := fun w h => (List.mem_cons_of_mem _ (List.mem_append_right _ h))
  subst hsz
  have hw := wk_start hP hD0
  have hA : ∀ q : Nat, s.heap.size ≤ q → va_A (wX3 g a0 G0 R0) s.heap.size q := fun q h => Or.inr h
  generalize va_A (wX3 g a0 G0 R0) s.heap.size = A at hw hA ⊢
  clear hP hD0
  have hl := lv_entry ([.ref (a0 0), .int p1, .int p2, .int p3]) (n := 5) (Nat.le_of_ble_eq_true rfl)
  rw [lg_entry_eq]
  generalize (lg_sl ([.ref (a0 0), .int p1, .int p2, .int p3]) ++ List.replicate (5 - (lg_sl ([.ref (a0 0), .int p1, .int p2, .int p3])).length) Slot.unset).toArray = ls at hl ⊢
  have hl : lv_has ls 5 [(0, .ref (a0 0)), (1, .int p1), (2, .int p2), (3, .int p3)] := hl
  rw [f_X3_putRow] at hM
  refine lv_aload_n hx hb dX3_putRow_0 rfl (lv_at hl 0 rfl) ?_
  refine wk_get hx hb hts hin_X3 hown hK hw.1 3 0 0 (.ref (a0 1)) rfl rfl (by decide) (mi 1 rfl) rfl rfl dX3_putRow_1 ?_
  refine lv_iload_n hx hb dX3_putRow_4 rfl (lv_at hl 1 rfl) ?_
  refine lv_iload_n hx hb dX3_putRow_5 rfl (lv_at hl 2 rfl) ?_
  obtain ⟨k1, hM⟩ := ck hM
  refine wk_iast (wq := (wX3 g a0 (up G0 0 (upd (G0 0) (p1).toNatClampNeg p2)) R0)) hx hb hK hw 1 8 (G0 0) rfl k1 dX3_putRow_6 rfl (fun H locs hw => ?_)
  refine lv_aload_n hx hb dX3_putRow_7 rfl (lv_at hl 0 rfl) ?_
  refine wk_get hx hb hts hin_X3 hown hK hw.1 3 0 1 (.ref (a0 2)) rfl rfl (by decide) (mi 2 rfl) rfl rfl dX3_putRow_8 ?_
  refine lv_iload_n hx hb dX3_putRow_11 rfl (lv_at hl 1 rfl) ?_
  refine lv_iload_n hx hb dX3_putRow_12 rfl (lv_at hl 3 rfl) ?_
  refine wk_iast (wq := (wX3 g a0 (up (up G0 0 (upd (G0 0) (p1).toNatClampNeg p2)) 1 (upd (G0 1) (p1).toNatClampNeg p3)) R0)) hx hb hK hw 2 8 (G0 1) rfl k1 dX3_putRow_13 rfl (fun H locs hw => ?_)
  refine lv_iconst (v := (0 : Int32)) hx hb dX3_putRow_14 (by decide) ?_
  refine lv_istore (lv' := [(4, .int (0 : Int32)), (0, .ref (a0 0)), (1, .int p1), (2, .int p2), (3, .int p3)]) hx hb dX3_putRow_15 hl (by decide) rfl (fun ls hl => ?_)
  obtain ⟨q4, hL17, hM⟩ := bd hM
  have hJ17 : ∀ (H : Heap) (locs : List Loc), Wk g A s.heap H locs (wX3 g a0 (up (up G0 0 (upd (G0 0) (p1).toNatClampNeg p2)) 1 (upd (G0 1) (p1).toNatClampNeg p3)) q4) → ∀ (ls : Array Slot), lv_has ls 5 [] → W p l e (headSpec wsX3_putRow ({ frames := 0, cells := 0, slots := 0, locals := 0 } : Room)).room s m ([.ref (a0 0), .int p1, .int p2, .int p3] : List Value).toArray below meth c H locs 0 0 (MQ below (QcW g none (wX3 g a0 q.1 q.2) A) ([.ref (a0 0), .int p1, .int p2, .int p3] : List Value).toArray s 0 0 A) (F0 m 40 ls []) := by
    intro H locs hw ls hl
    obtain rfl := Option.some.inj hM
    exact W.vret hx hb hr (fun t ht _ => ⟨rfl, by rw [ht]; exact hw.1, hw.2.2.F ht⟩) hw.2.2.2.2 dX3_putRow_40
  have hW17 : ∀ (n : Nat) (v4_2 : Int32) (RL3 : LTS), L_X3_putRow_17 p1 n v4_2 RL3 = some q4 → ∀ (H : Heap) (locs : List Loc), Wk g A s.heap H locs (wX3 g a0 (up (up G0 0 (upd (G0 0) (p1).toNatClampNeg p2)) 1 (upd (G0 1) (p1).toNatClampNeg p3)) RL3) → ∀ (ls : Array Slot), lv_has ls 5 [(4, .int v4_2), (0, .ref (a0 0)), (1, .int p1)] → W p l e (headSpec wsX3_putRow ({ frames := 0, cells := 0, slots := 0, locals := 0 } : Room)).room s m ([.ref (a0 0), .int p1, .int p2, .int p3] : List Value).toArray below meth c H locs 0 0 (MQ below (QcW g none (wX3 g a0 q.1 q.2) A) ([.ref (a0 0), .int p1, .int p2, .int p3] : List Value).toArray s 0 0 A) (F0 m 17 ls []) := by
    intro n
    induction n with
    | zero => intro v4_2 RL3 hM; rw [L_X3_putRow_17] at hM; exact nn hM
    | succ n ih17 =>
      intro v4_2 RL3 hM H locs hw ls hl
      rw [L_X3_putRow_17] at hM
      refine lv_iload hx hb dX3_putRow_17 (lv_at hl 0 rfl) ?_
      refine lv_bipush (v := (40 : Int32)) hx hb dX3_putRow_19 (by decide) ?_
      refine lv_icmp_ge (tgt := 40) hx hb dX3_putRow_21 (by decide) (fun c5 => ?_) (fun c5 => ?_)
      · replace hM := itp c5 hM
        obtain rfl := Option.some.inj hM
        exact hJ17 _ _ hw _ (lv_sub hl [] rfl)
      · replace hM := itn c5 hM
        refine lv_aload_n hx hb dX3_putRow_24 rfl (lv_at hl 1 rfl) ?_
        refine wk_get hx hb hts hin_X3 hown hK hw.1 3 0 2 (.ref (a0 3)) rfl rfl (by decide) (mi 3 rfl) rfl rfl dX3_putRow_25 ?_
        refine lv_iload_n hx hb dX3_putRow_28 rfl (lv_at hl 2 rfl) ?_
        refine wk_aald hx hb hK hw.1 3 8 (fun i => a0 (4 + i)) 3 rfl (k1) rfl rfl dX3_putRow_29 ?_
        refine lv_iload hx hb dX3_putRow_30 (lv_at hl 0 rfl) ?_
        refine lv_lconst (v := (0 : Int64)) hx hb dX3_putRow_32 (by decide) ?_
        obtain ⟨k6, hM⟩ := ck hM
        refine wk_last (wq := (wX3 g a0 (up (up G0 0 (upd (G0 0) (p1).toNatClampNeg p2)) 1 (upd (G0 1) (p1).toNatClampNeg p3)) (upL RL3 (p1).toNatClampNeg (vp_updL (RL3 (p1).toNatClampNeg) (v4_2).toNatClampNeg (0 : Int64))))) hx hb hK hw (4 + (p1).toNatClampNeg) 40 (RL3 (p1).toNatClampNeg) (wX3_row (Nat.lt_of_not_le (fun z => k1 (Or.inr z)))) k6 dX3_putRow_33 (wX3_set (Nat.lt_of_not_le (fun z => k1 (Or.inr z)))) (fun H locs hw => ?_)
        refine lv_iinc (v := (v4_2 + (1 : Int32))) (lv' := [(4, .int (v4_2 + (1 : Int32))), (0, .ref (a0 0)), (1, .int p1)]) hx hb dX3_putRow_34 hl (k := 0) rfl rfl (by decide) rfl (fun ls hl => ?_)
        refine lv_goto (tgt := 17) hx hb dX3_putRow_37 (by decide) ?_
        exact ih17 (v4_2 + (1 : Int32)) (upL RL3 (p1).toNatClampNeg (vp_updL (RL3 (p1).toNatClampNeg) (v4_2).toNatClampNeg (0 : Int64))) hM _ _ hw _ (lv_sub hl [0, 1, 2] rfl)
  exact hW17 300 (0 : Int32) R0 hL17 _ _ hw _ (lv_sub hl [0, 1, 2] rfl)
theorem hd_X3_sizeOf : yX3_sizeOf.cls = RX3 ∧ yX3_sizeOf.cls ≠ "java/lang/invoke/MethodHandle" ∧ yX3_sizeOf.cls ≠ "java/lang/invoke/VarHandle" ∧ (parseMethodDescriptor yX3_sizeOf.desc).map (fun d => d.parameters.length) = some 1 := by decide +kernel
set_option maxHeartbeats 4000000 in
set_option maxRecDepth 100000 in
theorem c_X3_sizeOf (l : Launch) (g : Gm) (a0 : Nat → Nat) (G0 : TS) (R0 : LTS) (p1 : Int32) {q : Int32} (hM : f_X3_sizeOf G0 R0 p1 = some q) : MR l yX3_sizeOf wsX3_sizeOf 2 42 g [.ref (a0 0), .int p1] (wX3 g a0 G0 R0) (some (.int q)) := by
  refine Met.ofW (cc := cX3_sizeOf) (maxL := 2) (ret := (some .int)) (by decide) rfl ?_
  intro p e s m args below meth c s₁ B hml hv
  obtain ⟨rfl, hP, hK⟩ := hv
  have hx := B.exec; have hb := B.bytes; have hr := B.returns
  have hts := atoms_spec (ws := wsX3_sizeOf) B.pre
  have hown : s.vm.findClass RX3 = some m.cls := findClass_of_methodNamed B.named
  have hlocks := B.notSynchronized
  have hS : CallFix p m c cX3_sizeOf 2 s _ wsX3_sizeOf RX3 := ⟨hx, hb, hml, hown, hts⟩
  have hin_X3 : ∀ w ∈ wsX30, w ∈ wsX3_sizeOf := fun w h => (List.mem_cons_of_mem _ (List.mem_append_right _ h))
  have hl := lv_entry ([.ref (a0 0), .int p1]) (n := 2) (Nat.le_of_ble_eq_true rfl)
  rw [lg_entry_eq]
  generalize (lg_sl ([.ref (a0 0), .int p1]) ++ List.replicate (2 - (lg_sl ([.ref (a0 0), .int p1])).length) Slot.unset).toArray = ls at hl ⊢
  have hl : lv_has ls 2 [(0, .ref (a0 0)), (1, .int p1)] := hl
  rw [f_X3_sizeOf] at hM
  refine lv_iload_n hx hb dX3_sizeOf_0 rfl (lv_at hl 1 rfl) ?_
  refine rNR (wc := ([] : va_W)) (As := [.int p1]) (rest := []) hS (c_X6_isShelf l g p1) gX3_sizeOf_X6_isShelf_n33 rfl (mi 2 rfl) (mi 3 rfl) 3 rfl hd_X6_isShelf ⟨Nat.le_of_ble_eq_true rfl, Nat.le_of_ble_eq_true rfl⟩ hK (hP_nil) rfl hl.1 rfl (Nat.le_of_ble_eq_true rfl) dX3_sizeOf_1 ⟨Nat.zero_le _, Nat.zero_le _⟩ ?_
  refine lv_if_eq (tgt := 16) hx hb dX3_sizeOf_4 (by decide) (fun c2 => ?_) (fun c2 => ?_)
  · replace hM := itp c2 hM
    refine lv_iconst (v := (0 : Int32)) hx hb dX3_sizeOf_16 (by decide) ?_
    obtain rfl := Option.some.inj hM
    exact W.iret hx hb hr (fun t ht _ => ⟨rfl, ht⟩) (fun q hq => by cases hq) dX3_sizeOf_17
  · replace hM := itn c2 hM
    refine lv_aload_n hx hb dX3_sizeOf_7 rfl (lv_at hl 0 rfl) ?_
    refine wk_get hx hb hts hin_X3 hown hK hP 3 0 1 (.ref (a0 2)) rfl rfl (by decide) (mi 1 rfl) rfl rfl dX3_sizeOf_8 ?_
    refine lv_iload_n hx hb dX3_sizeOf_11 rfl (lv_at hl 1 rfl) ?_
    obtain ⟨k3, hM⟩ := ck hM
    refine wk_iald hx hb hK hP 2 8 (G0 1) rfl k3 dX3_sizeOf_12 ?_
    refine lv_goto (tgt := 17) hx hb dX3_sizeOf_13 (by decide) ?_
    obtain rfl := Option.some.inj hM
    exact W.iret hx hb hr (fun t ht _ => ⟨rfl, ht⟩) (fun q hq => by cases hq) dX3_sizeOf_17
theorem hd_X3_troubleWithRow : yX3_troubleWithRow.cls = RX3 ∧ yX3_troubleWithRow.cls ≠ "java/lang/invoke/MethodHandle" ∧ yX3_troubleWithRow.cls ≠ "java/lang/invoke/VarHandle" ∧ (parseMethodDescriptor yX3_troubleWithRow.desc).map (fun d => d.parameters.length) = some 2 := by decide +kernel
set_option maxHeartbeats 4000000 in
set_option maxRecDepth 100000 in
theorem c_X3_troubleWithRow (l : Launch) (g : Gm) (a0 : Nat → Nat) (G0 : TS) (R0 : LTS) (p1 : Int32) (p2 : Int32) {q : Int32} (hM : f_X3_troubleWithRow G0 R0 p1 p2 = some q) : MR l yX3_troubleWithRow wsX3_troubleWithRow 2 42 g [.ref (a0 0), .int p1, .int p2] (wX3 g a0 G0 R0) (some (.int q)) := by
  refine Met.ofW (cc := cX3_troubleWithRow) (maxL := 3) (ret := (some .int)) (by decide) rfl ?_
  intro p e s m args below meth c s₁ B hml hv
  obtain ⟨rfl, hP, hK⟩ := hv
  have hx := B.exec; have hb := B.bytes; have hr := B.returns
  have hts := atoms_spec (ws := wsX3_troubleWithRow) B.pre
  have hown : s.vm.findClass RX3 = some m.cls := findClass_of_methodNamed B.named
  have hlocks := B.notSynchronized
  have hS : CallFix p m c cX3_troubleWithRow 3 s _ wsX3_troubleWithRow RX3 := ⟨hx, hb, hml, hown, hts⟩
  have hin_X3 : ∀ w ∈ wsX30, w ∈ wsX3_troubleWithRow := fun w h => (List.mem_cons_of_mem _ (List.mem_append_right _ h))
  have hl := lv_entry ([.ref (a0 0), .int p1, .int p2]) (n := 3) (Nat.le_of_ble_eq_true rfl)
  rw [lg_entry_eq]
  generalize (lg_sl ([.ref (a0 0), .int p1, .int p2]) ++ List.replicate (3 - (lg_sl ([.ref (a0 0), .int p1, .int p2])).length) Slot.unset).toArray = ls at hl ⊢
  have hl : lv_has ls 3 [(0, .ref (a0 0)), (1, .int p1), (2, .int p2)] := hl
  rw [f_X3_troubleWithRow] at hM
  refine lv_iload_n hx hb dX3_troubleWithRow_0 rfl (lv_at hl 1 rfl) ?_
  refine rNR (wc := ([] : va_W)) (As := [.int p1]) (rest := []) hS (c_X6_isShelf l g p1) gX3_troubleWithRow_X6_isShelf_n33 rfl (mi 3 rfl) (mi 4 rfl) 3 rfl hd_X6_isShelf ⟨Nat.le_of_ble_eq_true rfl, Nat.le_of_ble_eq_true rfl⟩ hK (hP_nil) rfl hl.1 rfl (Nat.le_of_ble_eq_true rfl) dX3_troubleWithRow_1 ⟨Nat.zero_le _, Nat.zero_le _⟩ ?_
  refine lv_if_ne (tgt := 10) hx hb dX3_troubleWithRow_4 (by decide) (fun c2 => ?_) (fun c2 => ?_)
  · replace hM := itn c2 hM
    refine lv_aload_n hx hb dX3_troubleWithRow_10 rfl (lv_at hl 0 rfl) ?_
    refine wk_get hx hb hts hin_X3 hown hK hP 3 0 0 (.ref (a0 1)) rfl rfl (by decide) (mi 1 rfl) rfl rfl dX3_troubleWithRow_11 ?_
    refine lv_iload_n hx hb dX3_troubleWithRow_14 rfl (lv_at hl 1 rfl) ?_
    obtain ⟨k3, hM⟩ := ck hM
    refine wk_iald hx hb hK hP 1 8 (G0 0) rfl k3 dX3_troubleWithRow_15 ?_
    refine lv_bipush (v := (10 : Int32)) hx hb dX3_troubleWithRow_16 (by decide) ?_
    refine lv_icmp_lt (tgt := 24) hx hb dX3_troubleWithRow_18 (by decide) (fun c4 => ?_) (fun c4 => ?_)
    · replace hM := itp c4 hM
      refine lv_aload_n hx hb dX3_troubleWithRow_24 rfl (lv_at hl 0 rfl) ?_
      refine wk_get hx hb hts hin_X3 hown hK hP 3 0 0 (.ref (a0 1)) rfl rfl (by decide) (mi 1 rfl) rfl rfl dX3_troubleWithRow_25 ?_
      refine lv_iload_n hx hb dX3_troubleWithRow_28 rfl (lv_at hl 1 rfl) ?_
      refine wk_iald hx hb hK hP 1 8 (G0 0) rfl k3 dX3_troubleWithRow_29 ?_
      refine lv_iconst (v := (-1 : Int32)) hx hb dX3_troubleWithRow_30 (by decide) ?_
      refine lv_icmp_ne (tgt := 37) hx hb dX3_troubleWithRow_31 (by decide) (fun c5 => ?_) (fun c5 => ?_)
      · replace hM := itn c5 hM
        refine lv_aload_n hx hb dX3_troubleWithRow_37 rfl (lv_at hl 0 rfl) ?_
        refine wk_get hx hb hts hin_X3 hown hK hP 3 0 1 (.ref (a0 2)) rfl rfl (by decide) (mi 2 rfl) rfl rfl dX3_troubleWithRow_38 ?_
        refine lv_iload_n hx hb dX3_troubleWithRow_41 rfl (lv_at hl 1 rfl) ?_
        refine wk_iald hx hb hK hP 2 8 (G0 1) rfl k3 dX3_troubleWithRow_42 ?_
        refine lv_iload_n hx hb dX3_troubleWithRow_43 rfl (lv_at hl 2 rfl) ?_
        have hJ12 : ∀ (x11 : Int32) (ls : Array Slot), x11 = (if p2 ≤ ((G0 1) (p1).toNatClampNeg) then (0 : Int32) else (-2 : Int32)) → lv_has ls 3 [] → W p l e (headSpec wsX3_troubleWithRow ({ frames := 2, cells := 0, slots := 0, locals := 42 } : Room)).room s m ([.ref (a0 0), .int p1, .int p2] : List Value).toArray below meth c s.heap [] 0 0 (MQ below (QcR (some (.int q))) ([.ref (a0 0), .int p1, .int p2] : List Value).toArray s 0 0 (fun _ => False)) (F0 m 53 ls [.int x11]) := by
          intro x11 ls hxx11 hl
          subst hxx11
          obtain rfl := Option.some.inj hM
          exact W.iret hx hb hr (fun t ht _ => ⟨rfl, ht⟩) (fun q hq => by cases hq) dX3_troubleWithRow_53
        refine lv_icmp_ge (tgt := 52) hx hb dX3_troubleWithRow_44 (by decide) (fun c6 => ?_) (fun c6 => ?_)
        · refine lv_iconst (v := (0 : Int32)) hx hb dX3_troubleWithRow_52 (by decide) ?_
          exact hJ12 _ _ (by first | rfl | (simp only [if_pos c6])) (lv_sub hl [] rfl)
        · refine lv_bipush (v := (-2 : Int32)) hx hb dX3_troubleWithRow_47 (by decide) ?_
          refine lv_goto (tgt := 53) hx hb dX3_troubleWithRow_49 (by decide) ?_
          exact hJ12 _ _ (by first | rfl | (simp only [if_neg c6])) (lv_sub hl [] rfl)
      · replace hM := itp c5 hM
        refine lv_bipush (v := (-4 : Int32)) hx hb dX3_troubleWithRow_34 (by decide) ?_
        obtain rfl := Option.some.inj hM
        exact W.iret hx hb hr (fun t ht _ => ⟨rfl, ht⟩) (fun q hq => by cases hq) dX3_troubleWithRow_36
    · replace hM := itn c4 hM
      refine lv_bipush (v := (-3 : Int32)) hx hb dX3_troubleWithRow_21 (by decide) ?_
      obtain rfl := Option.some.inj hM
      exact W.iret hx hb hr (fun t ht _ => ⟨rfl, ht⟩) (fun q hq => by cases hq) dX3_troubleWithRow_23
  · replace hM := itp c2 hM
    refine lv_bipush (v := (-2 : Int32)) hx hb dX3_troubleWithRow_7 (by decide) ?_
    obtain rfl := Option.some.inj hM
    exact W.iret hx hb hr (fun t ht _ => ⟨rfl, ht⟩) (fun q hq => by cases hq) dX3_troubleWithRow_9
theorem hd_X3_troubleWithRows : yX3_troubleWithRows.cls = RX3 ∧ yX3_troubleWithRows.cls ≠ "java/lang/invoke/MethodHandle" ∧ yX3_troubleWithRows.cls ≠ "java/lang/invoke/VarHandle" ∧ (parseMethodDescriptor yX3_troubleWithRows.desc).map (fun d => d.parameters.length) = some 2 := by decide +kernel
set_option maxHeartbeats 4000000 in
set_option maxRecDepth 100000 in
theorem c_X3_troubleWithRows (l : Launch) (g : Gm) (a0 : Nat → Nat) (G0 : TS) (R0 : LTS) (p1 : Int32) (p2 : Int32) {q : Int32} (hM : f_X3_troubleWithRows G0 R0 p1 p2 = some q) : MR l yX3_troubleWithRows wsX3_troubleWithRows 2 42 g [.ref (a0 0), .int p1, .int p2] (wX3 g a0 G0 R0) (some (.int q)) := by
  refine Met.ofW (cc := cX3_troubleWithRows) (maxL := 3) (ret := (some .int)) (by decide) rfl ?_
  intro p e s m args below meth c s₁ B hml hv
  obtain ⟨rfl, hP, hK⟩ := hv
  have hx := B.exec; have hb := B.bytes; have hr := B.returns
  have hts := atoms_spec (ws := wsX3_troubleWithRows) B.pre
  have hown : s.vm.findClass RX3 = some m.cls := findClass_of_methodNamed B.named
  have hlocks := B.notSynchronized
  have hS : CallFix p m c cX3_troubleWithRows 3 s _ wsX3_troubleWithRows RX3 := ⟨hx, hb, hml, hown, hts⟩
  have hin_X3 : ∀ w ∈ wsX30, w ∈ wsX3_troubleWithRows := fun w h => (List.mem_cons_of_mem _ (List.mem_append_right _ h))
  have hl := lv_entry ([.ref (a0 0), .int p1, .int p2]) (n := 3) (Nat.le_of_ble_eq_true rfl)
  rw [lg_entry_eq]
  generalize (lg_sl ([.ref (a0 0), .int p1, .int p2]) ++ List.replicate (3 - (lg_sl ([.ref (a0 0), .int p1, .int p2])).length) Slot.unset).toArray = ls at hl ⊢
  have hl : lv_has ls 3 [(0, .ref (a0 0)), (1, .int p1), (2, .int p2)] := hl
  rw [f_X3_troubleWithRows] at hM
  refine lv_iload_n hx hb dX3_troubleWithRows_0 rfl (lv_at hl 1 rfl) ?_
  refine rNR (wc := ([] : va_W)) (As := [.int p1]) (rest := []) hS (c_X6_isShelf l g p1) gX3_troubleWithRows_X6_isShelf_n33 rfl (mi 2 rfl) (mi 3 rfl) 3 rfl hd_X6_isShelf ⟨Nat.le_of_ble_eq_true rfl, Nat.le_of_ble_eq_true rfl⟩ hK (hP_nil) rfl hl.1 rfl (Nat.le_of_ble_eq_true rfl) dX3_troubleWithRows_1 ⟨Nat.zero_le _, Nat.zero_le _⟩ ?_
  refine lv_if_eq (tgt := 14) hx hb dX3_troubleWithRows_4 (by decide) (fun c2 => ?_) (fun c2 => ?_)
  · replace hM := itp c2 hM
    refine lv_bipush (v := (-2 : Int32)) hx hb dX3_troubleWithRows_14 (by decide) ?_
    obtain rfl := Option.some.inj hM
    exact W.iret hx hb hr (fun t ht _ => ⟨rfl, ht⟩) (fun q hq => by cases hq) dX3_troubleWithRows_16
  · replace hM := itn c2 hM
    refine lv_iload_n hx hb dX3_troubleWithRows_7 rfl (lv_at hl 2 rfl) ?_
    refine rNR (wc := ([] : va_W)) (As := [.int p2]) (rest := []) hS (c_X6_isShelf l g p2) gX3_troubleWithRows_X6_isShelf_n33 rfl (mi 2 rfl) (mi 3 rfl) 3 rfl hd_X6_isShelf ⟨Nat.le_of_ble_eq_true rfl, Nat.le_of_ble_eq_true rfl⟩ hK (hP_nil) rfl hl.1 rfl (Nat.le_of_ble_eq_true rfl) dX3_troubleWithRows_8 ⟨Nat.zero_le _, Nat.zero_le _⟩ ?_
    refine lv_if_ne (tgt := 17) hx hb dX3_troubleWithRows_11 (by decide) (fun c4 => ?_) (fun c4 => ?_)
    · replace hM := itn c4 hM
      refine lv_aload_n hx hb dX3_troubleWithRows_17 rfl (lv_at hl 0 rfl) ?_
      refine wk_get hx hb hts hin_X3 hown hK hP 3 0 0 (.ref (a0 1)) rfl rfl (by decide) (mi 1 rfl) rfl rfl dX3_troubleWithRows_18 ?_
      refine lv_iload_n hx hb dX3_troubleWithRows_21 rfl (lv_at hl 1 rfl) ?_
      obtain ⟨k5, hM⟩ := ck hM
      refine wk_iald hx hb hK hP 1 8 (G0 0) rfl k5 dX3_troubleWithRows_22 ?_
      refine lv_bipush (v := (10 : Int32)) hx hb dX3_troubleWithRows_23 (by decide) ?_
      refine lv_icmp_ge (tgt := 39) hx hb dX3_troubleWithRows_25 (by decide) (fun c6 => ?_) (fun c6 => ?_)
      · replace hM := itp c6 hM
        refine lv_bipush (v := (-3 : Int32)) hx hb dX3_troubleWithRows_39 (by decide) ?_
        obtain rfl := Option.some.inj hM
        exact W.iret hx hb hr (fun t ht _ => ⟨rfl, ht⟩) (fun q hq => by cases hq) dX3_troubleWithRows_41
      · replace hM := itn c6 hM
        refine lv_aload_n hx hb dX3_troubleWithRows_28 rfl (lv_at hl 0 rfl) ?_
        refine wk_get hx hb hts hin_X3 hown hK hP 3 0 0 (.ref (a0 1)) rfl rfl (by decide) (mi 1 rfl) rfl rfl dX3_troubleWithRows_29 ?_
        refine lv_iload_n hx hb dX3_troubleWithRows_32 rfl (lv_at hl 2 rfl) ?_
        obtain ⟨k7, hM⟩ := ck hM
        refine wk_iald hx hb hK hP 1 8 (G0 0) rfl k7 dX3_troubleWithRows_33 ?_
        refine lv_bipush (v := (10 : Int32)) hx hb dX3_troubleWithRows_34 (by decide) ?_
        refine lv_icmp_lt (tgt := 42) hx hb dX3_troubleWithRows_36 (by decide) (fun c8 => ?_) (fun c8 => ?_)
        · replace hM := itp c8 hM
          refine lv_aload_n hx hb dX3_troubleWithRows_42 rfl (lv_at hl 0 rfl) ?_
          refine wk_get hx hb hts hin_X3 hown hK hP 3 0 0 (.ref (a0 1)) rfl rfl (by decide) (mi 1 rfl) rfl rfl dX3_troubleWithRows_43 ?_
          refine lv_iload_n hx hb dX3_troubleWithRows_46 rfl (lv_at hl 1 rfl) ?_
          refine wk_iald hx hb hK hP 1 8 (G0 0) rfl k5 dX3_troubleWithRows_47 ?_
          refine lv_iconst (v := (-1 : Int32)) hx hb dX3_troubleWithRows_48 (by decide) ?_
          refine lv_icmp_eq (tgt := 62) hx hb dX3_troubleWithRows_49 (by decide) (fun c9 => ?_) (fun c9 => ?_)
          · replace hM := itp c9 hM
            refine lv_bipush (v := (-4 : Int32)) hx hb dX3_troubleWithRows_62 (by decide) ?_
            obtain rfl := Option.some.inj hM
            exact W.iret hx hb hr (fun t ht _ => ⟨rfl, ht⟩) (fun q hq => by cases hq) dX3_troubleWithRows_64
          · replace hM := itn c9 hM
            refine lv_aload_n hx hb dX3_troubleWithRows_52 rfl (lv_at hl 0 rfl) ?_
            refine wk_get hx hb hts hin_X3 hown hK hP 3 0 0 (.ref (a0 1)) rfl rfl (by decide) (mi 1 rfl) rfl rfl dX3_troubleWithRows_53 ?_
            refine lv_iload_n hx hb dX3_troubleWithRows_56 rfl (lv_at hl 2 rfl) ?_
            refine wk_iald hx hb hK hP 1 8 (G0 0) rfl k7 dX3_troubleWithRows_57 ?_
            refine lv_iconst (v := (-1 : Int32)) hx hb dX3_troubleWithRows_58 (by decide) ?_
            refine lv_icmp_ne (tgt := 65) hx hb dX3_troubleWithRows_59 (by decide) (fun c10 => ?_) (fun c10 => ?_)
            · replace hM := itn c10 hM
              refine lv_aload_n hx hb dX3_troubleWithRows_65 rfl (lv_at hl 0 rfl) ?_
              refine wk_get hx hb hts hin_X3 hown hK hP 3 0 0 (.ref (a0 1)) rfl rfl (by decide) (mi 1 rfl) rfl rfl dX3_troubleWithRows_66 ?_
              refine lv_iload_n hx hb dX3_troubleWithRows_69 rfl (lv_at hl 1 rfl) ?_
              refine wk_iald hx hb hK hP 1 8 (G0 0) rfl k5 dX3_troubleWithRows_70 ?_
              refine lv_aload_n hx hb dX3_troubleWithRows_71 rfl (lv_at hl 0 rfl) ?_
              refine wk_get hx hb hts hin_X3 hown hK hP 3 0 0 (.ref (a0 1)) rfl rfl (by decide) (mi 1 rfl) rfl rfl dX3_troubleWithRows_72 ?_
              refine lv_iload_n hx hb dX3_troubleWithRows_75 rfl (lv_at hl 2 rfl) ?_
              refine wk_iald hx hb hK hP 1 8 (G0 0) rfl k7 dX3_troubleWithRows_76 ?_
              have hJ17 : ∀ (x16 : Int32) (ls : Array Slot), x16 = (if ((G0 0) (p1).toNatClampNeg) = ((G0 0) (p2).toNatClampNeg) then (0 : Int32) else (-3 : Int32)) → lv_has ls 3 [] → W p l e (headSpec wsX3_troubleWithRows ({ frames := 2, cells := 0, slots := 0, locals := 42 } : Room)).room s m ([.ref (a0 0), .int p1, .int p2] : List Value).toArray below meth c s.heap [] 0 0 (MQ below (QcR (some (.int q))) ([.ref (a0 0), .int p1, .int p2] : List Value).toArray s 0 0 (fun _ => False)) (F0 m 86 ls [.int x16]) := by
                intro x16 ls hxx16 hl
                subst hxx16
                obtain rfl := Option.some.inj hM
                exact W.iret hx hb hr (fun t ht _ => ⟨rfl, ht⟩) (fun q hq => by cases hq) dX3_troubleWithRows_86
              refine lv_icmp_eq (tgt := 85) hx hb dX3_troubleWithRows_77 (by decide) (fun c11 => ?_) (fun c11 => ?_)
              · refine lv_iconst (v := (0 : Int32)) hx hb dX3_troubleWithRows_85 (by decide) ?_
                exact hJ17 _ _ (by first | rfl | (simp only [if_pos c11])) (lv_sub hl [] rfl)
              · refine lv_bipush (v := (-3 : Int32)) hx hb dX3_troubleWithRows_80 (by decide) ?_
                refine lv_goto (tgt := 86) hx hb dX3_troubleWithRows_82 (by decide) ?_
                exact hJ17 _ _ (by first | rfl | (simp only [if_neg c11])) (lv_sub hl [] rfl)
            · replace hM := itp c10 hM
              refine lv_bipush (v := (-4 : Int32)) hx hb dX3_troubleWithRows_62 (by decide) ?_
              obtain rfl := Option.some.inj hM
              exact W.iret hx hb hr (fun t ht _ => ⟨rfl, ht⟩) (fun q hq => by cases hq) dX3_troubleWithRows_64
        · replace hM := itn c8 hM
          refine lv_bipush (v := (-3 : Int32)) hx hb dX3_troubleWithRows_39 (by decide) ?_
          obtain rfl := Option.some.inj hM
          exact W.iret hx hb hr (fun t ht _ => ⟨rfl, ht⟩) (fun q hq => by cases hq) dX3_troubleWithRows_41
    · replace hM := itp c4 hM
      refine lv_bipush (v := (-2 : Int32)) hx hb dX3_troubleWithRows_14 (by decide) ?_
      obtain rfl := Option.some.inj hM
      exact W.iret hx hb hr (fun t ht _ => ⟨rfl, ht⟩) (fun q hq => by cases hq) dX3_troubleWithRows_16
