theorem hd_X5_isOne : yX5_isOne.cls = RX5 ∧ yX5_isOne.cls ≠ "java/lang/invoke/MethodHandle" ∧ yX5_isOne.cls ≠ "java/lang/invoke/VarHandle" ∧ (parseMethodDescriptor yX5_isOne.desc).map (fun d => d.parameters.length) = some 1 := by decide +kernel
def f_X5_isOne (T0 : TS) (p1 : Int32) : Int32 :=
  (if p1 < 0 then (0 : Int32) else (if (T0 1 0) ≤ p1 then (0 : Int32) else (1 : Int32)))
theorem bz_X5_isOne (T0 : TS) (p1 : Int32) : f_X5_isOne T0 p1 = 0 ∨ f_X5_isOne T0 p1 = 1 := by
  obtain ⟨rr, hM⟩ : ∃ rr, f_X5_isOne T0 p1 = rr := ⟨_, rfl⟩
  rw [hM]
  rw [f_X5_isOne] at hM
  subst hM
  exact (by repeat (first | exact Or.inl rfl | exact Or.inr rfl | split))
set_option maxHeartbeats 4000000 in
set_option maxRecDepth 100000 in
theorem c_X5_isOne (l : Launch) (g : Gm) (a0 : Nat → Nat) (T0 : TS) (p1 : Int32) : MR l yX5_isOne wsX5_isOne 0 0 g [.ref (a0 0), .int p1] (wX5 g a0 T0) (some (.int (f_X5_isOne T0 p1))) := by
  refine Met.ofW (cc := cX5_isOne) (maxL := 2) (ret := (some .boolean)) (by decide) rfl ?_
  intro p e s m args below meth c s₁ B hml hv
  obtain ⟨rfl, hP, hK⟩ := hv
  have hx := B.exec; have hb := B.bytes; have hr := B.returns
  have hts := atoms_spec (ws := wsX5_isOne) B.pre
  have hown : s.vm.findClass RX5 = some m.cls := findClass_of_methodNamed B.named
  have hlocks := B.notSynchronized
  have hS : CallFix p m c cX5_isOne 2 s _ wsX5_isOne RX5 := ⟨hx, hb, hml, hown, hts⟩
  have hin_X5 : ∀ w ∈ wsX50, w ∈ wsX5_isOne := fun w h => (List.mem_cons_of_mem _ (List.mem_append_right _ h))
  have hl := lv_entry ([.ref (a0 0), .int p1]) (n := 2) (Nat.le_of_ble_eq_true rfl)
  rw [lg_entry_eq]
  generalize (lg_sl ([.ref (a0 0), .int p1]) ++ List.replicate (2 - (lg_sl ([.ref (a0 0), .int p1])).length) Slot.unset).toArray = ls at hl ⊢
  have hl : lv_has ls 2 [(0, .ref (a0 0)), (1, .int p1)] := hl
  obtain ⟨rr, hM⟩ : ∃ rr, f_X5_isOne T0 p1 = rr := ⟨_, rfl⟩
  rw [hM]
  rw [f_X5_isOne] at hM
  refine lv_iload_n hx hb dX5_isOne_0 rfl (lv_at hl 1 rfl) ?_
  have hJ4 : ∀ (x3 : Int32) (ls : Array Slot), x3 = (if p1 < 0 then (0 : Int32) else (if (T0 1 0) ≤ p1 then (0 : Int32) else (1 : Int32))) → lv_has ls 2 [] → W p l e (headSpec wsX5_isOne ({ frames := 0, cells := 0, slots := 0, locals := 0 } : Room)).room s m ([.ref (a0 0), .int p1] : List Value).toArray below meth c s.heap [] 0 0 (MQ below (QcR (some (.int rr))) ([.ref (a0 0), .int p1] : List Value).toArray s 0 0 (fun _ => False)) (F0 m 17 ls [.int x3]) := by
    intro x3 ls hxx3 hl
    subst hxx3
    subst hM
    exact W.zret hx hb hr (nz (by repeat (first | exact Or.inl rfl | exact Or.inr rfl | split))) (fun t ht _ => ⟨rfl, ht⟩) (fun q hq => by cases hq) dX5_isOne_17
  refine lv_if_lt (tgt := 16) hx hb dX5_isOne_1 (by decide) (fun c1 => ?_) (fun c1 => ?_)
  · refine lv_iconst (v := (0 : Int32)) hx hb dX5_isOne_16 (by decide) ?_
    exact hJ4 _ _ (by first | rfl | (simp only [if_pos c1])) (lv_sub hl [] rfl)
  · refine lv_iload_n hx hb dX5_isOne_4 rfl (lv_at hl 1 rfl) ?_
    refine lv_aload_n hx hb dX5_isOne_5 rfl (lv_at hl 0 rfl) ?_
    refine wk_get hx hb hts hin_X5 hown hK hP 5 0 1 (.int (T0 1 0)) rfl rfl (by decide) (mi 1 rfl) rfl rfl dX5_isOne_6 ?_
    refine lv_icmp_ge (tgt := 16) hx hb dX5_isOne_9 (by decide) (fun c2 => ?_) (fun c2 => ?_)
    · refine lv_iconst (v := (0 : Int32)) hx hb dX5_isOne_16 (by decide) ?_
      exact hJ4 _ _ (by first | rfl | (simp only [if_neg c1, if_pos c2])) (lv_sub hl [] rfl)
    · refine lv_iconst (v := (1 : Int32)) hx hb dX5_isOne_12 (by decide) ?_
      refine lv_goto (tgt := 17) hx hb dX5_isOne_13 (by decide) ?_
      exact hJ4 _ _ (by first | rfl | (simp only [if_neg c1, if_neg c2])) (lv_sub hl [] rfl)
theorem hd_X6_has : yX6_has.cls ≠ "java/lang/invoke/MethodHandle" ∧ yX6_has.cls ≠ "java/lang/invoke/VarHandle" ∧ (parseMethodDescriptor yX6_has.desc).map (fun d => d.parameters.length) = some 2 := by decide +kernel
def f_X6_has (p0 : Int32) (p1 : Int32) : Int32 :=
  (if ((p0 >>> (p1 &&& 31)) &&& (1 : Int32)) = 0 then (0 : Int32) else (1 : Int32))
theorem bz_X6_has (p0 : Int32) (p1 : Int32) : f_X6_has p0 p1 = 0 ∨ f_X6_has p0 p1 = 1 := by
  obtain ⟨rr, hM⟩ : ∃ rr, f_X6_has p0 p1 = rr := ⟨_, rfl⟩
  rw [hM]
  rw [f_X6_has] at hM
  subst hM
  exact (by repeat (first | exact Or.inl rfl | exact Or.inr rfl | split))
set_option maxHeartbeats 4000000 in
set_option maxRecDepth 100000 in
theorem c_X6_has (l : Launch) (g : Gm) (p0 : Int32) (p1 : Int32) : MR l yX6_has wsX6_has 0 0 g [.int p0, .int p1] ([] : va_W) (some (.int (f_X6_has p0 p1))) := by
  refine Met.ofW (cc := cX6_has) (maxL := 2) (ret := (some .boolean)) (by decide) rfl ?_
  intro p e s m args below meth c s₁ B hml hv
  obtain ⟨rfl, hP, hK⟩ := hv
  have hx := B.exec; have hb := B.bytes; have hr := B.returns
  have hts := atoms_spec (ws := wsX6_has) B.pre
  have hown : s.vm.findClass RX6 = some m.cls := findClass_of_methodNamed B.named
  have hlocks := B.notSynchronized
  have hS : CallFix p m c cX6_has 2 s _ wsX6_has RX6 := ⟨hx, hb, hml, hown, hts⟩
  have hl := lv_entry ([.int p0, .int p1]) (n := 2) (Nat.le_of_ble_eq_true rfl)
  rw [lg_entry_eq]
  generalize (lg_sl ([.int p0, .int p1]) ++ List.replicate (2 - (lg_sl ([.int p0, .int p1])).length) Slot.unset).toArray = ls at hl ⊢
  have hl : lv_has ls 2 [(0, .int p0), (1, .int p1)] := hl
  obtain ⟨rr, hM⟩ : ∃ rr, f_X6_has p0 p1 = rr := ⟨_, rfl⟩
  rw [hM]
  rw [f_X6_has] at hM
  refine lv_iload_n hx hb dX6_has_0 rfl (lv_at hl 0 rfl) ?_
  refine lv_iload_n hx hb dX6_has_1 rfl (lv_at hl 1 rfl) ?_
  refine lv_ishr hx hb dX6_has_2 ?_
  refine lv_iconst (v := (1 : Int32)) hx hb dX6_has_3 (by decide) ?_
  refine lv_iand hx hb dX6_has_4 ?_
  have hJ3 : ∀ (x2 : Int32) (ls : Array Slot), x2 = (if ((p0 >>> (p1 &&& 31)) &&& (1 : Int32)) = 0 then (0 : Int32) else (1 : Int32)) → lv_has ls 2 [] → W p l e (headSpec wsX6_has ({ frames := 0, cells := 0, slots := 0, locals := 0 } : Room)).room s m ([.int p0, .int p1] : List Value).toArray below meth c s.heap [] 0 0 (MQ below (QcR (some (.int rr))) ([.int p0, .int p1] : List Value).toArray s 0 0 (fun _ => False)) (F0 m 13 ls [.int x2]) := by
    intro x2 ls hxx2 hl
    subst hxx2
    subst hM
    exact W.zret hx hb hr (nz (by repeat (first | exact Or.inl rfl | exact Or.inr rfl | split))) (fun t ht _ => ⟨rfl, ht⟩) (fun q hq => by cases hq) dX6_has_13
  refine lv_if_eq (tgt := 12) hx hb dX6_has_5 (by decide) (fun c1 => ?_) (fun c1 => ?_)
  · refine lv_iconst (v := (0 : Int32)) hx hb dX6_has_12 (by decide) ?_
    exact hJ3 _ _ (by first | rfl | (simp only [if_pos c1])) (lv_sub hl [] rfl)
  · refine lv_iconst (v := (1 : Int32)) hx hb dX6_has_8 (by decide) ?_
    refine lv_goto (tgt := 13) hx hb dX6_has_9 (by decide) ?_
    exact hJ3 _ _ (by first | rfl | (simp only [if_neg c1])) (lv_sub hl [] rfl)
theorem hd_J6_bitCount_0f7a4 : yJ6_bitCount_0f7a4.cls ≠ "java/lang/invoke/MethodHandle" ∧ yJ6_bitCount_0f7a4.cls ≠ "java/lang/invoke/VarHandle" ∧ (parseMethodDescriptor yJ6_bitCount_0f7a4.desc).map (fun d => d.parameters.length) = some 1 := by decide +kernel
def bk1 (x : Int32) : Int32 := (x - (((x).toUInt32 >>> (((1 : Int32)).toUInt32 &&& Int32.toUInt32 31)).toInt32 &&& (1431655765 : Int32)))
def bk2 (x : Int32) : Int32 := ((x &&& (858993459 : Int32)) + (((x).toUInt32 >>> (((2 : Int32)).toUInt32 &&& Int32.toUInt32 31)).toInt32 &&& (858993459 : Int32)))
def bk3 (x : Int32) : Int32 := ((x + ((x).toUInt32 >>> (((4 : Int32)).toUInt32 &&& Int32.toUInt32 31)).toInt32) &&& (252645135 : Int32))
def bk4 (x : Int32) : Int32 := (x + ((x).toUInt32 >>> (((8 : Int32)).toUInt32 &&& Int32.toUInt32 31)).toInt32)
def bk5 (x : Int32) : Int32 := (x + ((x).toUInt32 >>> (((16 : Int32)).toUInt32 &&& Int32.toUInt32 31)).toInt32)
def f_J6_bitCount_0f7a4 (p0 : Int32) : Int32 :=
  ((bk5 (bk4 (bk3 (bk2 (bk1 p0))))) &&& (63 : Int32))
set_option maxHeartbeats 4000000 in
set_option maxRecDepth 100000 in
theorem c_J6_bitCount_0f7a4 (l : Launch) (g : Gm) (p0 : Int32) : MR l yJ6_bitCount_0f7a4 wsJ6_bitCount_0f7a4 0 0 g [.int p0] ([] : va_W) (some (.int (f_J6_bitCount_0f7a4 p0))) := by
  refine Met.ofW (cc := cJ6_bitCount_0f7a4) (maxL := 1) (ret := (some .int)) (by decide) rfl ?_
  intro p e s m args below meth c s₁ B hml hv
  obtain ⟨rfl, hP, hK⟩ := hv
  have hx := B.exec; have hb := B.bytes; have hr := B.returns
  have hts := atoms_spec (ws := wsJ6_bitCount_0f7a4) B.pre
  have hown : s.vm.findClass RJ6 = some m.cls := findClass_of_methodNamed B.named
  have hlocks := B.notSynchronized
  have hS : CallFix p m c cJ6_bitCount_0f7a4 1 s _ wsJ6_bitCount_0f7a4 RJ6 := ⟨hx, hb, hml, hown, hts⟩
  have hl := lv_entry ([.int p0]) (n := 1) (Nat.le_of_ble_eq_true rfl)
  rw [lg_entry_eq]
  generalize (lg_sl ([.int p0]) ++ List.replicate (1 - (lg_sl ([.int p0])).length) Slot.unset).toArray = ls at hl ⊢
  have hl : lv_has ls 1 [(0, .int p0)] := hl
  obtain ⟨rr, hM⟩ : ∃ rr, f_J6_bitCount_0f7a4 p0 = rr := ⟨_, rfl⟩
  rw [hM]
  rw [f_J6_bitCount_0f7a4] at hM
  refine lv_iload_n hx hb dJ6_bitCount_0f7a4_0 rfl (lv_at hl 0 rfl) ?_
  refine lv_iload_n hx hb dJ6_bitCount_0f7a4_1 rfl (lv_at hl 0 rfl) ?_
  refine lv_iconst (v := (1 : Int32)) hx hb dJ6_bitCount_0f7a4_2 (by decide) ?_
  refine lv_iushr (v := ((p0).toUInt32 >>> (((1 : Int32)).toUInt32 &&& Int32.toUInt32 31)).toInt32) hx hb dJ6_bitCount_0f7a4_3 rfl ?_
  refine lv_ldcw (v := (1431655765 : Int32)) hx hb hown (hts _ (mi 1 rfl)) dJ6_bitCount_0f7a4_4 ?_
  refine lv_iand hx hb dJ6_bitCount_0f7a4_7 ?_
  refine lv_isub hx hb dJ6_bitCount_0f7a4_8 ?_
  refine lv_istore_n (lv' := [(0, .int (bk1 p0))]) hx hb dJ6_bitCount_0f7a4_9 rfl hl (by decide) rfl (fun ls hl => ?_)
  refine lv_iload_n hx hb dJ6_bitCount_0f7a4_10 rfl (lv_at hl 0 rfl) ?_
  refine lv_ldcw (v := (858993459 : Int32)) hx hb hown (hts _ (mi 2 rfl)) dJ6_bitCount_0f7a4_11 ?_
  refine lv_iand hx hb dJ6_bitCount_0f7a4_14 ?_
  refine lv_iload_n hx hb dJ6_bitCount_0f7a4_15 rfl (lv_at hl 0 rfl) ?_
  refine lv_iconst (v := (2 : Int32)) hx hb dJ6_bitCount_0f7a4_16 (by decide) ?_
  refine lv_iushr (v := (((bk1 p0)).toUInt32 >>> (((2 : Int32)).toUInt32 &&& Int32.toUInt32 31)).toInt32) hx hb dJ6_bitCount_0f7a4_17 rfl ?_
  refine lv_ldcw (v := (858993459 : Int32)) hx hb hown (hts _ (mi 2 rfl)) dJ6_bitCount_0f7a4_18 ?_
  refine lv_iand hx hb dJ6_bitCount_0f7a4_21 ?_
  refine lv_iadd hx hb dJ6_bitCount_0f7a4_22 ?_
  refine lv_istore_n (lv' := [(0, .int (bk2 (bk1 p0)))]) hx hb dJ6_bitCount_0f7a4_23 rfl hl (by decide) rfl (fun ls hl => ?_)
  refine lv_iload_n hx hb dJ6_bitCount_0f7a4_24 rfl (lv_at hl 0 rfl) ?_
  refine lv_iload_n hx hb dJ6_bitCount_0f7a4_25 rfl (lv_at hl 0 rfl) ?_
  refine lv_iconst (v := (4 : Int32)) hx hb dJ6_bitCount_0f7a4_26 (by decide) ?_
  refine lv_iushr (v := (((bk2 (bk1 p0))).toUInt32 >>> (((4 : Int32)).toUInt32 &&& Int32.toUInt32 31)).toInt32) hx hb dJ6_bitCount_0f7a4_27 rfl ?_
  refine lv_iadd hx hb dJ6_bitCount_0f7a4_28 ?_
  refine lv_ldcw (v := (252645135 : Int32)) hx hb hown (hts _ (mi 3 rfl)) dJ6_bitCount_0f7a4_29 ?_
  refine lv_iand hx hb dJ6_bitCount_0f7a4_32 ?_
  refine lv_istore_n (lv' := [(0, .int (bk3 (bk2 (bk1 p0))))]) hx hb dJ6_bitCount_0f7a4_33 rfl hl (by decide) rfl (fun ls hl => ?_)
  refine lv_iload_n hx hb dJ6_bitCount_0f7a4_34 rfl (lv_at hl 0 rfl) ?_
  refine lv_iload_n hx hb dJ6_bitCount_0f7a4_35 rfl (lv_at hl 0 rfl) ?_
  refine lv_bipush (v := (8 : Int32)) hx hb dJ6_bitCount_0f7a4_36 (by decide) ?_
  refine lv_iushr (v := (((bk3 (bk2 (bk1 p0)))).toUInt32 >>> (((8 : Int32)).toUInt32 &&& Int32.toUInt32 31)).toInt32) hx hb dJ6_bitCount_0f7a4_38 rfl ?_
  refine lv_iadd hx hb dJ6_bitCount_0f7a4_39 ?_
  refine lv_istore_n (lv' := [(0, .int (bk4 (bk3 (bk2 (bk1 p0)))))]) hx hb dJ6_bitCount_0f7a4_40 rfl hl (by decide) rfl (fun ls hl => ?_)
  refine lv_iload_n hx hb dJ6_bitCount_0f7a4_41 rfl (lv_at hl 0 rfl) ?_
  refine lv_iload_n hx hb dJ6_bitCount_0f7a4_42 rfl (lv_at hl 0 rfl) ?_
  refine lv_bipush (v := (16 : Int32)) hx hb dJ6_bitCount_0f7a4_43 (by decide) ?_
  refine lv_iushr (v := (((bk4 (bk3 (bk2 (bk1 p0))))).toUInt32 >>> (((16 : Int32)).toUInt32 &&& Int32.toUInt32 31)).toInt32) hx hb dJ6_bitCount_0f7a4_45 rfl ?_
  refine lv_iadd hx hb dJ6_bitCount_0f7a4_46 ?_
  refine lv_istore_n (lv' := [(0, .int (bk5 (bk4 (bk3 (bk2 (bk1 p0))))))]) hx hb dJ6_bitCount_0f7a4_47 rfl hl (by decide) rfl (fun ls hl => ?_)
  refine lv_iload_n hx hb dJ6_bitCount_0f7a4_48 rfl (lv_at hl 0 rfl) ?_
  refine lv_bipush (v := (63 : Int32)) hx hb dJ6_bitCount_0f7a4_49 (by decide) ?_
  refine lv_iand hx hb dJ6_bitCount_0f7a4_51 ?_
  subst hM
  exact W.iret hx hb hr (fun t ht _ => ⟨rfl, ht⟩) (fun q hq => by cases hq) dJ6_bitCount_0f7a4_52

theorem hd_X5_tell : yX5_tell.cls = RX5 ∧ yX5_tell.cls ≠ "java/lang/invoke/MethodHandle" ∧ yX5_tell.cls ≠ "java/lang/invoke/VarHandle" ∧ (parseMethodDescriptor yX5_tell.desc).map (fun d => d.parameters.length) = some 2 := by decide +kernel
def L_X5_tell_5 (p1 : Int32) (p2 : Int32) : Nat → Int32 → Int32 → TS → Option (Int32 × TS)
  | 0, _, _, _ => none
  | n + 1, v4_1, v3_2, TL3 =>
    if (TL3 1 0) ≤ v4_1 then
      some (v3_2, TL3)
    else
      if v4_1 < 0 ∨ 7 ≤ (v4_1).toNatClampNeg then none else
      if (f_X6_has ((TL3 10) (v4_1).toNatClampNeg) p1) = 0 then
        L_X5_tell_5 p1 p2 n (v4_1 + (1 : Int32)) v3_2 TL3
      else
        L_X5_tell_5 p1 p2 n (v4_1 + (1 : Int32)) (v3_2 + (f_J6_bitCount_0f7a4 (p2 &&& (((TL3 9) (v4_1).toNatClampNeg) ^^^ (-1 : Int32))))) (up TL3 9 (upd (TL3 9) (v4_1).toNatClampNeg (((TL3 9) (v4_1).toNatClampNeg) ||| p2)))
def f_X5_tell (T0 : TS) (p1 : Int32) (p2 : Int32) : Option (Int32 × TS) :=
  (L_X5_tell_5 p1 p2 300 (0 : Int32) (0 : Int32) T0).bind fun q4 =>
  some (q4.1, q4.2)
set_option maxHeartbeats 4000000 in
set_option maxRecDepth 100000 in
theorem c_X5_tell (l : Launch) (g : Gm) (a0 : Nat → Nat) (T0 : TS) (p1 : Int32) (p2 : Int32) {q : (Int32 × TS)} (hM : f_X5_tell T0 p1 p2 = some q) : MW l yX5_tell wsX5_tell 1 21 g [.ref (a0 0), .int p1, .int p2] (wX5 g a0 T0) (some (.int q.1)) (wX5 g a0 q.2) := by
  intro sz
  refine Met.ofW (cc := cX5_tell) (maxL := 5) (ret := (some .int)) (by decide) rfl ?_
  intro p e s m args below meth c s₁ B hml hv
  obtain ⟨rfl, hsz, hP, hK, hD0⟩ := hv
  have hx := B.exec; have hb := B.bytes; have hr := B.returns
  have hts := atoms_spec (ws := wsX5_tell) B.pre
  have hown : s.vm.findClass RX5 = some m.cls := findClass_of_methodNamed B.named
  have hlocks := B.notSynchronized
  have hS : CallFix p m c cX5_tell 5 s _ wsX5_tell RX5 := ⟨hx, hb, hml, hown, hts⟩
  have hin_X5 : ∀ w ∈ wsX50, w ∈ wsX5_tell := fun w h => (List.mem_cons_of_mem _ (List.mem_append_right _ h))
  subst hsz
  have hw := wk_start hP hD0
  have hA : ∀ q : Nat, s.heap.size ≤ q → va_A (wX5 g a0 T0) s.heap.size q := fun q h => Or.inr h
  generalize va_A (wX5 g a0 T0) s.heap.size = A at hw hA ⊢
  clear hP hD0
  have hl := lv_entry ([.ref (a0 0), .int p1, .int p2]) (n := 5) (Nat.le_of_ble_eq_true rfl)
  rw [lg_entry_eq]
  generalize (lg_sl ([.ref (a0 0), .int p1, .int p2]) ++ List.replicate (5 - (lg_sl ([.ref (a0 0), .int p1, .int p2])).length) Slot.unset).toArray = ls at hl ⊢
  have hl : lv_has ls 5 [(0, .ref (a0 0)), (1, .int p1), (2, .int p2)] := hl
  rw [f_X5_tell] at hM
  refine lv_iconst (v := (0 : Int32)) hx hb dX5_tell_0 (by decide) ?_
  refine lv_istore_n (lv' := [(3, .int (0 : Int32)), (0, .ref (a0 0)), (1, .int p1), (2, .int p2)]) hx hb dX5_tell_1 rfl hl (by decide) rfl (fun ls hl => ?_)
  refine lv_iconst (v := (0 : Int32)) hx hb dX5_tell_2 (by decide) ?_
  refine lv_istore (lv' := [(4, .int (0 : Int32)), (3, .int (0 : Int32)), (0, .ref (a0 0)), (1, .int p1), (2, .int p2)]) hx hb dX5_tell_3 hl (by decide) rfl (fun ls hl => ?_)
  obtain ⟨q4, hL5, hM⟩ := bd hM
  have hJ5 : ∀ (H : Heap) (locs : List Loc), Wk g A s.heap H locs (wX5 g a0 q4.2) → ∀ (ls : Array Slot), lv_has ls 5 [(3, .int q4.1)] → W p l e (headSpec wsX5_tell ({ frames := 1, cells := 0, slots := 0, locals := 21 } : Room)).room s m ([.ref (a0 0), .int p1, .int p2] : List Value).toArray below meth c H locs 0 0 (MQ below (QcW g (some (.int q.1)) (wX5 g a0 q.2) A) ([.ref (a0 0), .int p1, .int p2] : List Value).toArray s 0 0 A) (F0 m 62 ls []) := by
    intro H locs hw ls hl
    refine lv_iload_n hx hb dX5_tell_62 rfl (lv_at hl 0 rfl) ?_
    obtain rfl := Option.some.inj hM
    exact W.iret hx hb hr (fun t ht _ => ⟨rfl, by rw [ht]; exact hw.1, hw.2.2.F ht⟩) hw.2.2.2.2 dX5_tell_63
  have hW5 : ∀ (n : Nat) (v4_1 : Int32) (v3_2 : Int32) (TL3 : TS), L_X5_tell_5 p1 p2 n v4_1 v3_2 TL3 = some q4 → ∀ (H : Heap) (locs : List Loc), Wk g A s.heap H locs (wX5 g a0 TL3) → ∀ (ls : Array Slot), lv_has ls 5 [(4, .int v4_1), (3, .int v3_2), (0, .ref (a0 0)), (1, .int p1), (2, .int p2)] → W p l e (headSpec wsX5_tell ({ frames := 1, cells := 0, slots := 0, locals := 21 } : Room)).room s m ([.ref (a0 0), .int p1, .int p2] : List Value).toArray below meth c H locs 0 0 (MQ below (QcW g (some (.int q.1)) (wX5 g a0 q.2) A) ([.ref (a0 0), .int p1, .int p2] : List Value).toArray s 0 0 A) (F0 m 5 ls []) := by
    intro n
    induction n with
    | zero => intro v4_1 v3_2 TL3 hM; rw [L_X5_tell_5] at hM; exact nn hM
    | succ n ih5 =>
      intro v4_1 v3_2 TL3 hM H locs hw ls hl
      rw [L_X5_tell_5] at hM
      refine lv_iload hx hb dX5_tell_5 (lv_at hl 0 rfl) ?_
      refine lv_aload_n hx hb dX5_tell_7 rfl (lv_at hl 2 rfl) ?_
      refine wk_get hx hb hts hin_X5 hown hK hw.1 5 0 1 (.int (TL3 1 0)) rfl rfl (by decide) (mi 1 rfl) rfl rfl dX5_tell_8 ?_
      refine lv_icmp_ge (tgt := 62) hx hb dX5_tell_11 (by decide) (fun c5 => ?_) (fun c5 => ?_)
      · replace hM := itp c5 hM
        obtain rfl := Option.some.inj hM
        exact hJ5 _ _ hw _ (lv_sub hl [1] rfl)
      · replace hM := itn c5 hM
        refine lv_aload_n hx hb dX5_tell_14 rfl (lv_at hl 2 rfl) ?_
        refine wk_get hx hb hts hin_X5 hown hK hw.1 5 0 10 (.ref (a0 4)) rfl rfl (by decide) (mi 2 rfl) rfl rfl dX5_tell_15 ?_
        refine lv_iload hx hb dX5_tell_18 (lv_at hl 0 rfl) ?_
        obtain ⟨k6, hM⟩ := ck hM
        refine wk_iald hx hb hK hw.1 4 7 (TL3 10) rfl k6 dX5_tell_20 ?_
        refine lv_iload_n hx hb dX5_tell_21 rfl (lv_at hl 3 rfl) ?_
        refine rNR (wc := ([] : va_W)) (As := [.int ((TL3 10) (v4_1).toNatClampNeg), .int p1]) (rest := []) hS (c_X6_has l g ((TL3 10) (v4_1).toNatClampNeg) p1) gX5_tell_X6_has_n65 rfl (mi 4 rfl) (mi 5 rfl) 6 rfl hd_X6_has ⟨Nat.le_of_ble_eq_true rfl, Nat.le_of_ble_eq_true rfl⟩ hK (hP_nil) rfl hl.1 rfl (Nat.le_of_ble_eq_true rfl) dX5_tell_22 ⟨Nat.zero_le _, Nat.zero_le _⟩ ?_
        refine lv_if_eq (tgt := 56) hx hb dX5_tell_25 (by decide) (fun c8 => ?_) (fun c8 => ?_)
        · replace hM := itp c8 hM
          refine lv_iinc (v := (v4_1 + (1 : Int32))) (lv' := [(4, .int (v4_1 + (1 : Int32))), (3, .int v3_2), (0, .ref (a0 0)), (1, .int p1), (2, .int p2)]) hx hb dX5_tell_56 hl (k := 0) rfl rfl (by decide) rfl (fun ls hl => ?_)
          refine lv_goto (tgt := 5) hx hb dX5_tell_59 (by decide) ?_
          exact ih5 (v4_1 + (1 : Int32)) v3_2 TL3 hM _ _ hw _ (lv_sub hl [0, 1, 2, 3, 4] rfl)
        · replace hM := itn c8 hM
          refine lv_iload_n hx hb dX5_tell_28 rfl (lv_at hl 1 rfl) ?_
          refine lv_iload_n hx hb dX5_tell_29 rfl (lv_at hl 4 rfl) ?_
          refine lv_aload_n hx hb dX5_tell_30 rfl (lv_at hl 2 rfl) ?_
          refine wk_get hx hb hts hin_X5 hown hK hw.1 5 0 9 (.ref (a0 3)) rfl rfl (by decide) (mi 3 rfl) rfl rfl dX5_tell_31 ?_
          refine lv_iload hx hb dX5_tell_34 (lv_at hl 0 rfl) ?_
          refine wk_iald hx hb hK hw.1 3 7 (TL3 9) rfl k6 dX5_tell_36 ?_
          refine lv_iconst (v := (-1 : Int32)) hx hb dX5_tell_37 (by decide) ?_
          refine lv_ixor hx hb dX5_tell_38 ?_
          refine lv_iand hx hb dX5_tell_39 ?_
          refine rSR (wc := ([] : va_W)) (As := [.int (p2 &&& (((TL3 9) (v4_1).toNatClampNeg) ^^^ (-1 : Int32)))]) (rest := [.int v3_2]) hS (c_J6_bitCount_0f7a4 l g (p2 &&& (((TL3 9) (v4_1).toNatClampNeg) ^^^ (-1 : Int32)))) gX5_tell_J6_bitCount_0f7a4 rfl hd_J6_bitCount_0f7a4 ⟨Nat.le_of_ble_eq_true rfl, Nat.le_of_ble_eq_true rfl⟩ hK (hP_nil) rfl hl.1 rfl (Nat.le_of_ble_eq_true rfl) dX5_tell_40 ⟨Nat.zero_le _, Nat.zero_le _⟩ ?_
          refine lv_iadd hx hb dX5_tell_43 ?_
          refine lv_istore_n (lv' := [(3, .int (v3_2 + (f_J6_bitCount_0f7a4 (p2 &&& (((TL3 9) (v4_1).toNatClampNeg) ^^^ (-1 : Int32)))))), (4, .int v4_1), (0, .ref (a0 0)), (1, .int p1), (2, .int p2)]) hx hb dX5_tell_44 rfl hl (by decide) rfl (fun ls hl => ?_)
          refine lv_aload_n hx hb dX5_tell_45 rfl (lv_at hl 2 rfl) ?_
          refine wk_get hx hb hts hin_X5 hown hK hw.1 5 0 9 (.ref (a0 3)) rfl rfl (by decide) (mi 3 rfl) rfl rfl dX5_tell_46 ?_
          refine lv_iload hx hb dX5_tell_49 (lv_at hl 1 rfl) ?_
          refine lv_dup2_11 hx hb dX5_tell_51 rfl rfl ?_
          refine wk_iald hx hb hK hw.1 3 7 (TL3 9) rfl k6 dX5_tell_52 ?_
          refine lv_iload_n hx hb dX5_tell_53 rfl (lv_at hl 4 rfl) ?_
          refine lv_ior hx hb dX5_tell_54 ?_
          refine wk_iast (wq := (wX5 g a0 (up TL3 9 (upd (TL3 9) (v4_1).toNatClampNeg (((TL3 9) (v4_1).toNatClampNeg) ||| p2))))) hx hb hK hw 3 7 (TL3 9) rfl k6 dX5_tell_55 rfl (fun H locs hw => ?_)
          refine lv_iinc (v := (v4_1 + (1 : Int32))) (lv' := [(4, .int (v4_1 + (1 : Int32))), (3, .int (v3_2 + (f_J6_bitCount_0f7a4 (p2 &&& (((TL3 9) (v4_1).toNatClampNeg) ^^^ (-1 : Int32)))))), (0, .ref (a0 0)), (1, .int p1), (2, .int p2)]) hx hb dX5_tell_56 hl (k := 1) rfl rfl (by decide) rfl (fun ls hl => ?_)
          refine lv_goto (tgt := 5) hx hb dX5_tell_59 (by decide) ?_
          exact ih5 (v4_1 + (1 : Int32)) (v3_2 + (f_J6_bitCount_0f7a4 (p2 &&& (((TL3 9) (v4_1).toNatClampNeg) ^^^ (-1 : Int32))))) (up TL3 9 (upd (TL3 9) (v4_1).toNatClampNeg (((TL3 9) (v4_1).toNatClampNeg) ||| p2))) hM _ _ hw _ (lv_sub hl [0, 1, 2, 3, 4] rfl)
  exact hW5 300 (0 : Int32) (0 : Int32) T0 hL5 _ _ hw _ (lv_sub hl [0, 1, 2, 3, 4] rfl)
theorem hd_X5_knownTo : yX5_knownTo.cls = RX5 ∧ yX5_knownTo.cls ≠ "java/lang/invoke/MethodHandle" ∧ yX5_knownTo.cls ≠ "java/lang/invoke/VarHandle" ∧ (parseMethodDescriptor yX5_knownTo.desc).map (fun d => d.parameters.length) = some 1 := by decide +kernel
def f_X5_knownTo (T0 : TS) (p1 : Int32) : Option Int32 :=
  if p1 < 0 ∨ 7 ≤ (p1).toNatClampNeg then none else
  some ((((T0 7) (p1).toNatClampNeg) ||| ((T0 8) (p1).toNatClampNeg)) ||| ((T0 9) (p1).toNatClampNeg))
set_option maxHeartbeats 4000000 in
set_option maxRecDepth 100000 in
theorem c_X5_knownTo (l : Launch) (g : Gm) (a0 : Nat → Nat) (T0 : TS) (p1 : Int32) {q : Int32} (hM : f_X5_knownTo T0 p1 = some q) : MR l yX5_knownTo wsX5_knownTo 0 0 g [.ref (a0 0), .int p1] (wX5 g a0 T0) (some (.int q)) := by
  refine Met.ofW (cc := cX5_knownTo) (maxL := 2) (ret := (some .int)) (by decide) rfl ?_
  intro p e s m args below meth c s₁ B hml hv
  obtain ⟨rfl, hP, hK⟩ := hv
  have hx := B.exec; have hb := B.bytes; have hr := B.returns
  have hts := atoms_spec (ws := wsX5_knownTo) B.pre
  have hown : s.vm.findClass RX5 = some m.cls := findClass_of_methodNamed B.named
  have hlocks := B.notSynchronized
  have hS : CallFix p m c cX5_knownTo 2 s _ wsX5_knownTo RX5 := ⟨hx, hb, hml, hown, hts⟩
  have hin_X5 : ∀ w ∈ wsX50, w ∈ wsX5_knownTo := fun w h => (List.mem_cons_of_mem _ (List.mem_append_right _ h))
  have hl := lv_entry ([.ref (a0 0), .int p1]) (n := 2) (Nat.le_of_ble_eq_true rfl)
  rw [lg_entry_eq]
  generalize (lg_sl ([.ref (a0 0), .int p1]) ++ List.replicate (2 - (lg_sl ([.ref (a0 0), .int p1])).length) Slot.unset).toArray = ls at hl ⊢
  have hl : lv_has ls 2 [(0, .ref (a0 0)), (1, .int p1)] := hl
  rw [f_X5_knownTo] at hM
  refine lv_aload_n hx hb dX5_knownTo_0 rfl (lv_at hl 0 rfl) ?_
  refine wk_get hx hb hts hin_X5 hown hK hP 5 0 7 (.ref (a0 1)) rfl rfl (by decide) (mi 1 rfl) rfl rfl dX5_knownTo_1 ?_
  refine lv_iload_n hx hb dX5_knownTo_4 rfl (lv_at hl 1 rfl) ?_
  obtain ⟨k1, hM⟩ := ck hM
  refine wk_iald hx hb hK hP 1 7 (T0 7) rfl k1 dX5_knownTo_5 ?_
  refine lv_aload_n hx hb dX5_knownTo_6 rfl (lv_at hl 0 rfl) ?_
  refine wk_get hx hb hts hin_X5 hown hK hP 5 0 8 (.ref (a0 2)) rfl rfl (by decide) (mi 2 rfl) rfl rfl dX5_knownTo_7 ?_
  refine lv_iload_n hx hb dX5_knownTo_10 rfl (lv_at hl 1 rfl) ?_
  refine wk_iald hx hb hK hP 2 7 (T0 8) rfl k1 dX5_knownTo_11 ?_
  refine lv_ior hx hb dX5_knownTo_12 ?_
  refine lv_aload_n hx hb dX5_knownTo_13 rfl (lv_at hl 0 rfl) ?_
  refine wk_get hx hb hts hin_X5 hown hK hP 5 0 9 (.ref (a0 3)) rfl rfl (by decide) (mi 3 rfl) rfl rfl dX5_knownTo_14 ?_
  refine lv_iload_n hx hb dX5_knownTo_17 rfl (lv_at hl 1 rfl) ?_
  refine wk_iald hx hb hK hP 3 7 (T0 9) rfl k1 dX5_knownTo_18 ?_
  refine lv_ior hx hb dX5_knownTo_19 ?_
  obtain rfl := Option.some.inj hM
  exact W.iret hx hb hr (fun t ht _ => ⟨rfl, ht⟩) (fun q hq => by cases hq) dX5_knownTo_20
theorem hd_X5_knownInAll : yX5_knownInAll.cls = RX5 ∧ yX5_knownInAll.cls ≠ "java/lang/invoke/MethodHandle" ∧ yX5_knownInAll.cls ≠ "java/lang/invoke/VarHandle" ∧ (parseMethodDescriptor yX5_knownInAll.desc).map (fun d => d.parameters.length) = some 0 := by decide +kernel
def L_X5_knownInAll_4 (T0 : TS) : Nat → Int32 → Int32 → Option Int32
  | 0, _, _ => none
  | n + 1, v2_1, v1_2 =>
    if (T0 1 0) ≤ v2_1 then
      some v1_2
    else
      (f_X5_knownTo T0 v2_1).bind fun q6 =>
      L_X5_knownInAll_4 T0 n (v2_1 + (1 : Int32)) (v1_2 + (f_J6_bitCount_0f7a4 q6))
def f_X5_knownInAll (T0 : TS) : Option Int32 :=
  (L_X5_knownInAll_4 T0 300 (0 : Int32) (0 : Int32)).bind fun q3 =>
  some q3
set_option maxHeartbeats 4000000 in
set_option maxRecDepth 100000 in
theorem c_X5_knownInAll (l : Launch) (g : Gm) (a0 : Nat → Nat) (T0 : TS) {q : Int32} (hM : f_X5_knownInAll T0 = some q) : MR l yX5_knownInAll wsX5_knownInAll 1 21 g [.ref (a0 0)] (wX5 g a0 T0) (some (.int q)) := by
  refine Met.ofW (cc := cX5_knownInAll) (maxL := 3) (ret := (some .int)) (by decide) rfl ?_
  intro p e s m args below meth c s₁ B hml hv
  obtain ⟨rfl, hP, hK⟩ := hv
  have hx := B.exec; have hb := B.bytes; have hr := B.returns
  have hts := atoms_spec (ws := wsX5_knownInAll) B.pre
  have hown : s.vm.findClass RX5 = some m.cls := findClass_of_methodNamed B.named
  have hlocks := B.notSynchronized
  have hS : CallFix p m c cX5_knownInAll 3 s _ wsX5_knownInAll RX5 := ⟨hx, hb, hml, hown, hts⟩
  have hin_X5 : ∀ w ∈ wsX50, w ∈ wsX5_knownInAll := fun w h => (List.mem_cons_of_mem _ (List.mem_append_right _ h))
  have hl := lv_entry ([.ref (a0 0)]) (n := 3) (Nat.le_of_ble_eq_true rfl)
  rw [lg_entry_eq]
  generalize (lg_sl ([.ref (a0 0)]) ++ List.replicate (3 - (lg_sl ([.ref (a0 0)])).length) Slot.unset).toArray = ls at hl ⊢
  have hl : lv_has ls 3 [(0, .ref (a0 0))] := hl
  rw [f_X5_knownInAll] at hM
  refine lv_iconst (v := (0 : Int32)) hx hb dX5_knownInAll_0 (by decide) ?_
  refine lv_istore_n (lv' := [(1, .int (0 : Int32)), (0, .ref (a0 0))]) hx hb dX5_knownInAll_1 rfl hl (by decide) rfl (fun ls hl => ?_)
  refine lv_iconst (v := (0 : Int32)) hx hb dX5_knownInAll_2 (by decide) ?_
  refine lv_istore_n (lv' := [(2, .int (0 : Int32)), (1, .int (0 : Int32)), (0, .ref (a0 0))]) hx hb dX5_knownInAll_3 rfl hl (by decide) rfl (fun ls hl => ?_)
  obtain ⟨q3, hL4, hM⟩ := bd hM
  have hJ4 : ∀ (ls : Array Slot), lv_has ls 3 [(1, .int q3)] → W p l e (headSpec wsX5_knownInAll ({ frames := 1, cells := 0, slots := 0, locals := 21 } : Room)).room s m ([.ref (a0 0)] : List Value).toArray below meth c s.heap [] 0 0 (MQ below (QcR (some (.int q))) ([.ref (a0 0)] : List Value).toArray s 0 0 (fun _ => False)) (F0 m 29 ls []) := by
    intro ls hl
    refine lv_iload_n hx hb dX5_knownInAll_29 rfl (lv_at hl 0 rfl) ?_
    obtain rfl := Option.some.inj hM
    exact W.iret hx hb hr (fun t ht _ => ⟨rfl, ht⟩) (fun q hq => by cases hq) dX5_knownInAll_30
  have hW4 : ∀ (n : Nat) (v2_1 : Int32) (v1_2 : Int32), L_X5_knownInAll_4 T0 n v2_1 v1_2 = some q3 → ∀ (ls : Array Slot), lv_has ls 3 [(2, .int v2_1), (1, .int v1_2), (0, .ref (a0 0))] → W p l e (headSpec wsX5_knownInAll ({ frames := 1, cells := 0, slots := 0, locals := 21 } : Room)).room s m ([.ref (a0 0)] : List Value).toArray below meth c s.heap [] 0 0 (MQ below (QcR (some (.int q))) ([.ref (a0 0)] : List Value).toArray s 0 0 (fun _ => False)) (F0 m 4 ls []) := by
    intro n
    induction n with
    | zero => intro v2_1 v1_2 hM; rw [L_X5_knownInAll_4] at hM; exact nn hM
    | succ n ih4 =>
      intro v2_1 v1_2 hM ls hl
      rw [L_X5_knownInAll_4] at hM
      refine lv_iload_n hx hb dX5_knownInAll_4 rfl (lv_at hl 0 rfl) ?_
      refine lv_aload_n hx hb dX5_knownInAll_5 rfl (lv_at hl 2 rfl) ?_
      refine wk_get hx hb hts hin_X5 hown hK hP 5 0 1 (.int (T0 1 0)) rfl rfl (by decide) (mi 1 rfl) rfl rfl dX5_knownInAll_6 ?_
      refine lv_icmp_ge (tgt := 29) hx hb dX5_knownInAll_9 (by decide) (fun c4 => ?_) (fun c4 => ?_)
      · replace hM := itp c4 hM
        obtain rfl := Option.some.inj hM
        exact hJ4 _ (lv_sub hl [1] rfl)
      · replace hM := itn c4 hM
        refine lv_iload_n hx hb dX5_knownInAll_12 rfl (lv_at hl 1 rfl) ?_
        refine lv_aload_n hx hb dX5_knownInAll_13 rfl (lv_at hl 2 rfl) ?_
        refine lv_iload_n hx hb dX5_knownInAll_14 rfl (lv_at hl 0 rfl) ?_
        obtain ⟨q6, h5, hM⟩ := bd hM
        refine rVR (wc := (wX5 g a0 T0)) (As := [.int v2_1]) (rest := [.int v1_2]) (q0 := 0) hS (c_X5_knownTo l g a0 T0 v2_1 h5) gX5_knownInAll_X5_knownTo rfl hd_X5_knownTo ⟨Nat.le_of_ble_eq_true rfl, Nat.le_of_ble_eq_true rfl⟩ hK (hP_sub hP [0, 1, 2, 3, 4, 5, 6, 7] rfl) rfl rfl rfl rfl hl.1 rfl (Nat.le_of_ble_eq_true rfl) dX5_knownInAll_15 ⟨Nat.zero_le _, Nat.zero_le _⟩ ?_
        refine rSR (wc := ([] : va_W)) (As := [.int q6]) (rest := [.int v1_2]) hS (c_J6_bitCount_0f7a4 l g q6) gX5_knownInAll_J6_bitCount_0f7a4 rfl hd_J6_bitCount_0f7a4 ⟨Nat.le_of_ble_eq_true rfl, Nat.le_of_ble_eq_true rfl⟩ hK (hP_nil) rfl hl.1 rfl (Nat.le_of_ble_eq_true rfl) dX5_knownInAll_18 ⟨Nat.zero_le _, Nat.zero_le _⟩ ?_
        refine lv_iadd hx hb dX5_knownInAll_21 ?_
        refine lv_istore_n (lv' := [(1, .int (v1_2 + (f_J6_bitCount_0f7a4 q6))), (2, .int v2_1), (0, .ref (a0 0))]) hx hb dX5_knownInAll_22 rfl hl (by decide) rfl (fun ls hl => ?_)
        refine lv_iinc (v := (v2_1 + (1 : Int32))) (lv' := [(2, .int (v2_1 + (1 : Int32))), (1, .int (v1_2 + (f_J6_bitCount_0f7a4 q6))), (0, .ref (a0 0))]) hx hb dX5_knownInAll_23 hl (k := 1) rfl rfl (by decide) rfl (fun ls hl => ?_)
        refine lv_goto (tgt := 4) hx hb dX5_knownInAll_26 (by decide) ?_
        exact ih4 (v2_1 + (1 : Int32)) (v1_2 + (f_J6_bitCount_0f7a4 q6)) hM _ (lv_sub hl [0, 1, 2] rfl)
  exact hW4 300 (0 : Int32) (0 : Int32) hL4 _ (lv_sub hl [0, 1, 2] rfl)
theorem hd_X5_settingOf : yX5_settingOf.cls = RX5 ∧ yX5_settingOf.cls ≠ "java/lang/invoke/MethodHandle" ∧ yX5_settingOf.cls ≠ "java/lang/invoke/VarHandle" ∧ (parseMethodDescriptor yX5_settingOf.desc).map (fun d => d.parameters.length) = some 1 := by decide +kernel
def f_X5_settingOf (T0 : TS) (p1 : Int32) : Int32 :=
  if p1 = (0 : Int32) then
    (T0 2 0)
  else
  if p1 = (1 : Int32) then
    (T0 3 0)
  else
  (T0 4 0)
set_option maxHeartbeats 4000000 in
set_option maxRecDepth 100000 in
theorem c_X5_settingOf (l : Launch) (g : Gm) (a0 : Nat → Nat) (T0 : TS) (p1 : Int32) : MR l yX5_settingOf wsX5_settingOf 0 0 g [.ref (a0 0), .int p1] (wX5 g a0 T0) (some (.int (f_X5_settingOf T0 p1))) := by
  refine Met.ofW (cc := cX5_settingOf) (maxL := 2) (ret := (some .int)) (by decide) rfl ?_
  intro p e s m args below meth c s₁ B hml hv
  obtain ⟨rfl, hP, hK⟩ := hv
  have hx := B.exec; have hb := B.bytes; have hr := B.returns
  have hts := atoms_spec (ws := wsX5_settingOf) B.pre
  have hown : s.vm.findClass RX5 = some m.cls := findClass_of_methodNamed B.named
  have hlocks := B.notSynchronized
  have hS : CallFix p m c cX5_settingOf 2 s _ wsX5_settingOf RX5 := ⟨hx, hb, hml, hown, hts⟩
  have hin_X5 : ∀ w ∈ wsX50, w ∈ wsX5_settingOf := fun w h => (List.mem_cons_of_mem _ (List.mem_append_right _ h))
  have hl := lv_entry ([.ref (a0 0), .int p1]) (n := 2) (Nat.le_of_ble_eq_true rfl)
  rw [lg_entry_eq]
  generalize (lg_sl ([.ref (a0 0), .int p1]) ++ List.replicate (2 - (lg_sl ([.ref (a0 0), .int p1])).length) Slot.unset).toArray = ls at hl ⊢
  have hl : lv_has ls 2 [(0, .ref (a0 0)), (1, .int p1)] := hl
  obtain ⟨rr, hM⟩ : ∃ rr, f_X5_settingOf T0 p1 = rr := ⟨_, rfl⟩
  rw [hM]
  rw [f_X5_settingOf] at hM
  refine lv_iload_n hx hb dX5_settingOf_0 rfl (lv_at hl 1 rfl) ?_
  by_cases c1_0 : p1 = (0 : Int32)
  · replace hM := itp c1_0 hM
    refine lv_lookup (tgt := 28) hx hb dX5_settingOf_1 (by decide) (by rw [c1_0]; rfl) (by decide) ?_
    refine lv_aload_n hx hb dX5_settingOf_28 rfl (lv_at hl 0 rfl) ?_
    refine wk_get hx hb hts hin_X5 hown hK hP 5 0 2 (.int (T0 2 0)) rfl rfl (by decide) (mi 1 rfl) rfl rfl dX5_settingOf_29 ?_
    subst hM
    exact W.iret hx hb hr (fun t ht _ => ⟨rfl, ht⟩) (fun q hq => by cases hq) dX5_settingOf_32
  replace hM := itn c1_0 hM
  by_cases c1_1 : p1 = (1 : Int32)
  · replace hM := itp c1_1 hM
    refine lv_lookup (tgt := 33) hx hb dX5_settingOf_1 (by decide) (by rw [c1_1]; rfl) (by decide) ?_
    refine lv_aload_n hx hb dX5_settingOf_33 rfl (lv_at hl 0 rfl) ?_
    refine wk_get hx hb hts hin_X5 hown hK hP 5 0 3 (.int (T0 3 0)) rfl rfl (by decide) (mi 2 rfl) rfl rfl dX5_settingOf_34 ?_
    subst hM
    exact W.iret hx hb hr (fun t ht _ => ⟨rfl, ht⟩) (fun q hq => by cases hq) dX5_settingOf_37
  replace hM := itn c1_1 hM
  refine lv_lookup (tgt := 38) hx hb dX5_settingOf_1 (by decide) (by rw [lv_osw c1_0 rfl, lv_osw c1_1 rfl]; rfl) (by decide) ?_
  refine lv_aload_n hx hb dX5_settingOf_38 rfl (lv_at hl 0 rfl) ?_
  refine wk_get hx hb hts hin_X5 hown hK hP 5 0 4 (.int (T0 4 0)) rfl rfl (by decide) (mi 3 rfl) rfl rfl dX5_settingOf_39 ?_
  subst hM
  exact W.iret hx hb hr (fun t ht _ => ⟨rfl, ht⟩) (fun q hq => by cases hq) dX5_settingOf_42
theorem hd_X5_putSetting : yX5_putSetting.cls = RX5 ∧ yX5_putSetting.cls ≠ "java/lang/invoke/MethodHandle" ∧ yX5_putSetting.cls ≠ "java/lang/invoke/VarHandle" ∧ (parseMethodDescriptor yX5_putSetting.desc).map (fun d => d.parameters.length) = some 2 := by decide +kernel
def f_X5_putSetting (T0 : TS) (p1 : Int32) (p2 : Int32) : Option TS :=
  if p1 = (0 : Int32) then
    some (up T0 2 (fun _ => p2))
  else
  if p1 = (1 : Int32) then
    some (up T0 3 (fun _ => p2))
  else
  some (up T0 4 (fun _ => p2))
set_option maxHeartbeats 4000000 in
set_option maxRecDepth 100000 in
theorem c_X5_putSetting (l : Launch) (g : Gm) (a0 : Nat → Nat) (T0 : TS) (p1 : Int32) (p2 : Int32) {q : TS} (hM : f_X5_putSetting T0 p1 p2 = some q) : MW l yX5_putSetting wsX5_putSetting 0 0 g [.ref (a0 0), .int p1, .int p2] (wX5 g a0 T0) none (wX5 g a0 q) := by
  intro sz
  refine Met.ofW (cc := cX5_putSetting) (maxL := 3) (ret := none) (by decide) rfl ?_
  intro p e s m args below meth c s₁ B hml hv
  obtain ⟨rfl, hsz, hP, hK, hD0⟩ := hv
  have hx := B.exec; have hb := B.bytes; have hr := B.returns
  have hts := atoms_spec (ws := wsX5_putSetting) B.pre
  have hown : s.vm.findClass RX5 = some m.cls := findClass_of_methodNamed B.named
  have hlocks := B.notSynchronized
  have hS : CallFix p m c cX5_putSetting 3 s _ wsX5_putSetting RX5 := ⟨hx, hb, hml, hown, hts⟩
  have hin_X5 : ∀ w ∈ wsX50, w ∈ wsX5_putSetting := fun w h => (List.mem_cons_of_mem _ (List.mem_append_right _ h))
  subst hsz
  have hw := wk_start hP hD0
  have hA : ∀ q : Nat, s.heap.size ≤ q → va_A (wX5 g a0 T0) s.heap.size q := fun q h => Or.inr h
  generalize va_A (wX5 g a0 T0) s.heap.size = A at hw hA ⊢
  clear hP hD0
  have hl := lv_entry ([.ref (a0 0), .int p1, .int p2]) (n := 3) (Nat.le_of_ble_eq_true rfl)
  rw [lg_entry_eq]
  generalize (lg_sl ([.ref (a0 0), .int p1, .int p2]) ++ List.replicate (3 - (lg_sl ([.ref (a0 0), .int p1, .int p2])).length) Slot.unset).toArray = ls at hl ⊢
  have hl : lv_has ls 3 [(0, .ref (a0 0)), (1, .int p1), (2, .int p2)] := hl
  rw [f_X5_putSetting] at hM
  refine lv_iload_n hx hb dX5_putSetting_0 rfl (lv_at hl 1 rfl) ?_
  by_cases c1_0 : p1 = (0 : Int32)
  · replace hM := itp c1_0 hM
    refine lv_lookup (tgt := 28) hx hb dX5_putSetting_1 (by decide) (by rw [c1_0]; rfl) (by decide) ?_
    refine lv_aload_n hx hb dX5_putSetting_28 rfl (lv_at hl 0 rfl) ?_
    refine lv_iload_n hx hb dX5_putSetting_29 rfl (lv_at hl 2 rfl) ?_
    refine wk_put (wq := (wX5 g a0 (up T0 2 (fun _ => p2)))) hx hb hts hin_X5 tyX5 tyX5_ok nmX5 hown hK hw 5 0 2 rfl rfl (by decide) (mi 1 rfl) rfl rfl rfl rfl (by decide) dX5_putSetting_30 rfl (fun H locs hw => ?_)
    refine lv_goto (tgt := 49) hx hb dX5_putSetting_33 (by decide) ?_
    obtain rfl := Option.some.inj hM
    exact W.vret hx hb hr (fun t ht _ => ⟨rfl, by rw [ht]; exact hw.1, hw.2.2.F ht⟩) hw.2.2.2.2 dX5_putSetting_49
  replace hM := itn c1_0 hM
  by_cases c1_1 : p1 = (1 : Int32)
  · replace hM := itp c1_1 hM
    refine lv_lookup (tgt := 36) hx hb dX5_putSetting_1 (by decide) (by rw [c1_1]; rfl) (by decide) ?_
    refine lv_aload_n hx hb dX5_putSetting_36 rfl (lv_at hl 0 rfl) ?_
    refine lv_iload_n hx hb dX5_putSetting_37 rfl (lv_at hl 2 rfl) ?_
    refine wk_put (wq := (wX5 g a0 (up T0 3 (fun _ => p2)))) hx hb hts hin_X5 tyX5 tyX5_ok nmX5 hown hK hw 5 0 3 rfl rfl (by decide) (mi 2 rfl) rfl rfl rfl rfl (by decide) dX5_putSetting_38 rfl (fun H locs hw => ?_)
    refine lv_goto (tgt := 49) hx hb dX5_putSetting_41 (by decide) ?_
    obtain rfl := Option.some.inj hM
    exact W.vret hx hb hr (fun t ht _ => ⟨rfl, by rw [ht]; exact hw.1, hw.2.2.F ht⟩) hw.2.2.2.2 dX5_putSetting_49
  replace hM := itn c1_1 hM
  refine lv_lookup (tgt := 44) hx hb dX5_putSetting_1 (by decide) (by rw [lv_osw c1_0 rfl, lv_osw c1_1 rfl]; rfl) (by decide) ?_
  refine lv_aload_n hx hb dX5_putSetting_44 rfl (lv_at hl 0 rfl) ?_
  refine lv_iload_n hx hb dX5_putSetting_45 rfl (lv_at hl 2 rfl) ?_
  refine wk_put (wq := (wX5 g a0 (up T0 4 (fun _ => p2)))) hx hb hts hin_X5 tyX5 tyX5_ok nmX5 hown hK hw 5 0 4 rfl rfl (by decide) (mi 3 rfl) rfl rfl rfl rfl (by decide) dX5_putSetting_46 rfl (fun H locs hw => ?_)
  obtain rfl := Option.some.inj hM
  exact W.vret hx hb hr (fun t ht _ => ⟨rfl, by rw [ht]; exact hw.1, hw.2.2.F ht⟩) hw.2.2.2.2 dX5_putSetting_49
theorem hd_X5_become : yX5_become.cls = RX5 ∧ yX5_become.cls ≠ "java/lang/invoke/MethodHandle" ∧ yX5_become.cls ≠ "java/lang/invoke/VarHandle" ∧ (parseMethodDescriptor yX5_become.desc).map (fun d => d.parameters.length) = some 1 := by decide +kernel
def f_X5_become (T0 : TS) (T1 : TS) : Option TS :=
  some (up (up (up (up (up (up (up (up (up (up (up (up (up T0 0 (fun _ => (T1 0 0))) 1 (fun _ => (T1 1 0))) 2 (fun _ => (T1 2 0))) 3 (fun _ => (T1 3 0))) 4 (fun _ => (T1 4 0))) 5 (fun _ => (T1 5 0))) 6 (fun _ => (T1 6 0))) 7 (va_cpy (T1 7) (T0 7) ((0 : Int32)).toNatClampNeg ((0 : Int32)).toNatClampNeg ((7 : Int32)).toNatClampNeg)) 8 (va_cpy (T1 8) (T0 8) ((0 : Int32)).toNatClampNeg ((0 : Int32)).toNatClampNeg ((7 : Int32)).toNatClampNeg)) 9 (va_cpy (T1 9) (T0 9) ((0 : Int32)).toNatClampNeg ((0 : Int32)).toNatClampNeg ((7 : Int32)).toNatClampNeg)) 10 (va_cpy (T1 10) (T0 10) ((0 : Int32)).toNatClampNeg ((0 : Int32)).toNatClampNeg ((7 : Int32)).toNatClampNeg)) 11 (va_cpy (T1 11) (T0 11) ((0 : Int32)).toNatClampNeg ((0 : Int32)).toNatClampNeg ((7 : Int32)).toNatClampNeg)) 12 (va_cpy (T1 12) (T0 12) ((0 : Int32)).toNatClampNeg ((0 : Int32)).toNatClampNeg ((7 : Int32)).toNatClampNeg))
set_option maxHeartbeats 4000000 in
set_option maxRecDepth 100000 in
theorem c_X5_become (l : Launch) (g : Gm) (a0 : Nat → Nat) (a1 : Nat → Nat) (T0 : TS) (T1 : TS) {q : TS} (hM : f_X5_become T0 T1 = some q) : MW l yX5_become wsX5_become 1 80 g [.ref (a0 0), .ref (a1 0)] ((wX5 g a0 T0) ++ (wX5 g a1 T1)) none ((wX5 g a0 q) ++ (wX5 g a1 T1)) := by
  intro sz
  refine Met.ofW (cc := cX5_become) (maxL := 2) (ret := none) (by decide) rfl ?_
  intro p e s m args below meth c s₁ B hml hv
  obtain ⟨rfl, hsz, hP, hK, hD0⟩ := hv
  have hx := B.exec; have hb := B.bytes; have hr := B.returns
  have hts := atoms_spec (ws := wsX5_become) B.pre
  have hown : s.vm.findClass RX5 = some m.cls := findClass_of_methodNamed B.named
  have hlocks := B.notSynchronized
  have hS : CallFix p m c cX5_become 2 s _ wsX5_become RX5 := ⟨hx, hb, hml, hown, hts⟩
  have hin_X5 : ∀ w ∈ wsX50, w ∈ wsX5_become := fun w h => (List.mem_cons_of_mem _ (List.mem_append_right _ h))
  subst hsz
  have hw := wk_start hP hD0
  have hA : ∀ q : Nat, s.heap.size ≤ q → va_A ((wX5 g a0 T0) ++ (wX5 g a1 T1)) s.heap.size q := fun q h => Or.inr h
  generalize va_A ((wX5 g a0 T0) ++ (wX5 g a1 T1)) s.heap.size = A at hw hA ⊢
  clear hP hD0
  have hl := lv_entry ([.ref (a0 0), .ref (a1 0)]) (n := 2) (Nat.le_of_ble_eq_true rfl)
  rw [lg_entry_eq]
  generalize (lg_sl ([.ref (a0 0), .ref (a1 0)]) ++ List.replicate (2 - (lg_sl ([.ref (a0 0), .ref (a1 0)])).length) Slot.unset).toArray = ls at hl ⊢
  have hl : lv_has ls 2 [(0, .ref (a0 0)), (1, .ref (a1 0))] := hl
  rw [f_X5_become] at hM
  refine lv_aload_n hx hb dX5_become_0 rfl (lv_at hl 0 rfl) ?_
  refine lv_aload_n hx hb dX5_become_1 rfl (lv_at hl 1 rfl) ?_
  refine wk_get hx hb hts hin_X5 hown hK hw.1 5 8 0 (.int (T1 0 0)) rfl rfl (by decide) (mi 1 rfl) rfl rfl dX5_become_2 ?_
  refine wk_put (wq := ((wX5 g a0 (up T0 0 (fun _ => (T1 0 0)))) ++ (wX5 g a1 T1))) hx hb hts hin_X5 tyX5 tyX5_ok nmX5 hown hK hw 5 0 0 rfl rfl (by decide) (mi 1 rfl) rfl rfl rfl rfl (by decide) dX5_become_5 rfl (fun H locs hw => ?_)
  refine lv_aload_n hx hb dX5_become_8 rfl (lv_at hl 0 rfl) ?_
  refine lv_aload_n hx hb dX5_become_9 rfl (lv_at hl 1 rfl) ?_
  refine wk_get hx hb hts hin_X5 hown hK hw.1 5 8 1 (.int (T1 1 0)) rfl rfl (by decide) (mi 2 rfl) rfl rfl dX5_become_10 ?_
  refine wk_put (wq := ((wX5 g a0 (up (up T0 0 (fun _ => (T1 0 0))) 1 (fun _ => (T1 1 0)))) ++ (wX5 g a1 T1))) hx hb hts hin_X5 tyX5 tyX5_ok nmX5 hown hK hw 5 0 1 rfl rfl (by decide) (mi 2 rfl) rfl rfl rfl rfl (by decide) dX5_become_13 rfl (fun H locs hw => ?_)
  refine lv_aload_n hx hb dX5_become_16 rfl (lv_at hl 0 rfl) ?_
  refine lv_aload_n hx hb dX5_become_17 rfl (lv_at hl 1 rfl) ?_
  refine wk_get hx hb hts hin_X5 hown hK hw.1 5 8 2 (.int (T1 2 0)) rfl rfl (by decide) (mi 3 rfl) rfl rfl dX5_become_18 ?_
  refine wk_put (wq := ((wX5 g a0 (up (up (up T0 0 (fun _ => (T1 0 0))) 1 (fun _ => (T1 1 0))) 2 (fun _ => (T1 2 0)))) ++ (wX5 g a1 T1))) hx hb hts hin_X5 tyX5 tyX5_ok nmX5 hown hK hw 5 0 2 rfl rfl (by decide) (mi 3 rfl) rfl rfl rfl rfl (by decide) dX5_become_21 rfl (fun H locs hw => ?_)
  refine lv_aload_n hx hb dX5_become_24 rfl (lv_at hl 0 rfl) ?_
  refine lv_aload_n hx hb dX5_become_25 rfl (lv_at hl 1 rfl) ?_
  refine wk_get hx hb hts hin_X5 hown hK hw.1 5 8 3 (.int (T1 3 0)) rfl rfl (by decide) (mi 4 rfl) rfl rfl dX5_become_26 ?_
  refine wk_put (wq := ((wX5 g a0 (up (up (up (up T0 0 (fun _ => (T1 0 0))) 1 (fun _ => (T1 1 0))) 2 (fun _ => (T1 2 0))) 3 (fun _ => (T1 3 0)))) ++ (wX5 g a1 T1))) hx hb hts hin_X5 tyX5 tyX5_ok nmX5 hown hK hw 5 0 3 rfl rfl (by decide) (mi 4 rfl) rfl rfl rfl rfl (by decide) dX5_become_29 rfl (fun H locs hw => ?_)
  refine lv_aload_n hx hb dX5_become_32 rfl (lv_at hl 0 rfl) ?_
  refine lv_aload_n hx hb dX5_become_33 rfl (lv_at hl 1 rfl) ?_
  refine wk_get hx hb hts hin_X5 hown hK hw.1 5 8 4 (.int (T1 4 0)) rfl rfl (by decide) (mi 5 rfl) rfl rfl dX5_become_34 ?_
  refine wk_put (wq := ((wX5 g a0 (up (up (up (up (up T0 0 (fun _ => (T1 0 0))) 1 (fun _ => (T1 1 0))) 2 (fun _ => (T1 2 0))) 3 (fun _ => (T1 3 0))) 4 (fun _ => (T1 4 0)))) ++ (wX5 g a1 T1))) hx hb hts hin_X5 tyX5 tyX5_ok nmX5 hown hK hw 5 0 4 rfl rfl (by decide) (mi 5 rfl) rfl rfl rfl rfl (by decide) dX5_become_37 rfl (fun H locs hw => ?_)
  refine lv_aload_n hx hb dX5_become_40 rfl (lv_at hl 0 rfl) ?_
  refine lv_aload_n hx hb dX5_become_41 rfl (lv_at hl 1 rfl) ?_
  refine wk_get hx hb hts hin_X5 hown hK hw.1 5 8 5 (.int (T1 5 0)) rfl rfl (by decide) (mi 6 rfl) rfl rfl dX5_become_42 ?_
  refine wk_put (wq := ((wX5 g a0 (up (up (up (up (up (up T0 0 (fun _ => (T1 0 0))) 1 (fun _ => (T1 1 0))) 2 (fun _ => (T1 2 0))) 3 (fun _ => (T1 3 0))) 4 (fun _ => (T1 4 0))) 5 (fun _ => (T1 5 0)))) ++ (wX5 g a1 T1))) hx hb hts hin_X5 tyX5 tyX5_ok nmX5 hown hK hw 5 0 5 rfl rfl (by decide) (mi 6 rfl) rfl rfl rfl rfl (by decide) dX5_become_45 rfl (fun H locs hw => ?_)
  refine lv_aload_n hx hb dX5_become_48 rfl (lv_at hl 0 rfl) ?_
  refine lv_aload_n hx hb dX5_become_49 rfl (lv_at hl 1 rfl) ?_
  refine wk_get hx hb hts hin_X5 hown hK hw.1 5 8 6 (.int (T1 6 0)) rfl rfl (by decide) (mi 7 rfl) rfl rfl dX5_become_50 ?_
  refine wk_put (wq := ((wX5 g a0 (up (up (up (up (up (up (up T0 0 (fun _ => (T1 0 0))) 1 (fun _ => (T1 1 0))) 2 (fun _ => (T1 2 0))) 3 (fun _ => (T1 3 0))) 4 (fun _ => (T1 4 0))) 5 (fun _ => (T1 5 0))) 6 (fun _ => (T1 6 0)))) ++ (wX5 g a1 T1))) hx hb hts hin_X5 tyX5 tyX5_ok nmX5 hown hK hw 5 0 6 rfl rfl (by decide) (mi 7 rfl) rfl rfl rfl rfl (by decide) dX5_become_53 rfl (fun H locs hw => ?_)
  refine lv_aload_n hx hb dX5_become_56 rfl (lv_at hl 1 rfl) ?_
  refine wk_get hx hb hts hin_X5 hown hK hw.1 5 8 7 (.ref (a1 1)) rfl rfl (by decide) (mi 8 rfl) rfl rfl dX5_become_57 ?_
  refine lv_iconst (v := (0 : Int32)) hx hb dX5_become_60 (by decide) ?_
  refine lv_aload_n hx hb dX5_become_61 rfl (lv_at hl 0 rfl) ?_
  refine wk_get hx hb hts hin_X5 hown hK hw.1 5 0 7 (.ref (a0 1)) rfl rfl (by decide) (mi 8 rfl) rfl rfl dX5_become_62 ?_
  refine lv_iconst (v := (0 : Int32)) hx hb dX5_become_65 (by decide) ?_
  refine lv_bipush (v := (7 : Int32)) hx hb dX5_become_66 (by decide) ?_
  refine wk_copyi (wq := ((wX5 g a0 (up (up (up (up (up (up (up (up T0 0 (fun _ => (T1 0 0))) 1 (fun _ => (T1 1 0))) 2 (fun _ => (T1 2 0))) 3 (fun _ => (T1 3 0))) 4 (fun _ => (T1 4 0))) 5 (fun _ => (T1 5 0))) 6 (fun _ => (T1 6 0))) 7 (va_cpy (T1 7) (T0 7) ((0 : Int32)).toNatClampNeg ((0 : Int32)).toNatClampNeg ((7 : Int32)).toNatClampNeg))) ++ (wX5 g a1 T1))) hx hb (hml.trans hl.1.symm) hown (hts _ (mi 9 rfl)) (hts _ (mi 10 rfl)) (hts _ (mi 11 rfl)) (hts _ (mi 12 rfl)) hK hw 9 1 7 7 (T1 7) (T0 7) rfl rfl (by decide) (Nat.le_of_ble_eq_true rfl) (Nat.le_of_ble_eq_true rfl) dX5_become_68 rfl (fun H locs hw => ?_)
  refine lv_aload_n hx hb dX5_become_71 rfl (lv_at hl 1 rfl) ?_
  refine wk_get hx hb hts hin_X5 hown hK hw.1 5 8 8 (.ref (a1 2)) rfl rfl (by decide) (mi 13 rfl) rfl rfl dX5_become_72 ?_
  refine lv_iconst (v := (0 : Int32)) hx hb dX5_become_75 (by decide) ?_
  refine lv_aload_n hx hb dX5_become_76 rfl (lv_at hl 0 rfl) ?_
  refine wk_get hx hb hts hin_X5 hown hK hw.1 5 0 8 (.ref (a0 2)) rfl rfl (by decide) (mi 13 rfl) rfl rfl dX5_become_77 ?_
  refine lv_iconst (v := (0 : Int32)) hx hb dX5_become_80 (by decide) ?_
  refine lv_bipush (v := (7 : Int32)) hx hb dX5_become_81 (by decide) ?_
  refine wk_copyi (wq := ((wX5 g a0 (up (up (up (up (up (up (up (up (up T0 0 (fun _ => (T1 0 0))) 1 (fun _ => (T1 1 0))) 2 (fun _ => (T1 2 0))) 3 (fun _ => (T1 3 0))) 4 (fun _ => (T1 4 0))) 5 (fun _ => (T1 5 0))) 6 (fun _ => (T1 6 0))) 7 (va_cpy (T1 7) (T0 7) ((0 : Int32)).toNatClampNeg ((0 : Int32)).toNatClampNeg ((7 : Int32)).toNatClampNeg)) 8 (va_cpy (T1 8) (T0 8) ((0 : Int32)).toNatClampNeg ((0 : Int32)).toNatClampNeg ((7 : Int32)).toNatClampNeg))) ++ (wX5 g a1 T1))) hx hb (hml.trans hl.1.symm) hown (hts _ (mi 9 rfl)) (hts _ (mi 10 rfl)) (hts _ (mi 11 rfl)) (hts _ (mi 12 rfl)) hK hw 10 2 7 7 (T1 8) (T0 8) rfl rfl (by decide) (Nat.le_of_ble_eq_true rfl) (Nat.le_of_ble_eq_true rfl) dX5_become_83 rfl (fun H locs hw => ?_)
  refine lv_aload_n hx hb dX5_become_86 rfl (lv_at hl 1 rfl) ?_
  refine wk_get hx hb hts hin_X5 hown hK hw.1 5 8 9 (.ref (a1 3)) rfl rfl (by decide) (mi 14 rfl) rfl rfl dX5_become_87 ?_
  refine lv_iconst (v := (0 : Int32)) hx hb dX5_become_90 (by decide) ?_
  refine lv_aload_n hx hb dX5_become_91 rfl (lv_at hl 0 rfl) ?_
  refine wk_get hx hb hts hin_X5 hown hK hw.1 5 0 9 (.ref (a0 3)) rfl rfl (by decide) (mi 14 rfl) rfl rfl dX5_become_92 ?_
  refine lv_iconst (v := (0 : Int32)) hx hb dX5_become_95 (by decide) ?_
  refine lv_bipush (v := (7 : Int32)) hx hb dX5_become_96 (by decide) ?_
  refine wk_copyi (wq := ((wX5 g a0 (up (up (up (up (up (up (up (up (up (up T0 0 (fun _ => (T1 0 0))) 1 (fun _ => (T1 1 0))) 2 (fun _ => (T1 2 0))) 3 (fun _ => (T1 3 0))) 4 (fun _ => (T1 4 0))) 5 (fun _ => (T1 5 0))) 6 (fun _ => (T1 6 0))) 7 (va_cpy (T1 7) (T0 7) ((0 : Int32)).toNatClampNeg ((0 : Int32)).toNatClampNeg ((7 : Int32)).toNatClampNeg)) 8 (va_cpy (T1 8) (T0 8) ((0 : Int32)).toNatClampNeg ((0 : Int32)).toNatClampNeg ((7 : Int32)).toNatClampNeg)) 9 (va_cpy (T1 9) (T0 9) ((0 : Int32)).toNatClampNeg ((0 : Int32)).toNatClampNeg ((7 : Int32)).toNatClampNeg))) ++ (wX5 g a1 T1))) hx hb (hml.trans hl.1.symm) hown (hts _ (mi 9 rfl)) (hts _ (mi 10 rfl)) (hts _ (mi 11 rfl)) (hts _ (mi 12 rfl)) hK hw 11 3 7 7 (T1 9) (T0 9) rfl rfl (by decide) (Nat.le_of_ble_eq_true rfl) (Nat.le_of_ble_eq_true rfl) dX5_become_98 rfl (fun H locs hw => ?_)
  refine lv_aload_n hx hb dX5_become_101 rfl (lv_at hl 1 rfl) ?_
  refine wk_get hx hb hts hin_X5 hown hK hw.1 5 8 10 (.ref (a1 4)) rfl rfl (by decide) (mi 15 rfl) rfl rfl dX5_become_102 ?_
  refine lv_iconst (v := (0 : Int32)) hx hb dX5_become_105 (by decide) ?_
  refine lv_aload_n hx hb dX5_become_106 rfl (lv_at hl 0 rfl) ?_
  refine wk_get hx hb hts hin_X5 hown hK hw.1 5 0 10 (.ref (a0 4)) rfl rfl (by decide) (mi 15 rfl) rfl rfl dX5_become_107 ?_
  refine lv_iconst (v := (0 : Int32)) hx hb dX5_become_110 (by decide) ?_
  refine lv_bipush (v := (7 : Int32)) hx hb dX5_become_111 (by decide) ?_
  refine wk_copyi (wq := ((wX5 g a0 (up (up (up (up (up (up (up (up (up (up (up T0 0 (fun _ => (T1 0 0))) 1 (fun _ => (T1 1 0))) 2 (fun _ => (T1 2 0))) 3 (fun _ => (T1 3 0))) 4 (fun _ => (T1 4 0))) 5 (fun _ => (T1 5 0))) 6 (fun _ => (T1 6 0))) 7 (va_cpy (T1 7) (T0 7) ((0 : Int32)).toNatClampNeg ((0 : Int32)).toNatClampNeg ((7 : Int32)).toNatClampNeg)) 8 (va_cpy (T1 8) (T0 8) ((0 : Int32)).toNatClampNeg ((0 : Int32)).toNatClampNeg ((7 : Int32)).toNatClampNeg)) 9 (va_cpy (T1 9) (T0 9) ((0 : Int32)).toNatClampNeg ((0 : Int32)).toNatClampNeg ((7 : Int32)).toNatClampNeg)) 10 (va_cpy (T1 10) (T0 10) ((0 : Int32)).toNatClampNeg ((0 : Int32)).toNatClampNeg ((7 : Int32)).toNatClampNeg))) ++ (wX5 g a1 T1))) hx hb (hml.trans hl.1.symm) hown (hts _ (mi 9 rfl)) (hts _ (mi 10 rfl)) (hts _ (mi 11 rfl)) (hts _ (mi 12 rfl)) hK hw 12 4 7 7 (T1 10) (T0 10) rfl rfl (by decide) (Nat.le_of_ble_eq_true rfl) (Nat.le_of_ble_eq_true rfl) dX5_become_113 rfl (fun H locs hw => ?_)
  refine lv_aload_n hx hb dX5_become_116 rfl (lv_at hl 1 rfl) ?_
  refine wk_get hx hb hts hin_X5 hown hK hw.1 5 8 11 (.ref (a1 5)) rfl rfl (by decide) (mi 16 rfl) rfl rfl dX5_become_117 ?_
  refine lv_iconst (v := (0 : Int32)) hx hb dX5_become_120 (by decide) ?_
  refine lv_aload_n hx hb dX5_become_121 rfl (lv_at hl 0 rfl) ?_
  refine wk_get hx hb hts hin_X5 hown hK hw.1 5 0 11 (.ref (a0 5)) rfl rfl (by decide) (mi 16 rfl) rfl rfl dX5_become_122 ?_
  refine lv_iconst (v := (0 : Int32)) hx hb dX5_become_125 (by decide) ?_
  refine lv_bipush (v := (7 : Int32)) hx hb dX5_become_126 (by decide) ?_
  refine wk_copyi (wq := ((wX5 g a0 (up (up (up (up (up (up (up (up (up (up (up (up T0 0 (fun _ => (T1 0 0))) 1 (fun _ => (T1 1 0))) 2 (fun _ => (T1 2 0))) 3 (fun _ => (T1 3 0))) 4 (fun _ => (T1 4 0))) 5 (fun _ => (T1 5 0))) 6 (fun _ => (T1 6 0))) 7 (va_cpy (T1 7) (T0 7) ((0 : Int32)).toNatClampNeg ((0 : Int32)).toNatClampNeg ((7 : Int32)).toNatClampNeg)) 8 (va_cpy (T1 8) (T0 8) ((0 : Int32)).toNatClampNeg ((0 : Int32)).toNatClampNeg ((7 : Int32)).toNatClampNeg)) 9 (va_cpy (T1 9) (T0 9) ((0 : Int32)).toNatClampNeg ((0 : Int32)).toNatClampNeg ((7 : Int32)).toNatClampNeg)) 10 (va_cpy (T1 10) (T0 10) ((0 : Int32)).toNatClampNeg ((0 : Int32)).toNatClampNeg ((7 : Int32)).toNatClampNeg)) 11 (va_cpy (T1 11) (T0 11) ((0 : Int32)).toNatClampNeg ((0 : Int32)).toNatClampNeg ((7 : Int32)).toNatClampNeg))) ++ (wX5 g a1 T1))) hx hb (hml.trans hl.1.symm) hown (hts _ (mi 9 rfl)) (hts _ (mi 10 rfl)) (hts _ (mi 11 rfl)) (hts _ (mi 12 rfl)) hK hw 13 5 7 7 (T1 11) (T0 11) rfl rfl (by decide) (Nat.le_of_ble_eq_true rfl) (Nat.le_of_ble_eq_true rfl) dX5_become_128 rfl (fun H locs hw => ?_)
  refine lv_aload_n hx hb dX5_become_131 rfl (lv_at hl 1 rfl) ?_
  refine wk_get hx hb hts hin_X5 hown hK hw.1 5 8 12 (.ref (a1 6)) rfl rfl (by decide) (mi 17 rfl) rfl rfl dX5_become_132 ?_
  refine lv_iconst (v := (0 : Int32)) hx hb dX5_become_135 (by decide) ?_
  refine lv_aload_n hx hb dX5_become_136 rfl (lv_at hl 0 rfl) ?_
  refine wk_get hx hb hts hin_X5 hown hK hw.1 5 0 12 (.ref (a0 6)) rfl rfl (by decide) (mi 17 rfl) rfl rfl dX5_become_137 ?_
  refine lv_iconst (v := (0 : Int32)) hx hb dX5_become_140 (by decide) ?_
  refine lv_bipush (v := (7 : Int32)) hx hb dX5_become_141 (by decide) ?_
  refine wk_copyi (wq := ((wX5 g a0 (up (up (up (up (up (up (up (up (up (up (up (up (up T0 0 (fun _ => (T1 0 0))) 1 (fun _ => (T1 1 0))) 2 (fun _ => (T1 2 0))) 3 (fun _ => (T1 3 0))) 4 (fun _ => (T1 4 0))) 5 (fun _ => (T1 5 0))) 6 (fun _ => (T1 6 0))) 7 (va_cpy (T1 7) (T0 7) ((0 : Int32)).toNatClampNeg ((0 : Int32)).toNatClampNeg ((7 : Int32)).toNatClampNeg)) 8 (va_cpy (T1 8) (T0 8) ((0 : Int32)).toNatClampNeg ((0 : Int32)).toNatClampNeg ((7 : Int32)).toNatClampNeg)) 9 (va_cpy (T1 9) (T0 9) ((0 : Int32)).toNatClampNeg ((0 : Int32)).toNatClampNeg ((7 : Int32)).toNatClampNeg)) 10 (va_cpy (T1 10) (T0 10) ((0 : Int32)).toNatClampNeg ((0 : Int32)).toNatClampNeg ((7 : Int32)).toNatClampNeg)) 11 (va_cpy (T1 11) (T0 11) ((0 : Int32)).toNatClampNeg ((0 : Int32)).toNatClampNeg ((7 : Int32)).toNatClampNeg)) 12 (va_cpy (T1 12) (T0 12) ((0 : Int32)).toNatClampNeg ((0 : Int32)).toNatClampNeg ((7 : Int32)).toNatClampNeg))) ++ (wX5 g a1 T1))) hx hb (hml.trans hl.1.symm) hown (hts _ (mi 9 rfl)) (hts _ (mi 10 rfl)) (hts _ (mi 11 rfl)) (hts _ (mi 12 rfl)) hK hw 14 6 7 7 (T1 12) (T0 12) rfl rfl (by decide) (Nat.le_of_ble_eq_true rfl) (Nat.le_of_ble_eq_true rfl) dX5_become_143 rfl (fun H locs hw => ?_)
  obtain rfl := Option.some.inj hM
  exact W.vret hx hb hr (fun t ht _ => ⟨rfl, by rw [ht]; exact hw.1, hw.2.2.F ht⟩) hw.2.2.2.2 dX5_become_146
