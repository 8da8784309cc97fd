theorem hd_X4_letterAt : yX4_letterAt.cls = RX4 ∧ yX4_letterAt.cls ≠ "java/lang/invoke/MethodHandle" ∧ yX4_letterAt.cls ≠ "java/lang/invoke/VarHandle" ∧ (parseMethodDescriptor yX4_letterAt.desc).map (fun d => d.parameters.length) = some 1 := by decide +kernel
set_option maxHeartbeats 4000000 in
set_option maxRecDepth 100000 in
theorem c_X4_letterAt (l : Launch) (g : Gm) (a0 : Nat → Nat) (P0 : TS) (p1 : Int32) {q : Int32} (hM : f_X4_letterAt P0 p1 = some q) : MR l yX4_letterAt wsX4_letterAt 0 0 g [.ref (a0 0), .int p1] (wX4 g a0 P0) (some (.int q)) := by
  refine Met.ofW (cc := cX4_letterAt) (maxL := 2) (ret := (some .int)) (by decide) rfl ?_
  intro p e s m args below meth c s₁ B hml hv
  obtain ⟨rfl, hP, hK⟩ := hv
  have hx := B.exec; have hb := B.bytes; have hr := B.returns
  have hts := atoms_spec (ws := wsX4_letterAt) B.pre
  have hown : s.vm.findClass RX4 = some m.cls := findClass_of_methodNamed B.named
  have hlocks := B.notSynchronized
  have hS : CallFix p m c cX4_letterAt 2 s _ wsX4_letterAt RX4 := ⟨hx, hb, hml, hown, hts⟩
  have hin_X4 : ∀ w ∈ wsX40, w ∈ wsX4_letterAt := fun w h => (List.mem_cons_of_mem _ (List.mem_append_right _ h))
  have hl := lv_entry ([.ref (a0 0), .int p1]) (n := 2) (Nat.le_of_ble_eq_true rfl)
  rw [lg_entry_eq]
  generalize (lg_sl ([.ref (a0 0), .int p1]) ++ List.replicate (2 - (lg_sl ([.ref (a0 0), .int p1])).length) Slot.unset).toArray = ls at hl ⊢
  have hl : lv_has ls 2 [(0, .ref (a0 0)), (1, .int p1)] := hl
  rw [f_X4_letterAt] at hM
  refine lv_iload_n hx hb dX4_letterAt_0 rfl (lv_at hl 1 rfl) ?_
  refine lv_if_lt (tgt := 28) hx hb dX4_letterAt_1 (by decide) (fun c1 => ?_) (fun c1 => ?_)
  · replace hM := itp c1 hM
    refine lv_iconst (v := (-1 : Int32)) hx hb dX4_letterAt_28 (by decide) ?_
    obtain rfl := Option.some.inj hM
    exact W.iret hx hb hr (fun t ht _ => ⟨rfl, ht⟩) (fun q hq => by cases hq) dX4_letterAt_29
  · replace hM := itn c1 hM
    refine lv_iload_n hx hb dX4_letterAt_4 rfl (lv_at hl 1 rfl) ?_
    refine lv_aload_n hx hb dX4_letterAt_5 rfl (lv_at hl 0 rfl) ?_
    refine wk_get hx hb hts hin_X4 hown hK hP 4 0 0 (.int (P0 0 0)) rfl rfl (by decide) (mi 1 rfl) rfl rfl dX4_letterAt_6 ?_
    refine lv_icmp_ge (tgt := 28) hx hb dX4_letterAt_9 (by decide) (fun c2 => ?_) (fun c2 => ?_)
    · replace hM := itp c2 hM
      refine lv_iconst (v := (-1 : Int32)) hx hb dX4_letterAt_28 (by decide) ?_
      obtain rfl := Option.some.inj hM
      exact W.iret hx hb hr (fun t ht _ => ⟨rfl, ht⟩) (fun q hq => by cases hq) dX4_letterAt_29
    · replace hM := itn c2 hM
      refine lv_iload_n hx hb dX4_letterAt_12 rfl (lv_at hl 1 rfl) ?_
      refine lv_sipush (v := (250 : Int32)) hx hb dX4_letterAt_13 (by decide) ?_
      refine lv_icmp_ge (tgt := 28) hx hb dX4_letterAt_16 (by decide) (fun c3 => ?_) (fun c3 => ?_)
      · replace hM := itp c3 hM
        refine lv_iconst (v := (-1 : Int32)) hx hb dX4_letterAt_28 (by decide) ?_
        obtain rfl := Option.some.inj hM
        exact W.iret hx hb hr (fun t ht _ => ⟨rfl, ht⟩) (fun q hq => by cases hq) dX4_letterAt_29
      · replace hM := itn c3 hM
        refine lv_aload_n hx hb dX4_letterAt_19 rfl (lv_at hl 0 rfl) ?_
        refine wk_get hx hb hts hin_X4 hown hK hP 4 0 2 (.ref (a0 1)) rfl rfl (by decide) (mi 2 rfl) rfl rfl dX4_letterAt_20 ?_
        refine lv_iload_n hx hb dX4_letterAt_23 rfl (lv_at hl 1 rfl) ?_
        obtain ⟨k4, hM⟩ := ck hM
        refine wk_iald hx hb hK hP 1 250 (P0 2) rfl k4 dX4_letterAt_24 ?_
        refine lv_goto (tgt := 29) hx hb dX4_letterAt_25 (by decide) ?_
        obtain rfl := Option.some.inj hM
        exact W.iret hx hb hr (fun t ht _ => ⟨rfl, ht⟩) (fun q hq => by cases hq) dX4_letterAt_29
theorem hd_X4_sortOf : yX4_sortOf.cls ≠ "java/lang/invoke/MethodHandle" ∧ yX4_sortOf.cls ≠ "java/lang/invoke/VarHandle" ∧ (parseMethodDescriptor yX4_sortOf.desc).map (fun d => d.parameters.length) = some 1 := by decide +kernel
set_option maxHeartbeats 4000000 in
set_option maxRecDepth 100000 in
theorem c_X4_sortOf (l : Launch) (g : Gm) (p0 : Int32) : MR l yX4_sortOf wsX4_sortOf 0 0 g [.int p0] ([] : va_W) (some (.int (f_X4_sortOf p0))) := by
  refine Met.ofW (cc := cX4_sortOf) (maxL := 1) (ret := (some .int)) (by decide) rfl ?_
  intro p e s m args below meth c s₁ B hml hv
  obtain ⟨rfl, hP, hK⟩ := hv
  have hx := B.exec; have hb := B.bytes; have hr := B.returns
  have hts := atoms_spec (ws := wsX4_sortOf) B.pre
  have hown : s.vm.findClass RX4 = some m.cls := findClass_of_methodNamed B.named
  have hlocks := B.notSynchronized
  have hS : CallFix p m c cX4_sortOf 1 s _ wsX4_sortOf RX4 := ⟨hx, hb, hml, hown, hts⟩
  have hl := lv_entry ([.int p0]) (n := 1) (Nat.le_of_ble_eq_true rfl)
  rw [lg_entry_eq]
  generalize (lg_sl ([.int p0]) ++ List.replicate (1 - (lg_sl ([.int p0])).length) Slot.unset).toArray = ls at hl ⊢
  have hl : lv_has ls 1 [(0, .int p0)] := hl
  obtain ⟨rr, hM⟩ : ∃ rr, f_X4_sortOf p0 = rr := ⟨_, rfl⟩
  rw [hM]
  rw [f_X4_sortOf] at hM
  refine lv_iload_n hx hb dX4_sortOf_0 rfl (lv_at hl 0 rfl) ?_
  refine lv_bipush (v := (97 : Int32)) hx hb dX4_sortOf_1 (by decide) ?_
  refine lv_icmp_lt (tgt := 14) hx hb dX4_sortOf_3 (by decide) (fun c1 => ?_) (fun c1 => ?_)
  · replace hM := itp c1 hM
    refine lv_iload_n hx hb dX4_sortOf_14 rfl (lv_at hl 0 rfl) ?_
    refine lv_bipush (v := (48 : Int32)) hx hb dX4_sortOf_15 (by decide) ?_
    refine lv_icmp_lt (tgt := 28) hx hb dX4_sortOf_17 (by decide) (fun c2 => ?_) (fun c2 => ?_)
    · replace hM := itp c2 hM
      refine lv_iload_n hx hb dX4_sortOf_28 rfl (lv_at hl 0 rfl) ?_
      refine lv_bipush (v := (59 : Int32)) hx hb dX4_sortOf_29 (by decide) ?_
      have hJ28 : ∀ (x27 : Int32) (ls : Array Slot), x27 = (if p0 = (59 : Int32) then (3 : Int32) else (4 : Int32)) → lv_has ls 1 [] → W p l e (headSpec wsX4_sortOf ({ frames := 0, cells := 0, slots := 0, locals := 0 } : Room)).room s m ([.int p0] : List Value).toArray below meth c s.heap [] 0 0 (MQ below (QcR (some (.int rr))) ([.int p0] : List Value).toArray s 0 0 (fun _ => False)) (F0 m 39 ls [.int x27]) := by
        intro x27 ls hxx27 hl
        subst hxx27
        subst hM
        exact W.iret hx hb hr (fun t ht _ => ⟨rfl, ht⟩) (fun q hq => by cases hq) dX4_sortOf_39
      refine lv_icmp_ne (tgt := 38) hx hb dX4_sortOf_31 (by decide) (fun c3 => ?_) (fun c3 => ?_)
      · refine lv_iconst (v := (4 : Int32)) hx hb dX4_sortOf_38 (by decide) ?_
        exact hJ28 _ _ (by first | rfl | (simp only [if_neg c3])) (lv_sub hl [] rfl)
      · refine lv_iconst (v := (3 : Int32)) hx hb dX4_sortOf_34 (by decide) ?_
        refine lv_goto (tgt := 39) hx hb dX4_sortOf_35 (by decide) ?_
        exact hJ28 _ _ (by first | rfl | (simp only [if_pos c3])) (lv_sub hl [] rfl)
    · replace hM := itn c2 hM
      refine lv_iload_n hx hb dX4_sortOf_20 rfl (lv_at hl 0 rfl) ?_
      refine lv_bipush (v := (57 : Int32)) hx hb dX4_sortOf_21 (by decide) ?_
      refine lv_icmp_gt (tgt := 28) hx hb dX4_sortOf_23 (by decide) (fun c4 => ?_) (fun c4 => ?_)
      · replace hM := itp c4 hM
        refine lv_iload_n hx hb dX4_sortOf_28 rfl (lv_at hl 0 rfl) ?_
        refine lv_bipush (v := (59 : Int32)) hx hb dX4_sortOf_29 (by decide) ?_
        have hJ30 : ∀ (x29 : Int32) (ls : Array Slot), x29 = (if p0 = (59 : Int32) then (3 : Int32) else (4 : Int32)) → lv_has ls 1 [] → W p l e (headSpec wsX4_sortOf ({ frames := 0, cells := 0, slots := 0, locals := 0 } : Room)).room s m ([.int p0] : List Value).toArray below meth c s.heap [] 0 0 (MQ below (QcR (some (.int rr))) ([.int p0] : List Value).toArray s 0 0 (fun _ => False)) (F0 m 39 ls [.int x29]) := by
          intro x29 ls hxx29 hl
          subst hxx29
          subst hM
          exact W.iret hx hb hr (fun t ht _ => ⟨rfl, ht⟩) (fun q hq => by cases hq) dX4_sortOf_39
        refine lv_icmp_ne (tgt := 38) hx hb dX4_sortOf_31 (by decide) (fun c5 => ?_) (fun c5 => ?_)
        · refine lv_iconst (v := (4 : Int32)) hx hb dX4_sortOf_38 (by decide) ?_
          exact hJ30 _ _ (by first | rfl | (simp only [if_neg c5])) (lv_sub hl [] rfl)
        · refine lv_iconst (v := (3 : Int32)) hx hb dX4_sortOf_34 (by decide) ?_
          refine lv_goto (tgt := 39) hx hb dX4_sortOf_35 (by decide) ?_
          exact hJ30 _ _ (by first | rfl | (simp only [if_pos c5])) (lv_sub hl [] rfl)
      · replace hM := itn c4 hM
        refine lv_iconst (v := (2 : Int32)) hx hb dX4_sortOf_26 (by decide) ?_
        subst hM
        exact W.iret hx hb hr (fun t ht _ => ⟨rfl, ht⟩) (fun q hq => by cases hq) dX4_sortOf_27
  · replace hM := itn c1 hM
    refine lv_iload_n hx hb dX4_sortOf_6 rfl (lv_at hl 0 rfl) ?_
    refine lv_bipush (v := (122 : Int32)) hx hb dX4_sortOf_7 (by decide) ?_
    refine lv_icmp_gt (tgt := 14) hx hb dX4_sortOf_9 (by decide) (fun c6 => ?_) (fun c6 => ?_)
    · replace hM := itp c6 hM
      refine lv_iload_n hx hb dX4_sortOf_14 rfl (lv_at hl 0 rfl) ?_
      refine lv_bipush (v := (48 : Int32)) hx hb dX4_sortOf_15 (by decide) ?_
      refine lv_icmp_lt (tgt := 28) hx hb dX4_sortOf_17 (by decide) (fun c7 => ?_) (fun c7 => ?_)
      · replace hM := itp c7 hM
        refine lv_iload_n hx hb dX4_sortOf_28 rfl (lv_at hl 0 rfl) ?_
        refine lv_bipush (v := (59 : Int32)) hx hb dX4_sortOf_29 (by decide) ?_
        have hJ32 : ∀ (x31 : Int32) (ls : Array Slot), x31 = (if p0 = (59 : Int32) then (3 : Int32) else (4 : Int32)) → lv_has ls 1 [] → W p l e (headSpec wsX4_sortOf ({ frames := 0, cells := 0, slots := 0, locals := 0 } : Room)).room s m ([.int p0] : List Value).toArray below meth c s.heap [] 0 0 (MQ below (QcR (some (.int rr))) ([.int p0] : List Value).toArray s 0 0 (fun _ => False)) (F0 m 39 ls [.int x31]) := by
          intro x31 ls hxx31 hl
          subst hxx31
          subst hM
          exact W.iret hx hb hr (fun t ht _ => ⟨rfl, ht⟩) (fun q hq => by cases hq) dX4_sortOf_39
        refine lv_icmp_ne (tgt := 38) hx hb dX4_sortOf_31 (by decide) (fun c8 => ?_) (fun c8 => ?_)
        · refine lv_iconst (v := (4 : Int32)) hx hb dX4_sortOf_38 (by decide) ?_
          exact hJ32 _ _ (by first | rfl | (simp only [if_neg c8])) (lv_sub hl [] rfl)
        · refine lv_iconst (v := (3 : Int32)) hx hb dX4_sortOf_34 (by decide) ?_
          refine lv_goto (tgt := 39) hx hb dX4_sortOf_35 (by decide) ?_
          exact hJ32 _ _ (by first | rfl | (simp only [if_pos c8])) (lv_sub hl [] rfl)
      · replace hM := itn c7 hM
        refine lv_iload_n hx hb dX4_sortOf_20 rfl (lv_at hl 0 rfl) ?_
        refine lv_bipush (v := (57 : Int32)) hx hb dX4_sortOf_21 (by decide) ?_
        refine lv_icmp_gt (tgt := 28) hx hb dX4_sortOf_23 (by decide) (fun c9 => ?_) (fun c9 => ?_)
        · replace hM := itp c9 hM
          refine lv_iload_n hx hb dX4_sortOf_28 rfl (lv_at hl 0 rfl) ?_
          refine lv_bipush (v := (59 : Int32)) hx hb dX4_sortOf_29 (by decide) ?_
          have hJ34 : ∀ (x33 : Int32) (ls : Array Slot), x33 = (if p0 = (59 : Int32) then (3 : Int32) else (4 : Int32)) → lv_has ls 1 [] → W p l e (headSpec wsX4_sortOf ({ frames := 0, cells := 0, slots := 0, locals := 0 } : Room)).room s m ([.int p0] : List Value).toArray below meth c s.heap [] 0 0 (MQ below (QcR (some (.int rr))) ([.int p0] : List Value).toArray s 0 0 (fun _ => False)) (F0 m 39 ls [.int x33]) := by
            intro x33 ls hxx33 hl
            subst hxx33
            subst hM
            exact W.iret hx hb hr (fun t ht _ => ⟨rfl, ht⟩) (fun q hq => by cases hq) dX4_sortOf_39
          refine lv_icmp_ne (tgt := 38) hx hb dX4_sortOf_31 (by decide) (fun c10 => ?_) (fun c10 => ?_)
          · refine lv_iconst (v := (4 : Int32)) hx hb dX4_sortOf_38 (by decide) ?_
            exact hJ34 _ _ (by first | rfl | (simp only [if_neg c10])) (lv_sub hl [] rfl)
          · refine lv_iconst (v := (3 : Int32)) hx hb dX4_sortOf_34 (by decide) ?_
            refine lv_goto (tgt := 39) hx hb dX4_sortOf_35 (by decide) ?_
            exact hJ34 _ _ (by first | rfl | (simp only [if_pos c10])) (lv_sub hl [] rfl)
        · replace hM := itn c9 hM
          refine lv_iconst (v := (2 : Int32)) hx hb dX4_sortOf_26 (by decide) ?_
          subst hM
          exact W.iret hx hb hr (fun t ht _ => ⟨rfl, ht⟩) (fun q hq => by cases hq) dX4_sortOf_27
    · replace hM := itn c6 hM
      refine lv_iconst (v := (1 : Int32)) hx hb dX4_sortOf_12 (by decide) ?_
      subst hM
      exact W.iret hx hb hr (fun t ht _ => ⟨rfl, ht⟩) (fun q hq => by cases hq) dX4_sortOf_13
theorem hd_X4_advance : yX4_advance.cls = RX4 ∧ yX4_advance.cls ≠ "java/lang/invoke/MethodHandle" ∧ yX4_advance.cls ≠ "java/lang/invoke/VarHandle" ∧ (parseMethodDescriptor yX4_advance.desc).map (fun d => d.parameters.length) = some 0 := by decide +kernel
set_option maxHeartbeats 4000000 in
set_option maxRecDepth 100000 in
theorem c_X4_advance (l : Launch) (g : Gm) (a0 : Nat → Nat) (P0 : TS) {q : TS} (hM : f_X4_advance P0 = some q) : MW l yX4_advance wsX4_advance 1 21 g [.ref (a0 0)] (wX4 g a0 P0) none (wX4 g a0 q) := by
  intro sz
  refine Met.ofW (cc := cX4_advance) (maxL := 1) (ret := none) (by decide) rfl ?_
  intro p e s m args below meth c s₁ B hml hv
  obtain ⟨rfl, hsz, hP, hK, hD0⟩ := hv
  have hx := B.exec; have hb := B.bytes; have hr := B.returns
  have hts := atoms_spec (ws := wsX4_advance) B.pre
  have hown : s.vm.findClass RX4 = some m.cls := findClass_of_methodNamed B.named
  have hlocks := B.notSynchronized
  have hS : CallFix p m c cX4_advance 1 s _ wsX4_advance RX4 := ⟨hx, hb, hml, hown, hts⟩
  have hin_X4 : ∀ w ∈ wsX40, w ∈ wsX4_advance := fun w h => (List.mem_cons_of_mem _ (List.mem_append_right _ h))
  subst hsz
  have hw := wk_start hP hD0
  have hA : ∀ q : Nat, s.heap.size ≤ q → va_A (wX4 g a0 P0) s.heap.size q := fun q h => Or.inr h
  generalize va_A (wX4 g a0 P0) s.heap.size = A at hw hA ⊢
  clear hP hD0
  have hl := lv_entry ([.ref (a0 0)]) (n := 1) (Nat.le_of_ble_eq_true rfl)
  rw [lg_entry_eq]
  generalize (lg_sl ([.ref (a0 0)]) ++ List.replicate (1 - (lg_sl ([.ref (a0 0)])).length) Slot.unset).toArray = ls at hl ⊢
  have hl : lv_has ls 1 [(0, .ref (a0 0))] := hl
  rw [f_X4_advance] at hM
  refine lv_aload_n hx hb dX4_advance_0 rfl (lv_at hl 0 rfl) ?_
  refine lv_aload_n hx hb dX4_advance_1 rfl (lv_at hl 0 rfl) ?_
  refine wk_get hx hb hts hin_X4 hown hK hw.1 4 0 5 (.int (P0 5 0)) rfl rfl (by decide) (mi 1 rfl) rfl rfl dX4_advance_2 ?_
  refine wk_put (wq := (wX4 g a0 (up P0 4 (fun _ => (P0 5 0))))) hx hb hts hin_X4 tyX4 tyX4_ok nmX4 hown hK hw 4 0 4 rfl rfl (by decide) (mi 2 rfl) rfl rfl rfl rfl (Nat.le_of_ble_eq_true rfl) dX4_advance_5 rfl (fun H locs hw => ?_)
  obtain ⟨q2, hL8, hM⟩ := bd hM
  have hJ8 : ∀ (H : Heap) (locs : List Loc), Wk g A s.heap H locs (wX4 g a0 q2) → ∀ (ls : Array Slot), lv_has ls 1 [(0, .ref (a0 0))] → W p l e (headSpec wsX4_advance ({ frames := 1, cells := 0, slots := 0, locals := 21 } : Room)).room s m ([.ref (a0 0)] : List Value).toArray below meth c H locs 0 0 (MQ below (QcW g none (wX4 g a0 q) A) ([.ref (a0 0)] : List Value).toArray s 0 0 A) (F0 m 45 ls []) := by
    intro H locs hw ls hl
    refine lv_aload_n hx hb dX4_advance_45 rfl (lv_at hl 0 rfl) ?_
    refine lv_aload_n hx hb dX4_advance_46 rfl (lv_at hl 0 rfl) ?_
    refine wk_get hx hb hts hin_X4 hown hK hw.1 4 0 4 (.int (q2 4 0)) rfl rfl (by decide) (mi 2 rfl) rfl rfl dX4_advance_47 ?_
    refine wk_put (wq := (wX4 g a0 (up q2 5 (fun _ => (q2 4 0))))) hx hb hts hin_X4 tyX4 tyX4_ok nmX4 hown hK hw 4 0 5 rfl rfl (by decide) (mi 1 rfl) rfl rfl rfl rfl (Nat.le_of_ble_eq_true rfl) dX4_advance_50 rfl (fun H locs hw => ?_)
    refine lv_aload_n hx hb dX4_advance_53 rfl (lv_at hl 0 rfl) ?_
    refine wk_get hx hb hts hin_X4 hown hK hw.1 4 0 4 (.int (q2 4 0)) rfl rfl (by decide) (mi 2 rfl) rfl rfl dX4_advance_54 ?_
    refine lv_aload_n hx hb dX4_advance_57 rfl (lv_at hl 0 rfl) ?_
    refine wk_get hx hb hts hin_X4 hown hK hw.1 4 0 0 (.int (q2 0 0)) rfl rfl (by decide) (mi 3 rfl) rfl rfl dX4_advance_58 ?_
    refine lv_icmp_lt (tgt := 70) hx hb dX4_advance_61 (by decide) (fun c7 => ?_) (fun c7 => ?_)
    · replace hM := itp c7 hM
      refine lv_aload_n hx hb dX4_advance_70 rfl (lv_at hl 0 rfl) ?_
      refine lv_aload_n hx hb dX4_advance_71 rfl (lv_at hl 0 rfl) ?_
      refine lv_aload_n hx hb dX4_advance_72 rfl (lv_at hl 0 rfl) ?_
      refine wk_get hx hb hts hin_X4 hown hK hw.1 4 0 4 (.int (q2 4 0)) rfl rfl (by decide) (mi 2 rfl) rfl rfl dX4_advance_73 ?_
      obtain ⟨q9, h8, hM⟩ := bd hM
      refine rVR (wc := (wX4 g a0 (up q2 5 (fun _ => (q2 4 0))))) (As := [.int (q2 4 0)]) (rest := [.ref (a0 0)]) (q0 := 0) hS (c_X4_letterAt l g a0 (up q2 5 (fun _ => (q2 4 0))) (q2 4 0) h8) gX4_advance_X4_letterAt rfl hd_X4_letterAt ⟨Nat.le_of_ble_eq_true rfl, Nat.le_of_ble_eq_true rfl⟩ hK (va_P.pm hw.1 (pm_1_0 _)) rfl rfl rfl rfl hl.1 rfl (Nat.le_of_ble_eq_true rfl) dX4_advance_76 ⟨Nat.zero_le _, Nat.zero_le _⟩ ?_
      refine rSR (wc := ([] : va_W)) (As := [.int q9]) (rest := [.ref (a0 0)]) hS (c_X4_sortOf l g q9) gX4_advance_X4_sortOf rfl hd_X4_sortOf ⟨Nat.le_of_ble_eq_true rfl, Nat.le_of_ble_eq_true rfl⟩ hK (hP_nil) rfl hl.1 rfl (Nat.le_of_ble_eq_true rfl) dX4_advance_79 ⟨Nat.zero_le _, Nat.zero_le _⟩ ?_
      refine wk_put (wq := (wX4 g a0 (up (up q2 5 (fun _ => (q2 4 0))) 3 (fun _ => (f_X4_sortOf q9))))) hx hb hts hin_X4 tyX4 tyX4_ok nmX4 hown hK hw 4 0 3 rfl rfl (by decide) (mi 4 rfl) rfl rfl rfl rfl (Nat.le_of_ble_eq_true rfl) dX4_advance_82 rfl (fun H locs hw => ?_)
      refine lv_aload_n hx hb dX4_advance_85 rfl (lv_at hl 0 rfl) ?_
      refine lv_dup hx hb dX4_advance_86 rfl ?_
      refine wk_get hx hb hts hin_X4 hown hK hw.1 4 0 5 (.int (q2 4 0)) rfl rfl (by decide) (mi 1 rfl) rfl rfl dX4_advance_87 ?_
      refine lv_iconst (v := (1 : Int32)) hx hb dX4_advance_90 (by decide) ?_
      refine lv_iadd hx hb dX4_advance_91 ?_
      refine wk_put (wq := (wX4 g a0 (up (up q2 3 (fun _ => (f_X4_sortOf q9))) 5 (fun _ => ((q2 4 0) + (1 : Int32)))))) hx hb hts hin_X4 tyX4 tyX4_ok nmX4 hown hK hw 4 0 5 rfl rfl (by decide) (mi 1 rfl) rfl rfl rfl rfl (Nat.le_of_ble_eq_true rfl) dX4_advance_92 rfl (fun H locs hw => ?_)
      refine lv_aload_n hx hb dX4_advance_95 rfl (lv_at hl 0 rfl) ?_
      refine wk_get hx hb hts hin_X4 hown hK hw.1 4 0 3 (.int (f_X4_sortOf q9)) rfl rfl (by decide) (mi 4 rfl) rfl rfl dX4_advance_96 ?_
      refine lv_iconst (v := (1 : Int32)) hx hb dX4_advance_99 (by decide) ?_
      refine lv_icmp_eq (tgt := 111) hx hb dX4_advance_100 (by decide) (fun c11 => ?_) (fun c11 => ?_)
      · replace hM := itp c11 hM
        obtain ⟨q13, hL111, hM⟩ := bd hM
        have hJ111 : ∀ (H : Heap) (locs : List Loc), Wk g A s.heap H locs (wX4 g a0 q13) → ∀ (ls : Array Slot), lv_has ls 1 [] → W p l e (headSpec wsX4_advance ({ frames := 1, cells := 0, slots := 0, locals := 21 } : Room)).room s m ([.ref (a0 0)] : List Value).toArray below meth c H locs 0 0 (MQ below (QcW g none (wX4 g a0 q) A) ([.ref (a0 0)] : List Value).toArray s 0 0 A) (F0 m 153 ls []) := by
          intro H locs hw ls hl
          obtain rfl := Option.some.inj hM
          exact W.vret hx hb hr (fun t ht _ => ⟨rfl, by rw [ht]; exact hw.1, hw.2.2.F ht⟩) hw.2.2.2.2 dX4_advance_153
        have hW111 : ∀ (n : Nat) (PL12 : TS), L_X4_advance_111 n PL12 = some q13 → ∀ (H : Heap) (locs : List Loc), Wk g A s.heap H locs (wX4 g a0 PL12) → ∀ (ls : Array Slot), lv_has ls 1 [(0, .ref (a0 0))] → W p l e (headSpec wsX4_advance ({ frames := 1, cells := 0, slots := 0, locals := 21 } : Room)).room s m ([.ref (a0 0)] : List Value).toArray below meth c H locs 0 0 (MQ below (QcW g none (wX4 g a0 q) A) ([.ref (a0 0)] : List Value).toArray s 0 0 A) (F0 m 111 ls []) := by
          intro n
          induction n with
          | zero => intro PL12 hM; rw [L_X4_advance_111] at hM; exact nn hM
          | succ n ih111 =>
            intro PL12 hM H locs hw ls hl
            rw [L_X4_advance_111] at hM
            refine lv_aload_n hx hb dX4_advance_111 rfl (lv_at hl 0 rfl) ?_
            refine wk_get hx hb hts hin_X4 hown hK hw.1 4 0 5 (.int (PL12 5 0)) rfl rfl (by decide) (mi 1 rfl) rfl rfl dX4_advance_112 ?_
            refine lv_aload_n hx hb dX4_advance_115 rfl (lv_at hl 0 rfl) ?_
            refine wk_get hx hb hts hin_X4 hown hK hw.1 4 0 0 (.int (PL12 0 0)) rfl rfl (by decide) (mi 3 rfl) rfl rfl dX4_advance_116 ?_
            refine lv_icmp_ge (tgt := 153) hx hb dX4_advance_119 (by decide) (fun c14 => ?_) (fun c14 => ?_)
            · replace hM := itp c14 hM
              obtain rfl := Option.some.inj hM
              exact hJ111 _ _ hw _ (lv_sub hl [] rfl)
            · replace hM := itn c14 hM
              refine lv_aload_n hx hb dX4_advance_122 rfl (lv_at hl 0 rfl) ?_
              refine lv_aload_n hx hb dX4_advance_123 rfl (lv_at hl 0 rfl) ?_
              refine wk_get hx hb hts hin_X4 hown hK hw.1 4 0 5 (.int (PL12 5 0)) rfl rfl (by decide) (mi 1 rfl) rfl rfl dX4_advance_124 ?_
              obtain ⟨q16, h15, hM⟩ := bd hM
              refine rVR (wc := (wX4 g a0 PL12)) (As := [.int (PL12 5 0)]) (rest := []) (q0 := 0) hS (c_X4_letterAt l g a0 PL12 (PL12 5 0) h15) gX4_advance_X4_letterAt rfl hd_X4_letterAt ⟨Nat.le_of_ble_eq_true rfl, Nat.le_of_ble_eq_true rfl⟩ hK (va_P.pm hw.1 (pm_1_0 _)) rfl rfl rfl rfl hl.1 rfl (Nat.le_of_ble_eq_true rfl) dX4_advance_127 ⟨Nat.zero_le _, Nat.zero_le _⟩ ?_
              refine rSR (wc := ([] : va_W)) (As := [.int q16]) (rest := []) hS (c_X4_sortOf l g q16) gX4_advance_X4_sortOf rfl hd_X4_sortOf ⟨Nat.le_of_ble_eq_true rfl, Nat.le_of_ble_eq_true rfl⟩ hK (hP_nil) rfl hl.1 rfl (Nat.le_of_ble_eq_true rfl) dX4_advance_130 ⟨Nat.zero_le _, Nat.zero_le _⟩ ?_
              refine lv_aload_n hx hb dX4_advance_133 rfl (lv_at hl 0 rfl) ?_
              refine wk_get hx hb hts hin_X4 hown hK hw.1 4 0 3 (.int (PL12 3 0)) rfl rfl (by decide) (mi 4 rfl) rfl rfl dX4_advance_134 ?_
              refine lv_icmp_ne (tgt := 153) hx hb dX4_advance_137 (by decide) (fun c18 => ?_) (fun c18 => ?_)
              · replace hM := itn c18 hM
                obtain rfl := Option.some.inj hM
                exact hJ111 _ _ hw _ (lv_sub hl [] rfl)
              · replace hM := itp c18 hM
                refine lv_aload_n hx hb dX4_advance_140 rfl (lv_at hl 0 rfl) ?_
                refine lv_dup hx hb dX4_advance_141 rfl ?_
                refine wk_get hx hb hts hin_X4 hown hK hw.1 4 0 5 (.int (PL12 5 0)) rfl rfl (by decide) (mi 1 rfl) rfl rfl dX4_advance_142 ?_
                refine lv_iconst (v := (1 : Int32)) hx hb dX4_advance_145 (by decide) ?_
                refine lv_iadd hx hb dX4_advance_146 ?_
                refine wk_put (wq := (wX4 g a0 (up PL12 5 (fun _ => ((PL12 5 0) + (1 : Int32)))))) hx hb hts hin_X4 tyX4 tyX4_ok nmX4 hown hK hw 4 0 5 rfl rfl (by decide) (mi 1 rfl) rfl rfl rfl rfl (Nat.le_of_ble_eq_true rfl) dX4_advance_147 rfl (fun H locs hw => ?_)
                refine lv_goto (tgt := 111) hx hb dX4_advance_150 (by decide) ?_
                exact ih111 (up PL12 5 (fun _ => ((PL12 5 0) + (1 : Int32)))) hM _ _ hw _ (lv_sub hl [0] rfl)
        exact hW111 300 (up (up q2 3 (fun _ => (f_X4_sortOf q9))) 5 (fun _ => ((q2 4 0) + (1 : Int32)))) hL111 _ _ hw _ (lv_sub hl [0] rfl)
      · replace hM := itn c11 hM
        refine lv_aload_n hx hb dX4_advance_103 rfl (lv_at hl 0 rfl) ?_
        refine wk_get hx hb hts hin_X4 hown hK hw.1 4 0 3 (.int (f_X4_sortOf q9)) rfl rfl (by decide) (mi 4 rfl) rfl rfl dX4_advance_104 ?_
        refine lv_iconst (v := (2 : Int32)) hx hb dX4_advance_107 (by decide) ?_
        refine lv_icmp_ne (tgt := 153) hx hb dX4_advance_108 (by decide) (fun c19 => ?_) (fun c19 => ?_)
        · replace hM := itn c19 hM
          obtain rfl := Option.some.inj hM
          exact W.vret hx hb hr (fun t ht _ => ⟨rfl, by rw [ht]; exact hw.1, hw.2.2.F ht⟩) hw.2.2.2.2 dX4_advance_153
        · replace hM := itp c19 hM
          obtain ⟨q21, hL111, hM⟩ := bd hM
          have hJ111 : ∀ (H : Heap) (locs : List Loc), Wk g A s.heap H locs (wX4 g a0 q21) → ∀ (ls : Array Slot), lv_has ls 1 [] → W p l e (headSpec wsX4_advance ({ frames := 1, cells := 0, slots := 0, locals := 21 } : Room)).room s m ([.ref (a0 0)] : List Value).toArray below meth c H locs 0 0 (MQ below (QcW g none (wX4 g a0 q) A) ([.ref (a0 0)] : List Value).toArray s 0 0 A) (F0 m 153 ls []) := by
            intro H locs hw ls hl
            obtain rfl := Option.some.inj hM
            exact W.vret hx hb hr (fun t ht _ => ⟨rfl, by rw [ht]; exact hw.1, hw.2.2.F ht⟩) hw.2.2.2.2 dX4_advance_153
          have hW111 : ∀ (n : Nat) (PL20 : TS), L_X4_advance_111 n PL20 = some q21 → ∀ (H : Heap) (locs : List Loc), Wk g A s.heap H locs (wX4 g a0 PL20) → ∀ (ls : Array Slot), lv_has ls 1 [(0, .ref (a0 0))] → W p l e (headSpec wsX4_advance ({ frames := 1, cells := 0, slots := 0, locals := 21 } : Room)).room s m ([.ref (a0 0)] : List Value).toArray below meth c H locs 0 0 (MQ below (QcW g none (wX4 g a0 q) A) ([.ref (a0 0)] : List Value).toArray s 0 0 A) (F0 m 111 ls []) := by
            intro n
            induction n with
            | zero => intro PL20 hM; rw [L_X4_advance_111] at hM; exact nn hM
            | succ n ih111 =>
              intro PL20 hM H locs hw ls hl
              rw [L_X4_advance_111] at hM
              refine lv_aload_n hx hb dX4_advance_111 rfl (lv_at hl 0 rfl) ?_
              refine wk_get hx hb hts hin_X4 hown hK hw.1 4 0 5 (.int (PL20 5 0)) rfl rfl (by decide) (mi 1 rfl) rfl rfl dX4_advance_112 ?_
              refine lv_aload_n hx hb dX4_advance_115 rfl (lv_at hl 0 rfl) ?_
              refine wk_get hx hb hts hin_X4 hown hK hw.1 4 0 0 (.int (PL20 0 0)) rfl rfl (by decide) (mi 3 rfl) rfl rfl dX4_advance_116 ?_
              refine lv_icmp_ge (tgt := 153) hx hb dX4_advance_119 (by decide) (fun c22 => ?_) (fun c22 => ?_)
              · replace hM := itp c22 hM
                obtain rfl := Option.some.inj hM
                exact hJ111 _ _ hw _ (lv_sub hl [] rfl)
              · replace hM := itn c22 hM
                refine lv_aload_n hx hb dX4_advance_122 rfl (lv_at hl 0 rfl) ?_
                refine lv_aload_n hx hb dX4_advance_123 rfl (lv_at hl 0 rfl) ?_
                refine wk_get hx hb hts hin_X4 hown hK hw.1 4 0 5 (.int (PL20 5 0)) rfl rfl (by decide) (mi 1 rfl) rfl rfl dX4_advance_124 ?_
                obtain ⟨q24, h23, hM⟩ := bd hM
                refine rVR (wc := (wX4 g a0 PL20)) (As := [.int (PL20 5 0)]) (rest := []) (q0 := 0) hS (c_X4_letterAt l g a0 PL20 (PL20 5 0) h23) gX4_advance_X4_letterAt rfl hd_X4_letterAt ⟨Nat.le_of_ble_eq_true rfl, Nat.le_of_ble_eq_true rfl⟩ hK (va_P.pm hw.1 (pm_1_0 _)) rfl rfl rfl rfl hl.1 rfl (Nat.le_of_ble_eq_true rfl) dX4_advance_127 ⟨Nat.zero_le _, Nat.zero_le _⟩ ?_
                refine rSR (wc := ([] : va_W)) (As := [.int q24]) (rest := []) hS (c_X4_sortOf l g q24) gX4_advance_X4_sortOf rfl hd_X4_sortOf ⟨Nat.le_of_ble_eq_true rfl, Nat.le_of_ble_eq_true rfl⟩ hK (hP_nil) rfl hl.1 rfl (Nat.le_of_ble_eq_true rfl) dX4_advance_130 ⟨Nat.zero_le _, Nat.zero_le _⟩ ?_
                refine lv_aload_n hx hb dX4_advance_133 rfl (lv_at hl 0 rfl) ?_
                refine wk_get hx hb hts hin_X4 hown hK hw.1 4 0 3 (.int (PL20 3 0)) rfl rfl (by decide) (mi 4 rfl) rfl rfl dX4_advance_134 ?_
                refine lv_icmp_ne (tgt := 153) hx hb dX4_advance_137 (by decide) (fun c26 => ?_) (fun c26 => ?_)
                · replace hM := itn c26 hM
                  obtain rfl := Option.some.inj hM
                  exact hJ111 _ _ hw _ (lv_sub hl [] rfl)
                · replace hM := itp c26 hM
                  refine lv_aload_n hx hb dX4_advance_140 rfl (lv_at hl 0 rfl) ?_
                  refine lv_dup hx hb dX4_advance_141 rfl ?_
                  refine wk_get hx hb hts hin_X4 hown hK hw.1 4 0 5 (.int (PL20 5 0)) rfl rfl (by decide) (mi 1 rfl) rfl rfl dX4_advance_142 ?_
                  refine lv_iconst (v := (1 : Int32)) hx hb dX4_advance_145 (by decide) ?_
                  refine lv_iadd hx hb dX4_advance_146 ?_
                  refine wk_put (wq := (wX4 g a0 (up PL20 5 (fun _ => ((PL20 5 0) + (1 : Int32)))))) hx hb hts hin_X4 tyX4 tyX4_ok nmX4 hown hK hw 4 0 5 rfl rfl (by decide) (mi 1 rfl) rfl rfl rfl rfl (Nat.le_of_ble_eq_true rfl) dX4_advance_147 rfl (fun H locs hw => ?_)
                  refine lv_goto (tgt := 111) hx hb dX4_advance_150 (by decide) ?_
                  exact ih111 (up PL20 5 (fun _ => ((PL20 5 0) + (1 : Int32)))) hM _ _ hw _ (lv_sub hl [0] rfl)
          exact hW111 300 (up (up q2 3 (fun _ => (f_X4_sortOf q9))) 5 (fun _ => ((q2 4 0) + (1 : Int32)))) hL111 _ _ hw _ (lv_sub hl [0] rfl)
    · replace hM := itn c7 hM
      refine lv_aload_n hx hb dX4_advance_64 rfl (lv_at hl 0 rfl) ?_
      refine lv_iconst (v := (0 : Int32)) hx hb dX4_advance_65 (by decide) ?_
      refine wk_put (wq := (wX4 g a0 (up (up q2 5 (fun _ => (q2 4 0))) 3 (fun _ => (0 : Int32))))) hx hb hts hin_X4 tyX4 tyX4_ok nmX4 hown hK hw 4 0 3 rfl rfl (by decide) (mi 4 rfl) rfl rfl rfl rfl (Nat.le_of_ble_eq_true rfl) dX4_advance_66 rfl (fun H locs hw => ?_)
      obtain rfl := Option.some.inj hM
      exact W.vret hx hb hr (fun t ht _ => ⟨rfl, by rw [ht]; exact hw.1, hw.2.2.F ht⟩) hw.2.2.2.2 dX4_advance_69
  have hW8 : ∀ (n : Nat) (PL1 : TS), L_X4_advance_8 n PL1 = some q2 → ∀ (H : Heap) (locs : List Loc), Wk g A s.heap H locs (wX4 g a0 PL1) → ∀ (ls : Array Slot), lv_has ls 1 [(0, .ref (a0 0))] → W p l e (headSpec wsX4_advance ({ frames := 1, cells := 0, slots := 0, locals := 21 } : Room)).room s m ([.ref (a0 0)] : List Value).toArray below meth c H locs 0 0 (MQ below (QcW g none (wX4 g a0 q) A) ([.ref (a0 0)] : List Value).toArray s 0 0 A) (F0 m 8 ls []) := by
    intro n
    induction n with
    | zero => intro PL1 hM; rw [L_X4_advance_8] at hM; exact nn hM
    | succ n ih8 =>
      intro PL1 hM H locs hw ls hl
      rw [L_X4_advance_8] at hM
      refine lv_aload_n hx hb dX4_advance_8 rfl (lv_at hl 0 rfl) ?_
      refine wk_get hx hb hts hin_X4 hown hK hw.1 4 0 4 (.int (PL1 4 0)) rfl rfl (by decide) (mi 2 rfl) rfl rfl dX4_advance_9 ?_
      refine lv_aload_n hx hb dX4_advance_12 rfl (lv_at hl 0 rfl) ?_
      refine wk_get hx hb hts hin_X4 hown hK hw.1 4 0 0 (.int (PL1 0 0)) rfl rfl (by decide) (mi 3 rfl) rfl rfl dX4_advance_13 ?_
      refine lv_icmp_ge (tgt := 45) hx hb dX4_advance_16 (by decide) (fun c3 => ?_) (fun c3 => ?_)
      · replace hM := itp c3 hM
        obtain rfl := Option.some.inj hM
        exact hJ8 _ _ hw _ (lv_sub hl [0] rfl)
      · replace hM := itn c3 hM
        refine lv_aload_n hx hb dX4_advance_19 rfl (lv_at hl 0 rfl) ?_
        refine lv_aload_n hx hb dX4_advance_20 rfl (lv_at hl 0 rfl) ?_
        refine wk_get hx hb hts hin_X4 hown hK hw.1 4 0 4 (.int (PL1 4 0)) rfl rfl (by decide) (mi 2 rfl) rfl rfl dX4_advance_21 ?_
        obtain ⟨q5, h4, hM⟩ := bd hM
        refine rVR (wc := (wX4 g a0 PL1)) (As := [.int (PL1 4 0)]) (rest := []) (q0 := 0) hS (c_X4_letterAt l g a0 PL1 (PL1 4 0) h4) gX4_advance_X4_letterAt rfl hd_X4_letterAt ⟨Nat.le_of_ble_eq_true rfl, Nat.le_of_ble_eq_true rfl⟩ hK (va_P.pm hw.1 (pm_1_0 _)) rfl rfl rfl rfl hl.1 rfl (Nat.le_of_ble_eq_true rfl) dX4_advance_24 ⟨Nat.zero_le _, Nat.zero_le _⟩ ?_
        refine lv_bipush (v := (32 : Int32)) hx hb dX4_advance_27 (by decide) ?_
        refine lv_icmp_ne (tgt := 45) hx hb dX4_advance_29 (by decide) (fun c6 => ?_) (fun c6 => ?_)
        · replace hM := itn c6 hM
          obtain rfl := Option.some.inj hM
          exact hJ8 _ _ hw _ (lv_sub hl [0] rfl)
        · replace hM := itp c6 hM
          refine lv_aload_n hx hb dX4_advance_32 rfl (lv_at hl 0 rfl) ?_
          refine lv_dup hx hb dX4_advance_33 rfl ?_
          refine wk_get hx hb hts hin_X4 hown hK hw.1 4 0 4 (.int (PL1 4 0)) rfl rfl (by decide) (mi 2 rfl) rfl rfl dX4_advance_34 ?_
          refine lv_iconst (v := (1 : Int32)) hx hb dX4_advance_37 (by decide) ?_
          refine lv_iadd hx hb dX4_advance_38 ?_
          refine wk_put (wq := (wX4 g a0 (up PL1 4 (fun _ => ((PL1 4 0) + (1 : Int32)))))) hx hb hts hin_X4 tyX4 tyX4_ok nmX4 hown hK hw 4 0 4 rfl rfl (by decide) (mi 2 rfl) rfl rfl rfl rfl (Nat.le_of_ble_eq_true rfl) dX4_advance_39 rfl (fun H locs hw => ?_)
          refine lv_goto (tgt := 8) hx hb dX4_advance_42 (by decide) ?_
          exact ih8 (up PL1 4 (fun _ => ((PL1 4 0) + (1 : Int32)))) hM _ _ hw _ (lv_sub hl [0] rfl)
  exact hW8 300 (up P0 4 (fun _ => (P0 5 0))) hL8 _ _ hw _ (lv_sub hl [0] rfl)
theorem hd_X4_isFault : yX4_isFault.cls = RX4 ∧ yX4_isFault.cls ≠ "java/lang/invoke/MethodHandle" ∧ yX4_isFault.cls ≠ "java/lang/invoke/VarHandle" ∧ (parseMethodDescriptor yX4_isFault.desc).map (fun d => d.parameters.length) = some 0 := by decide +kernel
set_option maxHeartbeats 4000000 in
set_option maxRecDepth 100000 in
theorem c_X4_isFault (l : Launch) (g : Gm) (a0 : Nat → Nat) (P0 : TS) {q : (Int32 × TS)} (hM : f_X4_isFault P0 = some q) : MW l yX4_isFault wsX4_isFault 0 0 g [.ref (a0 0)] (wX4 g a0 P0) (some (.int q.1)) (wX4 g a0 q.2) := by
  intro sz
  refine Met.ofW (cc := cX4_isFault) (maxL := 1) (ret := (some .boolean)) (by decide) rfl ?_
  intro p e s m args below meth c s₁ B hml hv
  obtain ⟨rfl, hsz, hP, hK, hD0⟩ := hv
  have hx := B.exec; have hb := B.bytes; have hr := B.returns
  have hts := atoms_spec (ws := wsX4_isFault) B.pre
  have hown : s.vm.findClass RX4 = some m.cls := findClass_of_methodNamed B.named
  have hlocks := B.notSynchronized
  have hS : CallFix p m c cX4_isFault 1 s _ wsX4_isFault RX4 := ⟨hx, hb, hml, hown, hts⟩
  have hin_X4 : ∀ w ∈ wsX40, w ∈ wsX4_isFault := fun w h => (List.mem_cons_of_mem _ (List.mem_append_right _ h))
  subst hsz
  have hw := wk_start hP hD0
  have hA : ∀ q : Nat, s.heap.size ≤ q → va_A (wX4 g a0 P0) s.heap.size q := fun q h => Or.inr h
  generalize va_A (wX4 g a0 P0) s.heap.size = A at hw hA ⊢
  clear hP hD0
  have hl := lv_entry ([.ref (a0 0)]) (n := 1) (Nat.le_of_ble_eq_true rfl)
  rw [lg_entry_eq]
  generalize (lg_sl ([.ref (a0 0)]) ++ List.replicate (1 - (lg_sl ([.ref (a0 0)])).length) Slot.unset).toArray = ls at hl ⊢
  have hl : lv_has ls 1 [(0, .ref (a0 0))] := hl
  rw [f_X4_isFault] at hM
  refine lv_aload_n hx hb dX4_isFault_0 rfl (lv_at hl 0 rfl) ?_
  refine lv_aload_n hx hb dX4_isFault_1 rfl (lv_at hl 0 rfl) ?_
  refine wk_get hx hb hts hin_X4 hown hK hw.1 4 0 4 (.int (P0 4 0)) rfl rfl (by decide) (mi 1 rfl) rfl rfl dX4_isFault_2 ?_
  refine wk_put (wq := (wX4 g a0 (up P0 1 (fun _ => (P0 4 0))))) hx hb hts hin_X4 tyX4 tyX4_ok nmX4 hown hK hw 4 0 1 rfl rfl (by decide) (mi 2 rfl) rfl rfl rfl rfl (Nat.le_of_ble_eq_true rfl) dX4_isFault_5 rfl (fun H locs hw => ?_)
  refine lv_iconst (v := (0 : Int32)) hx hb dX4_isFault_8 (by decide) ?_
  obtain rfl := Option.some.inj hM
  exact W.zret hx hb hr (nz (Or.inl rfl)) (fun t ht _ => ⟨rfl, by rw [ht]; exact hw.1, hw.2.2.F ht⟩) hw.2.2.2.2 dX4_isFault_9
theorem hd_X4_put : yX4_put.cls = RX4 ∧ yX4_put.cls ≠ "java/lang/invoke/MethodHandle" ∧ yX4_put.cls ≠ "java/lang/invoke/VarHandle" ∧ (parseMethodDescriptor yX4_put.desc).map (fun d => d.parameters.length) = some 1 := by decide +kernel
set_option maxHeartbeats 4000000 in
set_option maxRecDepth 100000 in
theorem c_X4_put (l : Launch) (g : Gm) (a0 : Nat → Nat) (P0 : TS) (p1 : Int32) {q : TS} (hM : f_X4_put P0 p1 = some q) : MW l yX4_put wsX4_put 0 0 g [.ref (a0 0), .int p1] (wX4 g a0 P0) none (wX4 g a0 q) := by
  intro sz
  refine Met.ofW (cc := cX4_put) (maxL := 2) (ret := none) (by decide) rfl ?_
  intro p e s m args below meth c s₁ B hml hv
  obtain ⟨rfl, hsz, hP, hK, hD0⟩ := hv
  have hx := B.exec; have hb := B.bytes; have hr := B.returns
  have hts := atoms_spec (ws := wsX4_put) B.pre
  have hown : s.vm.findClass RX4 = some m.cls := findClass_of_methodNamed B.named
  have hlocks := B.notSynchronized
  have hS : CallFix p m c cX4_put 2 s _ wsX4_put RX4 := ⟨hx, hb, hml, hown, hts⟩
  have hin_X4 : ∀ w ∈ wsX40, w ∈ wsX4_put := fun w h => (List.mem_cons_of_mem _ (List.mem_append_right _ h))
  subst hsz
  have hw := wk_start hP hD0
  have hA : ∀ q : Nat, s.heap.size ≤ q → va_A (wX4 g a0 P0) s.heap.size q := fun q h => Or.inr h
  generalize va_A (wX4 g a0 P0) s.heap.size = A at hw hA ⊢
  clear hP hD0
  have hl := lv_entry ([.ref (a0 0), .int p1]) (n := 2) (Nat.le_of_ble_eq_true rfl)
  rw [lg_entry_eq]
  generalize (lg_sl ([.ref (a0 0), .int p1]) ++ List.replicate (2 - (lg_sl ([.ref (a0 0), .int p1])).length) Slot.unset).toArray = ls at hl ⊢
  have hl : lv_has ls 2 [(0, .ref (a0 0)), (1, .int p1)] := hl
  rw [f_X4_put] at hM
  refine lv_aload_n hx hb dX4_put_0 rfl (lv_at hl 0 rfl) ?_
  refine wk_get hx hb hts hin_X4 hown hK hw.1 4 0 0 (.int (P0 0 0)) rfl rfl (by decide) (mi 1 rfl) rfl rfl dX4_put_1 ?_
  refine lv_sipush (v := (250 : Int32)) hx hb dX4_put_4 (by decide) ?_
  refine lv_icmp_ge (tgt := 30) hx hb dX4_put_7 (by decide) (fun c1 => ?_) (fun c1 => ?_)
  · replace hM := itp c1 hM
    obtain rfl := Option.some.inj hM
    exact W.vret hx hb hr (fun t ht _ => ⟨rfl, by rw [ht]; exact hw.1, hw.2.2.F ht⟩) hw.2.2.2.2 dX4_put_30
  · replace hM := itn c1 hM
    refine lv_aload_n hx hb dX4_put_10 rfl (lv_at hl 0 rfl) ?_
    refine wk_get hx hb hts hin_X4 hown hK hw.1 4 0 2 (.ref (a0 1)) rfl rfl (by decide) (mi 2 rfl) rfl rfl dX4_put_11 ?_
    refine lv_aload_n hx hb dX4_put_14 rfl (lv_at hl 0 rfl) ?_
    refine wk_get hx hb hts hin_X4 hown hK hw.1 4 0 0 (.int (P0 0 0)) rfl rfl (by decide) (mi 1 rfl) rfl rfl dX4_put_15 ?_
    refine lv_iload_n hx hb dX4_put_18 rfl (lv_at hl 1 rfl) ?_
    obtain ⟨k2, hM⟩ := ck hM
    refine wk_iast (wq := (wX4 g a0 (up P0 2 (upd (P0 2) ((P0 0 0)).toNatClampNeg p1)))) hx hb hK hw 1 250 (P0 2) rfl k2 dX4_put_19 rfl (fun H locs hw => ?_)
    refine lv_aload_n hx hb dX4_put_20 rfl (lv_at hl 0 rfl) ?_
    refine lv_dup hx hb dX4_put_21 rfl ?_
    refine wk_get hx hb hts hin_X4 hown hK hw.1 4 0 0 (.int (P0 0 0)) rfl rfl (by decide) (mi 1 rfl) rfl rfl dX4_put_22 ?_
    refine lv_iconst (v := (1 : Int32)) hx hb dX4_put_25 (by decide) ?_
    refine lv_iadd hx hb dX4_put_26 ?_
    refine wk_put (wq := (wX4 g a0 (up (up P0 2 (upd (P0 2) ((P0 0 0)).toNatClampNeg p1)) 0 (fun _ => ((P0 0 0) + (1 : Int32)))))) hx hb hts hin_X4 tyX4 tyX4_ok nmX4 hown hK hw 4 0 0 rfl rfl (by decide) (mi 1 rfl) rfl rfl rfl rfl (Nat.le_of_ble_eq_true rfl) dX4_put_27 rfl (fun H locs hw => ?_)
    obtain rfl := Option.some.inj hM
    exact W.vret hx hb hr (fun t ht _ => ⟨rfl, by rw [ht]; exact hw.1, hw.2.2.F ht⟩) hw.2.2.2.2 dX4_put_30
theorem hd_X4_takeNumber : yX4_takeNumber.cls = RX4 ∧ yX4_takeNumber.cls ≠ "java/lang/invoke/MethodHandle" ∧ yX4_takeNumber.cls ≠ "java/lang/invoke/VarHandle" ∧ (parseMethodDescriptor yX4_takeNumber.desc).map (fun d => d.parameters.length) = some 3 := by decide +kernel
set_option maxHeartbeats 4000000 in
set_option maxRecDepth 100000 in
theorem c_X4_takeNumber (l : Launch) (g : Gm) (a0 : Nat → Nat) (P0 : TS) (p1 : Int32) (p2 : Int32) (p3 : Int32) {q : (Int32 × TS)} (hM : f_X4_takeNumber P0 p1 p2 p3 = some q) : MW l yX4_takeNumber wsX4_takeNumber 2 41 g [.ref (a0 0), .int p1, .int p2, .int p3] (wX4 g a0 P0) (some (.int q.1)) (wX4 g a0 q.2) := by
  intro sz
  refine Met.ofW (cc := cX4_takeNumber) (maxL := 6) (ret := (some .int)) (by decide) rfl ?_
  intro p e s m args below meth c s₁ B hml hv
  obtain ⟨rfl, hsz, hP, hK, hD0⟩ := hv
  have hx := B.exec; have hb := B.bytes; have hr := B.returns
  have hts := atoms_spec (ws := wsX4_takeNumber) B.pre
  have hown : s.vm.findClass RX4 = some m.cls := findClass_of_methodNamed B.named
  have hlocks := B.notSynchronized
  have hS : CallFix p m c cX4_takeNumber 6 s _ wsX4_takeNumber RX4 := ⟨hx, hb, hml, hown, hts⟩
  have hin_X4 : ∀ w ∈ wsX40, w ∈ wsX4_takeNumber := fun w h => (List.mem_cons_of_mem _ (List.mem_append_right _ h))
  subst hsz
  have hw := wk_start hP hD0
  have hA : ∀ q : Nat, s.heap.size ≤ q → va_A (wX4 g a0 P0) s.heap.size q := fun q h => Or.inr h
  generalize va_A (wX4 g a0 P0) s.heap.size = A at hw hA ⊢
  clear hP hD0
  have hl := lv_entry ([.ref (a0 0), .int p1, .int p2, .int p3]) (n := 6) (Nat.le_of_ble_eq_true rfl)
  rw [lg_entry_eq]
  generalize (lg_sl ([.ref (a0 0), .int p1, .int p2, .int p3]) ++ List.replicate (6 - (lg_sl ([.ref (a0 0), .int p1, .int p2, .int p3])).length) Slot.unset).toArray = ls at hl ⊢
  have hl : lv_has ls 6 [(0, .ref (a0 0)), (1, .int p1), (2, .int p2), (3, .int p3)] := hl
  rw [f_X4_takeNumber] at hM
  refine lv_iconst (v := (0 : Int32)) hx hb dX4_takeNumber_0 (by decide) ?_
  refine lv_istore (lv' := [(4, .int (0 : Int32)), (0, .ref (a0 0)), (1, .int p1), (2, .int p2), (3, .int p3)]) hx hb dX4_takeNumber_1 hl (by decide) rfl (fun ls hl => ?_)
  refine lv_aload_n hx hb dX4_takeNumber_3 rfl (lv_at hl 1 rfl) ?_
  refine wk_get hx hb hts hin_X4 hown hK hw.1 4 0 4 (.int (P0 4 0)) rfl rfl (by decide) (mi 1 rfl) rfl rfl dX4_takeNumber_4 ?_
  refine lv_istore (lv' := [(5, .int (P0 4 0)), (4, .int (0 : Int32)), (0, .ref (a0 0)), (1, .int p1), (2, .int p2), (3, .int p3)]) hx hb dX4_takeNumber_7 hl (by decide) rfl (fun ls hl => ?_)
  obtain ⟨q3, hL9, hM⟩ := bd hM
  have hJ9 : ∀ (H : Heap) (locs : List Loc), Wk g A s.heap H locs (wX4 g a0 P0) → ∀ (ls : Array Slot), lv_has ls 6 [(4, .int q3), (0, .ref (a0 0)), (1, .int p1), (2, .int p2), (3, .int p3)] → W p l e (headSpec wsX4_takeNumber ({ frames := 2, cells := 0, slots := 0, locals := 41 } : Room)).room s m ([.ref (a0 0), .int p1, .int p2, .int p3] : List Value).toArray below meth c H locs 0 0 (MQ below (QcW g (some (.int q.1)) (wX4 g a0 q.2) A) ([.ref (a0 0), .int p1, .int p2, .int p3] : List Value).toArray s 0 0 A) (F0 m 52 ls []) := by
    intro H locs hw ls hl
    refine lv_aload_n hx hb dX4_takeNumber_52 rfl (lv_at hl 1 rfl) ?_
    refine wk_get hx hb hts hin_X4 hown hK hw.1 4 0 3 (.int (P0 3 0)) rfl rfl (by decide) (mi 3 rfl) rfl rfl dX4_takeNumber_53 ?_
    refine lv_iconst (v := (2 : Int32)) hx hb dX4_takeNumber_56 (by decide) ?_
    have hJ22 : ∀ (H : Heap) (locs : List Loc) (x21 : Int32) (ls : Array Slot), Wk g A s.heap H locs (wX4 g a0 P0) → x21 = (if (P0 3 0) = (2 : Int32) then (if (2 : Int32) < ((P0 5 0) - (P0 4 0)) then (0 : Int32) else (if (f_X6_isWithin q3 p1 p2) = 0 then (0 : Int32) else (1 : Int32))) else (0 : Int32)) → lv_has ls 6 [(4, .int q3), (0, .ref (a0 0)), (3, .int p3)] → W p l e (headSpec wsX4_takeNumber ({ frames := 2, cells := 0, slots := 0, locals := 41 } : Room)).room s m ([.ref (a0 0), .int p1, .int p2, .int p3] : List Value).toArray below meth c H locs 0 0 (MQ below (QcW g (some (.int q.1)) (wX4 g a0 q.2) A) ([.ref (a0 0), .int p1, .int p2, .int p3] : List Value).toArray s 0 0 A) (F0 m 88 ls [.int x21]) := by
      intro H locs x21 ls hw hxx21 hl
      subst hxx21
      refine lv_istore (lv' := [(5, .int (if (P0 3 0) = (2 : Int32) then (if (2 : Int32) < ((P0 5 0) - (P0 4 0)) then (0 : Int32) else (if (f_X6_isWithin q3 p1 p2) = 0 then (0 : Int32) else (1 : Int32))) else (0 : Int32))), (4, .int q3), (0, .ref (a0 0)), (3, .int p3)]) hx hb dX4_takeNumber_88 hl (by decide) rfl (fun ls hl => ?_)
      refine lv_iload hx hb dX4_takeNumber_90 (lv_at hl 0 rfl) ?_
      refine lv_if_eq (tgt := 104) hx hb dX4_takeNumber_92 (by decide) (fun c12 => ?_) (fun c12 => ?_)
      · replace hM := itp c12 hM
        refine lv_aload_n hx hb dX4_takeNumber_104 rfl (lv_at hl 2 rfl) ?_
        refine lv_aload_n hx hb dX4_takeNumber_105 rfl (lv_at hl 2 rfl) ?_
        refine wk_get hx hb hts hin_X4 hown hK hw.1 4 0 4 (.int (P0 4 0)) rfl rfl (by decide) (mi 1 rfl) rfl rfl dX4_takeNumber_106 ?_
        refine wk_put (wq := (wX4 g a0 (up P0 1 (fun _ => (P0 4 0))))) hx hb hts hin_X4 tyX4 tyX4_ok nmX4 hown hK hw 4 0 1 rfl rfl (by decide) (mi 4 rfl) rfl rfl rfl rfl (Nat.le_of_ble_eq_true rfl) dX4_takeNumber_109 rfl (fun H locs hw => ?_)
        refine lv_iconst (v := (-1 : Int32)) hx hb dX4_takeNumber_112 (by decide) ?_
        obtain rfl := Option.some.inj hM
        exact W.iret hx hb hr (fun t ht _ => ⟨rfl, by rw [ht]; exact hw.1, hw.2.2.F ht⟩) hw.2.2.2.2 dX4_takeNumber_113
      · replace hM := itn c12 hM
        refine lv_iload_n hx hb dX4_takeNumber_95 rfl (lv_at hl 3 rfl) ?_
        refine lv_iload hx hb dX4_takeNumber_96 (lv_at hl 1 rfl) ?_
        refine rNR (wc := ([] : va_W)) (As := [.int p3, .int q3]) (rest := []) hS (c_X6_has l g p3 q3) gX4_takeNumber_X6_has_n59 rfl (mi 15 rfl) (mi 13 rfl) 9 rfl hd_X6_has ⟨Nat.le_of_ble_eq_true rfl, Nat.le_of_ble_eq_true rfl⟩ hK (hP_nil) rfl hl.1 rfl (Nat.le_of_ble_eq_true rfl) dX4_takeNumber_98 ⟨Nat.zero_le _, Nat.zero_le _⟩ ?_
        refine lv_if_eq (tgt := 114) hx hb dX4_takeNumber_101 (by decide) (fun c14 => ?_) (fun c14 => ?_)
        · replace hM := itp c14 hM
          refine lv_aload_n hx hb dX4_takeNumber_114 rfl (lv_at hl 2 rfl) ?_
          obtain ⟨q16, h15, hM⟩ := bd hM
          refine rVWp (wc := (wX4 g a0 P0)) (wq := (wX4 g a0 q16)) (As := []) (rest := []) (q0 := 0) hS (c_X4_advance l g a0 P0 h15) gX4_takeNumber_X4_advance rfl hd_X4_advance ⟨Nat.le_of_ble_eq_true rfl, Nat.le_of_ble_eq_true rfl⟩ hK hw hA (pm_1_0 _) rfl (pm_1_0 _) rfl rfl rfl rfl hl.1 rfl (Nat.le_of_ble_eq_true rfl) dX4_takeNumber_115 ⟨Nat.zero_le _, Nat.zero_le _⟩ (fun H locs hw => ?_)
          refine lv_iload hx hb dX4_takeNumber_118 (lv_at hl 1 rfl) ?_
          obtain rfl := Option.some.inj hM
          exact W.iret hx hb hr (fun t ht _ => ⟨rfl, by rw [ht]; exact hw.1, hw.2.2.F ht⟩) hw.2.2.2.2 dX4_takeNumber_120
        · replace hM := itn c14 hM
          refine lv_aload_n hx hb dX4_takeNumber_104 rfl (lv_at hl 2 rfl) ?_
          refine lv_aload_n hx hb dX4_takeNumber_105 rfl (lv_at hl 2 rfl) ?_
          refine wk_get hx hb hts hin_X4 hown hK hw.1 4 0 4 (.int (P0 4 0)) rfl rfl (by decide) (mi 1 rfl) rfl rfl dX4_takeNumber_106 ?_
          refine wk_put (wq := (wX4 g a0 (up P0 1 (fun _ => (P0 4 0))))) hx hb hts hin_X4 tyX4 tyX4_ok nmX4 hown hK hw 4 0 1 rfl rfl (by decide) (mi 4 rfl) rfl rfl rfl rfl (Nat.le_of_ble_eq_true rfl) dX4_takeNumber_109 rfl (fun H locs hw => ?_)
          refine lv_iconst (v := (-1 : Int32)) hx hb dX4_takeNumber_112 (by decide) ?_
          obtain rfl := Option.some.inj hM
          exact W.iret hx hb hr (fun t ht _ => ⟨rfl, by rw [ht]; exact hw.1, hw.2.2.F ht⟩) hw.2.2.2.2 dX4_takeNumber_113
    refine lv_icmp_ne (tgt := 87) hx hb dX4_takeNumber_57 (by decide) (fun c8 => ?_) (fun c8 => ?_)
    · refine lv_iconst (v := (0 : Int32)) hx hb dX4_takeNumber_87 (by decide) ?_
      exact hJ22 _ _ _ _ hw (by first | rfl | (simp only [if_neg c8])) (lv_sub hl [0, 1, 4] rfl)
    · refine lv_aload_n hx hb dX4_takeNumber_60 rfl (lv_at hl 1 rfl) ?_
      refine wk_get hx hb hts hin_X4 hown hK hw.1 4 0 5 (.int (P0 5 0)) rfl rfl (by decide) (mi 2 rfl) rfl rfl dX4_takeNumber_61 ?_
      refine lv_aload_n hx hb dX4_takeNumber_64 rfl (lv_at hl 1 rfl) ?_
      refine wk_get hx hb hts hin_X4 hown hK hw.1 4 0 4 (.int (P0 4 0)) rfl rfl (by decide) (mi 1 rfl) rfl rfl dX4_takeNumber_65 ?_
      refine lv_isub hx hb dX4_takeNumber_68 ?_
      refine lv_iconst (v := (2 : Int32)) hx hb dX4_takeNumber_69 (by decide) ?_
      refine lv_icmp_gt (tgt := 87) hx hb dX4_takeNumber_70 (by decide) (fun c9 => ?_) (fun c9 => ?_)
      · refine lv_iconst (v := (0 : Int32)) hx hb dX4_takeNumber_87 (by decide) ?_
        exact hJ22 _ _ _ _ hw (by first | rfl | (simp only [if_pos c8, if_pos c9])) (lv_sub hl [0, 1, 4] rfl)
      · refine lv_iload hx hb dX4_takeNumber_73 (lv_at hl 0 rfl) ?_
        refine lv_iload_n hx hb dX4_takeNumber_75 rfl (lv_at hl 2 rfl) ?_
        refine lv_iload_n hx hb dX4_takeNumber_76 rfl (lv_at hl 3 rfl) ?_
        refine rNR (wc := ([] : va_W)) (As := [.int q3, .int p1, .int p2]) (rest := []) hS (c_X6_isWithin l g q3 p1 p2) gX4_takeNumber_X6_isWithin_n55 rfl (mi 12 rfl) (mi 13 rfl) 8 rfl hd_X6_isWithin ⟨Nat.le_of_ble_eq_true rfl, Nat.le_of_ble_eq_true rfl⟩ hK (hP_nil) rfl hl.1 rfl (Nat.le_of_ble_eq_true rfl) dX4_takeNumber_77 ⟨Nat.zero_le _, Nat.zero_le _⟩ ?_
        refine lv_if_eq (tgt := 87) hx hb dX4_takeNumber_80 (by decide) (fun c11 => ?_) (fun c11 => ?_)
        · refine lv_iconst (v := (0 : Int32)) hx hb dX4_takeNumber_87 (by decide) ?_
          exact hJ22 _ _ _ _ hw (by first | rfl | (simp only [if_pos c8, if_neg c9, if_pos c11])) (lv_sub hl [0, 1, 4] rfl)
        · refine lv_iconst (v := (1 : Int32)) hx hb dX4_takeNumber_83 (by decide) ?_
          refine lv_goto (tgt := 88) hx hb dX4_takeNumber_84 (by decide) ?_
          exact hJ22 _ _ _ _ hw (by first | rfl | (simp only [if_pos c8, if_neg c9, if_neg c11])) (lv_sub hl [0, 1, 4] rfl)
  have hW9 : ∀ (n : Nat) (v5_1 : Int32) (v4_2 : Int32), L_X4_takeNumber_9 P0 n v5_1 v4_2 = some q3 → ∀ (H : Heap) (locs : List Loc), Wk g A s.heap H locs (wX4 g a0 P0) → ∀ (ls : Array Slot), lv_has ls 6 [(5, .int v5_1), (4, .int v4_2), (0, .ref (a0 0)), (1, .int p1), (2, .int p2), (3, .int p3)] → W p l e (headSpec wsX4_takeNumber ({ frames := 2, cells := 0, slots := 0, locals := 41 } : Room)).room s m ([.ref (a0 0), .int p1, .int p2, .int p3] : List Value).toArray below meth c H locs 0 0 (MQ below (QcW g (some (.int q.1)) (wX4 g a0 q.2) A) ([.ref (a0 0), .int p1, .int p2, .int p3] : List Value).toArray s 0 0 A) (F0 m 9 ls []) := by
    intro n
    induction n with
    | zero => intro v5_1 v4_2 hM; rw [L_X4_takeNumber_9] at hM; exact nn hM
    | succ n ih9 =>
      intro v5_1 v4_2 hM H locs hw ls hl
      rw [L_X4_takeNumber_9] at hM
      refine lv_iload hx hb dX4_takeNumber_9 (lv_at hl 0 rfl) ?_
      refine lv_aload_n hx hb dX4_takeNumber_11 rfl (lv_at hl 2 rfl) ?_
      refine wk_get hx hb hts hin_X4 hown hK hw.1 4 0 5 (.int (P0 5 0)) rfl rfl (by decide) (mi 2 rfl) rfl rfl dX4_takeNumber_12 ?_
      refine lv_icmp_ge (tgt := 52) hx hb dX4_takeNumber_15 (by decide) (fun c4 => ?_) (fun c4 => ?_)
      · replace hM := itp c4 hM
        obtain rfl := Option.some.inj hM
        exact hJ9 _ _ hw _ (lv_sub hl [1, 2, 3, 4, 5] rfl)
      · replace hM := itn c4 hM
        refine lv_iload hx hb dX4_takeNumber_18 (lv_at hl 0 rfl) ?_
        refine lv_aload_n hx hb dX4_takeNumber_20 rfl (lv_at hl 2 rfl) ?_
        refine wk_get hx hb hts hin_X4 hown hK hw.1 4 0 4 (.int (P0 4 0)) rfl rfl (by decide) (mi 1 rfl) rfl rfl dX4_takeNumber_21 ?_
        refine lv_iconst (v := (2 : Int32)) hx hb dX4_takeNumber_24 (by decide) ?_
        refine lv_iadd hx hb dX4_takeNumber_25 ?_
        refine lv_icmp_ge (tgt := 52) hx hb dX4_takeNumber_26 (by decide) (fun c5 => ?_) (fun c5 => ?_)
        · replace hM := itp c5 hM
          obtain rfl := Option.some.inj hM
          exact hJ9 _ _ hw _ (lv_sub hl [1, 2, 3, 4, 5] rfl)
        · replace hM := itn c5 hM
          refine lv_iload hx hb dX4_takeNumber_29 (lv_at hl 1 rfl) ?_
          refine lv_bipush (v := (10 : Int32)) hx hb dX4_takeNumber_31 (by decide) ?_
          refine lv_imul hx hb dX4_takeNumber_33 ?_
          refine lv_aload_n hx hb dX4_takeNumber_34 rfl (lv_at hl 2 rfl) ?_
          refine lv_iload hx hb dX4_takeNumber_35 (lv_at hl 0 rfl) ?_
          obtain ⟨q7, h6, hM⟩ := bd hM
          refine rVR (wc := (wX4 g a0 P0)) (As := [.int v5_1]) (rest := [.int (v4_2 * (10 : Int32))]) (q0 := 0) hS (c_X4_letterAt l g a0 P0 v5_1 h6) gX4_takeNumber_X4_letterAt rfl hd_X4_letterAt ⟨Nat.le_of_ble_eq_true rfl, Nat.le_of_ble_eq_true rfl⟩ hK (va_P.pm hw.1 (pm_1_0 _)) rfl rfl rfl rfl hl.1 rfl (Nat.le_of_ble_eq_true rfl) dX4_takeNumber_37 ⟨Nat.zero_le _, Nat.zero_le _⟩ ?_
          refine lv_iadd hx hb dX4_takeNumber_40 ?_
          refine lv_bipush (v := (48 : Int32)) hx hb dX4_takeNumber_41 (by decide) ?_
          refine lv_isub hx hb dX4_takeNumber_43 ?_
          refine lv_istore (lv' := [(4, .int (((v4_2 * (10 : Int32)) + q7) - (48 : Int32))), (5, .int v5_1), (0, .ref (a0 0)), (1, .int p1), (2, .int p2), (3, .int p3)]) hx hb dX4_takeNumber_44 hl (by decide) rfl (fun ls hl => ?_)
          refine lv_iinc (v := (v5_1 + (1 : Int32))) (lv' := [(5, .int (v5_1 + (1 : Int32))), (4, .int (((v4_2 * (10 : Int32)) + q7) - (48 : Int32))), (0, .ref (a0 0)), (1, .int p1), (2, .int p2), (3, .int p3)]) hx hb dX4_takeNumber_46 hl (k := 1) rfl rfl (by decide) rfl (fun ls hl => ?_)
          refine lv_goto (tgt := 9) hx hb dX4_takeNumber_49 (by decide) ?_
          exact ih9 (v5_1 + (1 : Int32)) (((v4_2 * (10 : Int32)) + q7) - (48 : Int32)) hM _ _ hw _ (lv_sub hl [0, 1, 2, 3, 4, 5] rfl)
  exact hW9 300 (P0 4 0) (0 : Int32) hL9 _ _ hw _ (lv_sub hl [0, 1, 2, 3, 4, 5] rfl)
theorem hd_X4_readSightHeard : yX4_readSightHeard.cls = RX4 ∧ yX4_readSightHeard.cls ≠ "java/lang/invoke/MethodHandle" ∧ yX4_readSightHeard.cls ≠ "java/lang/invoke/VarHandle" ∧ (parseMethodDescriptor yX4_readSightHeard.desc).map (fun d => d.parameters.length) = some 2 := by decide +kernel
set_option maxHeartbeats 4000000 in
set_option maxRecDepth 100000 in
theorem c_X4_readSightHeard (l : Launch) (g : Gm) (a0 : Nat → Nat) (a1 : Nat → Nat) (P0 : TS) (T1 : TS) (p2 : Int32) {q : (Int32 × TS × TS)} (hM : f_X4_readSightHeard P0 T1 p2 = some q) : MW l yX4_readSightHeard wsX4_readSightHeard 3 66 g [.ref (a0 0), .ref (a1 0), .int p2] ((wX4 g a0 P0) ++ (wX5 g a1 T1)) (some (.int q.1)) ((wX4 g a0 q.2.1) ++ (wX5 g a1 q.2.2)) := by
  intro sz
  refine Met.ofW (cc := cX4_readSightHeard) (maxL := 4) (ret := (some .boolean)) (by decide) rfl ?_
  intro p e s m args below meth c s₁ B hml hv
  obtain ⟨rfl, hsz, hP, hK, hD0⟩ := hv
  have hx := B.exec; have hb := B.bytes; have hr := B.returns
  have hts := atoms_spec (ws := wsX4_readSightHeard) B.pre
  have hown : s.vm.findClass RX4 = some m.cls := findClass_of_methodNamed B.named
  have hlocks := B.notSynchronized
  have hS : CallFix p m c cX4_readSightHeard 4 s _ wsX4_readSightHeard RX4 := ⟨hx, hb, hml, hown, hts⟩
  have hin_X5 : ∀ w ∈ wsX50, w ∈ wsX4_readSightHeard := fun w h => (List.mem_cons_of_mem _ (List.mem_append_left _ (List.mem_append_right _ h)))
  subst hsz
  have hw := wk_start hP hD0
  have hA : ∀ q : Nat, s.heap.size ≤ q → va_A ((wX4 g a0 P0) ++ (wX5 g a1 T1)) s.heap.size q := fun q h => Or.inr h
  generalize va_A ((wX4 g a0 P0) ++ (wX5 g a1 T1)) s.heap.size = A at hw hA ⊢
  clear hP hD0
  have hl := lv_entry ([.ref (a0 0), .ref (a1 0), .int p2]) (n := 4) (Nat.le_of_ble_eq_true rfl)
  rw [lg_entry_eq]
  generalize (lg_sl ([.ref (a0 0), .ref (a1 0), .int p2]) ++ List.replicate (4 - (lg_sl ([.ref (a0 0), .ref (a1 0), .int p2])).length) Slot.unset).toArray = ls at hl ⊢
  have hl : lv_has ls 4 [(0, .ref (a0 0)), (1, .ref (a1 0)), (2, .int p2)] := hl
  rw [f_X4_readSightHeard] at hM
  refine lv_aload_n hx hb dX4_readSightHeard_0 rfl (lv_at hl 0 rfl) ?_
  refine lv_iconst (v := (0 : Int32)) hx hb dX4_readSightHeard_1 (by decide) ?_
  refine lv_aload_n hx hb dX4_readSightHeard_2 rfl (lv_at hl 1 rfl) ?_
  refine wk_get hx hb hts hin_X5 hown hK hw.1 5 2 0 (.int (T1 0 0)) rfl rfl (by decide) (mi 1 rfl) rfl rfl dX4_readSightHeard_3 ?_
  refine lv_iconst (v := (1 : Int32)) hx hb dX4_readSightHeard_6 (by decide) ?_
  refine lv_isub hx hb dX4_readSightHeard_7 ?_
  refine lv_iconst (v := (0 : Int32)) hx hb dX4_readSightHeard_8 (by decide) ?_
  obtain ⟨q2, h1, hM⟩ := bd hM
  refine rVWp (wc := (wX4 g a0 P0)) (wq := ((wX4 g a0 q2.2) ++ (wX5 g a1 T1))) (As := [.int (0 : Int32), .int ((T1 0 0) - (1 : Int32)), .int (0 : Int32)]) (rest := []) (q0 := 0) hS (c_X4_takeNumber l g a0 P0 (0 : Int32) ((T1 0 0) - (1 : Int32)) (0 : Int32) h1) gX4_readSightHeard_X4_takeNumber rfl hd_X4_takeNumber ⟨Nat.le_of_ble_eq_true rfl, Nat.le_of_ble_eq_true rfl⟩ hK hw hA (pm_2_0 _ _) rfl (pm_2_0 _ _) rfl rfl rfl rfl hl.1 rfl (Nat.le_of_ble_eq_true rfl) dX4_readSightHeard_9 ⟨Nat.zero_le _, Nat.zero_le _⟩ (fun H locs hw => ?_)
  refine lv_istore_n (lv' := [(3, .int q2.1), (0, .ref (a0 0)), (1, .ref (a1 0)), (2, .int p2)]) hx hb dX4_readSightHeard_12 rfl hl (by decide) rfl (fun ls hl => ?_)
  refine lv_iload_n hx hb dX4_readSightHeard_13 rfl (lv_at hl 0 rfl) ?_
  refine lv_iconst (v := (-1 : Int32)) hx hb dX4_readSightHeard_14 (by decide) ?_
  refine lv_icmp_ne (tgt := 20) hx hb dX4_readSightHeard_15 (by decide) (fun c3 => ?_) (fun c3 => ?_)
  · replace hM := itn c3 hM
    refine lv_aload_n hx hb dX4_readSightHeard_20 rfl (lv_at hl 2 rfl) ?_
    refine lv_iload_n hx hb dX4_readSightHeard_21 rfl (lv_at hl 3 rfl) ?_
    refine lv_iload_n hx hb dX4_readSightHeard_22 rfl (lv_at hl 0 rfl) ?_
    refine lv_iconst (v := (1 : Int32)) hx hb dX4_readSightHeard_23 (by decide) ?_
    obtain ⟨q5, h4, hM⟩ := bd hM
    refine rVWp (wc := (wX5 g a1 T1)) (wq := ((wX4 g a0 q2.2) ++ (wX5 g a1 q5))) (As := [.int p2, .int q2.1, .int (1 : Int32)]) (rest := []) (q0 := 0) hS (c_X5_putHeard l g a1 T1 p2 q2.1 (1 : Int32) h4) gX4_readSightHeard_X5_putHeard rfl hd_X5_putHeard ⟨Nat.le_of_ble_eq_true rfl, Nat.le_of_ble_eq_true rfl⟩ hK hw hA (pm_2_1 _ _) rfl (pm_2_1 _ _) rfl rfl rfl rfl hl.1 rfl (Nat.le_of_ble_eq_true rfl) dX4_readSightHeard_24 ⟨Nat.zero_le _, Nat.zero_le _⟩ (fun H locs hw => ?_)
    refine lv_iconst (v := (1 : Int32)) hx hb dX4_readSightHeard_27 (by decide) ?_
    obtain rfl := Option.some.inj hM
    exact W.zret hx hb hr (nz (Or.inr rfl)) (fun t ht _ => ⟨rfl, by rw [ht]; exact hw.1, hw.2.2.F ht⟩) hw.2.2.2.2 dX4_readSightHeard_28
  · replace hM := itp c3 hM
    refine lv_iconst (v := (0 : Int32)) hx hb dX4_readSightHeard_18 (by decide) ?_
    obtain rfl := Option.some.inj hM
    exact W.zret hx hb hr (nz (Or.inl rfl)) (fun t ht _ => ⟨rfl, by rw [ht]; exact hw.1, hw.2.2.F ht⟩) hw.2.2.2.2 dX4_readSightHeard_19
theorem hd_X4_readHeard : yX4_readHeard.cls = RX4 ∧ yX4_readHeard.cls ≠ "java/lang/invoke/MethodHandle" ∧ yX4_readHeard.cls ≠ "java/lang/invoke/VarHandle" ∧ (parseMethodDescriptor yX4_readHeard.desc).map (fun d => d.parameters.length) = some 1 := by decide +kernel
set_option maxHeartbeats 4000000 in
set_option maxRecDepth 100000 in
theorem c_X4_readHeard (l : Launch) (g : Gm) (a0 : Nat → Nat) (a1 : Nat → Nat) (P0 : TS) (T1 : TS) {q : (Int32 × TS × TS)} (hM : f_X4_readHeard P0 T1 = some q) : MW l yX4_readHeard wsX4_readHeard 4 89 g [.ref (a0 0), .ref (a1 0)] ((wX4 g a0 P0) ++ (wX5 g a1 T1)) (some (.int q.1)) ((wX4 g a0 q.2.1) ++ (wX5 g a1 q.2.2)) := by
  intro sz
  refine Met.ofW (cc := cX4_readHeard) (maxL := 3) (ret := (some .boolean)) (by decide) rfl ?_
  intro p e s m args below meth c s₁ B hml hv
  obtain ⟨rfl, hsz, hP, hK, hD0⟩ := hv
  have hx := B.exec; have hb := B.bytes; have hr := B.returns
  have hts := atoms_spec (ws := wsX4_readHeard) B.pre
  have hown : s.vm.findClass RX4 = some m.cls := findClass_of_methodNamed B.named
  have hlocks := B.notSynchronized
  have hS : CallFix p m c cX4_readHeard 3 s _ wsX4_readHeard RX4 := ⟨hx, hb, hml, hown, hts⟩
  have hin_X5 : ∀ w ∈ wsX50, w ∈ wsX4_readHeard := fun w h => (List.mem_cons_of_mem _ (List.mem_append_left _ (List.mem_append_right _ h)))
  subst hsz
  have hw := wk_start hP hD0
  have hA : ∀ q : Nat, s.heap.size ≤ q → va_A ((wX4 g a0 P0) ++ (wX5 g a1 T1)) s.heap.size q := fun q h => Or.inr h
  generalize va_A ((wX4 g a0 P0) ++ (wX5 g a1 T1)) s.heap.size = A at hw hA ⊢
  clear hP hD0
  have hl := lv_entry ([.ref (a0 0), .ref (a1 0)]) (n := 3) (Nat.le_of_ble_eq_true rfl)
  rw [lg_entry_eq]
  generalize (lg_sl ([.ref (a0 0), .ref (a1 0)]) ++ List.replicate (3 - (lg_sl ([.ref (a0 0), .ref (a1 0)])).length) Slot.unset).toArray = ls at hl ⊢
  have hl : lv_has ls 3 [(0, .ref (a0 0)), (1, .ref (a1 0))] := hl
  rw [f_X4_readHeard] at hM
  refine lv_aload_n hx hb dX4_readHeard_0 rfl (lv_at hl 0 rfl) ?_
  obtain ⟨q2, h1, hM⟩ := bd hM
  refine rVWp (wc := (wX4 g a0 P0)) (wq := ((wX4 g a0 q2) ++ (wX5 g a1 T1))) (As := []) (rest := []) (q0 := 0) hS (c_X4_advance l g a0 P0 h1) gX4_readHeard_X4_advance rfl hd_X4_advance ⟨Nat.le_of_ble_eq_true rfl, Nat.le_of_ble_eq_true rfl⟩ hK hw hA (pm_2_0 _ _) rfl (pm_2_0 _ _) rfl rfl rfl rfl hl.1 rfl (Nat.le_of_ble_eq_true rfl) dX4_readHeard_1 ⟨Nat.zero_le _, Nat.zero_le _⟩ (fun H locs hw => ?_)
  refine lv_aload_n hx hb dX4_readHeard_4 rfl (lv_at hl 0 rfl) ?_
  refine lv_iconst (v := (0 : Int32)) hx hb dX4_readHeard_5 (by decide) ?_
  refine lv_aload_n hx hb dX4_readHeard_6 rfl (lv_at hl 1 rfl) ?_
  refine wk_get hx hb hts hin_X5 hown hK hw.1 5 2 1 (.int (T1 1 0)) rfl rfl (by decide) (mi 1 rfl) rfl rfl dX4_readHeard_7 ?_
  refine lv_iconst (v := (1 : Int32)) hx hb dX4_readHeard_10 (by decide) ?_
  refine lv_isub hx hb dX4_readHeard_11 ?_
  refine lv_iconst (v := (0 : Int32)) hx hb dX4_readHeard_12 (by decide) ?_
  obtain ⟨q4, h3, hM⟩ := bd hM
  refine rVWp (wc := (wX4 g a0 q2)) (wq := ((wX4 g a0 q4.2) ++ (wX5 g a1 T1))) (As := [.int (0 : Int32), .int ((T1 1 0) - (1 : Int32)), .int (0 : Int32)]) (rest := []) (q0 := 0) hS (c_X4_takeNumber l g a0 q2 (0 : Int32) ((T1 1 0) - (1 : Int32)) (0 : Int32) h3) gX4_readHeard_X4_takeNumber rfl hd_X4_takeNumber ⟨Nat.le_of_ble_eq_true rfl, Nat.le_of_ble_eq_true rfl⟩ hK hw hA (pm_2_0 _ _) rfl (pm_2_0 _ _) rfl rfl rfl rfl hl.1 rfl (Nat.le_of_ble_eq_true rfl) dX4_readHeard_13 ⟨Nat.zero_le _, Nat.zero_le _⟩ (fun H locs hw => ?_)
  refine lv_istore_n (lv' := [(2, .int q4.1), (0, .ref (a0 0)), (1, .ref (a1 0))]) hx hb dX4_readHeard_16 rfl hl (by decide) rfl (fun ls hl => ?_)
  refine lv_iload_n hx hb dX4_readHeard_17 rfl (lv_at hl 0 rfl) ?_
  refine lv_iconst (v := (-1 : Int32)) hx hb dX4_readHeard_18 (by decide) ?_
  refine lv_icmp_eq (tgt := 35) hx hb dX4_readHeard_19 (by decide) (fun c5 => ?_) (fun c5 => ?_)
  · replace hM := itp c5 hM
    refine lv_iconst (v := (0 : Int32)) hx hb dX4_readHeard_35 (by decide) ?_
    obtain rfl := Option.some.inj hM
    exact W.zret hx hb hr (nz (Or.inl rfl)) (fun t ht _ => ⟨rfl, by rw [ht]; exact hw.1, hw.2.2.F ht⟩) hw.2.2.2.2 dX4_readHeard_36
  · replace hM := itn c5 hM
    refine lv_aload_n hx hb dX4_readHeard_22 rfl (lv_at hl 1 rfl) ?_
    refine lv_aload_n hx hb dX4_readHeard_23 rfl (lv_at hl 2 rfl) ?_
    refine lv_iload_n hx hb dX4_readHeard_24 rfl (lv_at hl 0 rfl) ?_
    obtain ⟨q7, h6, hM⟩ := bd hM
    refine rVWp (wc := ((wX4 g a0 q4.2) ++ (wX5 g a1 T1))) (wq := ((wX4 g a0 q7.2.1) ++ (wX5 g a1 q7.2.2))) (As := [.ref (a1 0), .int q4.1]) (rest := []) (q0 := 0) hS (c_X4_readSightHeard l g a0 a1 q4.2 T1 q4.1 h6) gX4_readHeard_X4_readSightHeard rfl hd_X4_readSightHeard ⟨Nat.le_of_ble_eq_true rfl, Nat.le_of_ble_eq_true rfl⟩ hK hw hA (pm_2_0_1 _ _) rfl (pm_2_0_1 _ _) rfl rfl rfl rfl hl.1 rfl (Nat.le_of_ble_eq_true rfl) dX4_readHeard_25 ⟨Nat.zero_le _, Nat.zero_le _⟩ (fun H locs hw => ?_)
    have hJ14 : ∀ (H : Heap) (locs : List Loc) (x13 : Int32) (ls : Array Slot), Wk g A s.heap H locs ((wX4 g a0 q7.2.1) ++ (wX5 g a1 q7.2.2)) → x13 = (if q7.1 = 0 then (0 : Int32) else (1 : Int32)) → lv_has ls 3 [] → W p l e (headSpec wsX4_readHeard ({ frames := 4, cells := 0, slots := 0, locals := 89 } : Room)).room s m ([.ref (a0 0), .ref (a1 0)] : List Value).toArray below meth c H locs 0 0 (MQ below (QcW g (some (.int q.1)) ((wX4 g a0 q.2.1) ++ (wX5 g a1 q.2.2)) A) ([.ref (a0 0), .ref (a1 0)] : List Value).toArray s 0 0 A) (F0 m 36 ls [.int x13]) := by
      intro H locs x13 ls hw hxx13 hl
      subst hxx13
      obtain rfl := Option.some.inj hM
      exact W.zret hx hb hr (nz (by repeat (first | exact Or.inl rfl | exact Or.inr rfl | split))) (fun t ht _ => ⟨rfl, by rw [ht]; exact hw.1, hw.2.2.F ht⟩) hw.2.2.2.2 dX4_readHeard_36
    refine lv_if_eq (tgt := 35) hx hb dX4_readHeard_28 (by decide) (fun c8 => ?_) (fun c8 => ?_)
    · refine lv_iconst (v := (0 : Int32)) hx hb dX4_readHeard_35 (by decide) ?_
      exact hJ14 _ _ _ _ hw (by first | rfl | (simp only [if_pos c8])) (lv_sub hl [] rfl)
    · refine lv_iconst (v := (1 : Int32)) hx hb dX4_readHeard_31 (by decide) ?_
      refine lv_goto (tgt := 36) hx hb dX4_readHeard_32 (by decide) ?_
      exact hJ14 _ _ _ _ hw (by first | rfl | (simp only [if_neg c8])) (lv_sub hl [] rfl)
theorem hd_X4_readHears : yX4_readHears.cls = RX4 ∧ yX4_readHears.cls ≠ "java/lang/invoke/MethodHandle" ∧ yX4_readHears.cls ≠ "java/lang/invoke/VarHandle" ∧ (parseMethodDescriptor yX4_readHears.desc).map (fun d => d.parameters.length) = some 1 := by decide +kernel
set_option maxHeartbeats 4000000 in
set_option maxRecDepth 100000 in
theorem c_X4_readHears (l : Launch) (g : Gm) (a0 : Nat → Nat) (a1 : Nat → Nat) (P0 : TS) (T1 : TS) {q : (Int32 × TS × TS)} (hM : f_X4_readHears P0 T1 = some q) : MW l yX4_readHears wsX4_readHears 3 66 g [.ref (a0 0), .ref (a1 0)] ((wX4 g a0 P0) ++ (wX5 g a1 T1)) (some (.int q.1)) ((wX4 g a0 q.2.1) ++ (wX5 g a1 q.2.2)) := by
  intro sz
  refine Met.ofW (cc := cX4_readHears) (maxL := 4) (ret := (some .boolean)) (by decide) rfl ?_
  intro p e s m args below meth c s₁ B hml hv
  obtain ⟨rfl, hsz, hP, hK, hD0⟩ := hv
  have hx := B.exec; have hb := B.bytes; have hr := B.returns
  have hts := atoms_spec (ws := wsX4_readHears) B.pre
  have hown : s.vm.findClass RX4 = some m.cls := findClass_of_methodNamed B.named
  have hlocks := B.notSynchronized
  have hS : CallFix p m c cX4_readHears 4 s _ wsX4_readHears RX4 := ⟨hx, hb, hml, hown, hts⟩
  have hin_X5 : ∀ w ∈ wsX50, w ∈ wsX4_readHears := fun w h => (List.mem_cons_of_mem _ (List.mem_append_left _ (List.mem_append_right _ h)))
  subst hsz
  have hw := wk_start hP hD0
  have hA : ∀ q : Nat, s.heap.size ≤ q → va_A ((wX4 g a0 P0) ++ (wX5 g a1 T1)) s.heap.size q := fun q h => Or.inr h
  generalize va_A ((wX4 g a0 P0) ++ (wX5 g a1 T1)) s.heap.size = A at hw hA ⊢
  clear hP hD0
  have hl := lv_entry ([.ref (a0 0), .ref (a1 0)]) (n := 4) (Nat.le_of_ble_eq_true rfl)
  rw [lg_entry_eq]
  generalize (lg_sl ([.ref (a0 0), .ref (a1 0)]) ++ List.replicate (4 - (lg_sl ([.ref (a0 0), .ref (a1 0)])).length) Slot.unset).toArray = ls at hl ⊢
  have hl : lv_has ls 4 [(0, .ref (a0 0)), (1, .ref (a1 0))] := hl
  rw [f_X4_readHears] at hM
  refine lv_aload_n hx hb dX4_readHears_0 rfl (lv_at hl 0 rfl) ?_
  obtain ⟨q2, h1, hM⟩ := bd hM
  refine rVWp (wc := (wX4 g a0 P0)) (wq := ((wX4 g a0 q2) ++ (wX5 g a1 T1))) (As := []) (rest := []) (q0 := 0) hS (c_X4_advance l g a0 P0 h1) gX4_readHears_X4_advance rfl hd_X4_advance ⟨Nat.le_of_ble_eq_true rfl, Nat.le_of_ble_eq_true rfl⟩ hK hw hA (pm_2_0 _ _) rfl (pm_2_0 _ _) rfl rfl rfl rfl hl.1 rfl (Nat.le_of_ble_eq_true rfl) dX4_readHears_1 ⟨Nat.zero_le _, Nat.zero_le _⟩ (fun H locs hw => ?_)
  refine lv_aload_n hx hb dX4_readHears_4 rfl (lv_at hl 0 rfl) ?_
  refine lv_iconst (v := (0 : Int32)) hx hb dX4_readHears_5 (by decide) ?_
  refine lv_aload_n hx hb dX4_readHears_6 rfl (lv_at hl 1 rfl) ?_
  refine wk_get hx hb hts hin_X5 hown hK hw.1 5 2 1 (.int (T1 1 0)) rfl rfl (by decide) (mi 1 rfl) rfl rfl dX4_readHears_7 ?_
  refine lv_iconst (v := (1 : Int32)) hx hb dX4_readHears_10 (by decide) ?_
  refine lv_isub hx hb dX4_readHears_11 ?_
  refine lv_iconst (v := (0 : Int32)) hx hb dX4_readHears_12 (by decide) ?_
  obtain ⟨q4, h3, hM⟩ := bd hM
  refine rVWp (wc := (wX4 g a0 q2)) (wq := ((wX4 g a0 q4.2) ++ (wX5 g a1 T1))) (As := [.int (0 : Int32), .int ((T1 1 0) - (1 : Int32)), .int (0 : Int32)]) (rest := []) (q0 := 0) hS (c_X4_takeNumber l g a0 q2 (0 : Int32) ((T1 1 0) - (1 : Int32)) (0 : Int32) h3) gX4_readHears_X4_takeNumber rfl hd_X4_takeNumber ⟨Nat.le_of_ble_eq_true rfl, Nat.le_of_ble_eq_true rfl⟩ hK hw hA (pm_2_0 _ _) rfl (pm_2_0 _ _) rfl rfl rfl rfl hl.1 rfl (Nat.le_of_ble_eq_true rfl) dX4_readHears_13 ⟨Nat.zero_le _, Nat.zero_le _⟩ (fun H locs hw => ?_)
  refine lv_istore_n (lv' := [(2, .int q4.1), (0, .ref (a0 0)), (1, .ref (a1 0))]) hx hb dX4_readHears_16 rfl hl (by decide) rfl (fun ls hl => ?_)
  refine lv_iload_n hx hb dX4_readHears_17 rfl (lv_at hl 0 rfl) ?_
  refine lv_iconst (v := (-1 : Int32)) hx hb dX4_readHears_18 (by decide) ?_
  refine lv_icmp_ne (tgt := 24) hx hb dX4_readHears_19 (by decide) (fun c5 => ?_) (fun c5 => ?_)
  · replace hM := itn c5 hM
    refine lv_aload_n hx hb dX4_readHears_24 rfl (lv_at hl 1 rfl) ?_
    refine lv_iconst (v := (0 : Int32)) hx hb dX4_readHears_25 (by decide) ?_
    refine lv_aload_n hx hb dX4_readHears_26 rfl (lv_at hl 2 rfl) ?_
    refine wk_get hx hb hts hin_X5 hown hK hw.1 5 2 1 (.int (T1 1 0)) rfl rfl (by decide) (mi 1 rfl) rfl rfl dX4_readHears_27 ?_
    refine lv_iconst (v := (1 : Int32)) hx hb dX4_readHears_30 (by decide) ?_
    refine lv_isub hx hb dX4_readHears_31 ?_
    refine lv_iconst (v := (1 : Int32)) hx hb dX4_readHears_32 (by decide) ?_
    refine lv_iload_n hx hb dX4_readHears_33 rfl (lv_at hl 0 rfl) ?_
    refine lv_ishl hx hb dX4_readHears_34 ?_
    obtain ⟨q7, h6, hM⟩ := bd hM
    refine rVWp (wc := (wX4 g a0 q4.2)) (wq := ((wX4 g a0 q7.2) ++ (wX5 g a1 T1))) (As := [.int (0 : Int32), .int ((T1 1 0) - (1 : Int32)), .int ((1 : Int32) <<< (q4.1 &&& 31))]) (rest := []) (q0 := 0) hS (c_X4_takeNumber l g a0 q4.2 (0 : Int32) ((T1 1 0) - (1 : Int32)) ((1 : Int32) <<< (q4.1 &&& 31)) h6) gX4_readHears_X4_takeNumber rfl hd_X4_takeNumber ⟨Nat.le_of_ble_eq_true rfl, Nat.le_of_ble_eq_true rfl⟩ hK hw hA (pm_2_0 _ _) rfl (pm_2_0 _ _) rfl rfl rfl rfl hl.1 rfl (Nat.le_of_ble_eq_true rfl) dX4_readHears_35 ⟨Nat.zero_le _, Nat.zero_le _⟩ (fun H locs hw => ?_)
    refine lv_istore_n (lv' := [(3, .int q7.1), (2, .int q4.1), (0, .ref (a0 0)), (1, .ref (a1 0))]) hx hb dX4_readHears_38 rfl hl (by decide) rfl (fun ls hl => ?_)
    refine lv_iload_n hx hb dX4_readHears_39 rfl (lv_at hl 0 rfl) ?_
    refine lv_iconst (v := (-1 : Int32)) hx hb dX4_readHears_40 (by decide) ?_
    refine lv_icmp_ne (tgt := 46) hx hb dX4_readHears_41 (by decide) (fun c8 => ?_) (fun c8 => ?_)
    · replace hM := itn c8 hM
      refine lv_aload_n hx hb dX4_readHears_46 rfl (lv_at hl 3 rfl) ?_
      refine lv_iload_n hx hb dX4_readHears_47 rfl (lv_at hl 1 rfl) ?_
      refine lv_iload_n hx hb dX4_readHears_48 rfl (lv_at hl 0 rfl) ?_
      refine lv_iconst (v := (1 : Int32)) hx hb dX4_readHears_49 (by decide) ?_
      obtain ⟨q10, h9, hM⟩ := bd hM
      refine rVWp (wc := (wX5 g a1 T1)) (wq := ((wX4 g a0 q7.2) ++ (wX5 g a1 q10))) (As := [.int q4.1, .int q7.1, .int (1 : Int32)]) (rest := []) (q0 := 0) hS (c_X5_putHears l g a1 T1 q4.1 q7.1 (1 : Int32) h9) gX4_readHears_X5_putHears rfl hd_X5_putHears ⟨Nat.le_of_ble_eq_true rfl, Nat.le_of_ble_eq_true rfl⟩ hK hw hA (pm_2_1 _ _) rfl (pm_2_1 _ _) rfl rfl rfl rfl hl.1 rfl (Nat.le_of_ble_eq_true rfl) dX4_readHears_50 ⟨Nat.zero_le _, Nat.zero_le _⟩ (fun H locs hw => ?_)
      refine lv_iconst (v := (1 : Int32)) hx hb dX4_readHears_53 (by decide) ?_
      obtain rfl := Option.some.inj hM
      exact W.zret hx hb hr (nz (Or.inr rfl)) (fun t ht _ => ⟨rfl, by rw [ht]; exact hw.1, hw.2.2.F ht⟩) hw.2.2.2.2 dX4_readHears_54
    · replace hM := itp c8 hM
      refine lv_iconst (v := (0 : Int32)) hx hb dX4_readHears_44 (by decide) ?_
      obtain rfl := Option.some.inj hM
      exact W.zret hx hb hr (nz (Or.inl rfl)) (fun t ht _ => ⟨rfl, by rw [ht]; exact hw.1, hw.2.2.F ht⟩) hw.2.2.2.2 dX4_readHears_45
  · replace hM := itp c5 hM
    refine lv_iconst (v := (0 : Int32)) hx hb dX4_readHears_22 (by decide) ?_
    obtain rfl := Option.some.inj hM
    exact W.zret hx hb hr (nz (Or.inl rfl)) (fun t ht _ => ⟨rfl, by rw [ht]; exact hw.1, hw.2.2.F ht⟩) hw.2.2.2.2 dX4_readHears_23
theorem hd_X4_readSightSeen : yX4_readSightSeen.cls = RX4 ∧ yX4_readSightSeen.cls ≠ "java/lang/invoke/MethodHandle" ∧ yX4_readSightSeen.cls ≠ "java/lang/invoke/VarHandle" ∧ (parseMethodDescriptor yX4_readSightSeen.desc).map (fun d => d.parameters.length) = some 3 := by decide +kernel
set_option maxHeartbeats 4000000 in
set_option maxRecDepth 100000 in
theorem c_X4_readSightSeen (l : Launch) (g : Gm) (a0 : Nat → Nat) (a1 : Nat → Nat) (P0 : TS) (T1 : TS) (p2 : Int32) (p3 : Int32) {q : (Int32 × TS × TS)} (hM : f_X4_readSightSeen P0 T1 p2 p3 = some q) : MW l yX4_readSightSeen wsX4_readSightSeen 3 66 g [.ref (a0 0), .ref (a1 0), .int p2, .int p3] ((wX4 g a0 P0) ++ (wX5 g a1 T1)) (some (.int q.1)) ((wX4 g a0 q.2.1) ++ (wX5 g a1 q.2.2)) := by
  intro sz
  refine Met.ofW (cc := cX4_readSightSeen) (maxL := 5) (ret := (some .boolean)) (by decide) rfl ?_
  intro p e s m args below meth c s₁ B hml hv
  obtain ⟨rfl, hsz, hP, hK, hD0⟩ := hv
  have hx := B.exec; have hb := B.bytes; have hr := B.returns
  have hts := atoms_spec (ws := wsX4_readSightSeen) B.pre
  have hown : s.vm.findClass RX4 = some m.cls := findClass_of_methodNamed B.named
  have hlocks := B.notSynchronized
  have hS : CallFix p m c cX4_readSightSeen 5 s _ wsX4_readSightSeen RX4 := ⟨hx, hb, hml, hown, hts⟩
  have hin_X5 : ∀ w ∈ wsX50, w ∈ wsX4_readSightSeen := fun w h => (List.mem_cons_of_mem _ (List.mem_append_left _ (List.mem_append_right _ h)))
  subst hsz
  have hw := wk_start hP hD0
  have hA : ∀ q : Nat, s.heap.size ≤ q → va_A ((wX4 g a0 P0) ++ (wX5 g a1 T1)) s.heap.size q := fun q h => Or.inr h
  generalize va_A ((wX4 g a0 P0) ++ (wX5 g a1 T1)) s.heap.size = A at hw hA ⊢
  clear hP hD0
  have hl := lv_entry ([.ref (a0 0), .ref (a1 0), .int p2, .int p3]) (n := 5) (Nat.le_of_ble_eq_true rfl)
  rw [lg_entry_eq]
  generalize (lg_sl ([.ref (a0 0), .ref (a1 0), .int p2, .int p3]) ++ List.replicate (5 - (lg_sl ([.ref (a0 0), .ref (a1 0), .int p2, .int p3])).length) Slot.unset).toArray = ls at hl ⊢
  have hl : lv_has ls 5 [(0, .ref (a0 0)), (1, .ref (a1 0)), (2, .int p2), (3, .int p3)] := hl
  rw [f_X4_readSightSeen] at hM
  refine lv_aload_n hx hb dX4_readSightSeen_0 rfl (lv_at hl 0 rfl) ?_
  refine lv_iconst (v := (0 : Int32)) hx hb dX4_readSightSeen_1 (by decide) ?_
  refine lv_aload_n hx hb dX4_readSightSeen_2 rfl (lv_at hl 1 rfl) ?_
  refine wk_get hx hb hts hin_X5 hown hK hw.1 5 2 0 (.int (T1 0 0)) rfl rfl (by decide) (mi 1 rfl) rfl rfl dX4_readSightSeen_3 ?_
  refine lv_iconst (v := (1 : Int32)) hx hb dX4_readSightSeen_6 (by decide) ?_
  refine lv_isub hx hb dX4_readSightSeen_7 ?_
  refine lv_iconst (v := (0 : Int32)) hx hb dX4_readSightSeen_8 (by decide) ?_
  obtain ⟨q2, h1, hM⟩ := bd hM
  refine rVWp (wc := (wX4 g a0 P0)) (wq := ((wX4 g a0 q2.2) ++ (wX5 g a1 T1))) (As := [.int (0 : Int32), .int ((T1 0 0) - (1 : Int32)), .int (0 : Int32)]) (rest := []) (q0 := 0) hS (c_X4_takeNumber l g a0 P0 (0 : Int32) ((T1 0 0) - (1 : Int32)) (0 : Int32) h1) gX4_readSightSeen_X4_takeNumber rfl hd_X4_takeNumber ⟨Nat.le_of_ble_eq_true rfl, Nat.le_of_ble_eq_true rfl⟩ hK hw hA (pm_2_0 _ _) rfl (pm_2_0 _ _) rfl rfl rfl rfl hl.1 rfl (Nat.le_of_ble_eq_true rfl) dX4_readSightSeen_9 ⟨Nat.zero_le _, Nat.zero_le _⟩ (fun H locs hw => ?_)
  refine lv_istore (lv' := [(4, .int q2.1), (0, .ref (a0 0)), (1, .ref (a1 0)), (2, .int p2), (3, .int p3)]) hx hb dX4_readSightSeen_12 hl (by decide) rfl (fun ls hl => ?_)
  refine lv_iload hx hb dX4_readSightSeen_14 (lv_at hl 0 rfl) ?_
  refine lv_iconst (v := (-1 : Int32)) hx hb dX4_readSightSeen_16 (by decide) ?_
  refine lv_icmp_ne (tgt := 22) hx hb dX4_readSightSeen_17 (by decide) (fun c3 => ?_) (fun c3 => ?_)
  · replace hM := itn c3 hM
    refine lv_aload_n hx hb dX4_readSightSeen_22 rfl (lv_at hl 2 rfl) ?_
    refine lv_iload_n hx hb dX4_readSightSeen_23 rfl (lv_at hl 3 rfl) ?_
    refine lv_iload hx hb dX4_readSightSeen_24 (lv_at hl 0 rfl) ?_
    refine lv_iload_n hx hb dX4_readSightSeen_26 rfl (lv_at hl 4 rfl) ?_
    obtain ⟨q5, h4, hM⟩ := bd hM
    refine rVWp (wc := (wX5 g a1 T1)) (wq := ((wX4 g a0 q2.2) ++ (wX5 g a1 q5))) (As := [.int p2, .int q2.1, .int p3]) (rest := []) (q0 := 0) hS (c_X5_putSeen l g a1 T1 p2 q2.1 p3 h4) gX4_readSightSeen_X5_putSeen rfl hd_X5_putSeen ⟨Nat.le_of_ble_eq_true rfl, Nat.le_of_ble_eq_true rfl⟩ hK hw hA (pm_2_1 _ _) rfl (pm_2_1 _ _) rfl rfl rfl rfl hl.1 rfl (Nat.le_of_ble_eq_true rfl) dX4_readSightSeen_27 ⟨Nat.zero_le _, Nat.zero_le _⟩ (fun H locs hw => ?_)
    refine lv_iconst (v := (1 : Int32)) hx hb dX4_readSightSeen_30 (by decide) ?_
    obtain rfl := Option.some.inj hM
    exact W.zret hx hb hr (nz (Or.inr rfl)) (fun t ht _ => ⟨rfl, by rw [ht]; exact hw.1, hw.2.2.F ht⟩) hw.2.2.2.2 dX4_readSightSeen_31
  · replace hM := itp c3 hM
    refine lv_iconst (v := (0 : Int32)) hx hb dX4_readSightSeen_20 (by decide) ?_
    obtain rfl := Option.some.inj hM
    exact W.zret hx hb hr (nz (Or.inl rfl)) (fun t ht _ => ⟨rfl, by rw [ht]; exact hw.1, hw.2.2.F ht⟩) hw.2.2.2.2 dX4_readSightSeen_21
theorem hd_X4_readSeen : yX4_readSeen.cls = RX4 ∧ yX4_readSeen.cls ≠ "java/lang/invoke/MethodHandle" ∧ yX4_readSeen.cls ≠ "java/lang/invoke/VarHandle" ∧ (parseMethodDescriptor yX4_readSeen.desc).map (fun d => d.parameters.length) = some 2 := by decide +kernel
set_option maxHeartbeats 4000000 in
set_option maxRecDepth 100000 in
theorem c_X4_readSeen (l : Launch) (g : Gm) (a0 : Nat → Nat) (a1 : Nat → Nat) (P0 : TS) (T1 : TS) (p2 : Int32) {q : (Int32 × TS × TS)} (hM : f_X4_readSeen P0 T1 p2 = some q) : MW l yX4_readSeen wsX4_readSeen 4 90 g [.ref (a0 0), .ref (a1 0), .int p2] ((wX4 g a0 P0) ++ (wX5 g a1 T1)) (some (.int q.1)) ((wX4 g a0 q.2.1) ++ (wX5 g a1 q.2.2)) := by
  intro sz
  refine Met.ofW (cc := cX4_readSeen) (maxL := 4) (ret := (some .boolean)) (by decide) rfl ?_
  intro p e s m args below meth c s₁ B hml hv
  obtain ⟨rfl, hsz, hP, hK, hD0⟩ := hv
  have hx := B.exec; have hb := B.bytes; have hr := B.returns
  have hts := atoms_spec (ws := wsX4_readSeen) B.pre
  have hown : s.vm.findClass RX4 = some m.cls := findClass_of_methodNamed B.named
  have hlocks := B.notSynchronized
  have hS : CallFix p m c cX4_readSeen 4 s _ wsX4_readSeen RX4 := ⟨hx, hb, hml, hown, hts⟩
  have hin_X5 : ∀ w ∈ wsX50, w ∈ wsX4_readSeen := fun w h => (List.mem_cons_of_mem _ (List.mem_append_left _ (List.mem_append_right _ h)))
  subst hsz
  have hw := wk_start hP hD0
  have hA : ∀ q : Nat, s.heap.size ≤ q → va_A ((wX4 g a0 P0) ++ (wX5 g a1 T1)) s.heap.size q := fun q h => Or.inr h
  generalize va_A ((wX4 g a0 P0) ++ (wX5 g a1 T1)) s.heap.size = A at hw hA ⊢
  clear hP hD0
  have hl := lv_entry ([.ref (a0 0), .ref (a1 0), .int p2]) (n := 4) (Nat.le_of_ble_eq_true rfl)
  rw [lg_entry_eq]
  generalize (lg_sl ([.ref (a0 0), .ref (a1 0), .int p2]) ++ List.replicate (4 - (lg_sl ([.ref (a0 0), .ref (a1 0), .int p2])).length) Slot.unset).toArray = ls at hl ⊢
  have hl : lv_has ls 4 [(0, .ref (a0 0)), (1, .ref (a1 0)), (2, .int p2)] := hl
  rw [f_X4_readSeen] at hM
  refine lv_aload_n hx hb dX4_readSeen_0 rfl (lv_at hl 0 rfl) ?_
  obtain ⟨q2, h1, hM⟩ := bd hM
  refine rVWp (wc := (wX4 g a0 P0)) (wq := ((wX4 g a0 q2) ++ (wX5 g a1 T1))) (As := []) (rest := []) (q0 := 0) hS (c_X4_advance l g a0 P0 h1) gX4_readSeen_X4_advance rfl hd_X4_advance ⟨Nat.le_of_ble_eq_true rfl, Nat.le_of_ble_eq_true rfl⟩ hK hw hA (pm_2_0 _ _) rfl (pm_2_0 _ _) rfl rfl rfl rfl hl.1 rfl (Nat.le_of_ble_eq_true rfl) dX4_readSeen_1 ⟨Nat.zero_le _, Nat.zero_le _⟩ (fun H locs hw => ?_)
  refine lv_aload_n hx hb dX4_readSeen_4 rfl (lv_at hl 0 rfl) ?_
  refine lv_iconst (v := (0 : Int32)) hx hb dX4_readSeen_5 (by decide) ?_
  refine lv_aload_n hx hb dX4_readSeen_6 rfl (lv_at hl 1 rfl) ?_
  refine wk_get hx hb hts hin_X5 hown hK hw.1 5 2 1 (.int (T1 1 0)) rfl rfl (by decide) (mi 1 rfl) rfl rfl dX4_readSeen_7 ?_
  refine lv_iconst (v := (1 : Int32)) hx hb dX4_readSeen_10 (by decide) ?_
  refine lv_isub hx hb dX4_readSeen_11 ?_
  refine lv_aload_n hx hb dX4_readSeen_12 rfl (lv_at hl 1 rfl) ?_
  obtain ⟨q4, h3, hM⟩ := bd hM
  refine rVR (wc := (wX5 g a1 T1)) (As := []) (rest := [.int ((T1 1 0) - (1 : Int32)), .int (0 : Int32), .ref (a0 0)]) (q0 := 0) hS (c_X5_allBlind l g a1 T1 h3) gX4_readSeen_X5_allBlind rfl hd_X5_allBlind ⟨Nat.le_of_ble_eq_true rfl, Nat.le_of_ble_eq_true rfl⟩ hK (va_P.pm hw.1 (pm_2_1 _ _)) rfl rfl rfl rfl hl.1 rfl (Nat.le_of_ble_eq_true rfl) dX4_readSeen_13 ⟨Nat.zero_le _, Nat.zero_le _⟩ ?_
  obtain ⟨q6, h5, hM⟩ := bd hM
  refine rVWp (wc := (wX4 g a0 q2)) (wq := ((wX4 g a0 q6.2) ++ (wX5 g a1 T1))) (As := [.int (0 : Int32), .int ((T1 1 0) - (1 : Int32)), .int q4]) (rest := []) (q0 := 0) hS (c_X4_takeNumber l g a0 q2 (0 : Int32) ((T1 1 0) - (1 : Int32)) q4 h5) gX4_readSeen_X4_takeNumber rfl hd_X4_takeNumber ⟨Nat.le_of_ble_eq_true rfl, Nat.le_of_ble_eq_true rfl⟩ hK hw hA (pm_2_0 _ _) rfl (pm_2_0 _ _) rfl rfl rfl rfl hl.1 rfl (Nat.le_of_ble_eq_true rfl) dX4_readSeen_16 ⟨Nat.zero_le _, Nat.zero_le _⟩ (fun H locs hw => ?_)
  refine lv_istore_n (lv' := [(3, .int q6.1), (0, .ref (a0 0)), (1, .ref (a1 0)), (2, .int p2)]) hx hb dX4_readSeen_19 rfl hl (by decide) rfl (fun ls hl => ?_)
  refine lv_iload_n hx hb dX4_readSeen_20 rfl (lv_at hl 0 rfl) ?_
  refine lv_iconst (v := (-1 : Int32)) hx hb dX4_readSeen_21 (by decide) ?_
  refine lv_icmp_eq (tgt := 39) hx hb dX4_readSeen_22 (by decide) (fun c7 => ?_) (fun c7 => ?_)
  · replace hM := itp c7 hM
    refine lv_iconst (v := (0 : Int32)) hx hb dX4_readSeen_39 (by decide) ?_
    obtain rfl := Option.some.inj hM
    exact W.zret hx hb hr (nz (Or.inl rfl)) (fun t ht _ => ⟨rfl, by rw [ht]; exact hw.1, hw.2.2.F ht⟩) hw.2.2.2.2 dX4_readSeen_40
  · replace hM := itn c7 hM
    refine lv_aload_n hx hb dX4_readSeen_25 rfl (lv_at hl 1 rfl) ?_
    refine lv_aload_n hx hb dX4_readSeen_26 rfl (lv_at hl 2 rfl) ?_
    refine lv_iload_n hx hb dX4_readSeen_27 rfl (lv_at hl 0 rfl) ?_
    refine lv_iload_n hx hb dX4_readSeen_28 rfl (lv_at hl 3 rfl) ?_
    obtain ⟨q9, h8, hM⟩ := bd hM
    refine rVWp (wc := ((wX4 g a0 q6.2) ++ (wX5 g a1 T1))) (wq := ((wX4 g a0 q9.2.1) ++ (wX5 g a1 q9.2.2))) (As := [.ref (a1 0), .int q6.1, .int p2]) (rest := []) (q0 := 0) hS (c_X4_readSightSeen l g a0 a1 q6.2 T1 q6.1 p2 h8) gX4_readSeen_X4_readSightSeen rfl hd_X4_readSightSeen ⟨Nat.le_of_ble_eq_true rfl, Nat.le_of_ble_eq_true rfl⟩ hK hw hA (pm_2_0_1 _ _) rfl (pm_2_0_1 _ _) rfl rfl rfl rfl hl.1 rfl (Nat.le_of_ble_eq_true rfl) dX4_readSeen_29 ⟨Nat.zero_le _, Nat.zero_le _⟩ (fun H locs hw => ?_)
    have hJ16 : ∀ (H : Heap) (locs : List Loc) (x15 : Int32) (ls : Array Slot), Wk g A s.heap H locs ((wX4 g a0 q9.2.1) ++ (wX5 g a1 q9.2.2)) → x15 = (if q9.1 = 0 then (0 : Int32) else (1 : Int32)) → lv_has ls 4 [] → W p l e (headSpec wsX4_readSeen ({ frames := 4, cells := 0, slots := 0, locals := 90 } : Room)).room s m ([.ref (a0 0), .ref (a1 0), .int p2] : List Value).toArray below meth c H locs 0 0 (MQ below (QcW g (some (.int q.1)) ((wX4 g a0 q.2.1) ++ (wX5 g a1 q.2.2)) A) ([.ref (a0 0), .ref (a1 0), .int p2] : List Value).toArray s 0 0 A) (F0 m 40 ls [.int x15]) := by
      intro H locs x15 ls hw hxx15 hl
      subst hxx15
      obtain rfl := Option.some.inj hM
      exact W.zret hx hb hr (nz (by repeat (first | exact Or.inl rfl | exact Or.inr rfl | split))) (fun t ht _ => ⟨rfl, by rw [ht]; exact hw.1, hw.2.2.F ht⟩) hw.2.2.2.2 dX4_readSeen_40
    refine lv_if_eq (tgt := 39) hx hb dX4_readSeen_32 (by decide) (fun c10 => ?_) (fun c10 => ?_)
    · refine lv_iconst (v := (0 : Int32)) hx hb dX4_readSeen_39 (by decide) ?_
      exact hJ16 _ _ _ _ hw (by first | rfl | (simp only [if_pos c10])) (lv_sub hl [] rfl)
    · refine lv_iconst (v := (1 : Int32)) hx hb dX4_readSeen_35 (by decide) ?_
      refine lv_goto (tgt := 40) hx hb dX4_readSeen_36 (by decide) ?_
      exact hJ16 _ _ _ _ hw (by first | rfl | (simp only [if_neg c10])) (lv_sub hl [] rfl)
theorem hd_X4_readSetting : yX4_readSetting.cls = RX4 ∧ yX4_readSetting.cls ≠ "java/lang/invoke/MethodHandle" ∧ yX4_readSetting.cls ≠ "java/lang/invoke/VarHandle" ∧ (parseMethodDescriptor yX4_readSetting.desc).map (fun d => d.parameters.length) = some 2 := by decide +kernel
set_option maxHeartbeats 4000000 in
set_option maxRecDepth 100000 in
theorem c_X4_readSetting (l : Launch) (g : Gm) (a0 : Nat → Nat) (a1 : Nat → Nat) (P0 : TS) (T1 : TS) (p2 : Int32) {q : (Int32 × TS × TS)} (hM : f_X4_readSetting P0 T1 p2 = some q) : MW l yX4_readSetting wsX4_readSetting 3 66 g [.ref (a0 0), .ref (a1 0), .int p2] ((wX4 g a0 P0) ++ (wX5 g a1 T1)) (some (.int q.1)) ((wX4 g a0 q.2.1) ++ (wX5 g a1 q.2.2)) := by
  intro sz
  refine Met.ofW (cc := cX4_readSetting) (maxL := 4) (ret := (some .boolean)) (by decide) rfl ?_
  intro p e s m args below meth c s₁ B hml hv
  obtain ⟨rfl, hsz, hP, hK, hD0⟩ := hv
  have hx := B.exec; have hb := B.bytes; have hr := B.returns
  have hts := atoms_spec (ws := wsX4_readSetting) B.pre
  have hown : s.vm.findClass RX4 = some m.cls := findClass_of_methodNamed B.named
  have hlocks := B.notSynchronized
  have hS : CallFix p m c cX4_readSetting 4 s _ wsX4_readSetting RX4 := ⟨hx, hb, hml, hown, hts⟩
  subst hsz
  have hw := wk_start hP hD0
  have hA : ∀ q : Nat, s.heap.size ≤ q → va_A ((wX4 g a0 P0) ++ (wX5 g a1 T1)) s.heap.size q := fun q h => Or.inr h
  generalize va_A ((wX4 g a0 P0) ++ (wX5 g a1 T1)) s.heap.size = A at hw hA ⊢
  clear hP hD0
  have hl := lv_entry ([.ref (a0 0), .ref (a1 0), .int p2]) (n := 4) (Nat.le_of_ble_eq_true rfl)
  rw [lg_entry_eq]
  generalize (lg_sl ([.ref (a0 0), .ref (a1 0), .int p2]) ++ List.replicate (4 - (lg_sl ([.ref (a0 0), .ref (a1 0), .int p2])).length) Slot.unset).toArray = ls at hl ⊢
  have hl : lv_has ls 4 [(0, .ref (a0 0)), (1, .ref (a1 0)), (2, .int p2)] := hl
  rw [f_X4_readSetting] at hM
  refine lv_aload_n hx hb dX4_readSetting_0 rfl (lv_at hl 0 rfl) ?_
  obtain ⟨q2, h1, hM⟩ := bd hM
  refine rVWp (wc := (wX4 g a0 P0)) (wq := ((wX4 g a0 q2) ++ (wX5 g a1 T1))) (As := []) (rest := []) (q0 := 0) hS (c_X4_advance l g a0 P0 h1) gX4_readSetting_X4_advance rfl hd_X4_advance ⟨Nat.le_of_ble_eq_true rfl, Nat.le_of_ble_eq_true rfl⟩ hK hw hA (pm_2_0 _ _) rfl (pm_2_0 _ _) rfl rfl rfl rfl hl.1 rfl (Nat.le_of_ble_eq_true rfl) dX4_readSetting_1 ⟨Nat.zero_le _, Nat.zero_le _⟩ (fun H locs hw => ?_)
  refine lv_aload_n hx hb dX4_readSetting_4 rfl (lv_at hl 0 rfl) ?_
  refine lv_iconst (v := (0 : Int32)) hx hb dX4_readSetting_5 (by decide) ?_
  refine lv_iload_n hx hb dX4_readSetting_6 rfl (lv_at hl 2 rfl) ?_
  refine rSR (wc := ([] : va_W)) (As := [.int p2]) (rest := [.int (0 : Int32), .ref (a0 0)]) hS (c_X5_mostOf l g p2) gX4_readSetting_X5_mostOf rfl hd_X5_mostOf ⟨Nat.le_of_ble_eq_true rfl, Nat.le_of_ble_eq_true rfl⟩ hK (hP_nil) rfl hl.1 rfl (Nat.le_of_ble_eq_true rfl) dX4_readSetting_7 ⟨Nat.zero_le _, Nat.zero_le _⟩ ?_
  refine lv_iconst (v := (0 : Int32)) hx hb dX4_readSetting_10 (by decide) ?_
  obtain ⟨q5, h4, hM⟩ := bd hM
  refine rVWp (wc := (wX4 g a0 q2)) (wq := ((wX4 g a0 q5.2) ++ (wX5 g a1 T1))) (As := [.int (0 : Int32), .int (f_X5_mostOf p2), .int (0 : Int32)]) (rest := []) (q0 := 0) hS (c_X4_takeNumber l g a0 q2 (0 : Int32) (f_X5_mostOf p2) (0 : Int32) h4) gX4_readSetting_X4_takeNumber rfl hd_X4_takeNumber ⟨Nat.le_of_ble_eq_true rfl, Nat.le_of_ble_eq_true rfl⟩ hK hw hA (pm_2_0 _ _) rfl (pm_2_0 _ _) rfl rfl rfl rfl hl.1 rfl (Nat.le_of_ble_eq_true rfl) dX4_readSetting_11 ⟨Nat.zero_le _, Nat.zero_le _⟩ (fun H locs hw => ?_)
  refine lv_istore_n (lv' := [(3, .int q5.1), (0, .ref (a0 0)), (1, .ref (a1 0)), (2, .int p2)]) hx hb dX4_readSetting_14 rfl hl (by decide) rfl (fun ls hl => ?_)
  refine lv_iload_n hx hb dX4_readSetting_15 rfl (lv_at hl 0 rfl) ?_
  refine lv_iconst (v := (-1 : Int32)) hx hb dX4_readSetting_16 (by decide) ?_
  refine lv_icmp_ne (tgt := 22) hx hb dX4_readSetting_17 (by decide) (fun c6 => ?_) (fun c6 => ?_)
  · replace hM := itn c6 hM
    refine lv_aload_n hx hb dX4_readSetting_22 rfl (lv_at hl 2 rfl) ?_
    refine lv_iload_n hx hb dX4_readSetting_23 rfl (lv_at hl 3 rfl) ?_
    refine lv_iload_n hx hb dX4_readSetting_24 rfl (lv_at hl 0 rfl) ?_
    obtain ⟨q8, h7, hM⟩ := bd hM
    refine rVWp (wc := (wX5 g a1 T1)) (wq := ((wX4 g a0 q5.2) ++ (wX5 g a1 q8))) (As := [.int p2, .int q5.1]) (rest := []) (q0 := 0) hS (c_X5_putSetting l g a1 T1 p2 q5.1 h7) gX4_readSetting_X5_putSetting rfl hd_X5_putSetting ⟨Nat.le_of_ble_eq_true rfl, Nat.le_of_ble_eq_true rfl⟩ hK hw hA (pm_2_1 _ _) rfl (pm_2_1 _ _) rfl rfl rfl rfl hl.1 rfl (Nat.le_of_ble_eq_true rfl) dX4_readSetting_25 ⟨Nat.zero_le _, Nat.zero_le _⟩ (fun H locs hw => ?_)
    refine lv_iconst (v := (1 : Int32)) hx hb dX4_readSetting_28 (by decide) ?_
    obtain rfl := Option.some.inj hM
    exact W.zret hx hb hr (nz (Or.inr rfl)) (fun t ht _ => ⟨rfl, by rw [ht]; exact hw.1, hw.2.2.F ht⟩) hw.2.2.2.2 dX4_readSetting_29
  · replace hM := itp c6 hM
    refine lv_iconst (v := (0 : Int32)) hx hb dX4_readSetting_20 (by decide) ?_
    obtain rfl := Option.some.inj hM
    exact W.zret hx hb hr (nz (Or.inl rfl)) (fun t ht _ => ⟨rfl, by rw [ht]; exact hw.1, hw.2.2.F ht⟩) hw.2.2.2.2 dX4_readSetting_21
theorem hd_X4_readSights : yX4_readSights.cls = RX4 ∧ yX4_readSights.cls ≠ "java/lang/invoke/MethodHandle" ∧ yX4_readSights.cls ≠ "java/lang/invoke/VarHandle" ∧ (parseMethodDescriptor yX4_readSights.desc).map (fun d => d.parameters.length) = some 1 := by decide +kernel
set_option maxHeartbeats 4000000 in
set_option maxRecDepth 100000 in
theorem c_X4_readSights (l : Launch) (g : Gm) (a0 : Nat → Nat) (a1 : Nat → Nat) (P0 : TS) (T1 : TS) {q : (Int32 × TS × TS)} (hM : f_X4_readSights P0 T1 = some q) : MW l yX4_readSights wsX4_readSights 3 66 g [.ref (a0 0), .ref (a1 0)] ((wX4 g a0 P0) ++ (wX5 g a1 T1)) (some (.int q.1)) ((wX4 g a0 q.2.1) ++ (wX5 g a1 q.2.2)) := by
  intro sz
  refine Met.ofW (cc := cX4_readSights) (maxL := 3) (ret := (some .boolean)) (by decide) rfl ?_
  intro p e s m args below meth c s₁ B hml hv
  obtain ⟨rfl, hsz, hP, hK, hD0⟩ := hv
  have hx := B.exec; have hb := B.bytes; have hr := B.returns
  have hts := atoms_spec (ws := wsX4_readSights) B.pre
  have hown : s.vm.findClass RX4 = some m.cls := findClass_of_methodNamed B.named
  have hlocks := B.notSynchronized
  have hS : CallFix p m c cX4_readSights 3 s _ wsX4_readSights RX4 := ⟨hx, hb, hml, hown, hts⟩
  have hin_X5 : ∀ w ∈ wsX50, w ∈ wsX4_readSights := fun w h => (List.mem_cons_of_mem _ (List.mem_append_left _ (List.mem_append_right _ h)))
  subst hsz
  have hw := wk_start hP hD0
  have hA : ∀ q : Nat, s.heap.size ≤ q → va_A ((wX4 g a0 P0) ++ (wX5 g a1 T1)) s.heap.size q := fun q h => Or.inr h
  generalize va_A ((wX4 g a0 P0) ++ (wX5 g a1 T1)) s.heap.size = A at hw hA ⊢
  clear hP hD0
  have hl := lv_entry ([.ref (a0 0), .ref (a1 0)]) (n := 3) (Nat.le_of_ble_eq_true rfl)
  rw [lg_entry_eq]
  generalize (lg_sl ([.ref (a0 0), .ref (a1 0)]) ++ List.replicate (3 - (lg_sl ([.ref (a0 0), .ref (a1 0)])).length) Slot.unset).toArray = ls at hl ⊢
  have hl : lv_has ls 3 [(0, .ref (a0 0)), (1, .ref (a1 0))] := hl
  rw [f_X4_readSights] at hM
  refine lv_aload_n hx hb dX4_readSights_0 rfl (lv_at hl 0 rfl) ?_
  obtain ⟨q2, h1, hM⟩ := bd hM
  refine rVWp (wc := (wX4 g a0 P0)) (wq := ((wX4 g a0 q2) ++ (wX5 g a1 T1))) (As := []) (rest := []) (q0 := 0) hS (c_X4_advance l g a0 P0 h1) gX4_readSights_X4_advance rfl hd_X4_advance ⟨Nat.le_of_ble_eq_true rfl, Nat.le_of_ble_eq_true rfl⟩ hK hw hA (pm_2_0 _ _) rfl (pm_2_0 _ _) rfl rfl rfl rfl hl.1 rfl (Nat.le_of_ble_eq_true rfl) dX4_readSights_1 ⟨Nat.zero_le _, Nat.zero_le _⟩ (fun H locs hw => ?_)
  refine lv_aload_n hx hb dX4_readSights_4 rfl (lv_at hl 0 rfl) ?_
  refine lv_aload_n hx hb dX4_readSights_5 rfl (lv_at hl 1 rfl) ?_
  refine wk_get hx hb hts hin_X5 hown hK hw.1 5 2 0 (.int (T1 0 0)) rfl rfl (by decide) (mi 1 rfl) rfl rfl dX4_readSights_6 ?_
  refine lv_bipush (v := (8 : Int32)) hx hb dX4_readSights_9 (by decide) ?_
  refine lv_iconst (v := (0 : Int32)) hx hb dX4_readSights_11 (by decide) ?_
  obtain ⟨q4, h3, hM⟩ := bd hM
  refine rVWp (wc := (wX4 g a0 q2)) (wq := ((wX4 g a0 q4.2) ++ (wX5 g a1 T1))) (As := [.int (T1 0 0), .int (8 : Int32), .int (0 : Int32)]) (rest := []) (q0 := 0) hS (c_X4_takeNumber l g a0 q2 (T1 0 0) (8 : Int32) (0 : Int32) h3) gX4_readSights_X4_takeNumber rfl hd_X4_takeNumber ⟨Nat.le_of_ble_eq_true rfl, Nat.le_of_ble_eq_true rfl⟩ hK hw hA (pm_2_0 _ _) rfl (pm_2_0 _ _) rfl rfl rfl rfl hl.1 rfl (Nat.le_of_ble_eq_true rfl) dX4_readSights_12 ⟨Nat.zero_le _, Nat.zero_le _⟩ (fun H locs hw => ?_)
  refine lv_istore_n (lv' := [(2, .int q4.1), (0, .ref (a0 0)), (1, .ref (a1 0))]) hx hb dX4_readSights_15 rfl hl (by decide) rfl (fun ls hl => ?_)
  refine lv_iload_n hx hb dX4_readSights_16 rfl (lv_at hl 0 rfl) ?_
  refine lv_iconst (v := (-1 : Int32)) hx hb dX4_readSights_17 (by decide) ?_
  refine lv_icmp_ne (tgt := 23) hx hb dX4_readSights_18 (by decide) (fun c5 => ?_) (fun c5 => ?_)
  · replace hM := itn c5 hM
    refine lv_aload_n hx hb dX4_readSights_23 rfl (lv_at hl 2 rfl) ?_
    refine lv_iload_n hx hb dX4_readSights_24 rfl (lv_at hl 0 rfl) ?_
    refine wk_put (wq := ((wX4 g a0 q4.2) ++ (wX5 g a1 (up T1 0 (fun _ => q4.1))))) hx hb hts hin_X5 tyX5 tyX5_ok nmX5 hown hK hw 5 2 0 rfl rfl (by decide) (mi 1 rfl) rfl rfl rfl rfl (Nat.le_of_ble_eq_true rfl) dX4_readSights_25 rfl (fun H locs hw => ?_)
    refine lv_iconst (v := (1 : Int32)) hx hb dX4_readSights_28 (by decide) ?_
    obtain rfl := Option.some.inj hM
    exact W.zret hx hb hr (nz (Or.inr rfl)) (fun t ht _ => ⟨rfl, by rw [ht]; exact hw.1, hw.2.2.F ht⟩) hw.2.2.2.2 dX4_readSights_29
  · replace hM := itp c5 hM
    refine lv_iconst (v := (0 : Int32)) hx hb dX4_readSights_21 (by decide) ?_
    obtain rfl := Option.some.inj hM
    exact W.zret hx hb hr (nz (Or.inl rfl)) (fun t ht _ => ⟨rfl, by rw [ht]; exact hw.1, hw.2.2.F ht⟩) hw.2.2.2.2 dX4_readSights_22
