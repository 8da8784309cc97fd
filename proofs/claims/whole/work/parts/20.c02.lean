theorem hd_X5_passRounds : yX5_passRounds.cls = RX5 ∧ yX5_passRounds.cls ≠ "java/lang/invoke/MethodHandle" ∧ yX5_passRounds.cls ≠ "java/lang/invoke/VarHandle" ∧ (parseMethodDescriptor yX5_passRounds.desc).map (fun d => d.parameters.length) = some 1 := by decide +kernel
set_option maxHeartbeats 4000000 in
set_option maxRecDepth 100000 in
theorem c_X5_passRounds (l : Launch) (g : Gm) (a0 : Nat → Nat) (T0 : TS) (p1 : Int32) {q : TS} (hM : f_X5_passRounds T0 p1 = some q) : MW l yX5_passRounds wsX5_passRounds 3 71 g [.ref (a0 0), .int p1] (wX5 g a0 T0) none (wX5 g a0 q) := by
  intro sz
  refine Met.ofW (cc := cX5_passRounds) (maxL := 4) (ret := none) (by decide) rfl ?_
  intro p e s m args below meth c s₁ B hml hv
  obtain ⟨rfl, hsz, hP, hK, hD0⟩ := hv
  have hx := B.exec; have hb := B.bytes; have hr := B.returns
  have hts := atoms_spec (ws := wsX5_passRounds) B.pre
  have hown : s.vm.findClass RX5 = some m.cls := findClass_of_methodNamed B.named
  have hlocks := B.notSynchronized
  have hS : CallFix p m c cX5_passRounds 4 s _ wsX5_passRounds RX5 := ⟨hx, hb, hml, hown, hts⟩
  subst hsz
  have hw := wk_start hP hD0
  have hA : ∀ q : Nat, s.heap.size ≤ q → va_A (wX5 g a0 T0) s.heap.size q := fun q h => Or.inr h
  generalize va_A (wX5 g a0 T0) s.heap.size = A at hw hA ⊢
  clear hP hD0
  have hl := lv_entry ([.ref (a0 0), .int p1]) (n := 4) (Nat.le_of_ble_eq_true rfl)
  rw [lg_entry_eq]
  generalize (lg_sl ([.ref (a0 0), .int p1]) ++ List.replicate (4 - (lg_sl ([.ref (a0 0), .int p1])).length) Slot.unset).toArray = ls at hl ⊢
  have hl : lv_has ls 4 [(0, .ref (a0 0)), (1, .int p1)] := hl
  rw [f_X5_passRounds] at hM
  refine lv_iconst (v := (1 : Int32)) hx hb dX5_passRounds_0 (by decide) ?_
  refine lv_istore_n (lv' := [(2, .int (1 : Int32)), (0, .ref (a0 0)), (1, .int p1)]) hx hb dX5_passRounds_1 rfl hl (by decide) rfl (fun ls hl => ?_)
  refine lv_iconst (v := (0 : Int32)) hx hb dX5_passRounds_2 (by decide) ?_
  refine lv_istore_n (lv' := [(3, .int (0 : Int32)), (2, .int (1 : Int32)), (0, .ref (a0 0)), (1, .int p1)]) hx hb dX5_passRounds_3 rfl hl (by decide) rfl (fun ls hl => ?_)
  obtain ⟨q4, hL4, hM⟩ := bd hM
  have hJ4 : ∀ (H : Heap) (locs : List Loc), Wk g A s.heap H locs (wX5 g a0 q4) → ∀ (ls : Array Slot), lv_has ls 4 [] → W p l e (headSpec wsX5_passRounds ({ frames := 3, cells := 0, slots := 0, locals := 71 } : Room)).room s m ([.ref (a0 0), .int p1] : List Value).toArray below meth c H locs 0 0 (MQ below (QcW g none (wX5 g a0 q) A) ([.ref (a0 0), .int p1] : List Value).toArray s 0 0 A) (F0 m 24 ls []) := by
    intro H locs hw ls hl
    obtain rfl := Option.some.inj hM
    exact W.vret hx hb hr (fun t ht _ => ⟨rfl, by rw [ht]; exact hw.1, hw.2.2.F ht⟩) hw.2.2.2.2 dX5_passRounds_24
  have hW4 : ∀ (n : Nat) (v3_1 : Int32) (v2_2 : Int32) (TL3 : TS), L_X5_passRounds_4 p1 n v3_1 v2_2 TL3 = some q4 → ∀ (H : Heap) (locs : List Loc), Wk g A s.heap H locs (wX5 g a0 TL3) → ∀ (ls : Array Slot), lv_has ls 4 [(3, .int v3_1), (2, .int v2_2), (0, .ref (a0 0)), (1, .int p1)] → W p l e (headSpec wsX5_passRounds ({ frames := 3, cells := 0, slots := 0, locals := 71 } : Room)).room s m ([.ref (a0 0), .int p1] : List Value).toArray below meth c H locs 0 0 (MQ below (QcW g none (wX5 g a0 q) A) ([.ref (a0 0), .int p1] : List Value).toArray s 0 0 A) (F0 m 4 ls []) := by
    intro n
    induction n with
    | zero => intro v3_1 v2_2 TL3 hM; rw [L_X5_passRounds_4] at hM; exact nn hM
    | succ n ih4 =>
      intro v3_1 v2_2 TL3 hM H locs hw ls hl
      rw [L_X5_passRounds_4] at hM
      refine lv_iload_n hx hb dX5_passRounds_4 rfl (lv_at hl 0 rfl) ?_
      refine lv_iload_n hx hb dX5_passRounds_5 rfl (lv_at hl 3 rfl) ?_
      refine lv_icmp_ge (tgt := 24) hx hb dX5_passRounds_6 (by decide) (fun c5 => ?_) (fun c5 => ?_)
      · replace hM := itp c5 hM
        obtain rfl := Option.some.inj hM
        exact hJ4 _ _ hw _ (lv_sub hl [] rfl)
      · replace hM := itn c5 hM
        refine lv_iload_n hx hb dX5_passRounds_9 rfl (lv_at hl 1 rfl) ?_
        refine lv_if_eq (tgt := 24) hx hb dX5_passRounds_10 (by decide) (fun c6 => ?_) (fun c6 => ?_)
        · replace hM := itp c6 hM
          obtain rfl := Option.some.inj hM
          exact hJ4 _ _ hw _ (lv_sub hl [] rfl)
        · replace hM := itn c6 hM
          refine lv_aload_n hx hb dX5_passRounds_13 rfl (lv_at hl 2 rfl) ?_
          obtain ⟨q8, h7, hM⟩ := bd hM
          refine rVWp (wc := (wX5 g a0 TL3)) (wq := (wX5 g a0 q8.2)) (As := []) (rest := []) (q0 := 0) hS (c_X5_passRound l g a0 TL3 h7) gX5_passRounds_X5_passRound rfl hd_X5_passRound ⟨Nat.le_of_ble_eq_true rfl, Nat.le_of_ble_eq_true rfl⟩ hK hw hA (pm_1_0 _) rfl (pm_1_0 _) rfl rfl rfl rfl hl.1 rfl (Nat.le_of_ble_eq_true rfl) dX5_passRounds_14 ⟨Nat.zero_le _, Nat.zero_le _⟩ (fun H locs hw => ?_)
          refine lv_istore_n (lv' := [(2, .int q8.1), (3, .int v3_1), (0, .ref (a0 0)), (1, .int p1)]) hx hb dX5_passRounds_17 rfl hl (by decide) rfl (fun ls hl => ?_)
          refine lv_iinc (v := (v3_1 + (1 : Int32))) (lv' := [(3, .int (v3_1 + (1 : Int32))), (2, .int q8.1), (0, .ref (a0 0)), (1, .int p1)]) hx hb dX5_passRounds_18 hl (k := 1) rfl rfl (by decide) rfl (fun ls hl => ?_)
          refine lv_goto (tgt := 4) hx hb dX5_passRounds_21 (by decide) ?_
          exact ih4 (v3_1 + (1 : Int32)) q8.1 q8.2 hM _ _ hw _ (lv_sub hl [0, 1, 2, 3] rfl)
  exact hW4 300 (0 : Int32) (1 : Int32) T0 hL4 _ _ hw _ (lv_sub hl [0, 1, 2, 3] rfl)
theorem hd_X5_putHeard : yX5_putHeard.cls = RX5 ∧ yX5_putHeard.cls ≠ "java/lang/invoke/MethodHandle" ∧ yX5_putHeard.cls ≠ "java/lang/invoke/VarHandle" ∧ (parseMethodDescriptor yX5_putHeard.desc).map (fun d => d.parameters.length) = some 3 := by decide +kernel
set_option maxHeartbeats 4000000 in
set_option maxRecDepth 100000 in
theorem c_X5_putHeard (l : Launch) (g : Gm) (a0 : Nat → Nat) (T0 : TS) (p1 : Int32) (p2 : Int32) (p3 : Int32) {q : TS} (hM : f_X5_putHeard T0 p1 p2 p3 = some q) : MW l yX5_putHeard wsX5_putHeard 1 22 g [.ref (a0 0), .int p1, .int p2, .int p3] (wX5 g a0 T0) none (wX5 g a0 q) := by
  intro sz
  refine Met.ofW (cc := cX5_putHeard) (maxL := 4) (ret := none) (by decide) rfl ?_
  intro p e s m args below meth c s₁ B hml hv
  obtain ⟨rfl, hsz, hP, hK, hD0⟩ := hv
  have hx := B.exec; have hb := B.bytes; have hr := B.returns
  have hts := atoms_spec (ws := wsX5_putHeard) B.pre
  have hown : s.vm.findClass RX5 = some m.cls := findClass_of_methodNamed B.named
  have hlocks := B.notSynchronized
  have hS : CallFix p m c cX5_putHeard 4 s _ wsX5_putHeard RX5 := ⟨hx, hb, hml, hown, hts⟩
  have hin_X5 : ∀ w ∈ wsX50, w ∈ wsX5_putHeard := fun w h => (List.mem_cons_of_mem _ (List.mem_append_right _ h))
  subst hsz
  have hw := wk_start hP hD0
  have hA : ∀ q : Nat, s.heap.size ≤ q → va_A (wX5 g a0 T0) s.heap.size q := fun q h => Or.inr h
  generalize va_A (wX5 g a0 T0) s.heap.size = A at hw hA ⊢
  clear hP hD0
  have hl := lv_entry ([.ref (a0 0), .int p1, .int p2, .int p3]) (n := 4) (Nat.le_of_ble_eq_true rfl)
  rw [lg_entry_eq]
  generalize (lg_sl ([.ref (a0 0), .int p1, .int p2, .int p3]) ++ List.replicate (4 - (lg_sl ([.ref (a0 0), .int p1, .int p2, .int p3])).length) Slot.unset).toArray = ls at hl ⊢
  have hl : lv_has ls 4 [(0, .ref (a0 0)), (1, .int p1), (2, .int p2), (3, .int p3)] := hl
  rw [f_X5_putHeard] at hM
  refine lv_aload_n hx hb dX5_putHeard_0 rfl (lv_at hl 0 rfl) ?_
  refine wk_get hx hb hts hin_X5 hown hK hw.1 5 0 9 (.ref (a0 3)) rfl rfl (by decide) (mi 1 rfl) rfl rfl dX5_putHeard_1 ?_
  refine lv_iload_n hx hb dX5_putHeard_4 rfl (lv_at hl 1 rfl) ?_
  refine lv_aload_n hx hb dX5_putHeard_5 rfl (lv_at hl 0 rfl) ?_
  refine wk_get hx hb hts hin_X5 hown hK hw.1 5 0 9 (.ref (a0 3)) rfl rfl (by decide) (mi 1 rfl) rfl rfl dX5_putHeard_6 ?_
  refine lv_iload_n hx hb dX5_putHeard_9 rfl (lv_at hl 1 rfl) ?_
  obtain ⟨k1, hM⟩ := ck hM
  refine wk_iald hx hb hK hw.1 3 7 (T0 9) rfl k1 dX5_putHeard_10 ?_
  refine lv_iload_n hx hb dX5_putHeard_11 rfl (lv_at hl 2 rfl) ?_
  refine lv_iload_n hx hb dX5_putHeard_12 rfl (lv_at hl 3 rfl) ?_
  refine rNR (wc := ([] : va_W)) (As := [.int ((T0 9) (p1).toNatClampNeg), .int p2, .int p3]) (rest := [.int p1, .ref (a0 3)]) hS (c_X6_with l g ((T0 9) (p1).toNatClampNeg) p2 p3) gX5_putHeard_X6_with_n61 rfl (mi 2 rfl) (mi 3 rfl) 7 rfl hd_X6_with ⟨Nat.le_of_ble_eq_true rfl, Nat.le_of_ble_eq_true rfl⟩ hK (hP_nil) rfl hl.1 rfl (Nat.le_of_ble_eq_true rfl) dX5_putHeard_13 ⟨Nat.zero_le _, Nat.zero_le _⟩ ?_
  refine wk_iast (wq := (wX5 g a0 (up T0 9 (upd (T0 9) (p1).toNatClampNeg (f_X6_with ((T0 9) (p1).toNatClampNeg) p2 p3))))) hx hb hK hw 3 7 (T0 9) rfl k1 dX5_putHeard_16 rfl (fun H locs hw => ?_)
  obtain rfl := Option.some.inj hM
  exact W.vret hx hb hr (fun t ht _ => ⟨rfl, by rw [ht]; exact hw.1, hw.2.2.F ht⟩) hw.2.2.2.2 dX5_putHeard_17
theorem hd_X5_putHears : yX5_putHears.cls = RX5 ∧ yX5_putHears.cls ≠ "java/lang/invoke/MethodHandle" ∧ yX5_putHears.cls ≠ "java/lang/invoke/VarHandle" ∧ (parseMethodDescriptor yX5_putHears.desc).map (fun d => d.parameters.length) = some 3 := by decide +kernel
set_option maxHeartbeats 4000000 in
set_option maxRecDepth 100000 in
theorem c_X5_putHears (l : Launch) (g : Gm) (a0 : Nat → Nat) (T0 : TS) (p1 : Int32) (p2 : Int32) (p3 : Int32) {q : TS} (hM : f_X5_putHears T0 p1 p2 p3 = some q) : MW l yX5_putHears wsX5_putHears 1 22 g [.ref (a0 0), .int p1, .int p2, .int p3] (wX5 g a0 T0) none (wX5 g a0 q) := by
  intro sz
  refine Met.ofW (cc := cX5_putHears) (maxL := 4) (ret := none) (by decide) rfl ?_
  intro p e s m args below meth c s₁ B hml hv
  obtain ⟨rfl, hsz, hP, hK, hD0⟩ := hv
  have hx := B.exec; have hb := B.bytes; have hr := B.returns
  have hts := atoms_spec (ws := wsX5_putHears) B.pre
  have hown : s.vm.findClass RX5 = some m.cls := findClass_of_methodNamed B.named
  have hlocks := B.notSynchronized
  have hS : CallFix p m c cX5_putHears 4 s _ wsX5_putHears RX5 := ⟨hx, hb, hml, hown, hts⟩
  have hin_X5 : ∀ w ∈ wsX50, w ∈ wsX5_putHears := fun w h => (List.mem_cons_of_mem _ (List.mem_append_right _ h))
  subst hsz
  have hw := wk_start hP hD0
  have hA : ∀ q : Nat, s.heap.size ≤ q → va_A (wX5 g a0 T0) s.heap.size q := fun q h => Or.inr h
  generalize va_A (wX5 g a0 T0) s.heap.size = A at hw hA ⊢
  clear hP hD0
  have hl := lv_entry ([.ref (a0 0), .int p1, .int p2, .int p3]) (n := 4) (Nat.le_of_ble_eq_true rfl)
  rw [lg_entry_eq]
  generalize (lg_sl ([.ref (a0 0), .int p1, .int p2, .int p3]) ++ List.replicate (4 - (lg_sl ([.ref (a0 0), .int p1, .int p2, .int p3])).length) Slot.unset).toArray = ls at hl ⊢
  have hl : lv_has ls 4 [(0, .ref (a0 0)), (1, .int p1), (2, .int p2), (3, .int p3)] := hl
  rw [f_X5_putHears] at hM
  refine lv_aload_n hx hb dX5_putHears_0 rfl (lv_at hl 0 rfl) ?_
  refine wk_get hx hb hts hin_X5 hown hK hw.1 5 0 10 (.ref (a0 4)) rfl rfl (by decide) (mi 1 rfl) rfl rfl dX5_putHears_1 ?_
  refine lv_iload_n hx hb dX5_putHears_4 rfl (lv_at hl 1 rfl) ?_
  refine lv_aload_n hx hb dX5_putHears_5 rfl (lv_at hl 0 rfl) ?_
  refine wk_get hx hb hts hin_X5 hown hK hw.1 5 0 10 (.ref (a0 4)) rfl rfl (by decide) (mi 1 rfl) rfl rfl dX5_putHears_6 ?_
  refine lv_iload_n hx hb dX5_putHears_9 rfl (lv_at hl 1 rfl) ?_
  obtain ⟨k1, hM⟩ := ck hM
  refine wk_iald hx hb hK hw.1 4 7 (T0 10) rfl k1 dX5_putHears_10 ?_
  refine lv_iload_n hx hb dX5_putHears_11 rfl (lv_at hl 2 rfl) ?_
  refine lv_iload_n hx hb dX5_putHears_12 rfl (lv_at hl 3 rfl) ?_
  refine rNR (wc := ([] : va_W)) (As := [.int ((T0 10) (p1).toNatClampNeg), .int p2, .int p3]) (rest := [.int p1, .ref (a0 4)]) hS (c_X6_with l g ((T0 10) (p1).toNatClampNeg) p2 p3) gX5_putHears_X6_with_n61 rfl (mi 2 rfl) (mi 3 rfl) 7 rfl hd_X6_with ⟨Nat.le_of_ble_eq_true rfl, Nat.le_of_ble_eq_true rfl⟩ hK (hP_nil) rfl hl.1 rfl (Nat.le_of_ble_eq_true rfl) dX5_putHears_13 ⟨Nat.zero_le _, Nat.zero_le _⟩ ?_
  refine wk_iast (wq := (wX5 g a0 (up T0 10 (upd (T0 10) (p1).toNatClampNeg (f_X6_with ((T0 10) (p1).toNatClampNeg) p2 p3))))) hx hb hK hw 4 7 (T0 10) rfl k1 dX5_putHears_16 rfl (fun H locs hw => ?_)
  obtain rfl := Option.some.inj hM
  exact W.vret hx hb hr (fun t ht _ => ⟨rfl, by rw [ht]; exact hw.1, hw.2.2.F ht⟩) hw.2.2.2.2 dX5_putHears_17
theorem hd_X5_putSeen : yX5_putSeen.cls = RX5 ∧ yX5_putSeen.cls ≠ "java/lang/invoke/MethodHandle" ∧ yX5_putSeen.cls ≠ "java/lang/invoke/VarHandle" ∧ (parseMethodDescriptor yX5_putSeen.desc).map (fun d => d.parameters.length) = some 3 := by decide +kernel
set_option maxHeartbeats 4000000 in
set_option maxRecDepth 100000 in
theorem c_X5_putSeen (l : Launch) (g : Gm) (a0 : Nat → Nat) (T0 : TS) (p1 : Int32) (p2 : Int32) (p3 : Int32) {q : TS} (hM : f_X5_putSeen T0 p1 p2 p3 = some q) : MW l yX5_putSeen wsX5_putSeen 1 22 g [.ref (a0 0), .int p1, .int p2, .int p3] (wX5 g a0 T0) none (wX5 g a0 q) := by
  intro sz
  refine Met.ofW (cc := cX5_putSeen) (maxL := 4) (ret := none) (by decide) rfl ?_
  intro p e s m args below meth c s₁ B hml hv
  obtain ⟨rfl, hsz, hP, hK, hD0⟩ := hv
  have hx := B.exec; have hb := B.bytes; have hr := B.returns
  have hts := atoms_spec (ws := wsX5_putSeen) B.pre
  have hown : s.vm.findClass RX5 = some m.cls := findClass_of_methodNamed B.named
  have hlocks := B.notSynchronized
  have hS : CallFix p m c cX5_putSeen 4 s _ wsX5_putSeen RX5 := ⟨hx, hb, hml, hown, hts⟩
  have hin_X5 : ∀ w ∈ wsX50, w ∈ wsX5_putSeen := fun w h => (List.mem_cons_of_mem _ (List.mem_append_right _ h))
  subst hsz
  have hw := wk_start hP hD0
  have hA : ∀ q : Nat, s.heap.size ≤ q → va_A (wX5 g a0 T0) s.heap.size q := fun q h => Or.inr h
  generalize va_A (wX5 g a0 T0) s.heap.size = A at hw hA ⊢
  clear hP hD0
  have hl := lv_entry ([.ref (a0 0), .int p1, .int p2, .int p3]) (n := 4) (Nat.le_of_ble_eq_true rfl)
  rw [lg_entry_eq]
  generalize (lg_sl ([.ref (a0 0), .int p1, .int p2, .int p3]) ++ List.replicate (4 - (lg_sl ([.ref (a0 0), .int p1, .int p2, .int p3])).length) Slot.unset).toArray = ls at hl ⊢
  have hl : lv_has ls 4 [(0, .ref (a0 0)), (1, .int p1), (2, .int p2), (3, .int p3)] := hl
  rw [f_X5_putSeen] at hM
  refine lv_aload_n hx hb dX5_putSeen_0 rfl (lv_at hl 0 rfl) ?_
  refine wk_get hx hb hts hin_X5 hown hK hw.1 5 0 7 (.ref (a0 1)) rfl rfl (by decide) (mi 1 rfl) rfl rfl dX5_putSeen_1 ?_
  refine lv_iload_n hx hb dX5_putSeen_4 rfl (lv_at hl 1 rfl) ?_
  refine lv_aload_n hx hb dX5_putSeen_5 rfl (lv_at hl 0 rfl) ?_
  refine wk_get hx hb hts hin_X5 hown hK hw.1 5 0 7 (.ref (a0 1)) rfl rfl (by decide) (mi 1 rfl) rfl rfl dX5_putSeen_6 ?_
  refine lv_iload_n hx hb dX5_putSeen_9 rfl (lv_at hl 1 rfl) ?_
  obtain ⟨k1, hM⟩ := ck hM
  refine wk_iald hx hb hK hw.1 1 7 (T0 7) rfl k1 dX5_putSeen_10 ?_
  refine lv_iload_n hx hb dX5_putSeen_11 rfl (lv_at hl 2 rfl) ?_
  refine lv_iload_n hx hb dX5_putSeen_12 rfl (lv_at hl 3 rfl) ?_
  refine lv_iconst (v := (2 : Int32)) hx hb dX5_putSeen_13 (by decide) ?_
  have hJ15 : ∀ (H : Heap) (locs : List Loc) (x14 : Int32) (ls : Array Slot), Wk g A s.heap H locs (wX5 g a0 T0) → x14 = (if p3 = (2 : Int32) then (1 : Int32) else (0 : Int32)) → lv_has ls 4 [(0, .ref (a0 0)), (1, .int p1), (2, .int p2), (3, .int p3)] → W p l e (headSpec wsX5_putSeen ({ frames := 1, cells := 0, slots := 0, locals := 22 } : Room)).room s m ([.ref (a0 0), .int p1, .int p2, .int p3] : List Value).toArray below meth c H locs 0 0 (MQ below (QcW g none (wX5 g a0 q) A) ([.ref (a0 0), .int p1, .int p2, .int p3] : List Value).toArray s 0 0 A) (F0 m 22 ls [.int x14, .int p2, .int ((T0 7) (p1).toNatClampNeg), .int p1, .ref (a0 1)]) := by
    intro H locs x14 ls hw hxx14 hl
    subst hxx14
    refine rNR (wc := ([] : va_W)) (As := [.int ((T0 7) (p1).toNatClampNeg), .int p2, .int (if p3 = (2 : Int32) then (1 : Int32) else (0 : Int32))]) (rest := [.int p1, .ref (a0 1)]) hS (c_X6_with l g ((T0 7) (p1).toNatClampNeg) p2 (if p3 = (2 : Int32) then (1 : Int32) else (0 : Int32))) gX5_putSeen_X6_with_n61 rfl (mi 3 rfl) (mi 4 rfl) 7 rfl hd_X6_with ⟨Nat.le_of_ble_eq_true rfl, Nat.le_of_ble_eq_true rfl⟩ hK (hP_nil) rfl hl.1 rfl (Nat.le_of_ble_eq_true rfl) dX5_putSeen_22 ⟨Nat.zero_le _, Nat.zero_le _⟩ ?_
    refine wk_iast (wq := (wX5 g a0 (up T0 7 (upd (T0 7) (p1).toNatClampNeg (f_X6_with ((T0 7) (p1).toNatClampNeg) p2 (if p3 = (2 : Int32) then (1 : Int32) else (0 : Int32))))))) hx hb hK hw 1 7 (T0 7) rfl k1 dX5_putSeen_25 rfl (fun H locs hw => ?_)
    refine lv_aload_n hx hb dX5_putSeen_26 rfl (lv_at hl 0 rfl) ?_
    refine wk_get hx hb hts hin_X5 hown hK hw.1 5 0 8 (.ref (a0 2)) rfl rfl (by decide) (mi 2 rfl) rfl rfl dX5_putSeen_27 ?_
    refine lv_iload_n hx hb dX5_putSeen_30 rfl (lv_at hl 1 rfl) ?_
    refine lv_aload_n hx hb dX5_putSeen_31 rfl (lv_at hl 0 rfl) ?_
    refine wk_get hx hb hts hin_X5 hown hK hw.1 5 0 8 (.ref (a0 2)) rfl rfl (by decide) (mi 2 rfl) rfl rfl dX5_putSeen_32 ?_
    refine lv_iload_n hx hb dX5_putSeen_35 rfl (lv_at hl 1 rfl) ?_
    refine wk_iald hx hb hK hw.1 2 7 (T0 8) rfl k1 dX5_putSeen_36 ?_
    refine lv_iload_n hx hb dX5_putSeen_37 rfl (lv_at hl 2 rfl) ?_
    refine lv_iload_n hx hb dX5_putSeen_38 rfl (lv_at hl 3 rfl) ?_
    refine lv_iconst (v := (1 : Int32)) hx hb dX5_putSeen_39 (by decide) ?_
    have hJ17 : ∀ (H : Heap) (locs : List Loc) (x16 : Int32) (ls : Array Slot), Wk g A s.heap H locs (wX5 g a0 (up T0 7 (upd (T0 7) (p1).toNatClampNeg (f_X6_with ((T0 7) (p1).toNatClampNeg) p2 (if p3 = (2 : Int32) then (1 : Int32) else (0 : Int32)))))) → x16 = (if p3 = (1 : Int32) then (1 : Int32) else (0 : Int32)) → lv_has ls 4 [] → W p l e (headSpec wsX5_putSeen ({ frames := 1, cells := 0, slots := 0, locals := 22 } : Room)).room s m ([.ref (a0 0), .int p1, .int p2, .int p3] : List Value).toArray below meth c H locs 0 0 (MQ below (QcW g none (wX5 g a0 q) A) ([.ref (a0 0), .int p1, .int p2, .int p3] : List Value).toArray s 0 0 A) (F0 m 48 ls [.int x16, .int p2, .int ((T0 8) (p1).toNatClampNeg), .int p1, .ref (a0 2)]) := by
      intro H locs x16 ls hw hxx16 hl
      subst hxx16
      refine rNR (wc := ([] : va_W)) (As := [.int ((T0 8) (p1).toNatClampNeg), .int p2, .int (if p3 = (1 : Int32) then (1 : Int32) else (0 : Int32))]) (rest := [.int p1, .ref (a0 2)]) hS (c_X6_with l g ((T0 8) (p1).toNatClampNeg) p2 (if p3 = (1 : Int32) then (1 : Int32) else (0 : Int32))) gX5_putSeen_X6_with_n61 rfl (mi 3 rfl) (mi 4 rfl) 7 rfl hd_X6_with ⟨Nat.le_of_ble_eq_true rfl, Nat.le_of_ble_eq_true rfl⟩ hK (hP_nil) rfl hl.1 rfl (Nat.le_of_ble_eq_true rfl) dX5_putSeen_48 ⟨Nat.zero_le _, Nat.zero_le _⟩ ?_
      refine wk_iast (wq := (wX5 g a0 (up (up T0 7 (upd (T0 7) (p1).toNatClampNeg (f_X6_with ((T0 7) (p1).toNatClampNeg) p2 (if p3 = (2 : Int32) then (1 : Int32) else (0 : Int32))))) 8 (upd (T0 8) (p1).toNatClampNeg (f_X6_with ((T0 8) (p1).toNatClampNeg) p2 (if p3 = (1 : Int32) then (1 : Int32) else (0 : Int32))))))) hx hb hK hw 2 7 (T0 8) rfl k1 dX5_putSeen_51 rfl (fun H locs hw => ?_)
      obtain rfl := Option.some.inj hM
      exact W.vret hx hb hr (fun t ht _ => ⟨rfl, by rw [ht]; exact hw.1, hw.2.2.F ht⟩) hw.2.2.2.2 dX5_putSeen_52
    refine lv_icmp_ne (tgt := 47) hx hb dX5_putSeen_40 (by decide) (fun c4 => ?_) (fun c4 => ?_)
    · refine lv_iconst (v := (0 : Int32)) hx hb dX5_putSeen_47 (by decide) ?_
      exact hJ17 _ _ _ _ hw (by first | rfl | (simp only [if_neg c4])) (lv_sub hl [] rfl)
    · refine lv_iconst (v := (1 : Int32)) hx hb dX5_putSeen_43 (by decide) ?_
      refine lv_goto (tgt := 48) hx hb dX5_putSeen_44 (by decide) ?_
      exact hJ17 _ _ _ _ hw (by first | rfl | (simp only [if_pos c4])) (lv_sub hl [] rfl)
  refine lv_icmp_ne (tgt := 21) hx hb dX5_putSeen_14 (by decide) (fun c2 => ?_) (fun c2 => ?_)
  · refine lv_iconst (v := (0 : Int32)) hx hb dX5_putSeen_21 (by decide) ?_
    exact hJ15 _ _ _ _ hw (by first | rfl | (simp only [if_neg c2])) (lv_sub hl [0, 1, 2, 3] rfl)
  · refine lv_iconst (v := (1 : Int32)) hx hb dX5_putSeen_17 (by decide) ?_
    refine lv_goto (tgt := 22) hx hb dX5_putSeen_18 (by decide) ?_
    exact hJ15 _ _ _ _ hw (by first | rfl | (simp only [if_pos c2])) (lv_sub hl [0, 1, 2, 3] rfl)
theorem hd_X5_putSetting : yX5_putSetting.cls = RX5 ∧ yX5_putSetting.cls ≠ "java/lang/invoke/MethodHandle" ∧ yX5_putSetting.cls ≠ "java/lang/invoke/VarHandle" ∧ (parseMethodDescriptor yX5_putSetting.desc).map (fun d => d.parameters.length) = some 2 := by decide +kernel
set_option maxHeartbeats 4000000 in
set_option maxRecDepth 100000 in
theorem c_X5_putSetting (l : Launch) (g : Gm) (a0 : Nat → Nat) (T0 : TS) (p1 : Int32) (p2 : Int32) {q : TS} (hM : f_X5_putSetting T0 p1 p2 = some q) : MW l yX5_putSetting wsX5_putSetting 0 0 g [.ref (a0 0), .int p1, .int p2] (wX5 g a0 T0) none (wX5 g a0 q) := by
  intro sz
  refine Met.ofW (cc := cX5_putSetting) (maxL := 3) (ret := none) (by decide) rfl ?_
  intro p e s m args below meth c s₁ B hml hv
  obtain ⟨rfl, hsz, hP, hK, hD0⟩ := hv
  have hx := B.exec; have hb := B.bytes; have hr := B.returns
  have hts := atoms_spec (ws := wsX5_putSetting) B.pre
  have hown : s.vm.findClass RX5 = some m.cls := findClass_of_methodNamed B.named
  have hlocks := B.notSynchronized
  have hS : CallFix p m c cX5_putSetting 3 s _ wsX5_putSetting RX5 := ⟨hx, hb, hml, hown, hts⟩
  have hin_X5 : ∀ w ∈ wsX50, w ∈ wsX5_putSetting := fun w h => (List.mem_cons_of_mem _ (List.mem_append_right _ h))
  subst hsz
  have hw := wk_start hP hD0
  have hA : ∀ q : Nat, s.heap.size ≤ q → va_A (wX5 g a0 T0) s.heap.size q := fun q h => Or.inr h
  generalize va_A (wX5 g a0 T0) s.heap.size = A at hw hA ⊢
  clear hP hD0
  have hl := lv_entry ([.ref (a0 0), .int p1, .int p2]) (n := 3) (Nat.le_of_ble_eq_true rfl)
  rw [lg_entry_eq]
  generalize (lg_sl ([.ref (a0 0), .int p1, .int p2]) ++ List.replicate (3 - (lg_sl ([.ref (a0 0), .int p1, .int p2])).length) Slot.unset).toArray = ls at hl ⊢
  have hl : lv_has ls 3 [(0, .ref (a0 0)), (1, .int p1), (2, .int p2)] := hl
  rw [f_X5_putSetting] at hM
  refine lv_iload_n hx hb dX5_putSetting_0 rfl (lv_at hl 1 rfl) ?_
  by_cases c1_0 : p1 = (0 : Int32)
  · replace hM := itp c1_0 hM
    refine lv_lookup (off := (27 : Int)) (tgt := 28) hx hb dX5_putSetting_1 (by decide) (by rw [c1_0]; first | done | decide) (by decide) ?_
    refine lv_aload_n hx hb dX5_putSetting_28 rfl (lv_at hl 0 rfl) ?_
    refine lv_iload_n hx hb dX5_putSetting_29 rfl (lv_at hl 2 rfl) ?_
    refine wk_put (wq := (wX5 g a0 (up T0 2 (fun _ => p2)))) hx hb hts hin_X5 tyX5 tyX5_ok nmX5 hown hK hw 5 0 2 rfl rfl (by decide) (mi 1 rfl) rfl rfl rfl rfl (Nat.le_of_ble_eq_true rfl) dX5_putSetting_30 rfl (fun H locs hw => ?_)
    refine lv_goto (tgt := 49) hx hb dX5_putSetting_33 (by decide) ?_
    obtain rfl := Option.some.inj hM
    exact W.vret hx hb hr (fun t ht _ => ⟨rfl, by rw [ht]; exact hw.1, hw.2.2.F ht⟩) hw.2.2.2.2 dX5_putSetting_49
  replace hM := itn c1_0 hM
  by_cases c1_1 : p1 = (1 : Int32)
  · replace hM := itp c1_1 hM
    refine lv_lookup (off := (35 : Int)) (tgt := 36) hx hb dX5_putSetting_1 (by decide) (by rw [c1_1]; first | done | decide) (by decide) ?_
    refine lv_aload_n hx hb dX5_putSetting_36 rfl (lv_at hl 0 rfl) ?_
    refine lv_iload_n hx hb dX5_putSetting_37 rfl (lv_at hl 2 rfl) ?_
    refine wk_put (wq := (wX5 g a0 (up T0 3 (fun _ => p2)))) hx hb hts hin_X5 tyX5 tyX5_ok nmX5 hown hK hw 5 0 3 rfl rfl (by decide) (mi 2 rfl) rfl rfl rfl rfl (Nat.le_of_ble_eq_true rfl) dX5_putSetting_38 rfl (fun H locs hw => ?_)
    refine lv_goto (tgt := 49) hx hb dX5_putSetting_41 (by decide) ?_
    obtain rfl := Option.some.inj hM
    exact W.vret hx hb hr (fun t ht _ => ⟨rfl, by rw [ht]; exact hw.1, hw.2.2.F ht⟩) hw.2.2.2.2 dX5_putSetting_49
  replace hM := itn c1_1 hM
  refine lv_lookup (off := (43 : Int)) (tgt := 44) hx hb dX5_putSetting_1 (by decide) (by show Op.lookupswitch.offset [(0, 27), (1, 35)] 43 _ = _; exact (lv_osw (a := 0) c1_0 (by decide)).trans ((lv_osw (a := 1) c1_1 (by decide)).trans (rfl))) (by decide) ?_
  refine lv_aload_n hx hb dX5_putSetting_44 rfl (lv_at hl 0 rfl) ?_
  refine lv_iload_n hx hb dX5_putSetting_45 rfl (lv_at hl 2 rfl) ?_
  refine wk_put (wq := (wX5 g a0 (up T0 4 (fun _ => p2)))) hx hb hts hin_X5 tyX5 tyX5_ok nmX5 hown hK hw 5 0 4 rfl rfl (by decide) (mi 3 rfl) rfl rfl rfl rfl (Nat.le_of_ble_eq_true rfl) dX5_putSetting_46 rfl (fun H locs hw => ?_)
  obtain rfl := Option.some.inj hM
  exact W.vret hx hb hr (fun t ht _ => ⟨rfl, by rw [ht]; exact hw.1, hw.2.2.F ht⟩) hw.2.2.2.2 dX5_putSetting_49
theorem hd_X5_sayByDraws : yX5_sayByDraws.cls = RX5 ∧ yX5_sayByDraws.cls ≠ "java/lang/invoke/MethodHandle" ∧ yX5_sayByDraws.cls ≠ "java/lang/invoke/VarHandle" ∧ (parseMethodDescriptor yX5_sayByDraws.desc).map (fun d => d.parameters.length) = some 1 := by decide +kernel
set_option maxHeartbeats 4000000 in
set_option maxRecDepth 100000 in
theorem c_X5_sayByDraws (l : Launch) (g : Gm) (a0 : Nat → Nat) (T0 : TS) (p1 : Int32) {q : (Int32 × TS)} (hM : f_X5_sayByDraws T0 p1 = some q) : MW l yX5_sayByDraws wsX5_sayByDraws 2 48 g [.ref (a0 0), .int p1] (wX5 g a0 T0) (some (.int q.1)) (wX5 g a0 q.2) := by
  intro sz
  refine Met.ofW (cc := cX5_sayByDraws) (maxL := 6) (ret := (some .int)) (by decide) rfl ?_
  intro p e s m args below meth c s₁ B hml hv
  obtain ⟨rfl, hsz, hP, hK, hD0⟩ := hv
  have hx := B.exec; have hb := B.bytes; have hr := B.returns
  have hts := atoms_spec (ws := wsX5_sayByDraws) B.pre
  have hown : s.vm.findClass RX5 = some m.cls := findClass_of_methodNamed B.named
  have hlocks := B.notSynchronized
  have hS : CallFix p m c cX5_sayByDraws 6 s _ wsX5_sayByDraws RX5 := ⟨hx, hb, hml, hown, hts⟩
  have hin_X5 : ∀ w ∈ wsX50, w ∈ wsX5_sayByDraws := fun w h => (List.mem_cons_of_mem _ (List.mem_append_right _ h))
  subst hsz
  have hw := wk_start hP hD0
  have hA : ∀ q : Nat, s.heap.size ≤ q → va_A (wX5 g a0 T0) s.heap.size q := fun q h => Or.inr h
  generalize va_A (wX5 g a0 T0) s.heap.size = A at hw hA ⊢
  clear hP hD0
  have hl := lv_entry ([.ref (a0 0), .int p1]) (n := 6) (Nat.le_of_ble_eq_true rfl)
  rw [lg_entry_eq]
  generalize (lg_sl ([.ref (a0 0), .int p1]) ++ List.replicate (6 - (lg_sl ([.ref (a0 0), .int p1])).length) Slot.unset).toArray = ls at hl ⊢
  have hl : lv_has ls 6 [(0, .ref (a0 0)), (1, .int p1)] := hl
  rw [f_X5_sayByDraws] at hM
  refine lv_iconst (v := (0 : Int32)) hx hb dX5_sayByDraws_0 (by decide) ?_
  refine lv_istore_n (lv' := [(2, .int (0 : Int32)), (0, .ref (a0 0)), (1, .int p1)]) hx hb dX5_sayByDraws_1 rfl hl (by decide) rfl (fun ls hl => ?_)
  refine lv_iconst (v := (0 : Int32)) hx hb dX5_sayByDraws_2 (by decide) ?_
  refine lv_istore_n (lv' := [(3, .int (0 : Int32)), (2, .int (0 : Int32)), (0, .ref (a0 0)), (1, .int p1)]) hx hb dX5_sayByDraws_3 rfl hl (by decide) rfl (fun ls hl => ?_)
  obtain ⟨q4, hL4, hM⟩ := bd hM
  have hJ4 : ∀ (H : Heap) (locs : List Loc), Wk g A s.heap H locs (wX5 g a0 q4.2) → ∀ (ls : Array Slot), lv_has ls 6 [(2, .int q4.1)] → W p l e (headSpec wsX5_sayByDraws ({ frames := 2, cells := 0, slots := 0, locals := 48 } : Room)).room s m ([.ref (a0 0), .int p1] : List Value).toArray below meth c H locs 0 0 (MQ below (QcW g (some (.int q.1)) (wX5 g a0 q.2) A) ([.ref (a0 0), .int p1] : List Value).toArray s 0 0 A) (F0 m 72 ls []) := by
    intro H locs hw ls hl
    refine lv_iload_n hx hb dX5_sayByDraws_72 rfl (lv_at hl 0 rfl) ?_
    obtain rfl := Option.some.inj hM
    exact W.iret hx hb hr (fun t ht _ => ⟨rfl, by rw [ht]; exact hw.1, hw.2.2.F ht⟩) hw.2.2.2.2 dX5_sayByDraws_73
  have hW4 : ∀ (n : Nat) (v3_1 : Int32) (v2_2 : Int32) (TL3 : TS), L_X5_sayByDraws_4 p1 n v3_1 v2_2 TL3 = some q4 → ∀ (H : Heap) (locs : List Loc), Wk g A s.heap H locs (wX5 g a0 TL3) → ∀ (ls : Array Slot), lv_has ls 6 [(3, .int v3_1), (2, .int v2_2), (0, .ref (a0 0)), (1, .int p1)] → W p l e (headSpec wsX5_sayByDraws ({ frames := 2, cells := 0, slots := 0, locals := 48 } : Room)).room s m ([.ref (a0 0), .int p1] : List Value).toArray below meth c H locs 0 0 (MQ below (QcW g (some (.int q.1)) (wX5 g a0 q.2) A) ([.ref (a0 0), .int p1] : List Value).toArray s 0 0 A) (F0 m 4 ls []) := by
    intro n
    induction n with
    | zero => intro v3_1 v2_2 TL3 hM; rw [L_X5_sayByDraws_4] at hM; exact nn hM
    | succ n ih4 =>
      intro v3_1 v2_2 TL3 hM H locs hw ls hl
      rw [L_X5_sayByDraws_4] at hM
      refine lv_iload_n hx hb dX5_sayByDraws_4 rfl (lv_at hl 0 rfl) ?_
      refine lv_iload_n hx hb dX5_sayByDraws_5 rfl (lv_at hl 3 rfl) ?_
      refine lv_icmp_ge (tgt := 72) hx hb dX5_sayByDraws_6 (by decide) (fun c5 => ?_) (fun c5 => ?_)
      · replace hM := itp c5 hM
        obtain rfl := Option.some.inj hM
        exact hJ4 _ _ hw _ (lv_sub hl [1] rfl)
      · replace hM := itn c5 hM
        refine lv_aload_n hx hb dX5_sayByDraws_9 rfl (lv_at hl 2 rfl) ?_
        refine lv_aload_n hx hb dX5_sayByDraws_10 rfl (lv_at hl 2 rfl) ?_
        refine wk_get hx hb hts hin_X5 hown hK hw.1 5 0 1 (.int (TL3 1 0)) rfl rfl (by decide) (mi 1 rfl) rfl rfl dX5_sayByDraws_11 ?_
        obtain ⟨q7, h6, hM⟩ := bd hM
        refine rVWp (wc := (wX5 g a0 TL3)) (wq := (wX5 g a0 q7.2)) (As := [.int (TL3 1 0)]) (rest := []) (q0 := 0) hS (c_X5_drawBelow l g a0 TL3 (TL3 1 0) h6) gX5_sayByDraws_X5_drawBelow rfl hd_X5_drawBelow ⟨Nat.le_of_ble_eq_true rfl, Nat.le_of_ble_eq_true rfl⟩ hK hw hA (pm_1_0 _) rfl (pm_1_0 _) rfl rfl rfl rfl hl.1 rfl (Nat.le_of_ble_eq_true rfl) dX5_sayByDraws_14 ⟨Nat.zero_le _, Nat.zero_le _⟩ (fun H locs hw => ?_)
        refine lv_istore (lv' := [(4, .int q7.1), (3, .int v3_1), (2, .int v2_2), (0, .ref (a0 0)), (1, .int p1)]) hx hb dX5_sayByDraws_17 hl (by decide) rfl (fun ls hl => ?_)
        refine lv_aload_n hx hb dX5_sayByDraws_19 rfl (lv_at hl 3 rfl) ?_
        refine lv_aload_n hx hb dX5_sayByDraws_20 rfl (lv_at hl 3 rfl) ?_
        refine wk_get hx hb hts hin_X5 hown hK hw.1 5 0 0 (.int (q7.2 0 0)) rfl rfl (by decide) (mi 2 rfl) rfl rfl dX5_sayByDraws_21 ?_
        obtain ⟨q9, h8, hM⟩ := bd hM
        refine rVWp (wc := (wX5 g a0 q7.2)) (wq := (wX5 g a0 q9.2)) (As := [.int (q7.2 0 0)]) (rest := []) (q0 := 0) hS (c_X5_drawBelow l g a0 q7.2 (q7.2 0 0) h8) gX5_sayByDraws_X5_drawBelow rfl hd_X5_drawBelow ⟨Nat.le_of_ble_eq_true rfl, Nat.le_of_ble_eq_true rfl⟩ hK hw hA (pm_1_0 _) rfl (pm_1_0 _) rfl rfl rfl rfl hl.1 rfl (Nat.le_of_ble_eq_true rfl) dX5_sayByDraws_24 ⟨Nat.zero_le _, Nat.zero_le _⟩ (fun H locs hw => ?_)
        refine lv_istore (lv' := [(5, .int q9.1), (4, .int q7.1), (3, .int v3_1), (2, .int v2_2), (0, .ref (a0 0)), (1, .int p1)]) hx hb dX5_sayByDraws_27 hl (by decide) rfl (fun ls hl => ?_)
        refine lv_aload_n hx hb dX5_sayByDraws_29 rfl (lv_at hl 4 rfl) ?_
        refine lv_iload hx hb dX5_sayByDraws_30 (lv_at hl 1 rfl) ?_
        refine rVR (wc := (wX5 g a0 q9.2)) (As := [.int q7.1]) (rest := []) (q0 := 0) hS (c_X5_isOne l g a0 q9.2 q7.1) gX5_sayByDraws_X5_isOne rfl hd_X5_isOne ⟨Nat.le_of_ble_eq_true rfl, Nat.le_of_ble_eq_true rfl⟩ hK (va_P.pm hw.1 (pm_1_0 _)) rfl rfl rfl rfl hl.1 rfl (Nat.le_of_ble_eq_true rfl) dX5_sayByDraws_32 ⟨Nat.zero_le _, Nat.zero_le _⟩ ?_
        refine lv_if_eq (tgt := 66) hx hb dX5_sayByDraws_35 (by decide) (fun c11 => ?_) (fun c11 => ?_)
        · replace hM := itp c11 hM
          refine lv_iinc (v := (v3_1 + (1 : Int32))) (lv' := [(3, .int (v3_1 + (1 : Int32))), (5, .int q9.1), (4, .int q7.1), (2, .int v2_2), (0, .ref (a0 0)), (1, .int p1)]) hx hb dX5_sayByDraws_66 hl (k := 2) rfl rfl (by decide) rfl (fun ls hl => ?_)
          refine lv_goto (tgt := 4) hx hb dX5_sayByDraws_69 (by decide) ?_
          exact ih4 (v3_1 + (1 : Int32)) v2_2 q9.2 hM _ _ hw _ (lv_sub hl [0, 3, 4, 5] rfl)
        · replace hM := itn c11 hM
          refine lv_aload_n hx hb dX5_sayByDraws_38 rfl (lv_at hl 4 rfl) ?_
          refine lv_iload hx hb dX5_sayByDraws_39 (lv_at hl 1 rfl) ?_
          obtain ⟨q13, h12, hM⟩ := bd hM
          refine rVR (wc := (wX5 g a0 q9.2)) (As := [.int q7.1]) (rest := []) (q0 := 0) hS (c_X5_sayableBy l g a0 q9.2 q7.1 h12) gX5_sayByDraws_X5_sayableBy rfl hd_X5_sayableBy ⟨Nat.le_of_ble_eq_true rfl, Nat.le_of_ble_eq_true rfl⟩ hK (va_P.pm hw.1 (pm_1_0 _)) rfl rfl rfl rfl hl.1 rfl (Nat.le_of_ble_eq_true rfl) dX5_sayByDraws_41 ⟨Nat.zero_le _, Nat.zero_le _⟩ ?_
          refine lv_iload hx hb dX5_sayByDraws_44 (lv_at hl 0 rfl) ?_
          refine rNR (wc := ([] : va_W)) (As := [.int q13, .int q9.1]) (rest := []) hS (c_X6_has l g q13 q9.1) gX5_sayByDraws_X6_has_n65 rfl (mi 40 rfl) (mi 38 rfl) 6 rfl hd_X6_has ⟨Nat.le_of_ble_eq_true rfl, Nat.le_of_ble_eq_true rfl⟩ hK (hP_nil) rfl hl.1 rfl (Nat.le_of_ble_eq_true rfl) dX5_sayByDraws_46 ⟨Nat.zero_le _, Nat.zero_le _⟩ ?_
          refine lv_if_eq (tgt := 66) hx hb dX5_sayByDraws_49 (by decide) (fun c15 => ?_) (fun c15 => ?_)
          · replace hM := itp c15 hM
            refine lv_iinc (v := (v3_1 + (1 : Int32))) (lv' := [(3, .int (v3_1 + (1 : Int32))), (5, .int q9.1), (4, .int q7.1), (2, .int v2_2), (0, .ref (a0 0)), (1, .int p1)]) hx hb dX5_sayByDraws_66 hl (k := 2) rfl rfl (by decide) rfl (fun ls hl => ?_)
            refine lv_goto (tgt := 4) hx hb dX5_sayByDraws_69 (by decide) ?_
            exact ih4 (v3_1 + (1 : Int32)) v2_2 q9.2 hM _ _ hw _ (lv_sub hl [0, 3, 4, 5] rfl)
          · replace hM := itn c15 hM
            refine lv_aload_n hx hb dX5_sayByDraws_52 rfl (lv_at hl 4 rfl) ?_
            refine lv_iload hx hb dX5_sayByDraws_53 (lv_at hl 1 rfl) ?_
            refine lv_iconst (v := (1 : Int32)) hx hb dX5_sayByDraws_55 (by decide) ?_
            refine lv_iload hx hb dX5_sayByDraws_56 (lv_at hl 0 rfl) ?_
            refine lv_ishl hx hb dX5_sayByDraws_58 ?_
            obtain ⟨q17, h16, hM⟩ := bd hM
            refine rVWp (wc := (wX5 g a0 q9.2)) (wq := (wX5 g a0 q17.2)) (As := [.int q7.1, .int ((1 : Int32) <<< (q9.1 &&& 31))]) (rest := []) (q0 := 0) hS (c_X5_tell l g a0 q9.2 q7.1 ((1 : Int32) <<< (q9.1 &&& 31)) h16) gX5_sayByDraws_X5_tell rfl hd_X5_tell ⟨Nat.le_of_ble_eq_true rfl, Nat.le_of_ble_eq_true rfl⟩ hK hw hA (pm_1_0 _) rfl (pm_1_0 _) rfl rfl rfl rfl hl.1 rfl (Nat.le_of_ble_eq_true rfl) dX5_sayByDraws_59 ⟨Nat.zero_le _, Nat.zero_le _⟩ (fun H locs hw => ?_)
            refine lv_pop hx hb dX5_sayByDraws_62 rfl ?_
            refine lv_iinc (v := (v2_2 + (1 : Int32))) (lv' := [(2, .int (v2_2 + (1 : Int32))), (5, .int q9.1), (4, .int q7.1), (3, .int v3_1), (0, .ref (a0 0)), (1, .int p1)]) hx hb dX5_sayByDraws_63 hl (k := 3) rfl rfl (by decide) rfl (fun ls hl => ?_)
            refine lv_iinc (v := (v3_1 + (1 : Int32))) (lv' := [(3, .int (v3_1 + (1 : Int32))), (2, .int (v2_2 + (1 : Int32))), (5, .int q9.1), (4, .int q7.1), (0, .ref (a0 0)), (1, .int p1)]) hx hb dX5_sayByDraws_66 hl (k := 3) rfl rfl (by decide) rfl (fun ls hl => ?_)
            refine lv_goto (tgt := 4) hx hb dX5_sayByDraws_69 (by decide) ?_
            exact ih4 (v3_1 + (1 : Int32)) (v2_2 + (1 : Int32)) q17.2 hM _ _ hw _ (lv_sub hl [0, 1, 4, 5] rfl)
  exact hW4 300 (0 : Int32) (0 : Int32) T0 hL4 _ _ hw _ (lv_sub hl [0, 1, 2, 3] rfl)
theorem hd_X6_firstOf : yX6_firstOf.cls ≠ "java/lang/invoke/MethodHandle" ∧ yX6_firstOf.cls ≠ "java/lang/invoke/VarHandle" ∧ (parseMethodDescriptor yX6_firstOf.desc).map (fun d => d.parameters.length) = some 1 := by decide +kernel
set_option maxHeartbeats 4000000 in
set_option maxRecDepth 100000 in
theorem c_X6_firstOf (l : Launch) (g : Gm) (p0 : Int32) {q : Int32} (hM : f_X6_firstOf p0 = some q) : MR l yX6_firstOf wsX6_firstOf 1 21 g [.int p0] ([] : va_W) (some (.int q)) := by
  refine Met.ofW (cc := cX6_firstOf) (maxL := 2) (ret := (some .int)) (by decide) rfl ?_
  intro p e s m args below meth c s₁ B hml hv
  obtain ⟨rfl, hP, hK⟩ := hv
  have hx := B.exec; have hb := B.bytes; have hr := B.returns
  have hts := atoms_spec (ws := wsX6_firstOf) B.pre
  have hown : s.vm.findClass RX6 = some m.cls := findClass_of_methodNamed B.named
  have hlocks := B.notSynchronized
  have hS : CallFix p m c cX6_firstOf 2 s _ wsX6_firstOf RX6 := ⟨hx, hb, hml, hown, hts⟩
  have hl := lv_entry ([.int p0]) (n := 2) (Nat.le_of_ble_eq_true rfl)
  rw [lg_entry_eq]
  generalize (lg_sl ([.int p0]) ++ List.replicate (2 - (lg_sl ([.int p0])).length) Slot.unset).toArray = ls at hl ⊢
  have hl : lv_has ls 2 [(0, .int p0)] := hl
  rw [f_X6_firstOf] at hM
  refine lv_iconst (v := (0 : Int32)) hx hb dX6_firstOf_0 (by decide) ?_
  refine lv_istore_n (lv' := [(1, .int (0 : Int32)), (0, .int p0)]) hx hb dX6_firstOf_1 rfl hl (by decide) rfl (fun ls hl => ?_)
  obtain ⟨q2, hL2, hM2⟩ := bd hM
  have hJ2 : ∀ (q2x : Unit), q2 = .inr q2x → ∀ (ls : Array Slot), lv_has ls 2 [] → W p l e (headSpec wsX6_firstOf ({ frames := 1, cells := 0, slots := 0, locals := 21 } : Room)).room s m ([.int p0] : List Value).toArray below meth c s.heap [] 0 0 (MQ below (QcR (some (.int q))) ([.int p0] : List Value).toArray s 0 0 (fun _ => False)) (F0 m 24 ls []) := by
    intro q2x hX2 ls hl
    rw [hX2] at hM2
    have hM := eo_inr hM2
    refine lv_iconst (v := (-1 : Int32)) hx hb dX6_firstOf_24 (by decide) ?_
    obtain rfl := Option.some.inj hM
    exact W.iret hx hb hr (fun t ht _ => ⟨rfl, ht⟩) (fun q hq => by cases hq) dX6_firstOf_25
  have hW2 : ∀ (n : Nat) (v1_1 : Int32), L_X6_firstOf_2 p0 n v1_1 = some q2 → ∀ (ls : Array Slot), lv_has ls 2 [(1, .int v1_1), (0, .int p0)] → W p l e (headSpec wsX6_firstOf ({ frames := 1, cells := 0, slots := 0, locals := 21 } : Room)).room s m ([.int p0] : List Value).toArray below meth c s.heap [] 0 0 (MQ below (QcR (some (.int q))) ([.int p0] : List Value).toArray s 0 0 (fun _ => False)) (F0 m 2 ls []) := by
    intro n
    induction n with
    | zero => intro v1_1 hM; rw [L_X6_firstOf_2] at hM; exact nn hM
    | succ n ih2 =>
      intro v1_1 hM ls hl
      rw [L_X6_firstOf_2] at hM
      refine lv_iload_n hx hb dX6_firstOf_2 rfl (lv_at hl 0 rfl) ?_
      refine lv_bipush (v := (32 : Int32)) hx hb dX6_firstOf_3 (by decide) ?_
      refine lv_icmp_ge (tgt := 24) hx hb dX6_firstOf_5 (by decide) (fun c3 => ?_) (fun c3 => ?_)
      · replace hM := itp c3 hM
        exact hJ2 _ (Option.some.inj hM).symm _ (lv_sub hl [] rfl)
      · replace hM := itn c3 hM
        refine lv_iload_n hx hb dX6_firstOf_8 rfl (lv_at hl 1 rfl) ?_
        refine lv_iload_n hx hb dX6_firstOf_9 rfl (lv_at hl 0 rfl) ?_
        refine rSR (wc := ([] : va_W)) (As := [.int p0, .int v1_1]) (rest := []) hS (c_X6_has l g p0 v1_1) gX6_firstOf_X6_has rfl hd_X6_has ⟨Nat.le_of_ble_eq_true rfl, Nat.le_of_ble_eq_true rfl⟩ hK (hP_nil) rfl hl.1 rfl (Nat.le_of_ble_eq_true rfl) dX6_firstOf_10 ⟨Nat.zero_le _, Nat.zero_le _⟩ ?_
        refine lv_if_eq (tgt := 18) hx hb dX6_firstOf_13 (by decide) (fun c5 => ?_) (fun c5 => ?_)
        · replace hM := itp c5 hM
          refine lv_iinc (v := (v1_1 + (1 : Int32))) (lv' := [(1, .int (v1_1 + (1 : Int32))), (0, .int p0)]) hx hb dX6_firstOf_18 hl (k := 0) rfl rfl (by decide) rfl (fun ls hl => ?_)
          refine lv_goto (tgt := 2) hx hb dX6_firstOf_21 (by decide) ?_
          exact ih2 (v1_1 + (1 : Int32)) hM _ (lv_sub hl [0, 1] rfl)
        · replace hM := itn c5 hM
          refine lv_iload_n hx hb dX6_firstOf_16 rfl (lv_at hl 0 rfl) ?_
          have hE := Option.some.inj hM
          have hM2' := hM2
          rw [← hE] at hM2'
          obtain rfl := eo_inl hM2'
          exact W.iret hx hb hr (fun t ht _ => ⟨rfl, ht⟩) (fun q hq => by cases hq) dX6_firstOf_17
  exact hW2 300 (0 : Int32) hL2 _ (lv_sub hl [0, 1] rfl)
theorem hd_X5_sayingAs : yX5_sayingAs.cls = RX5 ∧ yX5_sayingAs.cls ≠ "java/lang/invoke/MethodHandle" ∧ yX5_sayingAs.cls ≠ "java/lang/invoke/VarHandle" ∧ (parseMethodDescriptor yX5_sayingAs.desc).map (fun d => d.parameters.length) = some 2 := by decide +kernel
set_option maxHeartbeats 4000000 in
set_option maxRecDepth 100000 in
theorem c_X5_sayingAs (l : Launch) (g : Gm) (a0 : Nat → Nat) (T0 : TS) (p1 : Int32) (p2 : Int32) {q : Int32} (hM : f_X5_sayingAs T0 p1 p2 = some q) : MR l yX5_sayingAs wsX5_sayingAs 2 48 g [.ref (a0 0), .int p1, .int p2] (wX5 g a0 T0) (some (.int q)) := by
  refine Met.ofW (cc := cX5_sayingAs) (maxL := 3) (ret := (some .int)) (by decide) rfl ?_
  intro p e s m args below meth c s₁ B hml hv
  obtain ⟨rfl, hP, hK⟩ := hv
  have hx := B.exec; have hb := B.bytes; have hr := B.returns
  have hts := atoms_spec (ws := wsX5_sayingAs) B.pre
  have hown : s.vm.findClass RX5 = some m.cls := findClass_of_methodNamed B.named
  have hlocks := B.notSynchronized
  have hS : CallFix p m c cX5_sayingAs 3 s _ wsX5_sayingAs RX5 := ⟨hx, hb, hml, hown, hts⟩
  have hin_X5 : ∀ w ∈ wsX50, w ∈ wsX5_sayingAs := fun w h => (List.mem_cons_of_mem _ (List.mem_append_right _ h))
  have hl := lv_entry ([.ref (a0 0), .int p1, .int p2]) (n := 3) (Nat.le_of_ble_eq_true rfl)
  rw [lg_entry_eq]
  generalize (lg_sl ([.ref (a0 0), .int p1, .int p2]) ++ List.replicate (3 - (lg_sl ([.ref (a0 0), .int p1, .int p2])).length) Slot.unset).toArray = ls at hl ⊢
  have hl : lv_has ls 3 [(0, .ref (a0 0)), (1, .int p1), (2, .int p2)] := hl
  rw [f_X5_sayingAs] at hM
  refine lv_iload_n hx hb dX5_sayingAs_0 rfl (lv_at hl 2 rfl) ?_
  by_cases c1_0 : p2 = (1 : Int32)
  · replace hM := itp c1_0 hM
    refine lv_tableIn (tgt := 36) hx hb dX5_sayingAs_1 (by rw [c1_0]; decide) (by rw [c1_0]; decide) (by rw [c1_0]; first | done | rfl) (by decide) ?_
    refine lv_aload_n hx hb dX5_sayingAs_36 rfl (lv_at hl 0 rfl) ?_
    refine wk_get hx hb hts hin_X5 hown hK hP 5 0 10 (.ref (a0 4)) rfl rfl (by decide) (mi 1 rfl) rfl rfl dX5_sayingAs_37 ?_
    refine lv_iload_n hx hb dX5_sayingAs_40 rfl (lv_at hl 1 rfl) ?_
    obtain ⟨k2, hM⟩ := ck hM
    refine wk_iald hx hb hK hP 4 7 (T0 10) rfl k2 dX5_sayingAs_41 ?_
    refine rSR (wc := ([] : va_W)) (As := [.int ((T0 10) (p1).toNatClampNeg)]) (rest := []) hS (c_J6_bitCount_0f7a4 l g ((T0 10) (p1).toNatClampNeg)) gX5_sayingAs_J6_bitCount_0f7a4 rfl hd_J6_bitCount_0f7a4 ⟨Nat.le_of_ble_eq_true rfl, Nat.le_of_ble_eq_true rfl⟩ hK (hP_nil) rfl hl.1 rfl (Nat.le_of_ble_eq_true rfl) dX5_sayingAs_42 ⟨Nat.zero_le _, Nat.zero_le _⟩ ?_
    obtain rfl := Option.some.inj hM
    exact W.iret hx hb hr (fun t ht _ => ⟨rfl, ht⟩) (fun q hq => by cases hq) dX5_sayingAs_45
  replace hM := itn c1_0 hM
  by_cases c1_1 : p2 = (2 : Int32)
  · replace hM := itp c1_1 hM
    refine lv_tableIn (tgt := 46) hx hb dX5_sayingAs_1 (by rw [c1_1]; decide) (by rw [c1_1]; decide) (by rw [c1_1]; first | done | rfl) (by decide) ?_
    refine lv_aload_n hx hb dX5_sayingAs_46 rfl (lv_at hl 0 rfl) ?_
    refine wk_get hx hb hts hin_X5 hown hK hP 5 0 0 (.int (T0 0 0)) rfl rfl (by decide) (mi 2 rfl) rfl rfl dX5_sayingAs_47 ?_
    refine lv_aload_n hx hb dX5_sayingAs_50 rfl (lv_at hl 0 rfl) ?_
    refine lv_iload_n hx hb dX5_sayingAs_51 rfl (lv_at hl 1 rfl) ?_
    obtain ⟨q5, h4, hM⟩ := bd hM
    refine rVR (wc := (wX5 g a0 T0)) (As := [.int p1]) (rest := [.int (T0 0 0)]) (q0 := 0) hS (c_X5_barredTo l g a0 T0 p1 h4) gX5_sayingAs_X5_barredTo rfl hd_X5_barredTo ⟨Nat.le_of_ble_eq_true rfl, Nat.le_of_ble_eq_true rfl⟩ hK (va_P.pm hP (pm_1_0 _)) rfl rfl rfl rfl hl.1 rfl (Nat.le_of_ble_eq_true rfl) dX5_sayingAs_52 ⟨Nat.zero_le _, Nat.zero_le _⟩ ?_
    refine rSR (wc := ([] : va_W)) (As := [.int q5]) (rest := [.int (T0 0 0)]) hS (c_J6_bitCount_0f7a4 l g q5) gX5_sayingAs_J6_bitCount_0f7a4 rfl hd_J6_bitCount_0f7a4 ⟨Nat.le_of_ble_eq_true rfl, Nat.le_of_ble_eq_true rfl⟩ hK (hP_nil) rfl hl.1 rfl (Nat.le_of_ble_eq_true rfl) dX5_sayingAs_55 ⟨Nat.zero_le _, Nat.zero_le _⟩ ?_
    refine lv_isub hx hb dX5_sayingAs_58 ?_
    obtain rfl := Option.some.inj hM
    exact W.iret hx hb hr (fun t ht _ => ⟨rfl, ht⟩) (fun q hq => by cases hq) dX5_sayingAs_59
  replace hM := itn c1_1 hM
  by_cases c1_2 : p2 = (3 : Int32)
  · replace hM := itp c1_2 hM
    refine lv_tableIn (tgt := 60) hx hb dX5_sayingAs_1 (by rw [c1_2]; decide) (by rw [c1_2]; decide) (by rw [c1_2]; first | done | rfl) (by decide) ?_
    refine lv_aload_n hx hb dX5_sayingAs_60 rfl (lv_at hl 0 rfl) ?_
    refine lv_iload_n hx hb dX5_sayingAs_61 rfl (lv_at hl 1 rfl) ?_
    obtain ⟨q8, h7, hM⟩ := bd hM
    refine rVR (wc := (wX5 g a0 T0)) (As := [.int p1]) (rest := []) (q0 := 0) hS (c_X5_barredTo l g a0 T0 p1 h7) gX5_sayingAs_X5_barredTo rfl hd_X5_barredTo ⟨Nat.le_of_ble_eq_true rfl, Nat.le_of_ble_eq_true rfl⟩ hK (va_P.pm hP (pm_1_0 _)) rfl rfl rfl rfl hl.1 rfl (Nat.le_of_ble_eq_true rfl) dX5_sayingAs_62 ⟨Nat.zero_le _, Nat.zero_le _⟩ ?_
    obtain ⟨q10, h9, hM⟩ := bd hM
    refine rNR (wc := ([] : va_W)) (As := [.int q8]) (rest := []) hS (c_X6_firstOf l g q8 h9) gX5_sayingAs_X6_firstOf_n81 rfl (mi 19 rfl) (mi 20 rfl) 4 rfl hd_X6_firstOf ⟨Nat.le_of_ble_eq_true rfl, Nat.le_of_ble_eq_true rfl⟩ hK (hP_nil) rfl hl.1 rfl (Nat.le_of_ble_eq_true rfl) dX5_sayingAs_65 ⟨Nat.zero_le _, Nat.zero_le _⟩ ?_
    obtain rfl := Option.some.inj hM
    exact W.iret hx hb hr (fun t ht _ => ⟨rfl, ht⟩) (fun q hq => by cases hq) dX5_sayingAs_68
  replace hM := itn c1_2 hM
  by_cases c1_3 : p2 = (4 : Int32)
  · replace hM := itp c1_3 hM
    refine lv_tableIn (tgt := 69) hx hb dX5_sayingAs_1 (by rw [c1_3]; decide) (by rw [c1_3]; decide) (by rw [c1_3]; first | done | rfl) (by decide) ?_
    refine lv_aload_n hx hb dX5_sayingAs_69 rfl (lv_at hl 0 rfl) ?_
    refine wk_get hx hb hts hin_X5 hown hK hP 5 0 9 (.ref (a0 3)) rfl rfl (by decide) (mi 3 rfl) rfl rfl dX5_sayingAs_70 ?_
    refine lv_iload_n hx hb dX5_sayingAs_73 rfl (lv_at hl 1 rfl) ?_
    obtain ⟨k11, hM⟩ := ck hM
    refine wk_iald hx hb hK hP 3 7 (T0 9) rfl k11 dX5_sayingAs_74 ?_
    refine rSR (wc := ([] : va_W)) (As := [.int ((T0 9) (p1).toNatClampNeg)]) (rest := []) hS (c_J6_bitCount_0f7a4 l g ((T0 9) (p1).toNatClampNeg)) gX5_sayingAs_J6_bitCount_0f7a4 rfl hd_J6_bitCount_0f7a4 ⟨Nat.le_of_ble_eq_true rfl, Nat.le_of_ble_eq_true rfl⟩ hK (hP_nil) rfl hl.1 rfl (Nat.le_of_ble_eq_true rfl) dX5_sayingAs_75 ⟨Nat.zero_le _, Nat.zero_le _⟩ ?_
    obtain rfl := Option.some.inj hM
    exact W.iret hx hb hr (fun t ht _ => ⟨rfl, ht⟩) (fun q hq => by cases hq) dX5_sayingAs_78
  replace hM := itn c1_3 hM
  by_cases c1_4 : p2 = (5 : Int32)
  · replace hM := itp c1_4 hM
    refine lv_tableIn (tgt := 79) hx hb dX5_sayingAs_1 (by rw [c1_4]; decide) (by rw [c1_4]; decide) (by rw [c1_4]; first | done | rfl) (by decide) ?_
    refine lv_aload_n hx hb dX5_sayingAs_79 rfl (lv_at hl 0 rfl) ?_
    refine wk_get hx hb hts hin_X5 hown hK hP 5 0 7 (.ref (a0 1)) rfl rfl (by decide) (mi 4 rfl) rfl rfl dX5_sayingAs_80 ?_
    refine lv_iload_n hx hb dX5_sayingAs_83 rfl (lv_at hl 1 rfl) ?_
    obtain ⟨k13, hM⟩ := ck hM
    refine wk_iald hx hb hK hP 1 7 (T0 7) rfl k13 dX5_sayingAs_84 ?_
    obtain ⟨q15, h14, hM⟩ := bd hM
    refine rNR (wc := ([] : va_W)) (As := [.int ((T0 7) (p1).toNatClampNeg)]) (rest := []) hS (c_X6_firstOf l g ((T0 7) (p1).toNatClampNeg) h14) gX5_sayingAs_X6_firstOf_n81 rfl (mi 19 rfl) (mi 20 rfl) 4 rfl hd_X6_firstOf ⟨Nat.le_of_ble_eq_true rfl, Nat.le_of_ble_eq_true rfl⟩ hK (hP_nil) rfl hl.1 rfl (Nat.le_of_ble_eq_true rfl) dX5_sayingAs_85 ⟨Nat.zero_le _, Nat.zero_le _⟩ ?_
    obtain rfl := Option.some.inj hM
    exact W.iret hx hb hr (fun t ht _ => ⟨rfl, ht⟩) (fun q hq => by cases hq) dX5_sayingAs_88
  replace hM := itn c1_4 hM
  refine lv_tableOut (tgt := 89) hx hb dX5_sayingAs_1 (sw_out (lo := 1) (hi := 5) (by decide) (by decide) (fun k h1 h2 hk => by
            have hs : k = (1 : Int) ∨ k = (2 : Int) ∨ k = (3 : Int) ∨ k = (4 : Int) ∨ k = (5 : Int) := by omega
            rcases hs with hs | hs | hs | hs | hs <;> subst hs <;> first | exact c1_0 (Int32.toInt_inj.mp (hk.trans (by decide))) | exact c1_1 (Int32.toInt_inj.mp (hk.trans (by decide))) | exact c1_2 (Int32.toInt_inj.mp (hk.trans (by decide))) | exact c1_3 (Int32.toInt_inj.mp (hk.trans (by decide))) | exact c1_4 (Int32.toInt_inj.mp (hk.trans (by decide))))) (by decide) ?_
  refine lv_aload_n hx hb dX5_sayingAs_89 rfl (lv_at hl 0 rfl) ?_
  refine lv_iload_n hx hb dX5_sayingAs_90 rfl (lv_at hl 1 rfl) ?_
  obtain ⟨q17, h16, hM⟩ := bd hM
  refine rVR (wc := (wX5 g a0 T0)) (As := [.int p1]) (rest := []) (q0 := 0) hS (c_X5_sayableBy l g a0 T0 p1 h16) gX5_sayingAs_X5_sayableBy rfl hd_X5_sayableBy ⟨Nat.le_of_ble_eq_true rfl, Nat.le_of_ble_eq_true rfl⟩ hK (va_P.pm hP (pm_1_0 _)) rfl rfl rfl rfl hl.1 rfl (Nat.le_of_ble_eq_true rfl) dX5_sayingAs_91 ⟨Nat.zero_le _, Nat.zero_le _⟩ ?_
  obtain rfl := Option.some.inj hM
  exact W.iret hx hb hr (fun t ht _ => ⟨rfl, ht⟩) (fun q hq => by cases hq) dX5_sayingAs_94
theorem hd_X5_whoIsBarred : yX5_whoIsBarred.cls = RX5 ∧ yX5_whoIsBarred.cls ≠ "java/lang/invoke/MethodHandle" ∧ yX5_whoIsBarred.cls ≠ "java/lang/invoke/VarHandle" ∧ (parseMethodDescriptor yX5_whoIsBarred.desc).map (fun d => d.parameters.length) = some 1 := by decide +kernel
set_option maxHeartbeats 4000000 in
set_option maxRecDepth 100000 in
theorem c_X5_whoIsBarred (l : Launch) (g : Gm) (a0 : Nat → Nat) (T0 : TS) (p1 : Int32) {q : Int32} (hM : f_X5_whoIsBarred T0 p1 = some q) : MR l yX5_whoIsBarred wsX5_whoIsBarred 1 22 g [.ref (a0 0), .int p1] (wX5 g a0 T0) (some (.int q)) := by
  refine Met.ofW (cc := cX5_whoIsBarred) (maxL := 4) (ret := (some .int)) (by decide) rfl ?_
  intro p e s m args below meth c s₁ B hml hv
  obtain ⟨rfl, hP, hK⟩ := hv
  have hx := B.exec; have hb := B.bytes; have hr := B.returns
  have hts := atoms_spec (ws := wsX5_whoIsBarred) B.pre
  have hown : s.vm.findClass RX5 = some m.cls := findClass_of_methodNamed B.named
  have hlocks := B.notSynchronized
  have hS : CallFix p m c cX5_whoIsBarred 4 s _ wsX5_whoIsBarred RX5 := ⟨hx, hb, hml, hown, hts⟩
  have hin_X5 : ∀ w ∈ wsX50, w ∈ wsX5_whoIsBarred := fun w h => (List.mem_cons_of_mem _ (List.mem_append_right _ h))
  have hl := lv_entry ([.ref (a0 0), .int p1]) (n := 4) (Nat.le_of_ble_eq_true rfl)
  rw [lg_entry_eq]
  generalize (lg_sl ([.ref (a0 0), .int p1]) ++ List.replicate (4 - (lg_sl ([.ref (a0 0), .int p1])).length) Slot.unset).toArray = ls at hl ⊢
  have hl : lv_has ls 4 [(0, .ref (a0 0)), (1, .int p1)] := hl
  rw [f_X5_whoIsBarred] at hM
  refine lv_iconst (v := (0 : Int32)) hx hb dX5_whoIsBarred_0 (by decide) ?_
  refine lv_istore_n (lv' := [(2, .int (0 : Int32)), (0, .ref (a0 0)), (1, .int p1)]) hx hb dX5_whoIsBarred_1 rfl hl (by decide) rfl (fun ls hl => ?_)
  refine lv_iconst (v := (0 : Int32)) hx hb dX5_whoIsBarred_2 (by decide) ?_
  refine lv_istore_n (lv' := [(3, .int (0 : Int32)), (2, .int (0 : Int32)), (0, .ref (a0 0)), (1, .int p1)]) hx hb dX5_whoIsBarred_3 rfl hl (by decide) rfl (fun ls hl => ?_)
  obtain ⟨q3, hL4, hM⟩ := bd hM
  have hJ4 : ∀ (ls : Array Slot), lv_has ls 4 [(2, .int q3)] → W p l e (headSpec wsX5_whoIsBarred ({ frames := 1, cells := 0, slots := 0, locals := 22 } : Room)).room s m ([.ref (a0 0), .int p1] : List Value).toArray below meth c s.heap [] 0 0 (MQ below (QcR (some (.int q))) ([.ref (a0 0), .int p1] : List Value).toArray s 0 0 (fun _ => False)) (F0 m 33 ls []) := by
    intro ls hl
    refine lv_iload_n hx hb dX5_whoIsBarred_33 rfl (lv_at hl 0 rfl) ?_
    obtain rfl := Option.some.inj hM
    exact W.iret hx hb hr (fun t ht _ => ⟨rfl, ht⟩) (fun q hq => by cases hq) dX5_whoIsBarred_34
  have hW4 : ∀ (n : Nat) (v3_1 : Int32) (v2_2 : Int32), L_X5_whoIsBarred_4 T0 p1 n v3_1 v2_2 = some q3 → ∀ (ls : Array Slot), lv_has ls 4 [(3, .int v3_1), (2, .int v2_2), (0, .ref (a0 0)), (1, .int p1)] → W p l e (headSpec wsX5_whoIsBarred ({ frames := 1, cells := 0, slots := 0, locals := 22 } : Room)).room s m ([.ref (a0 0), .int p1] : List Value).toArray below meth c s.heap [] 0 0 (MQ below (QcR (some (.int q))) ([.ref (a0 0), .int p1] : List Value).toArray s 0 0 (fun _ => False)) (F0 m 4 ls []) := by
    intro n
    induction n with
    | zero => intro v3_1 v2_2 hM; rw [L_X5_whoIsBarred_4] at hM; exact nn hM
    | succ n ih4 =>
      intro v3_1 v2_2 hM ls hl
      rw [L_X5_whoIsBarred_4] at hM
      refine lv_iload_n hx hb dX5_whoIsBarred_4 rfl (lv_at hl 0 rfl) ?_
      refine lv_aload_n hx hb dX5_whoIsBarred_5 rfl (lv_at hl 2 rfl) ?_
      refine wk_get hx hb hts hin_X5 hown hK hP 5 0 1 (.int (T0 1 0)) rfl rfl (by decide) (mi 1 rfl) rfl rfl dX5_whoIsBarred_6 ?_
      refine lv_icmp_ge (tgt := 33) hx hb dX5_whoIsBarred_9 (by decide) (fun c4 => ?_) (fun c4 => ?_)
      · replace hM := itp c4 hM
        obtain rfl := Option.some.inj hM
        exact hJ4 _ (lv_sub hl [1] rfl)
      · replace hM := itn c4 hM
        refine lv_iload_n hx hb dX5_whoIsBarred_12 rfl (lv_at hl 1 rfl) ?_
        refine lv_iload_n hx hb dX5_whoIsBarred_13 rfl (lv_at hl 0 rfl) ?_
        refine lv_aload_n hx hb dX5_whoIsBarred_14 rfl (lv_at hl 2 rfl) ?_
        refine lv_iload_n hx hb dX5_whoIsBarred_15 rfl (lv_at hl 0 rfl) ?_
        obtain ⟨q6, h5, hM⟩ := bd hM
        refine rVR (wc := (wX5 g a0 T0)) (As := [.int v3_1]) (rest := [.int v3_1, .int v2_2]) (q0 := 0) hS (c_X5_barredTo l g a0 T0 v3_1 h5) gX5_whoIsBarred_X5_barredTo rfl hd_X5_barredTo ⟨Nat.le_of_ble_eq_true rfl, Nat.le_of_ble_eq_true rfl⟩ hK (va_P.pm hP (pm_1_0 _)) rfl rfl rfl rfl hl.1 rfl (Nat.le_of_ble_eq_true rfl) dX5_whoIsBarred_16 ⟨Nat.zero_le _, Nat.zero_le _⟩ ?_
        refine lv_iload_n hx hb dX5_whoIsBarred_19 rfl (lv_at hl 3 rfl) ?_
        refine rNR (wc := ([] : va_W)) (As := [.int q6, .int p1]) (rest := [.int v3_1, .int v2_2]) hS (c_X6_has l g q6 p1) gX5_whoIsBarred_X6_has_n65 rfl (mi 10 rfl) (mi 11 rfl) 6 rfl hd_X6_has ⟨Nat.le_of_ble_eq_true rfl, Nat.le_of_ble_eq_true rfl⟩ hK (hP_nil) rfl hl.1 rfl (Nat.le_of_ble_eq_true rfl) dX5_whoIsBarred_20 ⟨Nat.zero_le _, Nat.zero_le _⟩ ?_
        refine rNR (wc := ([] : va_W)) (As := [.int v2_2, .int v3_1, .int (f_X6_has q6 p1)]) (rest := []) hS (c_X6_with l g v2_2 v3_1 (f_X6_has q6 p1)) gX5_whoIsBarred_X6_with_n61 rfl (mi 13 rfl) (mi 11 rfl) 7 rfl hd_X6_with ⟨Nat.le_of_ble_eq_true rfl, Nat.le_of_ble_eq_true rfl⟩ hK (hP_nil) rfl hl.1 rfl (Nat.le_of_ble_eq_true rfl) dX5_whoIsBarred_23 ⟨Nat.zero_le _, Nat.zero_le _⟩ ?_
        refine lv_istore_n (lv' := [(2, .int (f_X6_with v2_2 v3_1 (f_X6_has q6 p1))), (3, .int v3_1), (0, .ref (a0 0)), (1, .int p1)]) hx hb dX5_whoIsBarred_26 rfl hl (by decide) rfl (fun ls hl => ?_)
        refine lv_iinc (v := (v3_1 + (1 : Int32))) (lv' := [(3, .int (v3_1 + (1 : Int32))), (2, .int (f_X6_with v2_2 v3_1 (f_X6_has q6 p1))), (0, .ref (a0 0)), (1, .int p1)]) hx hb dX5_whoIsBarred_27 hl (k := 1) rfl rfl (by decide) rfl (fun ls hl => ?_)
        refine lv_goto (tgt := 4) hx hb dX5_whoIsBarred_30 (by decide) ?_
        exact ih4 (v3_1 + (1 : Int32)) (f_X6_with v2_2 v3_1 (f_X6_has q6 p1)) hM _ (lv_sub hl [0, 1, 2, 3] rfl)
  exact hW4 300 (0 : Int32) (0 : Int32) hL4 _ (lv_sub hl [0, 1, 2, 3] rfl)
theorem hd_X5_sayingsBetween : yX5_sayingsBetween.cls = RX5 ∧ yX5_sayingsBetween.cls ≠ "java/lang/invoke/MethodHandle" ∧ yX5_sayingsBetween.cls ≠ "java/lang/invoke/VarHandle" ∧ (parseMethodDescriptor yX5_sayingsBetween.desc).map (fun d => d.parameters.length) = some 3 := by decide +kernel
set_option maxHeartbeats 4000000 in
set_option maxRecDepth 100000 in
theorem c_X5_sayingsBetween (l : Launch) (g : Gm) (a0 : Nat → Nat) (T0 : TS) (p1 : Int32) (p2 : Int32) (p3 : Int32) {q : Int32} (hM : f_X5_sayingsBetween T0 p1 p2 p3 = some q) : MR l yX5_sayingsBetween wsX5_sayingsBetween 2 45 g [.ref (a0 0), .int p1, .int p2, .int p3] (wX5 g a0 T0) (some (.int q)) := by
  refine Met.ofW (cc := cX5_sayingsBetween) (maxL := 9) (ret := (some .int)) (by decide) rfl ?_
  intro p e s m args below meth c s₁ B hml hv
  obtain ⟨rfl, hP, hK⟩ := hv
  have hx := B.exec; have hb := B.bytes; have hr := B.returns
  have hts := atoms_spec (ws := wsX5_sayingsBetween) B.pre
  have hown : s.vm.findClass RX5 = some m.cls := findClass_of_methodNamed B.named
  have hlocks := B.notSynchronized
  have hS : CallFix p m c cX5_sayingsBetween 9 s _ wsX5_sayingsBetween RX5 := ⟨hx, hb, hml, hown, hts⟩
  have hin_X5 : ∀ w ∈ wsX50, w ∈ wsX5_sayingsBetween := fun w h => (List.mem_cons_of_mem _ (List.mem_append_right _ h))
  have hl := lv_entry ([.ref (a0 0), .int p1, .int p2, .int p3]) (n := 9) (Nat.le_of_ble_eq_true rfl)
  rw [lg_entry_eq]
  generalize (lg_sl ([.ref (a0 0), .int p1, .int p2, .int p3]) ++ List.replicate (9 - (lg_sl ([.ref (a0 0), .int p1, .int p2, .int p3])).length) Slot.unset).toArray = ls at hl ⊢
  have hl : lv_has ls 9 [(0, .ref (a0 0)), (1, .int p1), (2, .int p2), (3, .int p3)] := hl
  rw [f_X5_sayingsBetween] at hM
  refine lv_aload_n hx hb dX5_sayingsBetween_0 rfl (lv_at hl 0 rfl) ?_
  refine lv_iload_n hx hb dX5_sayingsBetween_1 rfl (lv_at hl 3 rfl) ?_
  obtain ⟨q2, h1, hM⟩ := bd hM
  refine rVR (wc := (wX5 g a0 T0)) (As := [.int p3]) (rest := []) (q0 := 0) hS (c_X5_whoIsBarred l g a0 T0 p3 h1) gX5_sayingsBetween_X5_whoIsBarred rfl hd_X5_whoIsBarred ⟨Nat.le_of_ble_eq_true rfl, Nat.le_of_ble_eq_true rfl⟩ hK (va_P.pm hP (pm_1_0 _)) rfl rfl rfl rfl hl.1 rfl (Nat.le_of_ble_eq_true rfl) dX5_sayingsBetween_2 ⟨Nat.zero_le _, Nat.zero_le _⟩ ?_
  refine lv_istore (lv' := [(4, .int q2), (0, .ref (a0 0)), (1, .int p1), (2, .int p2), (3, .int p3)]) hx hb dX5_sayingsBetween_5 hl (by decide) rfl (fun ls hl => ?_)
  refine lv_iconst (v := (1 : Int32)) hx hb dX5_sayingsBetween_7 (by decide) ?_
  refine lv_iload_n hx hb dX5_sayingsBetween_8 rfl (lv_at hl 2 rfl) ?_
  refine lv_ishl hx hb dX5_sayingsBetween_9 ?_
  refine lv_istore (lv' := [(5, .int ((1 : Int32) <<< (p1 &&& 31))), (4, .int q2), (0, .ref (a0 0)), (1, .int p1), (2, .int p2), (3, .int p3)]) hx hb dX5_sayingsBetween_10 hl (by decide) rfl (fun ls hl => ?_)
  refine lv_iload hx hb dX5_sayingsBetween_12 (lv_at hl 0 rfl) ?_
  refine lv_istore (lv' := [(6, .int ((1 : Int32) <<< (p1 &&& 31))), (5, .int ((1 : Int32) <<< (p1 &&& 31))), (4, .int q2), (0, .ref (a0 0)), (1, .int p1), (2, .int p2), (3, .int p3)]) hx hb dX5_sayingsBetween_14 hl (by decide) rfl (fun ls hl => ?_)
  refine lv_iconst (v := (0 : Int32)) hx hb dX5_sayingsBetween_16 (by decide) ?_
  refine lv_istore (lv' := [(7, .int (0 : Int32)), (6, .int ((1 : Int32) <<< (p1 &&& 31))), (5, .int ((1 : Int32) <<< (p1 &&& 31))), (4, .int q2), (0, .ref (a0 0)), (1, .int p1), (2, .int p2), (3, .int p3)]) hx hb dX5_sayingsBetween_17 hl (by decide) rfl (fun ls hl => ?_)
  obtain ⟨q6, hL19, hM19⟩ := bd hM
  have hJ19 : ∀ (q6x : Unit), q6 = .inr q6x → ∀ (ls : Array Slot), lv_has ls 9 [] → W p l e (headSpec wsX5_sayingsBetween ({ frames := 2, cells := 0, slots := 0, locals := 45 } : Room)).room s m ([.ref (a0 0), .int p1, .int p2, .int p3] : List Value).toArray below meth c s.heap [] 0 0 (MQ below (QcR (some (.int q))) ([.ref (a0 0), .int p1, .int p2, .int p3] : List Value).toArray s 0 0 (fun _ => False)) (F0 m 75 ls []) := by
    intro q6x hX19 ls hl
    rw [hX19] at hM19
    have hM := eo_inr hM19
    refine lv_iconst (v := (-1 : Int32)) hx hb dX5_sayingsBetween_75 (by decide) ?_
    obtain rfl := Option.some.inj hM
    exact W.iret hx hb hr (fun t ht _ => ⟨rfl, ht⟩) (fun q hq => by cases hq) dX5_sayingsBetween_76
  have hW19 : ∀ (n : Nat) (v7_3 : Int32) (v6_4 : Int32) (v5_5 : Int32), L_X5_sayingsBetween_19 T0 p2 q2 n v7_3 v6_4 v5_5 = some q6 → ∀ (ls : Array Slot), lv_has ls 9 [(7, .int v7_3), (6, .int v6_4), (5, .int v5_5), (4, .int q2), (0, .ref (a0 0)), (2, .int p2)] → W p l e (headSpec wsX5_sayingsBetween ({ frames := 2, cells := 0, slots := 0, locals := 45 } : Room)).room s m ([.ref (a0 0), .int p1, .int p2, .int p3] : List Value).toArray below meth c s.heap [] 0 0 (MQ below (QcR (some (.int q))) ([.ref (a0 0), .int p1, .int p2, .int p3] : List Value).toArray s 0 0 (fun _ => False)) (F0 m 19 ls []) := by
    intro n
    induction n with
    | zero => intro v7_3 v6_4 v5_5 hM; rw [L_X5_sayingsBetween_19] at hM; exact nn hM
    | succ n ih19 =>
      intro v7_3 v6_4 v5_5 hM ls hl
      rw [L_X5_sayingsBetween_19] at hM
      refine lv_iload hx hb dX5_sayingsBetween_19 (lv_at hl 0 rfl) ?_
      refine lv_aload_n hx hb dX5_sayingsBetween_21 rfl (lv_at hl 4 rfl) ?_
      refine wk_get hx hb hts hin_X5 hown hK hP 5 0 1 (.int (T0 1 0)) rfl rfl (by decide) (mi 1 rfl) rfl rfl dX5_sayingsBetween_22 ?_
      refine lv_icmp_ge (tgt := 75) hx hb dX5_sayingsBetween_25 (by decide) (fun c7 => ?_) (fun c7 => ?_)
      · replace hM := itp c7 hM
        exact hJ19 _ (Option.some.inj hM).symm _ (lv_sub hl [] rfl)
      · replace hM := itn c7 hM
        refine lv_iload hx hb dX5_sayingsBetween_28 (lv_at hl 2 rfl) ?_
        refine lv_iload_n hx hb dX5_sayingsBetween_30 rfl (lv_at hl 5 rfl) ?_
        refine rNR (wc := ([] : va_W)) (As := [.int v5_5, .int p2]) (rest := []) hS (c_X6_has l g v5_5 p2) gX5_sayingsBetween_X6_has_n65 rfl (mi 14 rfl) (mi 15 rfl) 6 rfl hd_X6_has ⟨Nat.le_of_ble_eq_true rfl, Nat.le_of_ble_eq_true rfl⟩ hK (hP_nil) rfl hl.1 rfl (Nat.le_of_ble_eq_true rfl) dX5_sayingsBetween_31 ⟨Nat.zero_le _, Nat.zero_le _⟩ ?_
        refine lv_if_eq (tgt := 40) hx hb dX5_sayingsBetween_34 (by decide) (fun c9 => ?_) (fun c9 => ?_)
        · replace hM := itp c9 hM
          refine lv_aload_n hx hb dX5_sayingsBetween_40 rfl (lv_at hl 4 rfl) ?_
          refine lv_iload hx hb dX5_sayingsBetween_41 (lv_at hl 1 rfl) ?_
          obtain ⟨q11, h10, hM⟩ := bd hM
          refine rVR (wc := (wX5 g a0 T0)) (As := [.int v6_4]) (rest := []) (q0 := 0) hS (c_X5_hearersOf l g a0 T0 v6_4 h10) gX5_sayingsBetween_X5_hearersOf rfl hd_X5_hearersOf ⟨Nat.le_of_ble_eq_true rfl, Nat.le_of_ble_eq_true rfl⟩ hK (va_P.pm hP (pm_1_0 _)) rfl rfl rfl rfl hl.1 rfl (Nat.le_of_ble_eq_true rfl) dX5_sayingsBetween_43 ⟨Nat.zero_le _, Nat.zero_le _⟩ ?_
          refine lv_iload hx hb dX5_sayingsBetween_46 (lv_at hl 2 rfl) ?_
          refine lv_iconst (v := (-1 : Int32)) hx hb dX5_sayingsBetween_48 (by decide) ?_
          refine lv_ixor hx hb dX5_sayingsBetween_49 ?_
          refine lv_iand hx hb dX5_sayingsBetween_50 ?_
          refine lv_istore (lv' := [(8, .int (q11 &&& (v5_5 ^^^ (-1 : Int32)))), (7, .int v7_3), (6, .int v6_4), (5, .int v5_5), (4, .int q2), (0, .ref (a0 0)), (2, .int p2)]) hx hb dX5_sayingsBetween_51 hl (by decide) rfl (fun ls hl => ?_)
          refine lv_iload hx hb dX5_sayingsBetween_53 (lv_at hl 3 rfl) ?_
          refine lv_iload hx hb dX5_sayingsBetween_55 (lv_at hl 0 rfl) ?_
          refine lv_ior hx hb dX5_sayingsBetween_57 ?_
          refine lv_istore (lv' := [(5, .int (v5_5 ||| (q11 &&& (v5_5 ^^^ (-1 : Int32))))), (8, .int (q11 &&& (v5_5 ^^^ (-1 : Int32)))), (7, .int v7_3), (6, .int v6_4), (4, .int q2), (0, .ref (a0 0)), (2, .int p2)]) hx hb dX5_sayingsBetween_58 hl (by decide) rfl (fun ls hl => ?_)
          refine lv_iload hx hb dX5_sayingsBetween_60 (lv_at hl 1 rfl) ?_
          refine lv_iload hx hb dX5_sayingsBetween_62 (lv_at hl 4 rfl) ?_
          refine lv_iconst (v := (-1 : Int32)) hx hb dX5_sayingsBetween_64 (by decide) ?_
          refine lv_ixor hx hb dX5_sayingsBetween_65 ?_
          refine lv_iand hx hb dX5_sayingsBetween_66 ?_
          refine lv_istore (lv' := [(6, .int ((q11 &&& (v5_5 ^^^ (-1 : Int32))) &&& (q2 ^^^ (-1 : Int32)))), (5, .int (v5_5 ||| (q11 &&& (v5_5 ^^^ (-1 : Int32))))), (8, .int (q11 &&& (v5_5 ^^^ (-1 : Int32)))), (7, .int v7_3), (4, .int q2), (0, .ref (a0 0)), (2, .int p2)]) hx hb dX5_sayingsBetween_67 hl (by decide) rfl (fun ls hl => ?_)
          refine lv_iinc (v := (v7_3 + (1 : Int32))) (lv' := [(7, .int (v7_3 + (1 : Int32))), (6, .int ((q11 &&& (v5_5 ^^^ (-1 : Int32))) &&& (q2 ^^^ (-1 : Int32)))), (5, .int (v5_5 ||| (q11 &&& (v5_5 ^^^ (-1 : Int32))))), (8, .int (q11 &&& (v5_5 ^^^ (-1 : Int32)))), (4, .int q2), (0, .ref (a0 0)), (2, .int p2)]) hx hb dX5_sayingsBetween_69 hl (k := 3) rfl rfl (by decide) rfl (fun ls hl => ?_)
          refine lv_goto (tgt := 19) hx hb dX5_sayingsBetween_72 (by decide) ?_
          exact ih19 (v7_3 + (1 : Int32)) ((q11 &&& (v5_5 ^^^ (-1 : Int32))) &&& (q2 ^^^ (-1 : Int32))) (v5_5 ||| (q11 &&& (v5_5 ^^^ (-1 : Int32)))) hM _ (lv_sub hl [0, 1, 2, 4, 5, 6] rfl)
        · replace hM := itn c9 hM
          refine lv_iload hx hb dX5_sayingsBetween_37 (lv_at hl 0 rfl) ?_
          have hE := Option.some.inj hM
          have hM19' := hM19
          rw [← hE] at hM19'
          obtain rfl := eo_inl hM19'
          exact W.iret hx hb hr (fun t ht _ => ⟨rfl, ht⟩) (fun q hq => by cases hq) dX5_sayingsBetween_39
  exact hW19 300 (0 : Int32) ((1 : Int32) <<< (p1 &&& 31)) ((1 : Int32) <<< (p1 &&& 31)) hL19 _ (lv_sub hl [0, 1, 2, 3, 4, 6] rfl)
theorem hd_X5_settingOf : yX5_settingOf.cls = RX5 ∧ yX5_settingOf.cls ≠ "java/lang/invoke/MethodHandle" ∧ yX5_settingOf.cls ≠ "java/lang/invoke/VarHandle" ∧ (parseMethodDescriptor yX5_settingOf.desc).map (fun d => d.parameters.length) = some 1 := by decide +kernel
set_option maxHeartbeats 4000000 in
set_option maxRecDepth 100000 in
theorem c_X5_settingOf (l : Launch) (g : Gm) (a0 : Nat → Nat) (T0 : TS) (p1 : Int32) : MR l yX5_settingOf wsX5_settingOf 0 0 g [.ref (a0 0), .int p1] (wX5 g a0 T0) (some (.int (f_X5_settingOf T0 p1))) := by
  refine Met.ofW (cc := cX5_settingOf) (maxL := 2) (ret := (some .int)) (by decide) rfl ?_
  intro p e s m args below meth c s₁ B hml hv
  obtain ⟨rfl, hP, hK⟩ := hv
  have hx := B.exec; have hb := B.bytes; have hr := B.returns
  have hts := atoms_spec (ws := wsX5_settingOf) B.pre
  have hown : s.vm.findClass RX5 = some m.cls := findClass_of_methodNamed B.named
  have hlocks := B.notSynchronized
  have hS : CallFix p m c cX5_settingOf 2 s _ wsX5_settingOf RX5 := ⟨hx, hb, hml, hown, hts⟩
  have hin_X5 : ∀ w ∈ wsX50, w ∈ wsX5_settingOf := fun w h => (List.mem_cons_of_mem _ (List.mem_append_right _ h))
  have hl := lv_entry ([.ref (a0 0), .int p1]) (n := 2) (Nat.le_of_ble_eq_true rfl)
  rw [lg_entry_eq]
  generalize (lg_sl ([.ref (a0 0), .int p1]) ++ List.replicate (2 - (lg_sl ([.ref (a0 0), .int p1])).length) Slot.unset).toArray = ls at hl ⊢
  have hl : lv_has ls 2 [(0, .ref (a0 0)), (1, .int p1)] := hl
  obtain ⟨rr, hM⟩ : ∃ rr, f_X5_settingOf T0 p1 = rr := ⟨_, rfl⟩
  rw [hM]
  rw [f_X5_settingOf] at hM
  refine lv_iload_n hx hb dX5_settingOf_0 rfl (lv_at hl 1 rfl) ?_
  by_cases c1_0 : p1 = (0 : Int32)
  · replace hM := itp c1_0 hM
    refine lv_lookup (off := (27 : Int)) (tgt := 28) hx hb dX5_settingOf_1 (by decide) (by rw [c1_0]; first | done | decide) (by decide) ?_
    refine lv_aload_n hx hb dX5_settingOf_28 rfl (lv_at hl 0 rfl) ?_
    refine wk_get hx hb hts hin_X5 hown hK hP 5 0 2 (.int (T0 2 0)) rfl rfl (by decide) (mi 1 rfl) rfl rfl dX5_settingOf_29 ?_
    subst hM
    exact W.iret hx hb hr (fun t ht _ => ⟨rfl, ht⟩) (fun q hq => by cases hq) dX5_settingOf_32
  replace hM := itn c1_0 hM
  by_cases c1_1 : p1 = (1 : Int32)
  · replace hM := itp c1_1 hM
    refine lv_lookup (off := (32 : Int)) (tgt := 33) hx hb dX5_settingOf_1 (by decide) (by rw [c1_1]; first | done | decide) (by decide) ?_
    refine lv_aload_n hx hb dX5_settingOf_33 rfl (lv_at hl 0 rfl) ?_
    refine wk_get hx hb hts hin_X5 hown hK hP 5 0 3 (.int (T0 3 0)) rfl rfl (by decide) (mi 2 rfl) rfl rfl dX5_settingOf_34 ?_
    subst hM
    exact W.iret hx hb hr (fun t ht _ => ⟨rfl, ht⟩) (fun q hq => by cases hq) dX5_settingOf_37
  replace hM := itn c1_1 hM
  refine lv_lookup (off := (37 : Int)) (tgt := 38) hx hb dX5_settingOf_1 (by decide) (by show Op.lookupswitch.offset [(0, 27), (1, 32)] 37 _ = _; exact (lv_osw (a := 0) c1_0 (by decide)).trans ((lv_osw (a := 1) c1_1 (by decide)).trans (rfl))) (by decide) ?_
  refine lv_aload_n hx hb dX5_settingOf_38 rfl (lv_at hl 0 rfl) ?_
  refine wk_get hx hb hts hin_X5 hown hK hP 5 0 4 (.int (T0 4 0)) rfl rfl (by decide) (mi 3 rfl) rfl rfl dX5_settingOf_39 ?_
  subst hM
  exact W.iret hx hb hr (fun t ht _ => ⟨rfl, ht⟩) (fun q hq => by cases hq) dX5_settingOf_42
theorem hd_X5_showTo : yX5_showTo.cls = RX5 ∧ yX5_showTo.cls ≠ "java/lang/invoke/MethodHandle" ∧ yX5_showTo.cls ≠ "java/lang/invoke/VarHandle" ∧ (parseMethodDescriptor yX5_showTo.desc).map (fun d => d.parameters.length) = some 2 := by decide +kernel
set_option maxHeartbeats 4000000 in
set_option maxRecDepth 100000 in
theorem c_X5_showTo (l : Launch) (g : Gm) (a0 : Nat → Nat) (T0 : TS) (p1 : Int32) (p2 : Int32) {q : TS} (hM : f_X5_showTo T0 p1 p2 = some q) : MW l yX5_showTo wsX5_showTo 2 45 g [.ref (a0 0), .int p1, .int p2] (wX5 g a0 T0) none (wX5 g a0 q) := by
  intro sz
  refine Met.ofW (cc := cX5_showTo) (maxL := 4) (ret := none) (by decide) rfl ?_
  intro p e s m args below meth c s₁ B hml hv
  obtain ⟨rfl, hsz, hP, hK, hD0⟩ := hv
  have hx := B.exec; have hb := B.bytes; have hr := B.returns
  have hts := atoms_spec (ws := wsX5_showTo) B.pre
  have hown : s.vm.findClass RX5 = some m.cls := findClass_of_methodNamed B.named
  have hlocks := B.notSynchronized
  have hS : CallFix p m c cX5_showTo 4 s _ wsX5_showTo RX5 := ⟨hx, hb, hml, hown, hts⟩
  have hin_X5 : ∀ w ∈ wsX50, w ∈ wsX5_showTo := fun w h => (List.mem_cons_of_mem _ (List.mem_append_right _ h))
  subst hsz
  have hw := wk_start hP hD0
  have hA : ∀ q : Nat, s.heap.size ≤ q → va_A (wX5 g a0 T0) s.heap.size q := fun q h => Or.inr h
  generalize va_A (wX5 g a0 T0) s.heap.size = A at hw hA ⊢
  clear hP hD0
  have hl := lv_entry ([.ref (a0 0), .int p1, .int p2]) (n := 4) (Nat.le_of_ble_eq_true rfl)
  rw [lg_entry_eq]
  generalize (lg_sl ([.ref (a0 0), .int p1, .int p2]) ++ List.replicate (4 - (lg_sl ([.ref (a0 0), .int p1, .int p2])).length) Slot.unset).toArray = ls at hl ⊢
  have hl : lv_has ls 4 [(0, .ref (a0 0)), (1, .int p1), (2, .int p2)] := hl
  rw [f_X5_showTo] at hM
  refine lv_iconst (v := (0 : Int32)) hx hb dX5_showTo_0 (by decide) ?_
  refine lv_istore_n (lv' := [(3, .int (0 : Int32)), (0, .ref (a0 0)), (1, .int p1), (2, .int p2)]) hx hb dX5_showTo_1 rfl hl (by decide) rfl (fun ls hl => ?_)
  obtain ⟨q3, hL2, hM⟩ := bd hM
  have hJ2 : ∀ (H : Heap) (locs : List Loc), Wk g A s.heap H locs (wX5 g a0 q3) → ∀ (ls : Array Slot), lv_has ls 4 [] → W p l e (headSpec wsX5_showTo ({ frames := 2, cells := 0, slots := 0, locals := 45 } : Room)).room s m ([.ref (a0 0), .int p1, .int p2] : List Value).toArray below meth c H locs 0 0 (MQ below (QcW g none (wX5 g a0 q) A) ([.ref (a0 0), .int p1, .int p2] : List Value).toArray s 0 0 A) (F0 m 31 ls []) := by
    intro H locs hw ls hl
    obtain rfl := Option.some.inj hM
    exact W.vret hx hb hr (fun t ht _ => ⟨rfl, by rw [ht]; exact hw.1, hw.2.2.F ht⟩) hw.2.2.2.2 dX5_showTo_31
  have hW2 : ∀ (n : Nat) (v3_1 : Int32) (TL2 : TS), L_X5_showTo_2 p1 p2 n v3_1 TL2 = some q3 → ∀ (H : Heap) (locs : List Loc), Wk g A s.heap H locs (wX5 g a0 TL2) → ∀ (ls : Array Slot), lv_has ls 4 [(3, .int v3_1), (0, .ref (a0 0)), (1, .int p1), (2, .int p2)] → W p l e (headSpec wsX5_showTo ({ frames := 2, cells := 0, slots := 0, locals := 45 } : Room)).room s m ([.ref (a0 0), .int p1, .int p2] : List Value).toArray below meth c H locs 0 0 (MQ below (QcW g none (wX5 g a0 q) A) ([.ref (a0 0), .int p1, .int p2] : List Value).toArray s 0 0 A) (F0 m 2 ls []) := by
    intro n
    induction n with
    | zero => intro v3_1 TL2 hM; rw [L_X5_showTo_2] at hM; exact nn hM
    | succ n ih2 =>
      intro v3_1 TL2 hM H locs hw ls hl
      rw [L_X5_showTo_2] at hM
      refine lv_iload_n hx hb dX5_showTo_2 rfl (lv_at hl 0 rfl) ?_
      refine lv_aload_n hx hb dX5_showTo_3 rfl (lv_at hl 1 rfl) ?_
      refine wk_get hx hb hts hin_X5 hown hK hw.1 5 0 1 (.int (TL2 1 0)) rfl rfl (by decide) (mi 1 rfl) rfl rfl dX5_showTo_4 ?_
      refine lv_icmp_ge (tgt := 31) hx hb dX5_showTo_7 (by decide) (fun c4 => ?_) (fun c4 => ?_)
      · replace hM := itp c4 hM
        obtain rfl := Option.some.inj hM
        exact hJ2 _ _ hw _ (lv_sub hl [] rfl)
      · replace hM := itn c4 hM
        refine lv_iload_n hx hb dX5_showTo_10 rfl (lv_at hl 2 rfl) ?_
        refine lv_iload_n hx hb dX5_showTo_11 rfl (lv_at hl 0 rfl) ?_
        refine rNR (wc := ([] : va_W)) (As := [.int p1, .int v3_1]) (rest := []) hS (c_X6_has l g p1 v3_1) gX5_showTo_X6_has_n65 rfl (mi 2 rfl) (mi 3 rfl) 6 rfl hd_X6_has ⟨Nat.le_of_ble_eq_true rfl, Nat.le_of_ble_eq_true rfl⟩ hK (hP_nil) rfl hl.1 rfl (Nat.le_of_ble_eq_true rfl) dX5_showTo_12 ⟨Nat.zero_le _, Nat.zero_le _⟩ ?_
        refine lv_if_eq (tgt := 25) hx hb dX5_showTo_15 (by decide) (fun c6 => ?_) (fun c6 => ?_)
        · replace hM := itp c6 hM
          refine lv_iinc (v := (v3_1 + (1 : Int32))) (lv' := [(3, .int (v3_1 + (1 : Int32))), (0, .ref (a0 0)), (1, .int p1), (2, .int p2)]) hx hb dX5_showTo_25 hl (k := 0) rfl rfl (by decide) rfl (fun ls hl => ?_)
          refine lv_goto (tgt := 2) hx hb dX5_showTo_28 (by decide) ?_
          exact ih2 (v3_1 + (1 : Int32)) TL2 hM _ _ hw _ (lv_sub hl [0, 1, 2, 3] rfl)
        · replace hM := itn c6 hM
          refine lv_aload_n hx hb dX5_showTo_18 rfl (lv_at hl 1 rfl) ?_
          refine lv_iload_n hx hb dX5_showTo_19 rfl (lv_at hl 0 rfl) ?_
          refine lv_iload_n hx hb dX5_showTo_20 rfl (lv_at hl 3 rfl) ?_
          refine lv_iconst (v := (2 : Int32)) hx hb dX5_showTo_21 (by decide) ?_
          obtain ⟨q8, h7, hM⟩ := bd hM
          refine rVWp (wc := (wX5 g a0 TL2)) (wq := (wX5 g a0 q8)) (As := [.int v3_1, .int p2, .int (2 : Int32)]) (rest := []) (q0 := 0) hS (c_X5_putSeen l g a0 TL2 v3_1 p2 (2 : Int32) h7) gX5_showTo_X5_putSeen rfl hd_X5_putSeen ⟨Nat.le_of_ble_eq_true rfl, Nat.le_of_ble_eq_true rfl⟩ hK hw hA (pm_1_0 _) rfl (pm_1_0 _) rfl rfl rfl rfl hl.1 rfl (Nat.le_of_ble_eq_true rfl) dX5_showTo_22 ⟨Nat.zero_le _, Nat.zero_le _⟩ (fun H locs hw => ?_)
          refine lv_iinc (v := (v3_1 + (1 : Int32))) (lv' := [(3, .int (v3_1 + (1 : Int32))), (0, .ref (a0 0)), (1, .int p1), (2, .int p2)]) hx hb dX5_showTo_25 hl (k := 0) rfl rfl (by decide) rfl (fun ls hl => ?_)
          refine lv_goto (tgt := 2) hx hb dX5_showTo_28 (by decide) ?_
          exact ih2 (v3_1 + (1 : Int32)) q8 hM _ _ hw _ (lv_sub hl [0, 1, 2, 3] rfl)
  exact hW2 300 (0 : Int32) T0 hL2 _ _ hw _ (lv_sub hl [0, 1, 2, 3] rfl)
theorem hd_X5_whoIsUnheard : yX5_whoIsUnheard.cls = RX5 ∧ yX5_whoIsUnheard.cls ≠ "java/lang/invoke/MethodHandle" ∧ yX5_whoIsUnheard.cls ≠ "java/lang/invoke/VarHandle" ∧ (parseMethodDescriptor yX5_whoIsUnheard.desc).map (fun d => d.parameters.length) = some 0 := by decide +kernel
set_option maxHeartbeats 4000000 in
set_option maxRecDepth 100000 in
theorem c_X5_whoIsUnheard (l : Launch) (g : Gm) (a0 : Nat → Nat) (T0 : TS) {q : Int32} (hM : f_X5_whoIsUnheard T0 = some q) : MR l yX5_whoIsUnheard wsX5_whoIsUnheard 1 20 g [.ref (a0 0)] (wX5 g a0 T0) (some (.int q)) := by
  refine Met.ofW (cc := cX5_whoIsUnheard) (maxL := 3) (ret := (some .int)) (by decide) rfl ?_
  intro p e s m args below meth c s₁ B hml hv
  obtain ⟨rfl, hP, hK⟩ := hv
  have hx := B.exec; have hb := B.bytes; have hr := B.returns
  have hts := atoms_spec (ws := wsX5_whoIsUnheard) B.pre
  have hown : s.vm.findClass RX5 = some m.cls := findClass_of_methodNamed B.named
  have hlocks := B.notSynchronized
  have hS : CallFix p m c cX5_whoIsUnheard 3 s _ wsX5_whoIsUnheard RX5 := ⟨hx, hb, hml, hown, hts⟩
  have hin_X5 : ∀ w ∈ wsX50, w ∈ wsX5_whoIsUnheard := fun w h => (List.mem_cons_of_mem _ (List.mem_append_right _ h))
  have hl := lv_entry ([.ref (a0 0)]) (n := 3) (Nat.le_of_ble_eq_true rfl)
  rw [lg_entry_eq]
  generalize (lg_sl ([.ref (a0 0)]) ++ List.replicate (3 - (lg_sl ([.ref (a0 0)])).length) Slot.unset).toArray = ls at hl ⊢
  have hl : lv_has ls 3 [(0, .ref (a0 0))] := hl
  rw [f_X5_whoIsUnheard] at hM
  refine lv_iconst (v := (0 : Int32)) hx hb dX5_whoIsUnheard_0 (by decide) ?_
  refine lv_istore_n (lv' := [(1, .int (0 : Int32)), (0, .ref (a0 0))]) hx hb dX5_whoIsUnheard_1 rfl hl (by decide) rfl (fun ls hl => ?_)
  refine lv_iconst (v := (0 : Int32)) hx hb dX5_whoIsUnheard_2 (by decide) ?_
  refine lv_istore_n (lv' := [(2, .int (0 : Int32)), (1, .int (0 : Int32)), (0, .ref (a0 0))]) hx hb dX5_whoIsUnheard_3 rfl hl (by decide) rfl (fun ls hl => ?_)
  obtain ⟨q3, hL4, hM⟩ := bd hM
  have hJ4 : ∀ (ls : Array Slot), lv_has ls 3 [(1, .int q3), (0, .ref (a0 0))] → W p l e (headSpec wsX5_whoIsUnheard ({ frames := 1, cells := 0, slots := 0, locals := 20 } : Room)).room s m ([.ref (a0 0)] : List Value).toArray below meth c s.heap [] 0 0 (MQ below (QcR (some (.int q))) ([.ref (a0 0)] : List Value).toArray s 0 0 (fun _ => False)) (F0 m 27 ls []) := by
    intro ls hl
    refine lv_aload_n hx hb dX5_whoIsUnheard_27 rfl (lv_at hl 1 rfl) ?_
    refine rVR (wc := (wX5 g a0 T0)) (As := []) (rest := []) (q0 := 0) hS (c_X5_allPeople l g a0 T0) gX5_whoIsUnheard_X5_allPeople rfl hd_X5_allPeople ⟨Nat.le_of_ble_eq_true rfl, Nat.le_of_ble_eq_true rfl⟩ hK (va_P.pm hP (pm_1_0 _)) rfl rfl rfl rfl hl.1 rfl (Nat.le_of_ble_eq_true rfl) dX5_whoIsUnheard_28 ⟨Nat.zero_le _, Nat.zero_le _⟩ ?_
    refine lv_iload_n hx hb dX5_whoIsUnheard_31 rfl (lv_at hl 0 rfl) ?_
    refine lv_iconst (v := (-1 : Int32)) hx hb dX5_whoIsUnheard_32 (by decide) ?_
    refine lv_ixor hx hb dX5_whoIsUnheard_33 ?_
    refine lv_iand hx hb dX5_whoIsUnheard_34 ?_
    obtain rfl := Option.some.inj hM
    exact W.iret hx hb hr (fun t ht _ => ⟨rfl, ht⟩) (fun q hq => by cases hq) dX5_whoIsUnheard_35
  have hW4 : ∀ (n : Nat) (v2_1 : Int32) (v1_2 : Int32), L_X5_whoIsUnheard_4 T0 n v2_1 v1_2 = some q3 → ∀ (ls : Array Slot), lv_has ls 3 [(2, .int v2_1), (1, .int v1_2), (0, .ref (a0 0))] → W p l e (headSpec wsX5_whoIsUnheard ({ frames := 1, cells := 0, slots := 0, locals := 20 } : Room)).room s m ([.ref (a0 0)] : List Value).toArray below meth c s.heap [] 0 0 (MQ below (QcR (some (.int q))) ([.ref (a0 0)] : List Value).toArray s 0 0 (fun _ => False)) (F0 m 4 ls []) := by
    intro n
    induction n with
    | zero => intro v2_1 v1_2 hM; rw [L_X5_whoIsUnheard_4] at hM; exact nn hM
    | succ n ih4 =>
      intro v2_1 v1_2 hM ls hl
      rw [L_X5_whoIsUnheard_4] at hM
      refine lv_iload_n hx hb dX5_whoIsUnheard_4 rfl (lv_at hl 0 rfl) ?_
      refine lv_aload_n hx hb dX5_whoIsUnheard_5 rfl (lv_at hl 2 rfl) ?_
      refine wk_get hx hb hts hin_X5 hown hK hP 5 0 1 (.int (T0 1 0)) rfl rfl (by decide) (mi 1 rfl) rfl rfl dX5_whoIsUnheard_6 ?_
      refine lv_icmp_ge (tgt := 27) hx hb dX5_whoIsUnheard_9 (by decide) (fun c4 => ?_) (fun c4 => ?_)
      · replace hM := itp c4 hM
        obtain rfl := Option.some.inj hM
        exact hJ4 _ (lv_sub hl [1, 2] rfl)
      · replace hM := itn c4 hM
        refine lv_iload_n hx hb dX5_whoIsUnheard_12 rfl (lv_at hl 1 rfl) ?_
        refine lv_aload_n hx hb dX5_whoIsUnheard_13 rfl (lv_at hl 2 rfl) ?_
        refine wk_get hx hb hts hin_X5 hown hK hP 5 0 10 (.ref (a0 4)) rfl rfl (by decide) (mi 2 rfl) rfl rfl dX5_whoIsUnheard_14 ?_
        refine lv_iload_n hx hb dX5_whoIsUnheard_17 rfl (lv_at hl 0 rfl) ?_
        obtain ⟨k5, hM⟩ := ck hM
        refine wk_iald hx hb hK hP 4 7 (T0 10) rfl k5 dX5_whoIsUnheard_18 ?_
        refine lv_ior hx hb dX5_whoIsUnheard_19 ?_
        refine lv_istore_n (lv' := [(1, .int (v1_2 ||| ((T0 10) (v2_1).toNatClampNeg))), (2, .int v2_1), (0, .ref (a0 0))]) hx hb dX5_whoIsUnheard_20 rfl hl (by decide) rfl (fun ls hl => ?_)
        refine lv_iinc (v := (v2_1 + (1 : Int32))) (lv' := [(2, .int (v2_1 + (1 : Int32))), (1, .int (v1_2 ||| ((T0 10) (v2_1).toNatClampNeg))), (0, .ref (a0 0))]) hx hb dX5_whoIsUnheard_21 hl (k := 1) rfl rfl (by decide) rfl (fun ls hl => ?_)
        refine lv_goto (tgt := 4) hx hb dX5_whoIsUnheard_24 (by decide) ?_
        exact ih4 (v2_1 + (1 : Int32)) (v1_2 ||| ((T0 10) (v2_1).toNatClampNeg)) hM _ (lv_sub hl [0, 1, 2] rfl)
  exact hW4 300 (0 : Int32) (0 : Int32) hL4 _ (lv_sub hl [0, 1, 2] rfl)
theorem hd_X5_whoKnows : yX5_whoKnows.cls = RX5 ∧ yX5_whoKnows.cls ≠ "java/lang/invoke/MethodHandle" ∧ yX5_whoKnows.cls ≠ "java/lang/invoke/VarHandle" ∧ (parseMethodDescriptor yX5_whoKnows.desc).map (fun d => d.parameters.length) = some 1 := by decide +kernel
set_option maxHeartbeats 4000000 in
set_option maxRecDepth 100000 in
theorem c_X5_whoKnows (l : Launch) (g : Gm) (a0 : Nat → Nat) (T0 : TS) (p1 : Int32) {q : Int32} (hM : f_X5_whoKnows T0 p1 = some q) : MR l yX5_whoKnows wsX5_whoKnows 1 22 g [.ref (a0 0), .int p1] (wX5 g a0 T0) (some (.int q)) := by
  refine Met.ofW (cc := cX5_whoKnows) (maxL := 4) (ret := (some .int)) (by decide) rfl ?_
  intro p e s m args below meth c s₁ B hml hv
  obtain ⟨rfl, hP, hK⟩ := hv
  have hx := B.exec; have hb := B.bytes; have hr := B.returns
  have hts := atoms_spec (ws := wsX5_whoKnows) B.pre
  have hown : s.vm.findClass RX5 = some m.cls := findClass_of_methodNamed B.named
  have hlocks := B.notSynchronized
  have hS : CallFix p m c cX5_whoKnows 4 s _ wsX5_whoKnows RX5 := ⟨hx, hb, hml, hown, hts⟩
  have hin_X5 : ∀ w ∈ wsX50, w ∈ wsX5_whoKnows := fun w h => (List.mem_cons_of_mem _ (List.mem_append_right _ h))
  have hl := lv_entry ([.ref (a0 0), .int p1]) (n := 4) (Nat.le_of_ble_eq_true rfl)
  rw [lg_entry_eq]
  generalize (lg_sl ([.ref (a0 0), .int p1]) ++ List.replicate (4 - (lg_sl ([.ref (a0 0), .int p1])).length) Slot.unset).toArray = ls at hl ⊢
  have hl : lv_has ls 4 [(0, .ref (a0 0)), (1, .int p1)] := hl
  rw [f_X5_whoKnows] at hM
  refine lv_iconst (v := (0 : Int32)) hx hb dX5_whoKnows_0 (by decide) ?_
  refine lv_istore_n (lv' := [(2, .int (0 : Int32)), (0, .ref (a0 0)), (1, .int p1)]) hx hb dX5_whoKnows_1 rfl hl (by decide) rfl (fun ls hl => ?_)
  refine lv_iconst (v := (0 : Int32)) hx hb dX5_whoKnows_2 (by decide) ?_
  refine lv_istore_n (lv' := [(3, .int (0 : Int32)), (2, .int (0 : Int32)), (0, .ref (a0 0)), (1, .int p1)]) hx hb dX5_whoKnows_3 rfl hl (by decide) rfl (fun ls hl => ?_)
  obtain ⟨q3, hL4, hM⟩ := bd hM
  have hJ4 : ∀ (ls : Array Slot), lv_has ls 4 [(2, .int q3)] → W p l e (headSpec wsX5_whoKnows ({ frames := 1, cells := 0, slots := 0, locals := 22 } : Room)).room s m ([.ref (a0 0), .int p1] : List Value).toArray below meth c s.heap [] 0 0 (MQ below (QcR (some (.int q))) ([.ref (a0 0), .int p1] : List Value).toArray s 0 0 (fun _ => False)) (F0 m 33 ls []) := by
    intro ls hl
    refine lv_iload_n hx hb dX5_whoKnows_33 rfl (lv_at hl 0 rfl) ?_
    obtain rfl := Option.some.inj hM
    exact W.iret hx hb hr (fun t ht _ => ⟨rfl, ht⟩) (fun q hq => by cases hq) dX5_whoKnows_34
  have hW4 : ∀ (n : Nat) (v3_1 : Int32) (v2_2 : Int32), L_X5_whoKnows_4 T0 p1 n v3_1 v2_2 = some q3 → ∀ (ls : Array Slot), lv_has ls 4 [(3, .int v3_1), (2, .int v2_2), (0, .ref (a0 0)), (1, .int p1)] → W p l e (headSpec wsX5_whoKnows ({ frames := 1, cells := 0, slots := 0, locals := 22 } : Room)).room s m ([.ref (a0 0), .int p1] : List Value).toArray below meth c s.heap [] 0 0 (MQ below (QcR (some (.int q))) ([.ref (a0 0), .int p1] : List Value).toArray s 0 0 (fun _ => False)) (F0 m 4 ls []) := by
    intro n
    induction n with
    | zero => intro v3_1 v2_2 hM; rw [L_X5_whoKnows_4] at hM; exact nn hM
    | succ n ih4 =>
      intro v3_1 v2_2 hM ls hl
      rw [L_X5_whoKnows_4] at hM
      refine lv_iload_n hx hb dX5_whoKnows_4 rfl (lv_at hl 0 rfl) ?_
      refine lv_aload_n hx hb dX5_whoKnows_5 rfl (lv_at hl 2 rfl) ?_
      refine wk_get hx hb hts hin_X5 hown hK hP 5 0 1 (.int (T0 1 0)) rfl rfl (by decide) (mi 1 rfl) rfl rfl dX5_whoKnows_6 ?_
      refine lv_icmp_ge (tgt := 33) hx hb dX5_whoKnows_9 (by decide) (fun c4 => ?_) (fun c4 => ?_)
      · replace hM := itp c4 hM
        obtain rfl := Option.some.inj hM
        exact hJ4 _ (lv_sub hl [1] rfl)
      · replace hM := itn c4 hM
        refine lv_iload_n hx hb dX5_whoKnows_12 rfl (lv_at hl 1 rfl) ?_
        refine lv_iload_n hx hb dX5_whoKnows_13 rfl (lv_at hl 0 rfl) ?_
        refine lv_aload_n hx hb dX5_whoKnows_14 rfl (lv_at hl 2 rfl) ?_
        refine lv_iload_n hx hb dX5_whoKnows_15 rfl (lv_at hl 0 rfl) ?_
        obtain ⟨q6, h5, hM⟩ := bd hM
        refine rVR (wc := (wX5 g a0 T0)) (As := [.int v3_1]) (rest := [.int v3_1, .int v2_2]) (q0 := 0) hS (c_X5_knownTo l g a0 T0 v3_1 h5) gX5_whoKnows_X5_knownTo rfl hd_X5_knownTo ⟨Nat.le_of_ble_eq_true rfl, Nat.le_of_ble_eq_true rfl⟩ hK (va_P.pm hP (pm_1_0 _)) rfl rfl rfl rfl hl.1 rfl (Nat.le_of_ble_eq_true rfl) dX5_whoKnows_16 ⟨Nat.zero_le _, Nat.zero_le _⟩ ?_
        refine lv_iload_n hx hb dX5_whoKnows_19 rfl (lv_at hl 3 rfl) ?_
        refine rNR (wc := ([] : va_W)) (As := [.int q6, .int p1]) (rest := [.int v3_1, .int v2_2]) hS (c_X6_has l g q6 p1) gX5_whoKnows_X6_has_n65 rfl (mi 10 rfl) (mi 11 rfl) 6 rfl hd_X6_has ⟨Nat.le_of_ble_eq_true rfl, Nat.le_of_ble_eq_true rfl⟩ hK (hP_nil) rfl hl.1 rfl (Nat.le_of_ble_eq_true rfl) dX5_whoKnows_20 ⟨Nat.zero_le _, Nat.zero_le _⟩ ?_
        refine rNR (wc := ([] : va_W)) (As := [.int v2_2, .int v3_1, .int (f_X6_has q6 p1)]) (rest := []) hS (c_X6_with l g v2_2 v3_1 (f_X6_has q6 p1)) gX5_whoKnows_X6_with_n61 rfl (mi 13 rfl) (mi 11 rfl) 7 rfl hd_X6_with ⟨Nat.le_of_ble_eq_true rfl, Nat.le_of_ble_eq_true rfl⟩ hK (hP_nil) rfl hl.1 rfl (Nat.le_of_ble_eq_true rfl) dX5_whoKnows_23 ⟨Nat.zero_le _, Nat.zero_le _⟩ ?_
        refine lv_istore_n (lv' := [(2, .int (f_X6_with v2_2 v3_1 (f_X6_has q6 p1))), (3, .int v3_1), (0, .ref (a0 0)), (1, .int p1)]) hx hb dX5_whoKnows_26 rfl hl (by decide) rfl (fun ls hl => ?_)
        refine lv_iinc (v := (v3_1 + (1 : Int32))) (lv' := [(3, .int (v3_1 + (1 : Int32))), (2, .int (f_X6_with v2_2 v3_1 (f_X6_has q6 p1))), (0, .ref (a0 0)), (1, .int p1)]) hx hb dX5_whoKnows_27 hl (k := 1) rfl rfl (by decide) rfl (fun ls hl => ?_)
        refine lv_goto (tgt := 4) hx hb dX5_whoKnows_30 (by decide) ?_
        exact ih4 (v3_1 + (1 : Int32)) (f_X6_with v2_2 v3_1 (f_X6_has q6 p1)) hM _ (lv_sub hl [0, 1, 2, 3] rfl)
  exact hW4 300 (0 : Int32) (0 : Int32) hL4 _ (lv_sub hl [0, 1, 2, 3] rfl)
theorem hd_X5_whoMaySay : yX5_whoMaySay.cls = RX5 ∧ yX5_whoMaySay.cls ≠ "java/lang/invoke/MethodHandle" ∧ yX5_whoMaySay.cls ≠ "java/lang/invoke/VarHandle" ∧ (parseMethodDescriptor yX5_whoMaySay.desc).map (fun d => d.parameters.length) = some 1 := by decide +kernel
set_option maxHeartbeats 4000000 in
set_option maxRecDepth 100000 in
theorem c_X5_whoMaySay (l : Launch) (g : Gm) (a0 : Nat → Nat) (T0 : TS) (p1 : Int32) {q : Int32} (hM : f_X5_whoMaySay T0 p1 = some q) : MR l yX5_whoMaySay wsX5_whoMaySay 2 48 g [.ref (a0 0), .int p1] (wX5 g a0 T0) (some (.int q)) := by
  refine Met.ofW (cc := cX5_whoMaySay) (maxL := 4) (ret := (some .int)) (by decide) rfl ?_
  intro p e s m args below meth c s₁ B hml hv
  obtain ⟨rfl, hP, hK⟩ := hv
  have hx := B.exec; have hb := B.bytes; have hr := B.returns
  have hts := atoms_spec (ws := wsX5_whoMaySay) B.pre
  have hown : s.vm.findClass RX5 = some m.cls := findClass_of_methodNamed B.named
  have hlocks := B.notSynchronized
  have hS : CallFix p m c cX5_whoMaySay 4 s _ wsX5_whoMaySay RX5 := ⟨hx, hb, hml, hown, hts⟩
  have hin_X5 : ∀ w ∈ wsX50, w ∈ wsX5_whoMaySay := fun w h => (List.mem_cons_of_mem _ (List.mem_append_right _ h))
  have hl := lv_entry ([.ref (a0 0), .int p1]) (n := 4) (Nat.le_of_ble_eq_true rfl)
  rw [lg_entry_eq]
  generalize (lg_sl ([.ref (a0 0), .int p1]) ++ List.replicate (4 - (lg_sl ([.ref (a0 0), .int p1])).length) Slot.unset).toArray = ls at hl ⊢
  have hl : lv_has ls 4 [(0, .ref (a0 0)), (1, .int p1)] := hl
  rw [f_X5_whoMaySay] at hM
  refine lv_iconst (v := (0 : Int32)) hx hb dX5_whoMaySay_0 (by decide) ?_
  refine lv_istore_n (lv' := [(2, .int (0 : Int32)), (0, .ref (a0 0)), (1, .int p1)]) hx hb dX5_whoMaySay_1 rfl hl (by decide) rfl (fun ls hl => ?_)
  refine lv_iconst (v := (0 : Int32)) hx hb dX5_whoMaySay_2 (by decide) ?_
  refine lv_istore_n (lv' := [(3, .int (0 : Int32)), (2, .int (0 : Int32)), (0, .ref (a0 0)), (1, .int p1)]) hx hb dX5_whoMaySay_3 rfl hl (by decide) rfl (fun ls hl => ?_)
  obtain ⟨q3, hL4, hM⟩ := bd hM
  have hJ4 : ∀ (ls : Array Slot), lv_has ls 4 [(2, .int q3)] → W p l e (headSpec wsX5_whoMaySay ({ frames := 2, cells := 0, slots := 0, locals := 48 } : Room)).room s m ([.ref (a0 0), .int p1] : List Value).toArray below meth c s.heap [] 0 0 (MQ below (QcR (some (.int q))) ([.ref (a0 0), .int p1] : List Value).toArray s 0 0 (fun _ => False)) (F0 m 33 ls []) := by
    intro ls hl
    refine lv_iload_n hx hb dX5_whoMaySay_33 rfl (lv_at hl 0 rfl) ?_
    obtain rfl := Option.some.inj hM
    exact W.iret hx hb hr (fun t ht _ => ⟨rfl, ht⟩) (fun q hq => by cases hq) dX5_whoMaySay_34
  have hW4 : ∀ (n : Nat) (v3_1 : Int32) (v2_2 : Int32), L_X5_whoMaySay_4 T0 p1 n v3_1 v2_2 = some q3 → ∀ (ls : Array Slot), lv_has ls 4 [(3, .int v3_1), (2, .int v2_2), (0, .ref (a0 0)), (1, .int p1)] → W p l e (headSpec wsX5_whoMaySay ({ frames := 2, cells := 0, slots := 0, locals := 48 } : Room)).room s m ([.ref (a0 0), .int p1] : List Value).toArray below meth c s.heap [] 0 0 (MQ below (QcR (some (.int q))) ([.ref (a0 0), .int p1] : List Value).toArray s 0 0 (fun _ => False)) (F0 m 4 ls []) := by
    intro n
    induction n with
    | zero => intro v3_1 v2_2 hM; rw [L_X5_whoMaySay_4] at hM; exact nn hM
    | succ n ih4 =>
      intro v3_1 v2_2 hM ls hl
      rw [L_X5_whoMaySay_4] at hM
      refine lv_iload_n hx hb dX5_whoMaySay_4 rfl (lv_at hl 0 rfl) ?_
      refine lv_aload_n hx hb dX5_whoMaySay_5 rfl (lv_at hl 2 rfl) ?_
      refine wk_get hx hb hts hin_X5 hown hK hP 5 0 1 (.int (T0 1 0)) rfl rfl (by decide) (mi 1 rfl) rfl rfl dX5_whoMaySay_6 ?_
      refine lv_icmp_ge (tgt := 33) hx hb dX5_whoMaySay_9 (by decide) (fun c4 => ?_) (fun c4 => ?_)
      · replace hM := itp c4 hM
        obtain rfl := Option.some.inj hM
        exact hJ4 _ (lv_sub hl [1] rfl)
      · replace hM := itn c4 hM
        refine lv_iload_n hx hb dX5_whoMaySay_12 rfl (lv_at hl 1 rfl) ?_
        refine lv_iload_n hx hb dX5_whoMaySay_13 rfl (lv_at hl 0 rfl) ?_
        refine lv_aload_n hx hb dX5_whoMaySay_14 rfl (lv_at hl 2 rfl) ?_
        refine lv_iload_n hx hb dX5_whoMaySay_15 rfl (lv_at hl 0 rfl) ?_
        obtain ⟨q6, h5, hM⟩ := bd hM
        refine rVR (wc := (wX5 g a0 T0)) (As := [.int v3_1]) (rest := [.int v3_1, .int v2_2]) (q0 := 0) hS (c_X5_sayableBy l g a0 T0 v3_1 h5) gX5_whoMaySay_X5_sayableBy rfl hd_X5_sayableBy ⟨Nat.le_of_ble_eq_true rfl, Nat.le_of_ble_eq_true rfl⟩ hK (va_P.pm hP (pm_1_0 _)) rfl rfl rfl rfl hl.1 rfl (Nat.le_of_ble_eq_true rfl) dX5_whoMaySay_16 ⟨Nat.zero_le _, Nat.zero_le _⟩ ?_
        refine lv_iload_n hx hb dX5_whoMaySay_19 rfl (lv_at hl 3 rfl) ?_
        refine rNR (wc := ([] : va_W)) (As := [.int q6, .int p1]) (rest := [.int v3_1, .int v2_2]) hS (c_X6_has l g q6 p1) gX5_whoMaySay_X6_has_n65 rfl (mi 30 rfl) (mi 28 rfl) 6 rfl hd_X6_has ⟨Nat.le_of_ble_eq_true rfl, Nat.le_of_ble_eq_true rfl⟩ hK (hP_nil) rfl hl.1 rfl (Nat.le_of_ble_eq_true rfl) dX5_whoMaySay_20 ⟨Nat.zero_le _, Nat.zero_le _⟩ ?_
        refine rNR (wc := ([] : va_W)) (As := [.int v2_2, .int v3_1, .int (f_X6_has q6 p1)]) (rest := []) hS (c_X6_with l g v2_2 v3_1 (f_X6_has q6 p1)) gX5_whoMaySay_X6_with_n61 rfl (mi 32 rfl) (mi 28 rfl) 7 rfl hd_X6_with ⟨Nat.le_of_ble_eq_true rfl, Nat.le_of_ble_eq_true rfl⟩ hK (hP_nil) rfl hl.1 rfl (Nat.le_of_ble_eq_true rfl) dX5_whoMaySay_23 ⟨Nat.zero_le _, Nat.zero_le _⟩ ?_
        refine lv_istore_n (lv' := [(2, .int (f_X6_with v2_2 v3_1 (f_X6_has q6 p1))), (3, .int v3_1), (0, .ref (a0 0)), (1, .int p1)]) hx hb dX5_whoMaySay_26 rfl hl (by decide) rfl (fun ls hl => ?_)
        refine lv_iinc (v := (v3_1 + (1 : Int32))) (lv' := [(3, .int (v3_1 + (1 : Int32))), (2, .int (f_X6_with v2_2 v3_1 (f_X6_has q6 p1))), (0, .ref (a0 0)), (1, .int p1)]) hx hb dX5_whoMaySay_27 hl (k := 1) rfl rfl (by decide) rfl (fun ls hl => ?_)
        refine lv_goto (tgt := 4) hx hb dX5_whoMaySay_30 (by decide) ?_
        exact ih4 (v3_1 + (1 : Int32)) (f_X6_with v2_2 v3_1 (f_X6_has q6 p1)) hM _ (lv_sub hl [0, 1, 2, 3] rfl)
  exact hW4 300 (0 : Int32) (0 : Int32) hL4 _ (lv_sub hl [0, 1, 2, 3] rfl)
