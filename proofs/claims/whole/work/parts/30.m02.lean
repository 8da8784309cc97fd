theorem hd_X7_isOne : yX7_isOne.cls = RX7 ∧ yX7_isOne.cls ≠ "java/lang/invoke/MethodHandle" ∧ yX7_isOne.cls ≠ "java/lang/invoke/VarHandle" ∧ (parseMethodDescriptor yX7_isOne.desc).map (fun d => d.parameters.length) = some 1 := by decide +kernel
set_option maxHeartbeats 4000000 in
set_option maxRecDepth 100000 in
theorem c_X7_isOne (l : Launch) (g : Gm) (a0 : Nat → Nat) (Fw0 : Nat → Value) (U0 : TS) (p1 : Int32) : MR l yX7_isOne wsX7_isOne 1 25 g [.ref (a0 0), .int p1] (wXT g a0 Fw0 U0) (some (.int (f_X7_isOne U0 p1))) := by
  refine Met.ofW (cc := cX7_isOne) (maxL := 2) (ret := (some .boolean)) (by decide) rfl ?_
  intro p e s m args below meth c s₁ B hml hv
  obtain ⟨rfl, hP, hK⟩ := hv
  have hx := B.exec; have hb := B.bytes; have hr := B.returns
  have hts := atoms_spec (ws := wsX7_isOne) B.pre
  have hown : s.vm.findClass RX7 = some m.cls := findClass_of_methodNamed B.named
  have hlocks := B.notSynchronized
  have hS : CallFix p m c cX7_isOne 2 s _ wsX7_isOne RX7 := ⟨hx, hb, hml, hown, hts⟩
  have hin_X7 : ∀ w ∈ wsX70, w ∈ wsX7_isOne := fun w h => (List.mem_cons_of_mem _ (List.mem_append_right _ h))
  have hl := lv_entry ([.ref (a0 0), .int p1]) (n := 2) (Nat.le_of_ble_eq_true rfl)
  rw [lg_entry_eq]
  generalize (lg_sl ([.ref (a0 0), .int p1]) ++ List.replicate (2 - (lg_sl ([.ref (a0 0), .int p1])).length) Slot.unset).toArray = ls at hl ⊢
  have hl : lv_has ls 2 [(0, .ref (a0 0)), (1, .int p1)] := hl
  obtain ⟨rr, hM⟩ : ∃ rr, f_X7_isOne U0 p1 = rr := ⟨_, rfl⟩
  rw [hM]
  rw [f_X7_isOne] at hM
  refine lv_iload_n hx hb dX7_isOne_0 rfl (lv_at hl 1 rfl) ?_
  refine lv_i2l (v := ((p1).toInt64)) hx hb dX7_isOne_1 rfl ?_
  refine lv_lconst (v := (0 : Int64)) hx hb dX7_isOne_2 (by decide) ?_
  refine lv_aload_n hx hb dX7_isOne_3 rfl (lv_at hl 0 rfl) ?_
  refine wk_get hx hb hts hin_X7 hown hK hP 7 0 10 (.int (U0 10 0)) rfl rfl (by decide) (mi 1 rfl) rfl rfl dX7_isOne_4 ?_
  refine lv_iconst (v := (1 : Int32)) hx hb dX7_isOne_7 (by decide) ?_
  refine lv_isub hx hb dX7_isOne_8 ?_
  refine lv_i2l (v := ((((U0 10 0) - (1 : Int32))).toInt64)) hx hb dX7_isOne_9 rfl ?_
  refine rSR (wc := ([] : va_W)) (As := [.long ((p1).toInt64), .long (0 : Int64), .long ((((U0 10 0) - (1 : Int32))).toInt64)]) (rest := []) hS (c_X7_in l g ((p1).toInt64) (0 : Int64) ((((U0 10 0) - (1 : Int32))).toInt64)) gX7_isOne_X7_in rfl hd_X7_in ⟨Nat.le_of_ble_eq_true rfl, Nat.le_of_ble_eq_true rfl⟩ hK (hP_nil) rfl hl.1 rfl (Nat.le_of_ble_eq_true rfl) dX7_isOne_10 ⟨Nat.zero_le _, Nat.zero_le _⟩ ?_
  subst hM
  exact W.zret hx hb hr (nz (bz_X7_in ((p1).toInt64) (0 : Int64) ((((U0 10 0) - (1 : Int32))).toInt64))) (fun t ht _ => ⟨rfl, ht⟩) (fun q hq => by cases hq) dX7_isOne_13
theorem hd_X7_isRounds : yX7_isRounds.cls ≠ "java/lang/invoke/MethodHandle" ∧ yX7_isRounds.cls ≠ "java/lang/invoke/VarHandle" ∧ (parseMethodDescriptor yX7_isRounds.desc).map (fun d => d.parameters.length) = some 1 := by decide +kernel
set_option maxHeartbeats 4000000 in
set_option maxRecDepth 100000 in
theorem c_X7_isRounds (l : Launch) (g : Gm) (p0 : Int32) : MR l yX7_isRounds wsX7_isRounds 1 25 g [.int p0] ([] : va_W) (some (.int (f_X7_isRounds p0))) := by
  refine Met.ofW (cc := cX7_isRounds) (maxL := 1) (ret := (some .boolean)) (by decide) rfl ?_
  intro p e s m args below meth c s₁ B hml hv
  obtain ⟨rfl, hP, hK⟩ := hv
  have hx := B.exec; have hb := B.bytes; have hr := B.returns
  have hts := atoms_spec (ws := wsX7_isRounds) B.pre
  have hown : s.vm.findClass RX7 = some m.cls := findClass_of_methodNamed B.named
  have hlocks := B.notSynchronized
  have hS : CallFix p m c cX7_isRounds 1 s _ wsX7_isRounds RX7 := ⟨hx, hb, hml, hown, hts⟩
  have hl := lv_entry ([.int p0]) (n := 1) (Nat.le_of_ble_eq_true rfl)
  rw [lg_entry_eq]
  generalize (lg_sl ([.int p0]) ++ List.replicate (1 - (lg_sl ([.int p0])).length) Slot.unset).toArray = ls at hl ⊢
  have hl : lv_has ls 1 [(0, .int p0)] := hl
  obtain ⟨rr, hM⟩ : ∃ rr, f_X7_isRounds p0 = rr := ⟨_, rfl⟩
  rw [hM]
  rw [f_X7_isRounds] at hM
  refine lv_iload_n hx hb dX7_isRounds_0 rfl (lv_at hl 0 rfl) ?_
  refine lv_i2l (v := ((p0).toInt64)) hx hb dX7_isRounds_1 rfl ?_
  refine lv_lconst (v := (0 : Int64)) hx hb dX7_isRounds_2 (by decide) ?_
  refine lv_ldc2 (v := (20 : Int64)) hx hb hown (hts _ (mi 1 rfl)) dX7_isRounds_3 ?_
  refine rSR (wc := ([] : va_W)) (As := [.long ((p0).toInt64), .long (0 : Int64), .long (20 : Int64)]) (rest := []) hS (c_X7_in l g ((p0).toInt64) (0 : Int64) (20 : Int64)) gX7_isRounds_X7_in rfl hd_X7_in ⟨Nat.le_of_ble_eq_true rfl, Nat.le_of_ble_eq_true rfl⟩ hK (hP_nil) rfl hl.1 rfl (Nat.le_of_ble_eq_true rfl) dX7_isRounds_6 ⟨Nat.zero_le _, Nat.zero_le _⟩ ?_
  subst hM
  exact W.zret hx hb hr (nz (bz_X7_in ((p0).toInt64) (0 : Int64) (20 : Int64))) (fun t ht _ => ⟨rfl, ht⟩) (fun q hq => by cases hq) dX7_isRounds_9
theorem hd_X7_knows : yX7_knows.cls = RX7 ∧ yX7_knows.cls ≠ "java/lang/invoke/MethodHandle" ∧ yX7_knows.cls ≠ "java/lang/invoke/VarHandle" ∧ (parseMethodDescriptor yX7_knows.desc).map (fun d => d.parameters.length) = some 1 := by decide +kernel
set_option maxHeartbeats 4000000 in
set_option maxRecDepth 100000 in
theorem c_X7_knows (l : Launch) (g : Gm) (a0 : Nat → Nat) (Fw0 : Nat → Value) (U0 : TS) (p1 : Int32) {q : Int32} (hM : f_X7_knows U0 p1 = some q) : MR l yX7_knows wsX7_knows 0 0 g [.ref (a0 0), .int p1] (wXT g a0 Fw0 U0) (some (.int q)) := by
  refine Met.ofW (cc := cX7_knows) (maxL := 2) (ret := (some .int)) (by decide) rfl ?_
  intro p e s m args below meth c s₁ B hml hv
  obtain ⟨rfl, hP, hK⟩ := hv
  have hx := B.exec; have hb := B.bytes; have hr := B.returns
  have hts := atoms_spec (ws := wsX7_knows) B.pre
  have hown : s.vm.findClass RX7 = some m.cls := findClass_of_methodNamed B.named
  have hlocks := B.notSynchronized
  have hS : CallFix p m c cX7_knows 2 s _ wsX7_knows RX7 := ⟨hx, hb, hml, hown, hts⟩
  have hin_X7 : ∀ w ∈ wsX70, w ∈ wsX7_knows := fun w h => (List.mem_cons_of_mem _ (List.mem_append_right _ h))
  have hl := lv_entry ([.ref (a0 0), .int p1]) (n := 2) (Nat.le_of_ble_eq_true rfl)
  rw [lg_entry_eq]
  generalize (lg_sl ([.ref (a0 0), .int p1]) ++ List.replicate (2 - (lg_sl ([.ref (a0 0), .int p1])).length) Slot.unset).toArray = ls at hl ⊢
  have hl : lv_has ls 2 [(0, .ref (a0 0)), (1, .int p1)] := hl
  rw [f_X7_knows] at hM
  refine lv_aload_n hx hb dX7_knows_0 rfl (lv_at hl 0 rfl) ?_
  refine wk_get hx hb hts hin_X7 hown hK hP 7 0 13 (.ref (a0 3)) rfl rfl (by decide) (mi 1 rfl) rfl rfl dX7_knows_1 ?_
  refine lv_iload_n hx hb dX7_knows_4 rfl (lv_at hl 1 rfl) ?_
  obtain ⟨k1, hM⟩ := ck hM
  refine wk_iald hx hb hK hP 3 7 (U0 13) rfl k1 dX7_knows_5 ?_
  refine lv_aload_n hx hb dX7_knows_6 rfl (lv_at hl 0 rfl) ?_
  refine wk_get hx hb hts hin_X7 hown hK hP 7 0 14 (.ref (a0 4)) rfl rfl (by decide) (mi 2 rfl) rfl rfl dX7_knows_7 ?_
  refine lv_iload_n hx hb dX7_knows_10 rfl (lv_at hl 1 rfl) ?_
  refine wk_iald hx hb hK hP 4 7 (U0 14) rfl k1 dX7_knows_11 ?_
  refine lv_ior hx hb dX7_knows_12 ?_
  refine lv_aload_n hx hb dX7_knows_13 rfl (lv_at hl 0 rfl) ?_
  refine wk_get hx hb hts hin_X7 hown hK hP 7 0 15 (.ref (a0 5)) rfl rfl (by decide) (mi 3 rfl) rfl rfl dX7_knows_14 ?_
  refine lv_iload_n hx hb dX7_knows_17 rfl (lv_at hl 1 rfl) ?_
  refine wk_iald hx hb hK hP 5 7 (U0 15) rfl k1 dX7_knows_18 ?_
  refine lv_ior hx hb dX7_knows_19 ?_
  obtain rfl := Option.some.inj hM
  exact W.iret hx hb hr (fun t ht _ => ⟨rfl, ht⟩) (fun q hq => by cases hq) dX7_knows_20
theorem hd_X7_knownNow : yX7_knownNow.cls = RX7 ∧ yX7_knownNow.cls ≠ "java/lang/invoke/MethodHandle" ∧ yX7_knownNow.cls ≠ "java/lang/invoke/VarHandle" ∧ (parseMethodDescriptor yX7_knownNow.desc).map (fun d => d.parameters.length) = some 0 := by decide +kernel
set_option maxHeartbeats 4000000 in
set_option maxRecDepth 100000 in
theorem c_X7_knownNow (l : Launch) (g : Gm) (a0 : Nat → Nat) (Fw0 : Nat → Value) (U0 : TS) {q : Int32} (hM : f_X7_knownNow U0 = some q) : MR l yX7_knownNow wsX7_knownNow 1 22 g [.ref (a0 0)] (wXT g a0 Fw0 U0) (some (.int q)) := by
  refine Met.ofW (cc := cX7_knownNow) (maxL := 3) (ret := (some .int)) (by decide) rfl ?_
  intro p e s m args below meth c s₁ B hml hv
  obtain ⟨rfl, hP, hK⟩ := hv
  have hx := B.exec; have hb := B.bytes; have hr := B.returns
  have hts := atoms_spec (ws := wsX7_knownNow) B.pre
  have hown : s.vm.findClass RX7 = some m.cls := findClass_of_methodNamed B.named
  have hlocks := B.notSynchronized
  have hS : CallFix p m c cX7_knownNow 3 s _ wsX7_knownNow RX7 := ⟨hx, hb, hml, hown, hts⟩
  have hin_X7 : ∀ w ∈ wsX70, w ∈ wsX7_knownNow := fun w h => (List.mem_cons_of_mem _ (List.mem_append_right _ h))
  have hl := lv_entry ([.ref (a0 0)]) (n := 3) (Nat.le_of_ble_eq_true rfl)
  rw [lg_entry_eq]
  generalize (lg_sl ([.ref (a0 0)]) ++ List.replicate (3 - (lg_sl ([.ref (a0 0)])).length) Slot.unset).toArray = ls at hl ⊢
  have hl : lv_has ls 3 [(0, .ref (a0 0))] := hl
  rw [f_X7_knownNow] at hM
  refine lv_iconst (v := (0 : Int32)) hx hb dX7_knownNow_0 (by decide) ?_
  refine lv_istore_n (lv' := [(1, .int (0 : Int32)), (0, .ref (a0 0))]) hx hb dX7_knownNow_1 rfl hl (by decide) rfl (fun ls hl => ?_)
  refine lv_iconst (v := (0 : Int32)) hx hb dX7_knownNow_2 (by decide) ?_
  refine lv_istore_n (lv' := [(2, .int (0 : Int32)), (1, .int (0 : Int32)), (0, .ref (a0 0))]) hx hb dX7_knownNow_3 rfl hl (by decide) rfl (fun ls hl => ?_)
  obtain ⟨q3, hL4, hM⟩ := bd hM
  have hJ4 : ∀ (ls : Array Slot), lv_has ls 3 [(1, .int q3)] → W p l e (headSpec wsX7_knownNow ({ frames := 1, cells := 0, slots := 0, locals := 22 } : Room)).room s m ([.ref (a0 0)] : List Value).toArray below meth c s.heap [] 0 0 (MQ below (QcR (some (.int q))) ([.ref (a0 0)] : List Value).toArray s 0 0 (fun _ => False)) (F0 m 29 ls []) := by
    intro ls hl
    refine lv_iload_n hx hb dX7_knownNow_29 rfl (lv_at hl 0 rfl) ?_
    obtain rfl := Option.some.inj hM
    exact W.iret hx hb hr (fun t ht _ => ⟨rfl, ht⟩) (fun q hq => by cases hq) dX7_knownNow_30
  have hW4 : ∀ (n : Nat) (v2_1 : Int32) (v1_2 : Int32), L_X7_knownNow_4 U0 n v2_1 v1_2 = some q3 → ∀ (ls : Array Slot), lv_has ls 3 [(2, .int v2_1), (1, .int v1_2), (0, .ref (a0 0))] → W p l e (headSpec wsX7_knownNow ({ frames := 1, cells := 0, slots := 0, locals := 22 } : Room)).room s m ([.ref (a0 0)] : List Value).toArray below meth c s.heap [] 0 0 (MQ below (QcR (some (.int q))) ([.ref (a0 0)] : List Value).toArray s 0 0 (fun _ => False)) (F0 m 4 ls []) := by
    intro n
    induction n with
    | zero => intro v2_1 v1_2 hM; rw [L_X7_knownNow_4] at hM; exact nn hM
    | succ n ih4 =>
      intro v2_1 v1_2 hM ls hl
      rw [L_X7_knownNow_4] at hM
      refine lv_iload_n hx hb dX7_knownNow_4 rfl (lv_at hl 0 rfl) ?_
      refine lv_aload_n hx hb dX7_knownNow_5 rfl (lv_at hl 2 rfl) ?_
      refine wk_get hx hb hts hin_X7 hown hK hP 7 0 10 (.int (U0 10 0)) rfl rfl (by decide) (mi 1 rfl) rfl rfl dX7_knownNow_6 ?_
      refine lv_icmp_ge (tgt := 29) hx hb dX7_knownNow_9 (by decide) (fun c4 => ?_) (fun c4 => ?_)
      · replace hM := itp c4 hM
        obtain rfl := Option.some.inj hM
        exact hJ4 _ (lv_sub hl [1] rfl)
      · replace hM := itn c4 hM
        refine lv_iload_n hx hb dX7_knownNow_12 rfl (lv_at hl 1 rfl) ?_
        refine lv_aload_n hx hb dX7_knownNow_13 rfl (lv_at hl 2 rfl) ?_
        refine lv_iload_n hx hb dX7_knownNow_14 rfl (lv_at hl 0 rfl) ?_
        obtain ⟨q6, h5, hM⟩ := bd hM
        refine rVR (wc := (wXT g a0 Fw0 U0)) (As := [.int v2_1]) (rest := [.int v1_2]) (q0 := 0) hS (c_X7_knows l g a0 Fw0 U0 v2_1 h5) gX7_knownNow_X7_knows rfl hd_X7_knows ⟨Nat.le_of_ble_eq_true rfl, Nat.le_of_ble_eq_true rfl⟩ hK (va_P.pm hP (pm_1_0 _)) rfl rfl rfl rfl hl.1 rfl (Nat.le_of_ble_eq_true rfl) dX7_knownNow_15 ⟨Nat.zero_le _, Nat.zero_le _⟩ ?_
        obtain ⟨q8, h7, hM⟩ := bd hM
        refine rSR (wc := ([] : va_W)) (As := [.int q6]) (rest := [.int v1_2]) hS (c_X7_bits l g q6 h7) gX7_knownNow_X7_bits rfl hd_X7_bits ⟨Nat.le_of_ble_eq_true rfl, Nat.le_of_ble_eq_true rfl⟩ hK (hP_nil) rfl hl.1 rfl (Nat.le_of_ble_eq_true rfl) dX7_knownNow_18 ⟨Nat.zero_le _, Nat.zero_le _⟩ ?_
        refine lv_iadd hx hb dX7_knownNow_21 ?_
        refine lv_istore_n (lv' := [(1, .int (v1_2 + q8)), (2, .int v2_1), (0, .ref (a0 0))]) hx hb dX7_knownNow_22 rfl hl (by decide) rfl (fun ls hl => ?_)
        refine lv_iinc (v := (v2_1 + (1 : Int32))) (lv' := [(2, .int (v2_1 + (1 : Int32))), (1, .int (v1_2 + q8)), (0, .ref (a0 0))]) hx hb dX7_knownNow_23 hl (k := 1) rfl rfl (by decide) rfl (fun ls hl => ?_)
        refine lv_goto (tgt := 4) hx hb dX7_knownNow_26 (by decide) ?_
        exact ih4 (v2_1 + (1 : Int32)) (v1_2 + q8) hM _ (lv_sub hl [0, 1, 2] rfl)
  exact hW4 300 (0 : Int32) (0 : Int32) hL4 _ (lv_sub hl [0, 1, 2] rfl)
theorem hd_X7_blind : yX7_blind.cls = RX7 ∧ yX7_blind.cls ≠ "java/lang/invoke/MethodHandle" ∧ yX7_blind.cls ≠ "java/lang/invoke/VarHandle" ∧ (parseMethodDescriptor yX7_blind.desc).map (fun d => d.parameters.length) = some 2 := by decide +kernel
set_option maxHeartbeats 4000000 in
set_option maxRecDepth 100000 in
theorem c_X7_blind (l : Launch) (g : Gm) (a0 : Nat → Nat) (U0 : TS) (V0 : TS) (M0 : LTS) (R0 : LTS) (kv : Value) (t0 : Tr) (tp0 : Option (Nat → Int32)) (h0 : tpOf t0 = tp0) (p1 : Int32) (p2 : Int32) {q : (Int32 × TS × (Option (Nat → Int32)))} (hM : f_X7_blind U0 V0 M0 R0 tp0 p1 p2 = some q) : MB l yX7_blind wsX7_blind 6 163 g [.ref (a0 0), .int p1, .int p2] (fun t => (wXM g a0 U0 V0 M0 R0 kv (tvOf t)) ++ wOT g t) t0 (some (.int q.1)) (fun t => (wXM g a0 U0 q.2.1 M0 R0 kv (tvOf t)) ++ wOT g t) q.2.2 := by
  intro sz
  refine Met.ofW (cc := cX7_blind) (maxL := 6) (ret := (some .int)) (by decide) rfl ?_
  intro p e s m args below meth c s₁ B hml hv
  obtain ⟨rfl, hsz, hP, hK, hD0⟩ := hv
  have hx := B.exec; have hb := B.bytes; have hr := B.returns
  have hts := atoms_spec (ws := wsX7_blind) B.pre
  have hown : s.vm.findClass RX7 = some m.cls := findClass_of_methodNamed B.named
  have hlocks := B.notSynchronized
  have hS : CallFix p m c cX7_blind 6 s _ wsX7_blind RX7 := ⟨hx, hb, hml, hown, hts⟩
  have hin_X7 : ∀ w ∈ wsX70, w ∈ wsX7_blind := fun w h => (List.mem_cons_of_mem _ (List.mem_append_right _ h))
  subst hsz
  have hw := wk_start hP hD0
  have hA : ∀ q : Nat, s.heap.size ≤ q → va_A ((wXM g a0 U0 V0 M0 R0 kv (tvOf t0)) ++ (wOT g t0)) s.heap.size q := fun q h => Or.inr h
  generalize va_A ((wXM g a0 U0 V0 M0 R0 kv (tvOf t0)) ++ (wOT g t0)) s.heap.size = A at hw hA ⊢
  clear hP hD0
  have hl := lv_entry ([.ref (a0 0), .int p1, .int p2]) (n := 6) (Nat.le_of_ble_eq_true rfl)
  rw [lg_entry_eq]
  generalize (lg_sl ([.ref (a0 0), .int p1, .int p2]) ++ List.replicate (6 - (lg_sl ([.ref (a0 0), .int p1, .int p2])).length) Slot.unset).toArray = ls at hl ⊢
  have hl : lv_has ls 6 [(0, .ref (a0 0)), (1, .int p1), (2, .int p2)] := hl
  refine W_nl t0 ?_
  rw [f_X7_blind] at hM
  refine lv_aload_n hx hb dX7_blind_0 rfl (lv_at hl 0 rfl) ?_
  refine lv_iload_n hx hb dX7_blind_1 rfl (lv_at hl 1 rfl) ?_
  refine rVR (wc := (wXT g a0 (fm a0 V0 kv (tvOf t0)) U0)) (As := [.int p1]) (rest := []) (q0 := 0) hS (c_X7_isOne l g a0 (fm a0 V0 kv (tvOf t0)) U0 p1) gX7_blind_X7_isOne rfl hd_X7_isOne ⟨Nat.le_of_ble_eq_true rfl, Nat.le_of_ble_eq_true rfl⟩ hK (va_P.pm hw.1 (pmX2 _ _ _ _ _ _ _ _ _)) rfl rfl rfl rfl hl.1 rfl (Nat.le_of_ble_eq_true rfl) dX7_blind_2 ⟨nlc _ _ _, nlc _ _ _⟩ ?_
  refine lv_if_eq (tgt := 15) hx hb dX7_blind_5 (by decide) (fun c2 => ?_) (fun c2 => ?_)
  · replace hM := itp c2 hM
    refine lv_ldcw (v := (-1000000 : Int32)) hx hb hown (hts _ (mi 1 rfl)) dX7_blind_15 ?_
    refine lv_aload_n hx hb dX7_blind_18 rfl (lv_at hl 0 rfl) ?_
    refine lv_bipush (v := (-2 : Int32)) hx hb dX7_blind_19 (by decide) ?_
    obtain ⟨q4, h3, hM⟩ := bd hM
    refine rVWp (wc := (wXM g a0 U0 V0 M0 R0 kv (tvOf t0))) (wq := ((wXM g a0 U0 q4.2 M0 R0 kv (tvOf t0)) ++ (wOT g t0))) (As := [.int (-2 : Int32)]) (rest := [.int (-1000000 : Int32)]) (q0 := 0) hS (c_X7_refuse l g a0 kv (tvOf t0) U0 V0 M0 R0 (-2 : Int32) h3) gX7_blind_X7_refuse rfl hd_X7_refuse ⟨Nat.le_of_ble_eq_true rfl, Nat.le_of_ble_eq_true rfl⟩ hK hw hA (pm_2_0 _ _) rfl (pm_2_0 _ _) rfl rfl rfl rfl hl.1 rfl (Nat.le_of_ble_eq_true rfl) dX7_blind_21 ⟨nlc _ _ _, nlc _ _ _⟩ (fun H locs hw => ?_)
    refine lv_iadd hx hb dX7_blind_24 ?_
    obtain rfl := Option.some.inj hM
    refine W.widen (k := 28 * nlOf t0) (n := 759 * nlOf t0) (nlc _ _ _) (nlc _ _ _) ?_
    exact W.iret hx hb hr (fun t ht _ => ⟨rfl, ⟨t0, h0, by rw [ht]; exact hw.1, hw.2.1⟩, hw.2.2.F ht⟩) hw.2.2.2.2 dX7_blind_25
  · replace hM := itn c2 hM
    refine lv_iload_n hx hb dX7_blind_8 rfl (lv_at hl 2 rfl) ?_
    refine rSR (wc := ([] : va_W)) (As := [.int p2]) (rest := []) hS (c_X7_isRounds l g p2) gX7_blind_X7_isRounds rfl hd_X7_isRounds ⟨Nat.le_of_ble_eq_true rfl, Nat.le_of_ble_eq_true rfl⟩ hK (hP_nil) rfl hl.1 rfl (Nat.le_of_ble_eq_true rfl) dX7_blind_9 ⟨nlc _ _ _, nlc _ _ _⟩ ?_
    refine lv_if_ne (tgt := 26) hx hb dX7_blind_12 (by decide) (fun c6 => ?_) (fun c6 => ?_)
    · replace hM := itn c6 hM
      refine lv_aload_n hx hb dX7_blind_26 rfl (lv_at hl 0 rfl) ?_
      refine lv_iload_n hx hb dX7_blind_27 rfl (lv_at hl 2 rfl) ?_
      obtain ⟨q12, h9, hM⟩ := bd hM
      refine rVF (t0 := t0) (As := [.int p2]) (rest := []) (hn := (Nat.le_refl _)) hS (c_X7_after l g a0 U0 V0 M0 R0 kv t0 tp0 h0 p2 h9) gX7_blind_X7_after rfl hd_X7_after ⟨Nat.le_of_ble_eq_true rfl, Nat.le_of_ble_eq_true rfl⟩ hK hw hA rfl rfl rfl rfl hl.1 rfl (Nat.le_of_ble_eq_true rfl) dX7_blind_28 (fun b10 G11 H locs hw => ?_)
      have hw : Wk g A s.heap H locs ((wXM g a0 U0 V0 M0 R0 kv (.ref (b10 0))) ++ (wXT g b10 G11 q12)) := hw
      obtain ⟨q14, h13, hM⟩ := bd hM
      refine rVR (wc := (wXT g b10 G11 q12)) (As := []) (rest := []) (q0 := 0) hS (c_X7_knownNow l g b10 G11 q12 h13) gX7_blind_X7_knownNow rfl hd_X7_knownNow ⟨Nat.le_of_ble_eq_true rfl, Nat.le_of_ble_eq_true rfl⟩ hK (va_P.pm hw.1 (pm_2_1 _ _)) rfl rfl rfl rfl hl.1 rfl (Nat.le_of_ble_eq_true rfl) dX7_blind_31 ⟨Nat.le_refl _, Nat.le_refl _⟩ ?_
      refine lv_istore_n (lv' := [(3, .int q14), (0, .ref (a0 0)), (1, .int p1), (2, .int p2)]) hx hb dX7_blind_34 rfl hl (by decide) rfl (fun ls hl => ?_)
      refine lv_aload_n hx hb dX7_blind_35 rfl (lv_at hl 1 rfl) ?_
      refine rVFs (t0 := t0) (As := []) (rest := [])  hS (c_X7_fresh l g a0 U0 V0 M0 R0 kv (some (b10, G11, q12)) (some (q12 29)) rfl) gX7_blind_X7_fresh rfl hd_X7_fresh ⟨Nat.le_of_ble_eq_true rfl, Nat.le_of_ble_eq_true rfl⟩ hK hw hA rfl rfl rfl rfl hl.1 rfl (Nat.le_of_ble_eq_true rfl) dX7_blind_36 rfl (fun b16 G17 H locs hw => ?_)
      have hw : Wk g A s.heap H locs ((wXM g a0 U0 V0 M0 R0 kv (.ref (b16 0))) ++ (wXT g b16 G17 (fr0 U0 (some (q12 29))))) := hw
      refine lv_astore (lv' := [(4, .ref (b16 0)), (3, .int q14), (0, .ref (a0 0)), (1, .int p1), (2, .int p2)]) hx hb dX7_blind_39 hl (by decide) rfl (fun ls hl => ?_)
      refine lv_aload hx hb dX7_blind_41 (lv_at hl 0 rfl) ?_
      refine wk_get hx hb hts hin_X7 hown hK hw.1 7 28 11 (.ref (b16 1)) rfl rfl (by decide) (mi 2 rfl) rfl rfl dX7_blind_43 ?_
      refine lv_iload_n hx hb dX7_blind_46 rfl (lv_at hl 3 rfl) ?_
      refine lv_iconst (v := (4 : Int32)) hx hb dX7_blind_47 (by decide) ?_
      obtain ⟨k18, hM⟩ := ck hM
      refine wk_iast (wq := ((wXM g a0 U0 V0 M0 R0 kv (.ref (b16 0))) ++ (wXT g b16 G17 (up (fr0 U0 (some (q12 29))) 11 (upd ((fr0 U0 (some (q12 29))) 11) (p1).toNatClampNeg (4 : Int32)))))) hx hb hK hw 29 7 ((fr0 U0 (some (q12 29))) 11) rfl k18 dX7_blind_48 rfl (fun H locs hw => ?_)
      refine lv_aload hx hb dX7_blind_49 (lv_at hl 0 rfl) ?_
      refine wk_get hx hb hts hin_X7 hown hK hw.1 7 28 15 (.ref (b16 5)) rfl rfl (by decide) (mi 3 rfl) rfl rfl dX7_blind_51 ?_
      refine lv_iload_n hx hb dX7_blind_54 rfl (lv_at hl 3 rfl) ?_
      refine lv_dup2_11 hx hb dX7_blind_55 rfl rfl ?_
      refine wk_iald hx hb hK hw.1 33 7 ((fr0 U0 (some (q12 29))) 15) rfl k18 dX7_blind_56 ?_
      refine lv_aload hx hb dX7_blind_57 (lv_at hl 0 rfl) ?_
      refine wk_get hx hb hts hin_X7 hown hK hw.1 7 28 13 (.ref (b16 3)) rfl rfl (by decide) (mi 4 rfl) rfl rfl dX7_blind_59 ?_
      refine lv_iload_n hx hb dX7_blind_62 rfl (lv_at hl 3 rfl) ?_
      refine wk_iald hx hb hK hw.1 31 7 ((fr0 U0 (some (q12 29))) 13) rfl k18 dX7_blind_63 ?_
      refine lv_aload hx hb dX7_blind_64 (lv_at hl 0 rfl) ?_
      refine wk_get hx hb hts hin_X7 hown hK hw.1 7 28 14 (.ref (b16 4)) rfl rfl (by decide) (mi 5 rfl) rfl rfl dX7_blind_66 ?_
      refine lv_iload_n hx hb dX7_blind_69 rfl (lv_at hl 3 rfl) ?_
      refine wk_iald hx hb hK hw.1 32 7 ((fr0 U0 (some (q12 29))) 14) rfl k18 dX7_blind_70 ?_
      refine lv_ior hx hb dX7_blind_71 ?_
      refine lv_ior hx hb dX7_blind_72 ?_
      refine wk_iast (wq := ((wXM g a0 U0 V0 M0 R0 kv (.ref (b16 0))) ++ (wXT g b16 G17 (up (up (fr0 U0 (some (q12 29))) 11 (upd ((fr0 U0 (some (q12 29))) 11) (p1).toNatClampNeg (4 : Int32))) 15 (upd ((fr0 U0 (some (q12 29))) 15) (p1).toNatClampNeg ((((fr0 U0 (some (q12 29))) 15) (p1).toNatClampNeg) ||| ((((fr0 U0 (some (q12 29))) 13) (p1).toNatClampNeg) ||| (((fr0 U0 (some (q12 29))) 14) (p1).toNatClampNeg)))))))) hx hb hK hw 33 7 ((fr0 U0 (some (q12 29))) 15) rfl k18 dX7_blind_73 rfl (fun H locs hw => ?_)
      refine lv_aload hx hb dX7_blind_74 (lv_at hl 0 rfl) ?_
      refine wk_get hx hb hts hin_X7 hown hK hw.1 7 28 13 (.ref (b16 3)) rfl rfl (by decide) (mi 4 rfl) rfl rfl dX7_blind_76 ?_
      refine lv_iload_n hx hb dX7_blind_79 rfl (lv_at hl 3 rfl) ?_
      refine lv_iconst (v := (0 : Int32)) hx hb dX7_blind_80 (by decide) ?_
      refine wk_iast (wq := ((wXM g a0 U0 V0 M0 R0 kv (.ref (b16 0))) ++ (wXT g b16 G17 (up (up (up (fr0 U0 (some (q12 29))) 11 (upd ((fr0 U0 (some (q12 29))) 11) (p1).toNatClampNeg (4 : Int32))) 15 (upd ((fr0 U0 (some (q12 29))) 15) (p1).toNatClampNeg ((((fr0 U0 (some (q12 29))) 15) (p1).toNatClampNeg) ||| ((((fr0 U0 (some (q12 29))) 13) (p1).toNatClampNeg) ||| (((fr0 U0 (some (q12 29))) 14) (p1).toNatClampNeg))))) 13 (upd ((fr0 U0 (some (q12 29))) 13) (p1).toNatClampNeg (0 : Int32)))))) hx hb hK hw 31 7 ((fr0 U0 (some (q12 29))) 13) rfl k18 dX7_blind_81 rfl (fun H locs hw => ?_)
      refine lv_aload hx hb dX7_blind_82 (lv_at hl 0 rfl) ?_
      refine wk_get hx hb hts hin_X7 hown hK hw.1 7 28 14 (.ref (b16 4)) rfl rfl (by decide) (mi 5 rfl) rfl rfl dX7_blind_84 ?_
      refine lv_iload_n hx hb dX7_blind_87 rfl (lv_at hl 3 rfl) ?_
      refine lv_iconst (v := (0 : Int32)) hx hb dX7_blind_88 (by decide) ?_
      refine wk_iast (wq := ((wXM g a0 U0 V0 M0 R0 kv (.ref (b16 0))) ++ (wXT g b16 G17 (up (up (up (up (fr0 U0 (some (q12 29))) 11 (upd ((fr0 U0 (some (q12 29))) 11) (p1).toNatClampNeg (4 : Int32))) 15 (upd ((fr0 U0 (some (q12 29))) 15) (p1).toNatClampNeg ((((fr0 U0 (some (q12 29))) 15) (p1).toNatClampNeg) ||| ((((fr0 U0 (some (q12 29))) 13) (p1).toNatClampNeg) ||| (((fr0 U0 (some (q12 29))) 14) (p1).toNatClampNeg))))) 13 (upd ((fr0 U0 (some (q12 29))) 13) (p1).toNatClampNeg (0 : Int32))) 14 (upd ((fr0 U0 (some (q12 29))) 14) (p1).toNatClampNeg (0 : Int32)))))) hx hb hK hw 32 7 ((fr0 U0 (some (q12 29))) 14) rfl k18 dX7_blind_89 rfl (fun H locs hw => ?_)
      refine lv_iconst (v := (0 : Int32)) hx hb dX7_blind_90 (by decide) ?_
      refine lv_istore (lv' := [(5, .int (0 : Int32)), (4, .ref (b16 0)), (3, .int q14), (0, .ref (a0 0)), (1, .int p1), (2, .int p2)]) hx hb dX7_blind_91 hl (by decide) rfl (fun ls hl => ?_)
      obtain ⟨q21, hL93, hM⟩ := bd hM
      have hJ93 : ∀ (H : Heap) (locs : List Loc), Wk g A s.heap H locs ((wXM g a0 U0 V0 M0 R0 kv (.ref (b16 0))) ++ (wXT g b16 G17 q21)) → ∀ (ls : Array Slot), lv_has ls 6 [(4, .ref (b16 0)), (3, .int q14)] → W p l e (headSpec wsX7_blind ({ frames := 6, cells := 28 * nlOf t0, slots := 759 * nlOf t0, locals := 163 } : Room)).room s m ([.ref (a0 0), .int p1, .int p2] : List Value).toArray below meth c H locs (28 * nlOf t0) (759 * nlOf t0) (MQ below (QcB g (some (.int q.1)) (fun t => (wXM g a0 U0 q.2.1 M0 R0 kv (tvOf t)) ++ wOT g t) q.2.2 A) ([.ref (a0 0), .int p1, .int p2] : List Value).toArray s (28 * nlOf t0) (759 * nlOf t0) A) (F0 m 111 ls []) := by
        intro H locs hw ls hl
        refine lv_aload hx hb dX7_blind_111 (lv_at hl 0 rfl) ?_
        obtain ⟨q26, h25, hM⟩ := bd hM
        refine rVR (wc := (wXT g b16 G17 q21)) (As := []) (rest := []) (q0 := 0) hS (c_X7_knownNow l g b16 G17 q21 h25) gX7_blind_X7_knownNow rfl hd_X7_knownNow ⟨Nat.le_of_ble_eq_true rfl, Nat.le_of_ble_eq_true rfl⟩ hK (va_P.pm hw.1 (pm_2_1 _ _)) rfl rfl rfl rfl hl.1 rfl (Nat.le_of_ble_eq_true rfl) dX7_blind_113 ⟨Nat.le_refl _, Nat.le_refl _⟩ ?_
        refine lv_iload_n hx hb dX7_blind_116 rfl (lv_at hl 1 rfl) ?_
        refine lv_isub hx hb dX7_blind_117 ?_
        obtain rfl := Option.some.inj hM
        exact W.iret hx hb hr (fun t ht _ => ⟨rfl, ⟨(some (b16, G17, q21)), rfl, by rw [ht]; exact hw.1, hw.2.1⟩, hw.2.2.F ht⟩) hw.2.2.2.2 dX7_blind_118
      have hW93 : ∀ (n : Nat) (v5_19 : Int32) (UL20 : TS), L_X7_blind_93 p2 n v5_19 UL20 = some q21 → ∀ (H : Heap) (locs : List Loc), Wk g A s.heap H locs ((wXM g a0 U0 V0 M0 R0 kv (.ref (b16 0))) ++ (wXT g b16 G17 UL20)) → ∀ (ls : Array Slot), lv_has ls 6 [(5, .int v5_19), (4, .ref (b16 0)), (3, .int q14), (2, .int p2)] → W p l e (headSpec wsX7_blind ({ frames := 6, cells := 28 * nlOf t0, slots := 759 * nlOf t0, locals := 163 } : Room)).room s m ([.ref (a0 0), .int p1, .int p2] : List Value).toArray below meth c H locs (28 * nlOf t0) (759 * nlOf t0) (MQ below (QcB g (some (.int q.1)) (fun t => (wXM g a0 U0 q.2.1 M0 R0 kv (tvOf t)) ++ wOT g t) q.2.2 A) ([.ref (a0 0), .int p1, .int p2] : List Value).toArray s (28 * nlOf t0) (759 * nlOf t0) A) (F0 m 93 ls []) := by
        intro n
        induction n with
        | zero => intro v5_19 UL20 hM; rw [L_X7_blind_93] at hM; exact nn hM
        | succ n ih93 =>
          intro v5_19 UL20 hM H locs hw ls hl
          rw [L_X7_blind_93] at hM
          refine lv_iload hx hb dX7_blind_93 (lv_at hl 0 rfl) ?_
          refine lv_iload_n hx hb dX7_blind_95 rfl (lv_at hl 3 rfl) ?_
          refine lv_icmp_ge (tgt := 111) hx hb dX7_blind_96 (by decide) (fun c22 => ?_) (fun c22 => ?_)
          · replace hM := itp c22 hM
            obtain rfl := Option.some.inj hM
            exact hJ93 _ _ hw _ (lv_sub hl [1, 2] rfl)
          · replace hM := itn c22 hM
            refine lv_aload hx hb dX7_blind_99 (lv_at hl 1 rfl) ?_
            obtain ⟨q24, h23, hM⟩ := bd hM
            refine rVWp (wc := (wXT g b16 G17 UL20)) (wq := ((wXM g a0 U0 V0 M0 R0 kv (.ref (b16 0))) ++ (wXT g b16 G17 q24.2))) (As := []) (rest := []) (q0 := 0) hS (c_X7_goesRound l g b16 G17 UL20 h23) gX7_blind_X7_goesRound rfl hd_X7_goesRound ⟨Nat.le_of_ble_eq_true rfl, Nat.le_of_ble_eq_true rfl⟩ hK hw hA (pm_2_1 _ _) rfl (pm_2_1 _ _) rfl rfl rfl rfl hl.1 rfl (Nat.le_of_ble_eq_true rfl) dX7_blind_101 ⟨Nat.le_refl _, Nat.le_refl _⟩ (fun H locs hw => ?_)
            refine lv_pop hx hb dX7_blind_104 rfl ?_
            refine lv_iinc (v := (v5_19 + (1 : Int32))) (lv' := [(5, .int (v5_19 + (1 : Int32))), (4, .ref (b16 0)), (3, .int q14), (2, .int p2)]) hx hb dX7_blind_105 hl (k := 0) rfl rfl (by decide) rfl (fun ls hl => ?_)
            refine lv_goto (tgt := 93) hx hb dX7_blind_108 (by decide) ?_
            exact ih93 (v5_19 + (1 : Int32)) q24.2 hM _ _ hw _ (lv_sub hl [0, 1, 2, 3] rfl)
      exact hW93 300 (0 : Int32) (up (up (up (up (fr0 U0 (some (q12 29))) 11 (upd ((fr0 U0 (some (q12 29))) 11) (p1).toNatClampNeg (4 : Int32))) 15 (upd ((fr0 U0 (some (q12 29))) 15) (p1).toNatClampNeg ((((fr0 U0 (some (q12 29))) 15) (p1).toNatClampNeg) ||| ((((fr0 U0 (some (q12 29))) 13) (p1).toNatClampNeg) ||| (((fr0 U0 (some (q12 29))) 14) (p1).toNatClampNeg))))) 13 (upd ((fr0 U0 (some (q12 29))) 13) (p1).toNatClampNeg (0 : Int32))) 14 (upd ((fr0 U0 (some (q12 29))) 14) (p1).toNatClampNeg (0 : Int32))) hL93 _ _ hw _ (lv_sub hl [0, 1, 2, 5] rfl)
    · replace hM := itp c6 hM
      refine lv_ldcw (v := (-1000000 : Int32)) hx hb hown (hts _ (mi 1 rfl)) dX7_blind_15 ?_
      refine lv_aload_n hx hb dX7_blind_18 rfl (lv_at hl 0 rfl) ?_
      refine lv_bipush (v := (-2 : Int32)) hx hb dX7_blind_19 (by decide) ?_
      obtain ⟨q8, h7, hM⟩ := bd hM
      refine rVWp (wc := (wXM g a0 U0 V0 M0 R0 kv (tvOf t0))) (wq := ((wXM g a0 U0 q8.2 M0 R0 kv (tvOf t0)) ++ (wOT g t0))) (As := [.int (-2 : Int32)]) (rest := [.int (-1000000 : Int32)]) (q0 := 0) hS (c_X7_refuse l g a0 kv (tvOf t0) U0 V0 M0 R0 (-2 : Int32) h7) gX7_blind_X7_refuse rfl hd_X7_refuse ⟨Nat.le_of_ble_eq_true rfl, Nat.le_of_ble_eq_true rfl⟩ hK hw hA (pm_2_0 _ _) rfl (pm_2_0 _ _) rfl rfl rfl rfl hl.1 rfl (Nat.le_of_ble_eq_true rfl) dX7_blind_21 ⟨nlc _ _ _, nlc _ _ _⟩ (fun H locs hw => ?_)
      refine lv_iadd hx hb dX7_blind_24 ?_
      obtain rfl := Option.some.inj hM
      refine W.widen (k := 28 * nlOf t0) (n := 759 * nlOf t0) (nlc _ _ _) (nlc _ _ _) ?_
      exact W.iret hx hb hr (fun t ht _ => ⟨rfl, ⟨t0, h0, by rw [ht]; exact hw.1, hw.2.1⟩, hw.2.2.F ht⟩) hw.2.2.2.2 dX7_blind_25
theorem hd_X7_chain : yX7_chain.cls = RX7 ∧ yX7_chain.cls ≠ "java/lang/invoke/MethodHandle" ∧ yX7_chain.cls ≠ "java/lang/invoke/VarHandle" ∧ (parseMethodDescriptor yX7_chain.desc).map (fun d => d.parameters.length) = some 3 := by decide +kernel
set_option maxHeartbeats 4000000 in
set_option maxRecDepth 100000 in
theorem c_X7_chain (l : Launch) (g : Gm) (a0 : Nat → Nat) (kv : Value) (tv : Value) (U0 : TS) (V0 : TS) (M0 : LTS) (R0 : LTS) (p1 : Int32) (p2 : Int32) (p3 : Int32) {q : (Int32 × TS)} (hM : f_X7_chain U0 V0 M0 R0 p1 p2 p3 = some q) : MW l yX7_chain wsX7_chain 2 46 g [.ref (a0 0), .int p1, .int p2, .int p3] (wXM g a0 U0 V0 M0 R0 kv tv) (some (.int q.1)) (wXM g a0 U0 q.2 M0 R0 kv tv) := by
  intro sz
  refine Met.ofW (cc := cX7_chain) (maxL := 9) (ret := (some .int)) (by decide) rfl ?_
  intro p e s m args below meth c s₁ B hml hv
  obtain ⟨rfl, hsz, hP, hK, hD0⟩ := hv
  have hx := B.exec; have hb := B.bytes; have hr := B.returns
  have hts := atoms_spec (ws := wsX7_chain) B.pre
  have hown : s.vm.findClass RX7 = some m.cls := findClass_of_methodNamed B.named
  have hlocks := B.notSynchronized
  have hS : CallFix p m c cX7_chain 9 s _ wsX7_chain RX7 := ⟨hx, hb, hml, hown, hts⟩
  have hin_X7 : ∀ w ∈ wsX70, w ∈ wsX7_chain := fun w h => (List.mem_cons_of_mem _ (List.mem_append_right _ h))
  subst hsz
  have hw := wk_start hP hD0
  have hA : ∀ q : Nat, s.heap.size ≤ q → va_A (wXM g a0 U0 V0 M0 R0 kv tv) s.heap.size q := fun q h => Or.inr h
  generalize va_A (wXM g a0 U0 V0 M0 R0 kv tv) s.heap.size = A at hw hA ⊢
  clear hP hD0
  have hl := lv_entry ([.ref (a0 0), .int p1, .int p2, .int p3]) (n := 9) (Nat.le_of_ble_eq_true rfl)
  rw [lg_entry_eq]
  generalize (lg_sl ([.ref (a0 0), .int p1, .int p2, .int p3]) ++ List.replicate (9 - (lg_sl ([.ref (a0 0), .int p1, .int p2, .int p3])).length) Slot.unset).toArray = ls at hl ⊢
  have hl : lv_has ls 9 [(0, .ref (a0 0)), (1, .int p1), (2, .int p2), (3, .int p3)] := hl
  rw [f_X7_chain] at hM
  refine lv_aload_n hx hb dX7_chain_0 rfl (lv_at hl 0 rfl) ?_
  refine lv_iload_n hx hb dX7_chain_1 rfl (lv_at hl 1 rfl) ?_
  refine rVR (wc := (wXT g a0 (fm a0 V0 kv tv) U0)) (As := [.int p1]) (rest := []) (q0 := 0) hS (c_X7_isOne l g a0 (fm a0 V0 kv tv) U0 p1) gX7_chain_X7_isOne rfl hd_X7_isOne ⟨Nat.le_of_ble_eq_true rfl, Nat.le_of_ble_eq_true rfl⟩ hK (va_P.pm hw.1 (pmX1 _ _ _ _ _ _ _ _)) rfl rfl rfl rfl hl.1 rfl (Nat.le_of_ble_eq_true rfl) dX7_chain_2 ⟨Nat.zero_le _, Nat.zero_le _⟩ ?_
  refine lv_if_eq (tgt := 24) hx hb dX7_chain_5 (by decide) (fun c2 => ?_) (fun c2 => ?_)
  · replace hM := itp c2 hM
    refine lv_aload_n hx hb dX7_chain_24 rfl (lv_at hl 0 rfl) ?_
    refine lv_bipush (v := (-2 : Int32)) hx hb dX7_chain_25 (by decide) ?_
    obtain ⟨q4, h3, hM⟩ := bd hM
    refine rVWp (wc := (wXM g a0 U0 V0 M0 R0 kv tv)) (wq := (wXM g a0 U0 q4.2 M0 R0 kv tv)) (As := [.int (-2 : Int32)]) (rest := []) (q0 := 0) hS (c_X7_refuse l g a0 kv tv U0 V0 M0 R0 (-2 : Int32) h3) gX7_chain_X7_refuse rfl hd_X7_refuse ⟨Nat.le_of_ble_eq_true rfl, Nat.le_of_ble_eq_true rfl⟩ hK hw hA (pm_1_0 _) rfl (pm_1_0 _) rfl rfl rfl rfl hl.1 rfl (Nat.le_of_ble_eq_true rfl) dX7_chain_27 ⟨Nat.zero_le _, Nat.zero_le _⟩ (fun H locs hw => ?_)
    obtain rfl := Option.some.inj hM
    exact W.iret hx hb hr (fun t ht _ => ⟨rfl, by rw [ht]; exact hw.1, hw.2.2.F ht⟩) hw.2.2.2.2 dX7_chain_30
  · replace hM := itn c2 hM
    refine lv_aload_n hx hb dX7_chain_8 rfl (lv_at hl 0 rfl) ?_
    refine lv_iload_n hx hb dX7_chain_9 rfl (lv_at hl 2 rfl) ?_
    refine rVR (wc := (wXT g a0 (fm a0 V0 kv tv) U0)) (As := [.int p2]) (rest := []) (q0 := 0) hS (c_X7_isOne l g a0 (fm a0 V0 kv tv) U0 p2) gX7_chain_X7_isOne rfl hd_X7_isOne ⟨Nat.le_of_ble_eq_true rfl, Nat.le_of_ble_eq_true rfl⟩ hK (va_P.pm hw.1 (pmX1 _ _ _ _ _ _ _ _)) rfl rfl rfl rfl hl.1 rfl (Nat.le_of_ble_eq_true rfl) dX7_chain_10 ⟨Nat.zero_le _, Nat.zero_le _⟩ ?_
    refine lv_if_eq (tgt := 24) hx hb dX7_chain_13 (by decide) (fun c6 => ?_) (fun c6 => ?_)
    · replace hM := itp c6 hM
      refine lv_aload_n hx hb dX7_chain_24 rfl (lv_at hl 0 rfl) ?_
      refine lv_bipush (v := (-2 : Int32)) hx hb dX7_chain_25 (by decide) ?_
      obtain ⟨q8, h7, hM⟩ := bd hM
      refine rVWp (wc := (wXM g a0 U0 V0 M0 R0 kv tv)) (wq := (wXM g a0 U0 q8.2 M0 R0 kv tv)) (As := [.int (-2 : Int32)]) (rest := []) (q0 := 0) hS (c_X7_refuse l g a0 kv tv U0 V0 M0 R0 (-2 : Int32) h7) gX7_chain_X7_refuse rfl hd_X7_refuse ⟨Nat.le_of_ble_eq_true rfl, Nat.le_of_ble_eq_true rfl⟩ hK hw hA (pm_1_0 _) rfl (pm_1_0 _) rfl rfl rfl rfl hl.1 rfl (Nat.le_of_ble_eq_true rfl) dX7_chain_27 ⟨Nat.zero_le _, Nat.zero_le _⟩ (fun H locs hw => ?_)
      obtain rfl := Option.some.inj hM
      exact W.iret hx hb hr (fun t ht _ => ⟨rfl, by rw [ht]; exact hw.1, hw.2.2.F ht⟩) hw.2.2.2.2 dX7_chain_30
    · replace hM := itn c6 hM
      refine lv_aload_n hx hb dX7_chain_16 rfl (lv_at hl 0 rfl) ?_
      refine lv_iload_n hx hb dX7_chain_17 rfl (lv_at hl 3 rfl) ?_
      refine rVR (wc := (wXT g a0 (fm a0 V0 kv tv) U0)) (As := [.int p3]) (rest := []) (q0 := 0) hS (c_X7_isSight l g a0 (fm a0 V0 kv tv) U0 p3) gX7_chain_X7_isSight rfl hd_X7_isSight ⟨Nat.le_of_ble_eq_true rfl, Nat.le_of_ble_eq_true rfl⟩ hK (va_P.pm hw.1 (pmX1 _ _ _ _ _ _ _ _)) rfl rfl rfl rfl hl.1 rfl (Nat.le_of_ble_eq_true rfl) dX7_chain_18 ⟨Nat.zero_le _, Nat.zero_le _⟩ ?_
      refine lv_if_ne (tgt := 31) hx hb dX7_chain_21 (by decide) (fun c10 => ?_) (fun c10 => ?_)
      · replace hM := itn c10 hM
        refine lv_iconst (v := (1 : Int32)) hx hb dX7_chain_31 (by decide) ?_
        refine lv_iload_n hx hb dX7_chain_32 rfl (lv_at hl 1 rfl) ?_
        refine lv_ishl hx hb dX7_chain_33 ?_
        refine lv_istore (lv' := [(4, .int ((1 : Int32) <<< (p1 &&& 31))), (0, .ref (a0 0)), (1, .int p1), (2, .int p2), (3, .int p3)]) hx hb dX7_chain_34 hl (by decide) rfl (fun ls hl => ?_)
        refine lv_iload hx hb dX7_chain_36 (lv_at hl 0 rfl) ?_
        refine lv_istore (lv' := [(5, .int ((1 : Int32) <<< (p1 &&& 31))), (4, .int ((1 : Int32) <<< (p1 &&& 31))), (0, .ref (a0 0)), (1, .int p1), (2, .int p2), (3, .int p3)]) hx hb dX7_chain_38 hl (by decide) rfl (fun ls hl => ?_)
        refine lv_iconst (v := (0 : Int32)) hx hb dX7_chain_40 (by decide) ?_
        refine lv_istore (lv' := [(6, .int (0 : Int32)), (5, .int ((1 : Int32) <<< (p1 &&& 31))), (4, .int ((1 : Int32) <<< (p1 &&& 31))), (0, .ref (a0 0)), (1, .int p1), (2, .int p2), (3, .int p3)]) hx hb dX7_chain_41 hl (by decide) rfl (fun ls hl => ?_)
        obtain ⟨q16, hL43, hM43⟩ := bd hM
        have hJ43 : ∀ (q16x : Unit), q16 = .inr q16x → ∀ (H : Heap) (locs : List Loc), Wk g A s.heap H locs (wXM g a0 U0 V0 M0 R0 kv tv) → ∀ (ls : Array Slot), lv_has ls 9 [] → W p l e (headSpec wsX7_chain ({ frames := 2, cells := 0, slots := 0, locals := 46 } : Room)).room s m ([.ref (a0 0), .int p1, .int p2, .int p3] : List Value).toArray below meth c H locs 0 0 (MQ below (QcW g (some (.int q.1)) (wXM g a0 U0 q.2 M0 R0 kv tv) A) ([.ref (a0 0), .int p1, .int p2, .int p3] : List Value).toArray s 0 0 A) (F0 m 137 ls []) := by
          intro q16x hX43 H locs hw ls hl
          rw [hX43] at hM43
          have hM := eo_inr hM43
          refine lv_iconst (v := (-1 : Int32)) hx hb dX7_chain_137 (by decide) ?_
          obtain rfl := Option.some.inj hM
          exact W.iret hx hb hr (fun t ht _ => ⟨rfl, by rw [ht]; exact hw.1, hw.2.2.F ht⟩) hw.2.2.2.2 dX7_chain_138
        have hW43 : ∀ (n : Nat) (v6_13 : Int32) (v5_14 : Int32) (v4_15 : Int32), L_X7_chain_43 U0 V0 p2 p3 n v6_13 v5_14 v4_15 = some q16 → ∀ (H : Heap) (locs : List Loc), Wk g A s.heap H locs (wXM g a0 U0 V0 M0 R0 kv tv) → ∀ (ls : Array Slot), lv_has ls 9 [(6, .int v6_13), (5, .int v5_14), (4, .int v4_15), (0, .ref (a0 0)), (2, .int p2), (3, .int p3)] → W p l e (headSpec wsX7_chain ({ frames := 2, cells := 0, slots := 0, locals := 46 } : Room)).room s m ([.ref (a0 0), .int p1, .int p2, .int p3] : List Value).toArray below meth c H locs 0 0 (MQ below (QcW g (some (.int q.1)) (wXM g a0 U0 q.2 M0 R0 kv tv) A) ([.ref (a0 0), .int p1, .int p2, .int p3] : List Value).toArray s 0 0 A) (F0 m 43 ls []) := by
          intro n
          induction n with
          | zero => intro v6_13 v5_14 v4_15 hM; rw [L_X7_chain_43] at hM; exact nn hM
          | succ n ih43 =>
            intro v6_13 v5_14 v4_15 hM H locs hw ls hl
            rw [L_X7_chain_43] at hM
            refine lv_iload hx hb dX7_chain_43 (lv_at hl 0 rfl) ?_
            refine lv_aload_n hx hb dX7_chain_45 rfl (lv_at hl 3 rfl) ?_
            refine wk_get hx hb hts hin_X7 hown hK hw.1 7 0 10 (.int (U0 10 0)) rfl rfl (by decide) (mi 1 rfl) rfl rfl dX7_chain_46 ?_
            refine lv_icmp_gt (tgt := 137) hx hb dX7_chain_49 (by decide) (fun c17 => ?_) (fun c17 => ?_)
            · replace hM := itp c17 hM
              exact hJ43 _ (Option.some.inj hM).symm _ _ hw _ (lv_sub hl [] rfl)
            · replace hM := itn c17 hM
              refine lv_iload hx hb dX7_chain_52 (lv_at hl 2 rfl) ?_
              refine lv_iload_n hx hb dX7_chain_54 rfl (lv_at hl 4 rfl) ?_
              refine rSR (wc := ([] : va_W)) (As := [.int v4_15, .int p2]) (rest := []) hS (c_X7_has l g v4_15 p2) gX7_chain_X7_has rfl hd_X7_has ⟨Nat.le_of_ble_eq_true rfl, Nat.le_of_ble_eq_true rfl⟩ hK (hP_nil) rfl hl.1 rfl (Nat.le_of_ble_eq_true rfl) dX7_chain_55 ⟨Nat.zero_le _, Nat.zero_le _⟩ ?_
              refine lv_if_eq (tgt := 64) hx hb dX7_chain_58 (by decide) (fun c19 => ?_) (fun c19 => ?_)
              · replace hM := itp c19 hM
                refine lv_iload hx hb dX7_chain_64 (lv_at hl 2 rfl) ?_
                refine lv_istore (lv' := [(7, .int v4_15), (6, .int v6_13), (5, .int v5_14), (4, .int v4_15), (0, .ref (a0 0)), (2, .int p2), (3, .int p3)]) hx hb dX7_chain_66 hl (by decide) rfl (fun ls hl => ?_)
                refine lv_iconst (v := (0 : Int32)) hx hb dX7_chain_68 (by decide) ?_
                refine lv_istore (lv' := [(8, .int (0 : Int32)), (7, .int v4_15), (6, .int v6_13), (5, .int v5_14), (4, .int v4_15), (0, .ref (a0 0)), (2, .int p2), (3, .int p3)]) hx hb dX7_chain_69 hl (by decide) rfl (fun ls hl => ?_)
                obtain ⟨q22, hL71, hM⟩ := bd hM
                have hJ71 : ∀ (H : Heap) (locs : List Loc), Wk g A s.heap H locs (wXM g a0 U0 V0 M0 R0 kv tv) → ∀ (ls : Array Slot), lv_has ls 9 [(7, .int q22), (6, .int v6_13), (5, .int v5_14), (0, .ref (a0 0)), (2, .int p2), (3, .int p3)] → W p l e (headSpec wsX7_chain ({ frames := 2, cells := 0, slots := 0, locals := 46 } : Room)).room s m ([.ref (a0 0), .int p1, .int p2, .int p3] : List Value).toArray below meth c H locs 0 0 (MQ below (QcW g (some (.int q.1)) (wXM g a0 U0 q.2 M0 R0 kv tv) A) ([.ref (a0 0), .int p1, .int p2, .int p3] : List Value).toArray s 0 0 A) (F0 m 112 ls []) := by
                  intro H locs hw ls hl
                  refine lv_iload hx hb dX7_chain_112 (lv_at hl 2 rfl) ?_
                  refine lv_iload hx hb dX7_chain_114 (lv_at hl 0 rfl) ?_
                  refine lv_aload_n hx hb dX7_chain_116 rfl (lv_at hl 3 rfl) ?_
                  refine lv_iload_n hx hb dX7_chain_117 rfl (lv_at hl 5 rfl) ?_
                  obtain ⟨q27, h26, hM⟩ := bd hM
                  refine rVR (wc := (wXT g a0 (fm a0 V0 kv tv) U0)) (As := [.int p3]) (rest := [.int q22, .int v5_14]) (q0 := 0) hS (c_X7_barredOf l g a0 (fm a0 V0 kv tv) U0 p3 h26) gX7_chain_X7_barredOf rfl hd_X7_barredOf ⟨Nat.le_of_ble_eq_true rfl, Nat.le_of_ble_eq_true rfl⟩ hK (va_P.pm hw.1 (pmX1 _ _ _ _ _ _ _ _)) rfl rfl rfl rfl hl.1 rfl (Nat.le_of_ble_eq_true rfl) dX7_chain_118 ⟨Nat.zero_le _, Nat.zero_le _⟩ ?_
                  refine lv_iconst (v := (-1 : Int32)) hx hb dX7_chain_121 (by decide) ?_
                  refine lv_ixor hx hb dX7_chain_122 ?_
                  refine lv_iand hx hb dX7_chain_123 ?_
                  refine lv_ior hx hb dX7_chain_124 ?_
                  refine lv_istore (lv' := [(5, .int (v5_14 ||| (q22 &&& (q27 ^^^ (-1 : Int32))))), (7, .int q22), (6, .int v6_13), (0, .ref (a0 0)), (2, .int p2), (3, .int p3)]) hx hb dX7_chain_125 hl (by decide) rfl (fun ls hl => ?_)
                  refine lv_iload hx hb dX7_chain_127 (lv_at hl 1 rfl) ?_
                  refine lv_istore (lv' := [(4, .int q22), (5, .int (v5_14 ||| (q22 &&& (q27 ^^^ (-1 : Int32))))), (7, .int q22), (6, .int v6_13), (0, .ref (a0 0)), (2, .int p2), (3, .int p3)]) hx hb dX7_chain_129 hl (by decide) rfl (fun ls hl => ?_)
                  refine lv_iinc (v := (v6_13 + (1 : Int32))) (lv' := [(6, .int (v6_13 + (1 : Int32))), (4, .int q22), (5, .int (v5_14 ||| (q22 &&& (q27 ^^^ (-1 : Int32))))), (7, .int q22), (0, .ref (a0 0)), (2, .int p2), (3, .int p3)]) hx hb dX7_chain_131 hl (k := 3) rfl rfl (by decide) rfl (fun ls hl => ?_)
                  refine lv_goto (tgt := 43) hx hb dX7_chain_134 (by decide) ?_
                  exact ih43 (v6_13 + (1 : Int32)) (v5_14 ||| (q22 &&& (q27 ^^^ (-1 : Int32)))) q22 hM _ _ hw _ (lv_sub hl [0, 2, 1, 4, 5, 6] rfl)
                have hW71 : ∀ (n : Nat) (v8_20 : Int32) (v7_21 : Int32), L_X7_chain_71 U0 v5_14 n v8_20 v7_21 = some q22 → ∀ (H : Heap) (locs : List Loc), Wk g A s.heap H locs (wXM g a0 U0 V0 M0 R0 kv tv) → ∀ (ls : Array Slot), lv_has ls 9 [(8, .int v8_20), (7, .int v7_21), (6, .int v6_13), (5, .int v5_14), (0, .ref (a0 0)), (2, .int p2), (3, .int p3)] → W p l e (headSpec wsX7_chain ({ frames := 2, cells := 0, slots := 0, locals := 46 } : Room)).room s m ([.ref (a0 0), .int p1, .int p2, .int p3] : List Value).toArray below meth c H locs 0 0 (MQ below (QcW g (some (.int q.1)) (wXM g a0 U0 q.2 M0 R0 kv tv) A) ([.ref (a0 0), .int p1, .int p2, .int p3] : List Value).toArray s 0 0 A) (F0 m 71 ls []) := by
                  intro n
                  induction n with
                  | zero => intro v8_20 v7_21 hM; rw [L_X7_chain_71] at hM; exact nn hM
                  | succ n ih71 =>
                    intro v8_20 v7_21 hM H locs hw ls hl
                    rw [L_X7_chain_71] at hM
                    refine lv_iload hx hb dX7_chain_71 (lv_at hl 0 rfl) ?_
                    refine lv_aload_n hx hb dX7_chain_73 rfl (lv_at hl 4 rfl) ?_
                    refine wk_get hx hb hts hin_X7 hown hK hw.1 7 0 10 (.int (U0 10 0)) rfl rfl (by decide) (mi 1 rfl) rfl rfl dX7_chain_74 ?_
                    refine lv_icmp_ge (tgt := 112) hx hb dX7_chain_77 (by decide) (fun c23 => ?_) (fun c23 => ?_)
                    · replace hM := itp c23 hM
                      obtain rfl := Option.some.inj hM
                      exact hJ71 _ _ hw _ (lv_sub hl [1, 2, 3, 4, 5, 6] rfl)
                    · replace hM := itn c23 hM
                      refine lv_iload hx hb dX7_chain_80 (lv_at hl 1 rfl) ?_
                      refine lv_aload_n hx hb dX7_chain_82 rfl (lv_at hl 4 rfl) ?_
                      refine wk_get hx hb hts hin_X7 hown hK hw.1 7 0 16 (.ref (a0 6)) rfl rfl (by decide) (mi 2 rfl) rfl rfl dX7_chain_83 ?_
                      refine lv_iload hx hb dX7_chain_86 (lv_at hl 0 rfl) ?_
                      obtain ⟨k24, hM⟩ := ck hM
                      refine wk_iald hx hb hK hw.1 6 7 (U0 16) rfl k24 dX7_chain_88 ?_
                      refine lv_iload hx hb dX7_chain_89 (lv_at hl 3 rfl) ?_
                      refine lv_iand hx hb dX7_chain_91 ?_
                      have hJ33 : ∀ (H : Heap) (locs : List Loc) (x32 : Int32) (ls : Array Slot), Wk g A s.heap H locs (wXM g a0 U0 V0 M0 R0 kv tv) → x32 = (if (((U0 16) (v8_20).toNatClampNeg) &&& v5_14) = 0 then (0 : Int32) else ((1 : Int32) <<< (v8_20 &&& 31))) → lv_has ls 9 [(8, .int v8_20), (6, .int v6_13), (5, .int v5_14), (0, .ref (a0 0)), (2, .int p2), (3, .int p3)] → W p l e (headSpec wsX7_chain ({ frames := 2, cells := 0, slots := 0, locals := 46 } : Room)).room s m ([.ref (a0 0), .int p1, .int p2, .int p3] : List Value).toArray below meth c H locs 0 0 (MQ below (QcW g (some (.int q.1)) (wXM g a0 U0 q.2 M0 R0 kv tv) A) ([.ref (a0 0), .int p1, .int p2, .int p3] : List Value).toArray s 0 0 A) (F0 m 103 ls [.int x32, .int v7_21]) := by
                        intro H locs x32 ls hw hxx32 hl
                        subst hxx32
                        refine lv_ior hx hb dX7_chain_103 ?_
                        refine lv_istore (lv' := [(7, .int (v7_21 ||| (if (((U0 16) (v8_20).toNatClampNeg) &&& v5_14) = 0 then (0 : Int32) else ((1 : Int32) <<< (v8_20 &&& 31))))), (8, .int v8_20), (6, .int v6_13), (5, .int v5_14), (0, .ref (a0 0)), (2, .int p2), (3, .int p3)]) hx hb dX7_chain_104 hl (by decide) rfl (fun ls hl => ?_)
                        refine lv_iinc (v := (v8_20 + (1 : Int32))) (lv' := [(8, .int (v8_20 + (1 : Int32))), (7, .int (v7_21 ||| (if (((U0 16) (v8_20).toNatClampNeg) &&& v5_14) = 0 then (0 : Int32) else ((1 : Int32) <<< (v8_20 &&& 31))))), (6, .int v6_13), (5, .int v5_14), (0, .ref (a0 0)), (2, .int p2), (3, .int p3)]) hx hb dX7_chain_106 hl (k := 1) rfl rfl (by decide) rfl (fun ls hl => ?_)
                        refine lv_goto (tgt := 71) hx hb dX7_chain_109 (by decide) ?_
                        exact ih71 (v8_20 + (1 : Int32)) (v7_21 ||| (if (((U0 16) (v8_20).toNatClampNeg) &&& v5_14) = 0 then (0 : Int32) else ((1 : Int32) <<< (v8_20 &&& 31)))) hM _ _ hw _ (lv_sub hl [0, 1, 2, 3, 4, 5, 6] rfl)
                      refine lv_if_eq (tgt := 102) hx hb dX7_chain_92 (by decide) (fun c25 => ?_) (fun c25 => ?_)
                      · refine lv_iconst (v := (0 : Int32)) hx hb dX7_chain_102 (by decide) ?_
                        exact hJ33 _ _ _ _ hw (by first | with_reducible rfl | (simp only [if_pos c25]) | rfl) (lv_sub hl [0, 2, 3, 4, 5, 6] rfl)
                      · refine lv_iconst (v := (1 : Int32)) hx hb dX7_chain_95 (by decide) ?_
                        refine lv_iload hx hb dX7_chain_96 (lv_at hl 0 rfl) ?_
                        refine lv_ishl hx hb dX7_chain_98 ?_
                        refine lv_goto (tgt := 103) hx hb dX7_chain_99 (by decide) ?_
                        exact hJ33 _ _ _ _ hw (by first | with_reducible rfl | (simp only [if_neg c25]) | rfl) (lv_sub hl [0, 2, 3, 4, 5, 6] rfl)
                exact hW71 300 (0 : Int32) v4_15 hL71 _ _ hw _ (lv_sub hl [0, 1, 2, 3, 5, 6, 7] rfl)
              · replace hM := itn c19 hM
                refine lv_iload hx hb dX7_chain_61 (lv_at hl 0 rfl) ?_
                have hE := Option.some.inj hM
                have hM43' := hM43
                rw [← hE] at hM43'
                obtain rfl := eo_inl hM43'
                exact W.iret hx hb hr (fun t ht _ => ⟨rfl, by rw [ht]; exact hw.1, hw.2.2.F ht⟩) hw.2.2.2.2 dX7_chain_63
        exact hW43 300 (0 : Int32) ((1 : Int32) <<< (p1 &&& 31)) ((1 : Int32) <<< (p1 &&& 31)) hL43 _ _ hw _ (lv_sub hl [0, 1, 2, 3, 5, 6] rfl)
      · replace hM := itp c10 hM
        refine lv_aload_n hx hb dX7_chain_24 rfl (lv_at hl 0 rfl) ?_
        refine lv_bipush (v := (-2 : Int32)) hx hb dX7_chain_25 (by decide) ?_
        obtain ⟨q12, h11, hM⟩ := bd hM
        refine rVWp (wc := (wXM g a0 U0 V0 M0 R0 kv tv)) (wq := (wXM g a0 U0 q12.2 M0 R0 kv tv)) (As := [.int (-2 : Int32)]) (rest := []) (q0 := 0) hS (c_X7_refuse l g a0 kv tv U0 V0 M0 R0 (-2 : Int32) h11) gX7_chain_X7_refuse rfl hd_X7_refuse ⟨Nat.le_of_ble_eq_true rfl, Nat.le_of_ble_eq_true rfl⟩ hK hw hA (pm_1_0 _) rfl (pm_1_0 _) rfl rfl rfl rfl hl.1 rfl (Nat.le_of_ble_eq_true rfl) dX7_chain_27 ⟨Nat.zero_le _, Nat.zero_le _⟩ (fun H locs hw => ?_)
        obtain rfl := Option.some.inj hM
        exact W.iret hx hb hr (fun t ht _ => ⟨rfl, by rw [ht]; exact hw.1, hw.2.2.F ht⟩) hw.2.2.2.2 dX7_chain_30
