theorem hd_X7_pairsNow : yX7_pairsNow.cls = RX7 ∧ yX7_pairsNow.cls ≠ "java/lang/invoke/MethodHandle" ∧ yX7_pairsNow.cls ≠ "java/lang/invoke/VarHandle" ∧ (parseMethodDescriptor yX7_pairsNow.desc).map (fun d => d.parameters.length) = some 0 := by decide +kernel
set_option maxHeartbeats 4000000 in
set_option maxRecDepth 100000 in
theorem c_X7_pairsNow (l : Launch) (g : Gm) (a0 : Nat → Nat) (Fw0 : Nat → Value) (U0 : TS) {q : Int32} (hM : f_X7_pairsNow U0 = some q) : MR l yX7_pairsNow wsX7_pairsNow 1 21 g [.ref (a0 0)] (wXT g a0 Fw0 U0) (some (.int q)) := by
  refine Met.ofW (cc := cX7_pairsNow) (maxL := 4) (ret := (some .int)) (by decide) rfl ?_
  intro p e s m args below meth c s₁ B hml hv
  obtain ⟨rfl, hP, hK⟩ := hv
  have hx := B.exec; have hb := B.bytes; have hr := B.returns
  have hts := atoms_spec (ws := wsX7_pairsNow) B.pre
  have hown : s.vm.findClass RX7 = some m.cls := findClass_of_methodNamed B.named
  have hlocks := B.notSynchronized
  have hS : CallFix p m c cX7_pairsNow 4 s _ wsX7_pairsNow RX7 := ⟨hx, hb, hml, hown, hts⟩
  have hin_X7 : ∀ w ∈ wsX70, w ∈ wsX7_pairsNow := fun w h => (List.mem_cons_of_mem _ (List.mem_append_right _ h))
  have hl := lv_entry ([.ref (a0 0)]) (n := 4) (Nat.le_of_ble_eq_true rfl)
  rw [lg_entry_eq]
  generalize (lg_sl ([.ref (a0 0)]) ++ List.replicate (4 - (lg_sl ([.ref (a0 0)])).length) Slot.unset).toArray = ls at hl ⊢
  have hl : lv_has ls 4 [(0, .ref (a0 0))] := hl
  rw [f_X7_pairsNow] at hM
  refine lv_iconst (v := (0 : Int32)) hx hb dX7_pairsNow_0 (by decide) ?_
  refine lv_istore_n (lv' := [(1, .int (0 : Int32)), (0, .ref (a0 0))]) hx hb dX7_pairsNow_1 rfl hl (by decide) rfl (fun ls hl => ?_)
  refine lv_iconst (v := (0 : Int32)) hx hb dX7_pairsNow_2 (by decide) ?_
  refine lv_istore_n (lv' := [(2, .int (0 : Int32)), (1, .int (0 : Int32)), (0, .ref (a0 0))]) hx hb dX7_pairsNow_3 rfl hl (by decide) rfl (fun ls hl => ?_)
  obtain ⟨q3, hL4, hM⟩ := bd hM
  have hJ4 : ∀ (ls : Array Slot), lv_has ls 4 [(1, .int q3)] → W p l e (headSpec wsX7_pairsNow ({ frames := 1, cells := 0, slots := 0, locals := 21 } : Room)).room s m ([.ref (a0 0)] : List Value).toArray below meth c s.heap [] 0 0 (MQ below (QcR (some (.int q))) ([.ref (a0 0)] : List Value).toArray s 0 0 (fun _ => False)) (F0 m 65 ls []) := by
    intro ls hl
    refine lv_iload_n hx hb dX7_pairsNow_65 rfl (lv_at hl 0 rfl) ?_
    obtain rfl := Option.some.inj hM
    exact W.iret hx hb hr (fun t ht _ => ⟨rfl, ht⟩) (fun q hq => by cases hq) dX7_pairsNow_66
  have hW4 : ∀ (n : Nat) (v2_1 : Int32) (v1_2 : Int32), L_X7_pairsNow_4 U0 n v2_1 v1_2 = some q3 → ∀ (ls : Array Slot), lv_has ls 4 [(2, .int v2_1), (1, .int v1_2), (0, .ref (a0 0))] → W p l e (headSpec wsX7_pairsNow ({ frames := 1, cells := 0, slots := 0, locals := 21 } : Room)).room s m ([.ref (a0 0)] : List Value).toArray below meth c s.heap [] 0 0 (MQ below (QcR (some (.int q))) ([.ref (a0 0)] : List Value).toArray s 0 0 (fun _ => False)) (F0 m 4 ls []) := by
    intro n
    induction n with
    | zero => intro v2_1 v1_2 hM; rw [L_X7_pairsNow_4] at hM; exact nn hM
    | succ n ih4 =>
      intro v2_1 v1_2 hM ls hl
      rw [L_X7_pairsNow_4] at hM
      refine lv_iload_n hx hb dX7_pairsNow_4 rfl (lv_at hl 0 rfl) ?_
      refine lv_aload_n hx hb dX7_pairsNow_5 rfl (lv_at hl 2 rfl) ?_
      refine wk_get hx hb hts hin_X7 hown hK hP 7 0 10 (.int (U0 10 0)) rfl rfl (by decide) (mi 1 rfl) rfl rfl dX7_pairsNow_6 ?_
      refine lv_icmp_ge (tgt := 65) hx hb dX7_pairsNow_9 (by decide) (fun c4 => ?_) (fun c4 => ?_)
      · replace hM := itp c4 hM
        obtain rfl := Option.some.inj hM
        exact hJ4 _ (lv_sub hl [1] rfl)
      · replace hM := itn c4 hM
        refine lv_iconst (v := (0 : Int32)) hx hb dX7_pairsNow_12 (by decide) ?_
        refine lv_istore_n (lv' := [(3, .int (0 : Int32)), (2, .int v2_1), (1, .int v1_2), (0, .ref (a0 0))]) hx hb dX7_pairsNow_13 rfl hl (by decide) rfl (fun ls hl => ?_)
        obtain ⟨q7, hL14, hM⟩ := bd hM
        have hJ14 : ∀ (ls : Array Slot), lv_has ls 4 [(2, .int v2_1), (1, .int q7), (0, .ref (a0 0))] → W p l e (headSpec wsX7_pairsNow ({ frames := 1, cells := 0, slots := 0, locals := 21 } : Room)).room s m ([.ref (a0 0)] : List Value).toArray below meth c s.heap [] 0 0 (MQ below (QcR (some (.int q))) ([.ref (a0 0)] : List Value).toArray s 0 0 (fun _ => False)) (F0 m 59 ls []) := by
          intro ls hl
          refine lv_iinc (v := (v2_1 + (1 : Int32))) (lv' := [(2, .int (v2_1 + (1 : Int32))), (1, .int q7), (0, .ref (a0 0))]) hx hb dX7_pairsNow_59 hl (k := 0) rfl rfl (by decide) rfl (fun ls hl => ?_)
          refine lv_goto (tgt := 4) hx hb dX7_pairsNow_62 (by decide) ?_
          exact ih4 (v2_1 + (1 : Int32)) q7 hM _ (lv_sub hl [0, 1, 2] rfl)
        have hW14 : ∀ (n : Nat) (v3_5 : Int32) (v1_6 : Int32), L_X7_pairsNow_14 U0 v2_1 n v3_5 v1_6 = some q7 → ∀ (ls : Array Slot), lv_has ls 4 [(3, .int v3_5), (2, .int v2_1), (1, .int v1_6), (0, .ref (a0 0))] → W p l e (headSpec wsX7_pairsNow ({ frames := 1, cells := 0, slots := 0, locals := 21 } : Room)).room s m ([.ref (a0 0)] : List Value).toArray below meth c s.heap [] 0 0 (MQ below (QcR (some (.int q))) ([.ref (a0 0)] : List Value).toArray s 0 0 (fun _ => False)) (F0 m 14 ls []) := by
          intro n
          induction n with
          | zero => intro v3_5 v1_6 hM; rw [L_X7_pairsNow_14] at hM; exact nn hM
          | succ n ih14 =>
            intro v3_5 v1_6 hM ls hl
            rw [L_X7_pairsNow_14] at hM
            refine lv_iload_n hx hb dX7_pairsNow_14 rfl (lv_at hl 0 rfl) ?_
            refine lv_iload_n hx hb dX7_pairsNow_15 rfl (lv_at hl 1 rfl) ?_
            refine lv_icmp_ge (tgt := 59) hx hb dX7_pairsNow_16 (by decide) (fun c8 => ?_) (fun c8 => ?_)
            · replace hM := itp c8 hM
              obtain rfl := Option.some.inj hM
              exact hJ14 _ (lv_sub hl [1, 2, 3] rfl)
            · replace hM := itn c8 hM
              refine lv_iload_n hx hb dX7_pairsNow_19 rfl (lv_at hl 2 rfl) ?_
              refine lv_aload_n hx hb dX7_pairsNow_20 rfl (lv_at hl 3 rfl) ?_
              refine wk_get hx hb hts hin_X7 hown hK hP 7 0 16 (.ref (a0 6)) rfl rfl (by decide) (mi 2 rfl) rfl rfl dX7_pairsNow_21 ?_
              refine lv_iload_n hx hb dX7_pairsNow_24 rfl (lv_at hl 1 rfl) ?_
              obtain ⟨k9, hM⟩ := ck hM
              refine wk_iald hx hb hK hP 6 7 (U0 16) rfl k9 dX7_pairsNow_25 ?_
              refine lv_iload_n hx hb dX7_pairsNow_26 rfl (lv_at hl 0 rfl) ?_
              refine rSR (wc := ([] : va_W)) (As := [.int ((U0 16) (v2_1).toNatClampNeg), .int v3_5]) (rest := [.int v1_6]) hS (c_X7_has l g ((U0 16) (v2_1).toNatClampNeg) v3_5) gX7_pairsNow_X7_has rfl hd_X7_has ⟨Nat.le_of_ble_eq_true rfl, Nat.le_of_ble_eq_true rfl⟩ hK (hP_nil) rfl hl.1 rfl (Nat.le_of_ble_eq_true rfl) dX7_pairsNow_27 ⟨Nat.zero_le _, Nat.zero_le _⟩ ?_
              refine lv_if_eq (tgt := 50) hx hb dX7_pairsNow_30 (by decide) (fun c11 => ?_) (fun c11 => ?_)
              · replace hM := itp c11 hM
                refine lv_iconst (v := (0 : Int32)) hx hb dX7_pairsNow_50 (by decide) ?_
                refine lv_iadd hx hb dX7_pairsNow_51 ?_
                refine lv_istore_n (lv' := [(1, .int (v1_6 + (0 : Int32))), (3, .int v3_5), (2, .int v2_1), (0, .ref (a0 0))]) hx hb dX7_pairsNow_52 rfl hl (by decide) rfl (fun ls hl => ?_)
                refine lv_iinc (v := (v3_5 + (1 : Int32))) (lv' := [(3, .int (v3_5 + (1 : Int32))), (1, .int (v1_6 + (0 : Int32))), (2, .int v2_1), (0, .ref (a0 0))]) hx hb dX7_pairsNow_53 hl (k := 1) rfl rfl (by decide) rfl (fun ls hl => ?_)
                refine lv_goto (tgt := 14) hx hb dX7_pairsNow_56 (by decide) ?_
                exact ih14 (v3_5 + (1 : Int32)) (v1_6 + (0 : Int32)) hM _ (lv_sub hl [0, 2, 1, 3] rfl)
              · replace hM := itn c11 hM
                refine lv_aload_n hx hb dX7_pairsNow_33 rfl (lv_at hl 3 rfl) ?_
                refine wk_get hx hb hts hin_X7 hown hK hP 7 0 16 (.ref (a0 6)) rfl rfl (by decide) (mi 2 rfl) rfl rfl dX7_pairsNow_34 ?_
                refine lv_iload_n hx hb dX7_pairsNow_37 rfl (lv_at hl 0 rfl) ?_
                obtain ⟨k12, hM⟩ := ck hM
                refine wk_iald hx hb hK hP 6 7 (U0 16) rfl k12 dX7_pairsNow_38 ?_
                refine lv_iload_n hx hb dX7_pairsNow_39 rfl (lv_at hl 1 rfl) ?_
                refine rSR (wc := ([] : va_W)) (As := [.int ((U0 16) (v3_5).toNatClampNeg), .int v2_1]) (rest := [.int v1_6]) hS (c_X7_has l g ((U0 16) (v3_5).toNatClampNeg) v2_1) gX7_pairsNow_X7_has rfl hd_X7_has ⟨Nat.le_of_ble_eq_true rfl, Nat.le_of_ble_eq_true rfl⟩ hK (hP_nil) rfl hl.1 rfl (Nat.le_of_ble_eq_true rfl) dX7_pairsNow_40 ⟨Nat.zero_le _, Nat.zero_le _⟩ ?_
                have hJ20 : ∀ (x19 : Int32) (ls : Array Slot), x19 = (if (f_X7_has ((U0 16) (v3_5).toNatClampNeg) v2_1) = 0 then (0 : Int32) else (1 : Int32)) → lv_has ls 4 [(3, .int v3_5), (2, .int v2_1), (0, .ref (a0 0))] → W p l e (headSpec wsX7_pairsNow ({ frames := 1, cells := 0, slots := 0, locals := 21 } : Room)).room s m ([.ref (a0 0)] : List Value).toArray below meth c s.heap [] 0 0 (MQ below (QcR (some (.int q))) ([.ref (a0 0)] : List Value).toArray s 0 0 (fun _ => False)) (F0 m 51 ls [.int x19, .int v1_6]) := by
                  intro x19 ls hxx19 hl
                  subst hxx19
                  refine lv_iadd hx hb dX7_pairsNow_51 ?_
                  refine lv_istore_n (lv' := [(1, .int (v1_6 + (if (f_X7_has ((U0 16) (v3_5).toNatClampNeg) v2_1) = 0 then (0 : Int32) else (1 : Int32)))), (3, .int v3_5), (2, .int v2_1), (0, .ref (a0 0))]) hx hb dX7_pairsNow_52 rfl hl (by decide) rfl (fun ls hl => ?_)
                  refine lv_iinc (v := (v3_5 + (1 : Int32))) (lv' := [(3, .int (v3_5 + (1 : Int32))), (1, .int (v1_6 + (if (f_X7_has ((U0 16) (v3_5).toNatClampNeg) v2_1) = 0 then (0 : Int32) else (1 : Int32)))), (2, .int v2_1), (0, .ref (a0 0))]) hx hb dX7_pairsNow_53 hl (k := 1) rfl rfl (by decide) rfl (fun ls hl => ?_)
                  refine lv_goto (tgt := 14) hx hb dX7_pairsNow_56 (by decide) ?_
                  exact ih14 (v3_5 + (1 : Int32)) (v1_6 + (if (f_X7_has ((U0 16) (v3_5).toNatClampNeg) v2_1) = 0 then (0 : Int32) else (1 : Int32))) hM _ (lv_sub hl [0, 2, 1, 3] rfl)
                refine lv_if_eq (tgt := 50) hx hb dX7_pairsNow_43 (by decide) (fun c14 => ?_) (fun c14 => ?_)
                · refine lv_iconst (v := (0 : Int32)) hx hb dX7_pairsNow_50 (by decide) ?_
                  exact hJ20 _ _ (by first | with_reducible rfl | (simp only [if_pos c14]) | rfl) (lv_sub hl [0, 1, 3] rfl)
                · refine lv_iconst (v := (1 : Int32)) hx hb dX7_pairsNow_46 (by decide) ?_
                  refine lv_goto (tgt := 51) hx hb dX7_pairsNow_47 (by decide) ?_
                  exact hJ20 _ _ (by first | with_reducible rfl | (simp only [if_neg c14]) | rfl) (lv_sub hl [0, 1, 3] rfl)
        exact hW14 300 (0 : Int32) v1_2 hL14 _ (lv_sub hl [0, 1, 2, 3] rfl)
  exact hW4 300 (0 : Int32) (0 : Int32) hL4 _ (lv_sub hl [0, 1, 2] rfl)
theorem hd_X7_pairs : yX7_pairs.cls = RX7 ∧ yX7_pairs.cls ≠ "java/lang/invoke/MethodHandle" ∧ yX7_pairs.cls ≠ "java/lang/invoke/VarHandle" ∧ (parseMethodDescriptor yX7_pairs.desc).map (fun d => d.parameters.length) = some 0 := by decide +kernel
set_option maxHeartbeats 4000000 in
set_option maxRecDepth 100000 in
theorem c_X7_pairs (l : Launch) (g : Gm) (a0 : Nat → Nat) (kv : Value) (tv : Value) (U0 : TS) (V0 : TS) (M0 : LTS) (R0 : LTS) {q : Int32} (hM : f_X7_pairs U0 V0 M0 R0 = some q) : MR l yX7_pairs wsX7_pairs 2 44 g [.ref (a0 0)] (wXM g a0 U0 V0 M0 R0 kv tv) (some (.int q)) := by
  refine Met.ofW (cc := cX7_pairs) (maxL := 1) (ret := (some .int)) (by decide) rfl ?_
  intro p e s m args below meth c s₁ B hml hv
  obtain ⟨rfl, hP, hK⟩ := hv
  have hx := B.exec; have hb := B.bytes; have hr := B.returns
  have hts := atoms_spec (ws := wsX7_pairs) B.pre
  have hown : s.vm.findClass RX7 = some m.cls := findClass_of_methodNamed B.named
  have hlocks := B.notSynchronized
  have hS : CallFix p m c cX7_pairs 1 s _ wsX7_pairs RX7 := ⟨hx, hb, hml, hown, hts⟩
  have hl := lv_entry ([.ref (a0 0)]) (n := 1) (Nat.le_of_ble_eq_true rfl)
  rw [lg_entry_eq]
  generalize (lg_sl ([.ref (a0 0)]) ++ List.replicate (1 - (lg_sl ([.ref (a0 0)])).length) Slot.unset).toArray = ls at hl ⊢
  have hl : lv_has ls 1 [(0, .ref (a0 0))] := hl
  rw [f_X7_pairs] at hM
  refine lv_aload_n hx hb dX7_pairs_0 rfl (lv_at hl 0 rfl) ?_
  obtain ⟨q2, h1, hM⟩ := bd hM
  refine rVR (wc := (wXT g a0 (fm a0 V0 kv tv) U0)) (As := []) (rest := []) (q0 := 0) hS (c_X7_pairsNow l g a0 (fm a0 V0 kv tv) U0 h1) gX7_pairs_X7_pairsNow rfl hd_X7_pairsNow ⟨Nat.le_of_ble_eq_true rfl, Nat.le_of_ble_eq_true rfl⟩ hK (va_P.pm hP (pmX1 _ _ _ _ _ _ _ _)) rfl rfl rfl rfl hl.1 rfl (Nat.le_of_ble_eq_true rfl) dX7_pairs_1 ⟨Nat.zero_le _, Nat.zero_le _⟩ ?_
  obtain rfl := Option.some.inj hM
  exact W.iret hx hb hr (fun t ht _ => ⟨rfl, ht⟩) (fun q hq => by cases hq) dX7_pairs_4
theorem hd_X7_parts : yX7_parts.cls = RX7 ∧ yX7_parts.cls ≠ "java/lang/invoke/MethodHandle" ∧ yX7_parts.cls ≠ "java/lang/invoke/VarHandle" ∧ (parseMethodDescriptor yX7_parts.desc).map (fun d => d.parameters.length) = some 3 := by decide +kernel
set_option maxHeartbeats 4000000 in
set_option maxRecDepth 100000 in
theorem c_X7_parts (l : Launch) (g : Gm) (a0 : Nat → Nat) (kv : Value) (tv : Value) (U0 : TS) (V0 : TS) (M0 : LTS) (R0 : LTS) (p1 : Int32) (p2 : Int32) (p3 : Int32) {q : (Int32 × TS)} (hM : f_X7_parts U0 V0 M0 R0 p1 p2 p3 = some q) : MW l yX7_parts wsX7_parts 3 69 g [.ref (a0 0), .int p1, .int p2, .int p3] (wXM g a0 U0 V0 M0 R0 kv tv) (some (.int q.1)) (wXM g a0 U0 q.2 M0 R0 kv tv) := by
  intro sz
  refine Met.ofW (cc := cX7_parts) (maxL := 5) (ret := (some .int)) (by decide) rfl ?_
  intro p e s m args below meth c s₁ B hml hv
  obtain ⟨rfl, hsz, hP, hK, hD0⟩ := hv
  have hx := B.exec; have hb := B.bytes; have hr := B.returns
  have hts := atoms_spec (ws := wsX7_parts) B.pre
  have hown : s.vm.findClass RX7 = some m.cls := findClass_of_methodNamed B.named
  have hlocks := B.notSynchronized
  have hS : CallFix p m c cX7_parts 5 s _ wsX7_parts RX7 := ⟨hx, hb, hml, hown, hts⟩
  have hin_X7 : ∀ w ∈ wsX70, w ∈ wsX7_parts := fun w h => (List.mem_cons_of_mem _ (List.mem_append_right _ h))
  subst hsz
  have hw := wk_start hP hD0
  have hA : ∀ q : Nat, s.heap.size ≤ q → va_A (wXM g a0 U0 V0 M0 R0 kv tv) s.heap.size q := fun q h => Or.inr h
  generalize va_A (wXM g a0 U0 V0 M0 R0 kv tv) s.heap.size = A at hw hA ⊢
  clear hP hD0
  have hl := lv_entry ([.ref (a0 0), .int p1, .int p2, .int p3]) (n := 5) (Nat.le_of_ble_eq_true rfl)
  rw [lg_entry_eq]
  generalize (lg_sl ([.ref (a0 0), .int p1, .int p2, .int p3]) ++ List.replicate (5 - (lg_sl ([.ref (a0 0), .int p1, .int p2, .int p3])).length) Slot.unset).toArray = ls at hl ⊢
  have hl : lv_has ls 5 [(0, .ref (a0 0)), (1, .int p1), (2, .int p2), (3, .int p3)] := hl
  rw [f_X7_parts] at hM
  refine lv_iload_n hx hb dX7_parts_0 rfl (lv_at hl 1 rfl) ?_
  refine lv_i2l (v := ((p1).toInt64)) hx hb dX7_parts_1 rfl ?_
  refine lv_lconst (v := (0 : Int64)) hx hb dX7_parts_2 (by decide) ?_
  refine lv_ldc2 (v := (7 : Int64)) hx hb hown (hts _ (mi 1 rfl)) dX7_parts_3 ?_
  refine rSR (wc := ([] : va_W)) (As := [.long ((p1).toInt64), .long (0 : Int64), .long (7 : Int64)]) (rest := []) hS (c_X7_in l g ((p1).toInt64) (0 : Int64) (7 : Int64)) gX7_parts_X7_in rfl hd_X7_in ⟨Nat.le_of_ble_eq_true rfl, Nat.le_of_ble_eq_true rfl⟩ hK (hP_nil) rfl hl.1 rfl (Nat.le_of_ble_eq_true rfl) dX7_parts_6 ⟨Nat.zero_le _, Nat.zero_le _⟩ ?_
  refine lv_if_eq (tgt := 42) hx hb dX7_parts_9 (by decide) (fun c2 => ?_) (fun c2 => ?_)
  · replace hM := itp c2 hM
    refine lv_aload_n hx hb dX7_parts_42 rfl (lv_at hl 0 rfl) ?_
    refine lv_bipush (v := (-2 : Int32)) hx hb dX7_parts_43 (by decide) ?_
    obtain ⟨q4, h3, hM⟩ := bd hM
    refine rVWp (wc := (wXM g a0 U0 V0 M0 R0 kv tv)) (wq := (wXM g a0 U0 q4.2 M0 R0 kv tv)) (As := [.int (-2 : Int32)]) (rest := []) (q0 := 0) hS (c_X7_refuse l g a0 kv tv U0 V0 M0 R0 (-2 : Int32) h3) gX7_parts_X7_refuse rfl hd_X7_refuse ⟨Nat.le_of_ble_eq_true rfl, Nat.le_of_ble_eq_true rfl⟩ hK hw hA (pm_1_0 _) rfl (pm_1_0 _) rfl rfl rfl rfl hl.1 rfl (Nat.le_of_ble_eq_true rfl) dX7_parts_45 ⟨Nat.zero_le _, Nat.zero_le _⟩ (fun H locs hw => ?_)
    obtain rfl := Option.some.inj hM
    exact W.iret hx hb hr (fun t ht _ => ⟨rfl, by rw [ht]; exact hw.1, hw.2.2.F ht⟩) hw.2.2.2.2 dX7_parts_48
  · replace hM := itn c2 hM
    refine lv_iload_n hx hb dX7_parts_12 rfl (lv_at hl 2 rfl) ?_
    refine lv_i2l (v := ((p2).toInt64)) hx hb dX7_parts_13 rfl ?_
    refine lv_lconst (v := (1 : Int64)) hx hb dX7_parts_14 (by decide) ?_
    refine lv_ldc2 (v := (10 : Int64)) hx hb hown (hts _ (mi 2 rfl)) dX7_parts_15 ?_
    refine rSR (wc := ([] : va_W)) (As := [.long ((p2).toInt64), .long (1 : Int64), .long (10 : Int64)]) (rest := []) hS (c_X7_in l g ((p2).toInt64) (1 : Int64) (10 : Int64)) gX7_parts_X7_in rfl hd_X7_in ⟨Nat.le_of_ble_eq_true rfl, Nat.le_of_ble_eq_true rfl⟩ hK (hP_nil) rfl hl.1 rfl (Nat.le_of_ble_eq_true rfl) dX7_parts_18 ⟨Nat.zero_le _, Nat.zero_le _⟩ ?_
    refine lv_if_eq (tgt := 42) hx hb dX7_parts_21 (by decide) (fun c6 => ?_) (fun c6 => ?_)
    · replace hM := itp c6 hM
      refine lv_aload_n hx hb dX7_parts_42 rfl (lv_at hl 0 rfl) ?_
      refine lv_bipush (v := (-2 : Int32)) hx hb dX7_parts_43 (by decide) ?_
      obtain ⟨q8, h7, hM⟩ := bd hM
      refine rVWp (wc := (wXM g a0 U0 V0 M0 R0 kv tv)) (wq := (wXM g a0 U0 q8.2 M0 R0 kv tv)) (As := [.int (-2 : Int32)]) (rest := []) (q0 := 0) hS (c_X7_refuse l g a0 kv tv U0 V0 M0 R0 (-2 : Int32) h7) gX7_parts_X7_refuse rfl hd_X7_refuse ⟨Nat.le_of_ble_eq_true rfl, Nat.le_of_ble_eq_true rfl⟩ hK hw hA (pm_1_0 _) rfl (pm_1_0 _) rfl rfl rfl rfl hl.1 rfl (Nat.le_of_ble_eq_true rfl) dX7_parts_45 ⟨Nat.zero_le _, Nat.zero_le _⟩ (fun H locs hw => ?_)
      obtain rfl := Option.some.inj hM
      exact W.iret hx hb hr (fun t ht _ => ⟨rfl, by rw [ht]; exact hw.1, hw.2.2.F ht⟩) hw.2.2.2.2 dX7_parts_48
    · replace hM := itn c6 hM
      refine lv_iload_n hx hb dX7_parts_24 rfl (lv_at hl 3 rfl) ?_
      refine lv_i2l (v := ((p3).toInt64)) hx hb dX7_parts_25 rfl ?_
      refine lv_lconst (v := (0 : Int64)) hx hb dX7_parts_26 (by decide) ?_
      refine lv_iconst (v := (1 : Int32)) hx hb dX7_parts_27 (by decide) ?_
      refine lv_aload_n hx hb dX7_parts_28 rfl (lv_at hl 0 rfl) ?_
      refine wk_get hx hb hts hin_X7 hown hK hw.1 7 0 10 (.int (U0 10 0)) rfl rfl (by decide) (mi 3 rfl) rfl rfl dX7_parts_29 ?_
      refine lv_ishl hx hb dX7_parts_32 ?_
      refine lv_iconst (v := (1 : Int32)) hx hb dX7_parts_33 (by decide) ?_
      refine lv_isub hx hb dX7_parts_34 ?_
      refine lv_i2l (v := (((((1 : Int32) <<< ((U0 10 0) &&& 31)) - (1 : Int32))).toInt64)) hx hb dX7_parts_35 rfl ?_
      refine rSR (wc := ([] : va_W)) (As := [.long ((p3).toInt64), .long (0 : Int64), .long (((((1 : Int32) <<< ((U0 10 0) &&& 31)) - (1 : Int32))).toInt64)]) (rest := []) hS (c_X7_in l g ((p3).toInt64) (0 : Int64) (((((1 : Int32) <<< ((U0 10 0) &&& 31)) - (1 : Int32))).toInt64)) gX7_parts_X7_in rfl hd_X7_in ⟨Nat.le_of_ble_eq_true rfl, Nat.le_of_ble_eq_true rfl⟩ hK (hP_nil) rfl hl.1 rfl (Nat.le_of_ble_eq_true rfl) dX7_parts_36 ⟨Nat.zero_le _, Nat.zero_le _⟩ ?_
      refine lv_if_ne (tgt := 49) hx hb dX7_parts_39 (by decide) (fun c10 => ?_) (fun c10 => ?_)
      · replace hM := itn c10 hM
        refine lv_aload_n hx hb dX7_parts_49 rfl (lv_at hl 0 rfl) ?_
        refine lv_iload_n hx hb dX7_parts_50 rfl (lv_at hl 1 rfl) ?_
        refine lv_iload_n hx hb dX7_parts_51 rfl (lv_at hl 2 rfl) ?_
        obtain ⟨q14, h13, hM⟩ := bd hM
        refine rVWp (wc := (wXM g a0 U0 V0 M0 R0 kv tv)) (wq := (wXM g a0 U0 q14.2 M0 R0 kv tv)) (As := [.int p1, .int p2]) (rest := []) (q0 := 0) hS (c_X7_noSets l g a0 kv tv U0 V0 M0 R0 p1 p2 h13) gX7_parts_X7_noSets rfl hd_X7_noSets ⟨Nat.le_of_ble_eq_true rfl, Nat.le_of_ble_eq_true rfl⟩ hK hw hA (pm_1_0 _) rfl (pm_1_0 _) rfl rfl rfl rfl hl.1 rfl (Nat.le_of_ble_eq_true rfl) dX7_parts_52 ⟨Nat.zero_le _, Nat.zero_le _⟩ (fun H locs hw => ?_)
        refine lv_istore (lv' := [(4, .int q14.1), (0, .ref (a0 0)), (1, .int p1), (2, .int p2), (3, .int p3)]) hx hb dX7_parts_55 hl (by decide) rfl (fun ls hl => ?_)
        refine lv_iload hx hb dX7_parts_57 (lv_at hl 0 rfl) ?_
        refine lv_if_eq (tgt := 67) hx hb dX7_parts_59 (by decide) (fun c15 => ?_) (fun c15 => ?_)
        · replace hM := itp c15 hM
          refine lv_aload_n hx hb dX7_parts_67 rfl (lv_at hl 1 rfl) ?_
          refine lv_iload_n hx hb dX7_parts_68 rfl (lv_at hl 2 rfl) ?_
          refine lv_iload_n hx hb dX7_parts_69 rfl (lv_at hl 3 rfl) ?_
          refine lv_iload_n hx hb dX7_parts_70 rfl (lv_at hl 4 rfl) ?_
          obtain ⟨q17, h16, hM⟩ := bd hM
          refine rVR (wc := (wXM g a0 U0 q14.2 M0 R0 kv tv)) (As := [.int p1, .int p2, .int p3]) (rest := []) (q0 := 0) hS (c_X7_doesPart l g a0 kv tv U0 q14.2 M0 R0 p1 p2 p3 h16) gX7_parts_X7_doesPart rfl hd_X7_doesPart ⟨Nat.le_of_ble_eq_true rfl, Nat.le_of_ble_eq_true rfl⟩ hK (va_P.pm hw.1 (pm_1_0 _)) rfl rfl rfl rfl hl.1 rfl (Nat.le_of_ble_eq_true rfl) dX7_parts_71 ⟨Nat.zero_le _, Nat.zero_le _⟩ ?_
          have hJ24 : ∀ (H : Heap) (locs : List Loc) (x23 : Int32) (ls : Array Slot), Wk g A s.heap H locs (wXM g a0 U0 q14.2 M0 R0 kv tv) → x23 = (if q17 = 0 then (0 : Int32) else (1 : Int32)) → lv_has ls 5 [] → W p l e (headSpec wsX7_parts ({ frames := 3, cells := 0, slots := 0, locals := 69 } : Room)).room s m ([.ref (a0 0), .int p1, .int p2, .int p3] : List Value).toArray below meth c H locs 0 0 (MQ below (QcW g (some (.int q.1)) (wXM g a0 U0 q.2 M0 R0 kv tv) A) ([.ref (a0 0), .int p1, .int p2, .int p3] : List Value).toArray s 0 0 A) (F0 m 82 ls [.int x23]) := by
            intro H locs x23 ls hw hxx23 hl
            subst hxx23
            obtain rfl := Option.some.inj hM
            exact W.iret hx hb hr (fun t ht _ => ⟨rfl, by rw [ht]; exact hw.1, hw.2.2.F ht⟩) hw.2.2.2.2 dX7_parts_82
          refine lv_if_eq (tgt := 81) hx hb dX7_parts_74 (by decide) (fun c18 => ?_) (fun c18 => ?_)
          · refine lv_iconst (v := (0 : Int32)) hx hb dX7_parts_81 (by decide) ?_
            exact hJ24 _ _ _ _ hw (by first | with_reducible rfl | (simp only [if_pos c18]) | rfl) (lv_sub hl [] rfl)
          · refine lv_iconst (v := (1 : Int32)) hx hb dX7_parts_77 (by decide) ?_
            refine lv_goto (tgt := 82) hx hb dX7_parts_78 (by decide) ?_
            exact hJ24 _ _ _ _ hw (by first | with_reducible rfl | (simp only [if_neg c18]) | rfl) (lv_sub hl [] rfl)
        · replace hM := itn c15 hM
          refine lv_iload hx hb dX7_parts_62 (lv_at hl 0 rfl) ?_
          refine lv_goto (tgt := 82) hx hb dX7_parts_64 (by decide) ?_
          obtain rfl := Option.some.inj hM
          exact W.iret hx hb hr (fun t ht _ => ⟨rfl, by rw [ht]; exact hw.1, hw.2.2.F ht⟩) hw.2.2.2.2 dX7_parts_82
      · replace hM := itp c10 hM
        refine lv_aload_n hx hb dX7_parts_42 rfl (lv_at hl 0 rfl) ?_
        refine lv_bipush (v := (-2 : Int32)) hx hb dX7_parts_43 (by decide) ?_
        obtain ⟨q12, h11, hM⟩ := bd hM
        refine rVWp (wc := (wXM g a0 U0 V0 M0 R0 kv tv)) (wq := (wXM g a0 U0 q12.2 M0 R0 kv tv)) (As := [.int (-2 : Int32)]) (rest := []) (q0 := 0) hS (c_X7_refuse l g a0 kv tv U0 V0 M0 R0 (-2 : Int32) h11) gX7_parts_X7_refuse rfl hd_X7_refuse ⟨Nat.le_of_ble_eq_true rfl, Nat.le_of_ble_eq_true rfl⟩ hK hw hA (pm_1_0 _) rfl (pm_1_0 _) rfl rfl rfl rfl hl.1 rfl (Nat.le_of_ble_eq_true rfl) dX7_parts_45 ⟨Nat.zero_le _, Nat.zero_le _⟩ (fun H locs hw => ?_)
        obtain rfl := Option.some.inj hM
        exact W.iret hx hb hr (fun t ht _ => ⟨rfl, by rw [ht]; exact hw.1, hw.2.2.F ht⟩) hw.2.2.2.2 dX7_parts_48
theorem hd_X7_person : yX7_person.cls = RX7 ∧ yX7_person.cls ≠ "java/lang/invoke/MethodHandle" ∧ yX7_person.cls ≠ "java/lang/invoke/VarHandle" ∧ (parseMethodDescriptor yX7_person.desc).map (fun d => d.parameters.length) = some 2 := by decide +kernel
set_option maxHeartbeats 4000000 in
set_option maxRecDepth 100000 in
theorem c_X7_person (l : Launch) (g : Gm) (a0 : Nat → Nat) (kv : Value) (tv : Value) (U0 : TS) (V0 : TS) (M0 : LTS) (R0 : LTS) (p1 : Int32) (p2 : Int32) {q : (Int32 × TS × TS)} (hM : f_X7_person U0 V0 M0 R0 p1 p2 = some q) : MW l yX7_person wsX7_person 1 25 g [.ref (a0 0), .int p1, .int p2] (wXM g a0 U0 V0 M0 R0 kv tv) (some (.int q.1)) (wXM g a0 q.2.1 q.2.2 M0 R0 kv tv) := by
  intro sz
  refine Met.ofW (cc := cX7_person) (maxL := 3) (ret := (some .int)) (by decide) rfl ?_
  intro p e s m args below meth c s₁ B hml hv
  obtain ⟨rfl, hsz, hP, hK, hD0⟩ := hv
  have hx := B.exec; have hb := B.bytes; have hr := B.returns
  have hts := atoms_spec (ws := wsX7_person) B.pre
  have hown : s.vm.findClass RX7 = some m.cls := findClass_of_methodNamed B.named
  have hlocks := B.notSynchronized
  have hS : CallFix p m c cX7_person 3 s _ wsX7_person RX7 := ⟨hx, hb, hml, hown, hts⟩
  have hin_X7 : ∀ w ∈ wsX70, w ∈ wsX7_person := fun w h => (List.mem_cons_of_mem _ (List.mem_append_right _ h))
  subst hsz
  have hw := wk_start hP hD0
  have hA : ∀ q : Nat, s.heap.size ≤ q → va_A (wXM g a0 U0 V0 M0 R0 kv tv) s.heap.size q := fun q h => Or.inr h
  generalize va_A (wXM g a0 U0 V0 M0 R0 kv tv) s.heap.size = A at hw hA ⊢
  clear hP hD0
  have hl := lv_entry ([.ref (a0 0), .int p1, .int p2]) (n := 3) (Nat.le_of_ble_eq_true rfl)
  rw [lg_entry_eq]
  generalize (lg_sl ([.ref (a0 0), .int p1, .int p2]) ++ List.replicate (3 - (lg_sl ([.ref (a0 0), .int p1, .int p2])).length) Slot.unset).toArray = ls at hl ⊢
  have hl : lv_has ls 3 [(0, .ref (a0 0)), (1, .int p1), (2, .int p2)] := hl
  rw [f_X7_person] at hM
  refine lv_iload_n hx hb dX7_person_0 rfl (lv_at hl 1 rfl) ?_
  refine lv_i2l (v := ((p1).toInt64)) hx hb dX7_person_1 rfl ?_
  refine lv_lconst (v := (0 : Int64)) hx hb dX7_person_2 (by decide) ?_
  refine lv_ldc2 (v := (5 : Int64)) hx hb hown (hts _ (mi 1 rfl)) dX7_person_3 ?_
  refine rSR (wc := ([] : va_W)) (As := [.long ((p1).toInt64), .long (0 : Int64), .long (5 : Int64)]) (rest := []) hS (c_X7_in l g ((p1).toInt64) (0 : Int64) (5 : Int64)) gX7_person_X7_in rfl hd_X7_in ⟨Nat.le_of_ble_eq_true rfl, Nat.le_of_ble_eq_true rfl⟩ hK (hP_nil) rfl hl.1 rfl (Nat.le_of_ble_eq_true rfl) dX7_person_6 ⟨Nat.zero_le _, Nat.zero_le _⟩ ?_
  refine lv_if_eq (tgt := 24) hx hb dX7_person_9 (by decide) (fun c2 => ?_) (fun c2 => ?_)
  · replace hM := itp c2 hM
    refine lv_aload_n hx hb dX7_person_24 rfl (lv_at hl 0 rfl) ?_
    refine lv_bipush (v := (-2 : Int32)) hx hb dX7_person_25 (by decide) ?_
    obtain ⟨q4, h3, hM⟩ := bd hM
    refine rVWp (wc := (wXM g a0 U0 V0 M0 R0 kv tv)) (wq := (wXM g a0 U0 q4.2 M0 R0 kv tv)) (As := [.int (-2 : Int32)]) (rest := []) (q0 := 0) hS (c_X7_refuse l g a0 kv tv U0 V0 M0 R0 (-2 : Int32) h3) gX7_person_X7_refuse rfl hd_X7_refuse ⟨Nat.le_of_ble_eq_true rfl, Nat.le_of_ble_eq_true rfl⟩ hK hw hA (pm_1_0 _) rfl (pm_1_0 _) rfl rfl rfl rfl hl.1 rfl (Nat.le_of_ble_eq_true rfl) dX7_person_27 ⟨Nat.zero_le _, Nat.zero_le _⟩ (fun H locs hw => ?_)
    obtain rfl := Option.some.inj hM
    exact W.iret hx hb hr (fun t ht _ => ⟨rfl, by rw [ht]; exact hw.1, hw.2.2.F ht⟩) hw.2.2.2.2 dX7_person_30
  · replace hM := itn c2 hM
    refine lv_iload_n hx hb dX7_person_12 rfl (lv_at hl 2 rfl) ?_
    refine lv_i2l (v := ((p2).toInt64)) hx hb dX7_person_13 rfl ?_
    refine lv_lconst (v := (0 : Int64)) hx hb dX7_person_14 (by decide) ?_
    refine lv_ldc2 (v := (9 : Int64)) hx hb hown (hts _ (mi 2 rfl)) dX7_person_15 ?_
    refine rSR (wc := ([] : va_W)) (As := [.long ((p2).toInt64), .long (0 : Int64), .long (9 : Int64)]) (rest := []) hS (c_X7_in l g ((p2).toInt64) (0 : Int64) (9 : Int64)) gX7_person_X7_in rfl hd_X7_in ⟨Nat.le_of_ble_eq_true rfl, Nat.le_of_ble_eq_true rfl⟩ hK (hP_nil) rfl hl.1 rfl (Nat.le_of_ble_eq_true rfl) dX7_person_18 ⟨Nat.zero_le _, Nat.zero_le _⟩ ?_
    refine lv_if_ne (tgt := 31) hx hb dX7_person_21 (by decide) (fun c6 => ?_) (fun c6 => ?_)
    · replace hM := itn c6 hM
      refine lv_aload_n hx hb dX7_person_31 rfl (lv_at hl 0 rfl) ?_
      refine wk_get hx hb hts hin_X7 hown hK hw.1 7 0 10 (.int (U0 10 0)) rfl rfl (by decide) (mi 3 rfl) rfl rfl dX7_person_32 ?_
      refine lv_bipush (v := (7 : Int32)) hx hb dX7_person_35 (by decide) ?_
      refine lv_icmp_ne (tgt := 47) hx hb dX7_person_37 (by decide) (fun c9 => ?_) (fun c9 => ?_)
      · replace hM := itn c9 hM
        refine lv_aload_n hx hb dX7_person_47 rfl (lv_at hl 0 rfl) ?_
        refine lv_iload_n hx hb dX7_person_48 rfl (lv_at hl 1 rfl) ?_
        refine lv_iload_n hx hb dX7_person_49 rfl (lv_at hl 2 rfl) ?_
        obtain ⟨q13, h12, hM⟩ := bd hM
        refine rVWp (wc := (wXT g a0 (fm a0 V0 kv tv) U0)) (wq := (wXM g a0 q13 V0 M0 R0 kv tv)) (As := [.int p1, .int p2]) (rest := []) (q0 := 0) hS (c_X7_addOne l g a0 (fm a0 V0 kv tv) U0 p1 p2 h12) gX7_person_X7_addOne rfl hd_X7_addOne ⟨Nat.le_of_ble_eq_true rfl, Nat.le_of_ble_eq_true rfl⟩ hK hw hA (pmX1 _ _ _ _ _ _ _ _) rfl (pmX1 _ _ _ _ _ _ _ _) rfl rfl rfl rfl hl.1 rfl (Nat.le_of_ble_eq_true rfl) dX7_person_50 ⟨Nat.zero_le _, Nat.zero_le _⟩ (fun H locs hw => ?_)
        refine lv_aload_n hx hb dX7_person_53 rfl (lv_at hl 0 rfl) ?_
        refine wk_get hx hb hts hin_X7 hown hK hw.1 7 0 10 (.int (q13 10 0)) rfl rfl (by decide) (mi 3 rfl) rfl rfl dX7_person_54 ?_
        refine lv_iconst (v := (1 : Int32)) hx hb dX7_person_57 (by decide) ?_
        refine lv_isub hx hb dX7_person_58 ?_
        obtain rfl := Option.some.inj hM
        exact W.iret hx hb hr (fun t ht _ => ⟨rfl, by rw [ht]; exact hw.1, hw.2.2.F ht⟩) hw.2.2.2.2 dX7_person_59
      · replace hM := itp c9 hM
        refine lv_aload_n hx hb dX7_person_40 rfl (lv_at hl 0 rfl) ?_
        refine lv_bipush (v := (-6 : Int32)) hx hb dX7_person_41 (by decide) ?_
        obtain ⟨q11, h10, hM⟩ := bd hM
        refine rVWp (wc := (wXM g a0 U0 V0 M0 R0 kv tv)) (wq := (wXM g a0 U0 q11.2 M0 R0 kv tv)) (As := [.int (-6 : Int32)]) (rest := []) (q0 := 0) hS (c_X7_refuse l g a0 kv tv U0 V0 M0 R0 (-6 : Int32) h10) gX7_person_X7_refuse rfl hd_X7_refuse ⟨Nat.le_of_ble_eq_true rfl, Nat.le_of_ble_eq_true rfl⟩ hK hw hA (pm_1_0 _) rfl (pm_1_0 _) rfl rfl rfl rfl hl.1 rfl (Nat.le_of_ble_eq_true rfl) dX7_person_43 ⟨Nat.zero_le _, Nat.zero_le _⟩ (fun H locs hw => ?_)
        obtain rfl := Option.some.inj hM
        exact W.iret hx hb hr (fun t ht _ => ⟨rfl, by rw [ht]; exact hw.1, hw.2.2.F ht⟩) hw.2.2.2.2 dX7_person_46
    · replace hM := itp c6 hM
      refine lv_aload_n hx hb dX7_person_24 rfl (lv_at hl 0 rfl) ?_
      refine lv_bipush (v := (-2 : Int32)) hx hb dX7_person_25 (by decide) ?_
      obtain ⟨q8, h7, hM⟩ := bd hM
      refine rVWp (wc := (wXM g a0 U0 V0 M0 R0 kv tv)) (wq := (wXM g a0 U0 q8.2 M0 R0 kv tv)) (As := [.int (-2 : Int32)]) (rest := []) (q0 := 0) hS (c_X7_refuse l g a0 kv tv U0 V0 M0 R0 (-2 : Int32) h7) gX7_person_X7_refuse rfl hd_X7_refuse ⟨Nat.le_of_ble_eq_true rfl, Nat.le_of_ble_eq_true rfl⟩ hK hw hA (pm_1_0 _) rfl (pm_1_0 _) rfl rfl rfl rfl hl.1 rfl (Nat.le_of_ble_eq_true rfl) dX7_person_27 ⟨Nat.zero_le _, Nat.zero_le _⟩ (fun H locs hw => ?_)
      obtain rfl := Option.some.inj hM
      exact W.iret hx hb hr (fun t ht _ => ⟨rfl, by rw [ht]; exact hw.1, hw.2.2.F ht⟩) hw.2.2.2.2 dX7_person_30
theorem hd_X7_personOf : yX7_personOf.cls = RX7 ∧ yX7_personOf.cls ≠ "java/lang/invoke/MethodHandle" ∧ yX7_personOf.cls ≠ "java/lang/invoke/VarHandle" ∧ (parseMethodDescriptor yX7_personOf.desc).map (fun d => d.parameters.length) = some 2 := by decide +kernel
set_option maxHeartbeats 4000000 in
set_option maxRecDepth 100000 in
theorem c_X7_personOf (l : Launch) (g : Gm) (a0 : Nat → Nat) (kv : Value) (tv : Value) (U0 : TS) (V0 : TS) (M0 : LTS) (R0 : LTS) (p1 : Int32) (p2 : Int32) {q : (Int32 × TS)} (hM : f_X7_personOf U0 V0 M0 R0 p1 p2 = some q) : MW l yX7_personOf wsX7_personOf 2 46 g [.ref (a0 0), .int p1, .int p2] (wXM g a0 U0 V0 M0 R0 kv tv) (some (.int q.1)) (wXM g a0 U0 q.2 M0 R0 kv tv) := by
  intro sz
  refine Met.ofW (cc := cX7_personOf) (maxL := 3) (ret := (some .int)) (by decide) rfl ?_
  intro p e s m args below meth c s₁ B hml hv
  obtain ⟨rfl, hsz, hP, hK, hD0⟩ := hv
  have hx := B.exec; have hb := B.bytes; have hr := B.returns
  have hts := atoms_spec (ws := wsX7_personOf) B.pre
  have hown : s.vm.findClass RX7 = some m.cls := findClass_of_methodNamed B.named
  have hlocks := B.notSynchronized
  have hS : CallFix p m c cX7_personOf 3 s _ wsX7_personOf RX7 := ⟨hx, hb, hml, hown, hts⟩
  have hin_X7 : ∀ w ∈ wsX70, w ∈ wsX7_personOf := fun w h => (List.mem_cons_of_mem _ (List.mem_append_right _ h))
  subst hsz
  have hw := wk_start hP hD0
  have hA : ∀ q : Nat, s.heap.size ≤ q → va_A (wXM g a0 U0 V0 M0 R0 kv tv) s.heap.size q := fun q h => Or.inr h
  generalize va_A (wXM g a0 U0 V0 M0 R0 kv tv) s.heap.size = A at hw hA ⊢
  clear hP hD0
  have hl := lv_entry ([.ref (a0 0), .int p1, .int p2]) (n := 3) (Nat.le_of_ble_eq_true rfl)
  rw [lg_entry_eq]
  generalize (lg_sl ([.ref (a0 0), .int p1, .int p2]) ++ List.replicate (3 - (lg_sl ([.ref (a0 0), .int p1, .int p2])).length) Slot.unset).toArray = ls at hl ⊢
  have hl : lv_has ls 3 [(0, .ref (a0 0)), (1, .int p1), (2, .int p2)] := hl
  rw [f_X7_personOf] at hM
  refine lv_aload_n hx hb dX7_personOf_0 rfl (lv_at hl 0 rfl) ?_
  refine lv_iload_n hx hb dX7_personOf_1 rfl (lv_at hl 1 rfl) ?_
  refine rVR (wc := (wXT g a0 (fm a0 V0 kv tv) U0)) (As := [.int p1]) (rest := []) (q0 := 0) hS (c_X7_isOne l g a0 (fm a0 V0 kv tv) U0 p1) gX7_personOf_X7_isOne rfl hd_X7_isOne ⟨Nat.le_of_ble_eq_true rfl, Nat.le_of_ble_eq_true rfl⟩ hK (va_P.pm hw.1 (pmX1 _ _ _ _ _ _ _ _)) rfl rfl rfl rfl hl.1 rfl (Nat.le_of_ble_eq_true rfl) dX7_personOf_2 ⟨Nat.zero_le _, Nat.zero_le _⟩ ?_
  refine lv_if_eq (tgt := 20) hx hb dX7_personOf_5 (by decide) (fun c2 => ?_) (fun c2 => ?_)
  · replace hM := itp c2 hM
    refine lv_aload_n hx hb dX7_personOf_20 rfl (lv_at hl 0 rfl) ?_
    refine lv_bipush (v := (-2 : Int32)) hx hb dX7_personOf_21 (by decide) ?_
    obtain ⟨q4, h3, hM⟩ := bd hM
    refine rVWp (wc := (wXM g a0 U0 V0 M0 R0 kv tv)) (wq := (wXM g a0 U0 q4.2 M0 R0 kv tv)) (As := [.int (-2 : Int32)]) (rest := []) (q0 := 0) hS (c_X7_refuse l g a0 kv tv U0 V0 M0 R0 (-2 : Int32) h3) gX7_personOf_X7_refuse rfl hd_X7_refuse ⟨Nat.le_of_ble_eq_true rfl, Nat.le_of_ble_eq_true rfl⟩ hK hw hA (pm_1_0 _) rfl (pm_1_0 _) rfl rfl rfl rfl hl.1 rfl (Nat.le_of_ble_eq_true rfl) dX7_personOf_23 ⟨Nat.zero_le _, Nat.zero_le _⟩ (fun H locs hw => ?_)
    obtain rfl := Option.some.inj hM
    exact W.iret hx hb hr (fun t ht _ => ⟨rfl, by rw [ht]; exact hw.1, hw.2.2.F ht⟩) hw.2.2.2.2 dX7_personOf_26
  · replace hM := itn c2 hM
    refine lv_iload_n hx hb dX7_personOf_8 rfl (lv_at hl 2 rfl) ?_
    refine lv_i2l (v := ((p2).toInt64)) hx hb dX7_personOf_9 rfl ?_
    refine lv_lconst (v := (0 : Int64)) hx hb dX7_personOf_10 (by decide) ?_
    refine lv_ldc2 (v := (7 : Int64)) hx hb hown (hts _ (mi 1 rfl)) dX7_personOf_11 ?_
    refine rSR (wc := ([] : va_W)) (As := [.long ((p2).toInt64), .long (0 : Int64), .long (7 : Int64)]) (rest := []) hS (c_X7_in l g ((p2).toInt64) (0 : Int64) (7 : Int64)) gX7_personOf_X7_in rfl hd_X7_in ⟨Nat.le_of_ble_eq_true rfl, Nat.le_of_ble_eq_true rfl⟩ hK (hP_nil) rfl hl.1 rfl (Nat.le_of_ble_eq_true rfl) dX7_personOf_14 ⟨Nat.zero_le _, Nat.zero_le _⟩ ?_
    refine lv_if_ne (tgt := 27) hx hb dX7_personOf_17 (by decide) (fun c6 => ?_) (fun c6 => ?_)
    · replace hM := itn c6 hM
      refine lv_iload_n hx hb dX7_personOf_27 rfl (lv_at hl 2 rfl) ?_
      by_cases c9_0 : p2 = (0 : Int32)
      · replace hM := itp c9_0 hM
        refine lv_tableIn (tgt := 72) hx hb dX7_personOf_28 (by rw [c9_0]; decide) (by rw [c9_0]; decide) (by rw [c9_0]; first | done | rfl) (by decide) ?_
        refine lv_aload_n hx hb dX7_personOf_72 rfl (lv_at hl 0 rfl) ?_
        refine wk_get hx hb hts hin_X7 hown hK hw.1 7 0 11 (.ref (a0 1)) rfl rfl (by decide) (mi 2 rfl) rfl rfl dX7_personOf_73 ?_
        refine lv_iload_n hx hb dX7_personOf_76 rfl (lv_at hl 1 rfl) ?_
        obtain ⟨k10, hM⟩ := ck hM
        refine wk_iald hx hb hK hw.1 1 7 (U0 11) rfl k10 dX7_personOf_77 ?_
        obtain rfl := Option.some.inj hM
        exact W.iret hx hb hr (fun t ht _ => ⟨rfl, by rw [ht]; exact hw.1, hw.2.2.F ht⟩) hw.2.2.2.2 dX7_personOf_78
      replace hM := itn c9_0 hM
      by_cases c9_1 : p2 = (1 : Int32)
      · replace hM := itp c9_1 hM
        refine lv_tableIn (tgt := 79) hx hb dX7_personOf_28 (by rw [c9_1]; decide) (by rw [c9_1]; decide) (by rw [c9_1]; first | done | rfl) (by decide) ?_
        refine lv_aload_n hx hb dX7_personOf_79 rfl (lv_at hl 0 rfl) ?_
        refine wk_get hx hb hts hin_X7 hown hK hw.1 7 0 12 (.ref (a0 2)) rfl rfl (by decide) (mi 3 rfl) rfl rfl dX7_personOf_80 ?_
        refine lv_iload_n hx hb dX7_personOf_83 rfl (lv_at hl 1 rfl) ?_
        obtain ⟨k11, hM⟩ := ck hM
        refine wk_iald hx hb hK hw.1 2 7 (U0 12) rfl k11 dX7_personOf_84 ?_
        obtain rfl := Option.some.inj hM
        exact W.iret hx hb hr (fun t ht _ => ⟨rfl, by rw [ht]; exact hw.1, hw.2.2.F ht⟩) hw.2.2.2.2 dX7_personOf_85
      replace hM := itn c9_1 hM
      by_cases c9_2 : p2 = (2 : Int32)
      · replace hM := itp c9_2 hM
        refine lv_tableIn (tgt := 86) hx hb dX7_personOf_28 (by rw [c9_2]; decide) (by rw [c9_2]; decide) (by rw [c9_2]; first | done | rfl) (by decide) ?_
        refine lv_aload_n hx hb dX7_personOf_86 rfl (lv_at hl 0 rfl) ?_
        refine wk_get hx hb hts hin_X7 hown hK hw.1 7 0 13 (.ref (a0 3)) rfl rfl (by decide) (mi 4 rfl) rfl rfl dX7_personOf_87 ?_
        refine lv_iload_n hx hb dX7_personOf_90 rfl (lv_at hl 1 rfl) ?_
        obtain ⟨k12, hM⟩ := ck hM
        refine wk_iald hx hb hK hw.1 3 7 (U0 13) rfl k12 dX7_personOf_91 ?_
        obtain rfl := Option.some.inj hM
        exact W.iret hx hb hr (fun t ht _ => ⟨rfl, by rw [ht]; exact hw.1, hw.2.2.F ht⟩) hw.2.2.2.2 dX7_personOf_92
      replace hM := itn c9_2 hM
      by_cases c9_3 : p2 = (3 : Int32)
      · replace hM := itp c9_3 hM
        refine lv_tableIn (tgt := 93) hx hb dX7_personOf_28 (by rw [c9_3]; decide) (by rw [c9_3]; decide) (by rw [c9_3]; first | done | rfl) (by decide) ?_
        refine lv_aload_n hx hb dX7_personOf_93 rfl (lv_at hl 0 rfl) ?_
        refine wk_get hx hb hts hin_X7 hown hK hw.1 7 0 14 (.ref (a0 4)) rfl rfl (by decide) (mi 5 rfl) rfl rfl dX7_personOf_94 ?_
        refine lv_iload_n hx hb dX7_personOf_97 rfl (lv_at hl 1 rfl) ?_
        obtain ⟨k13, hM⟩ := ck hM
        refine wk_iald hx hb hK hw.1 4 7 (U0 14) rfl k13 dX7_personOf_98 ?_
        obtain rfl := Option.some.inj hM
        exact W.iret hx hb hr (fun t ht _ => ⟨rfl, by rw [ht]; exact hw.1, hw.2.2.F ht⟩) hw.2.2.2.2 dX7_personOf_99
      replace hM := itn c9_3 hM
      by_cases c9_4 : p2 = (4 : Int32)
      · replace hM := itp c9_4 hM
        refine lv_tableIn (tgt := 100) hx hb dX7_personOf_28 (by rw [c9_4]; decide) (by rw [c9_4]; decide) (by rw [c9_4]; first | done | rfl) (by decide) ?_
        refine lv_aload_n hx hb dX7_personOf_100 rfl (lv_at hl 0 rfl) ?_
        refine wk_get hx hb hts hin_X7 hown hK hw.1 7 0 15 (.ref (a0 5)) rfl rfl (by decide) (mi 6 rfl) rfl rfl dX7_personOf_101 ?_
        refine lv_iload_n hx hb dX7_personOf_104 rfl (lv_at hl 1 rfl) ?_
        obtain ⟨k14, hM⟩ := ck hM
        refine wk_iald hx hb hK hw.1 5 7 (U0 15) rfl k14 dX7_personOf_105 ?_
        obtain rfl := Option.some.inj hM
        exact W.iret hx hb hr (fun t ht _ => ⟨rfl, by rw [ht]; exact hw.1, hw.2.2.F ht⟩) hw.2.2.2.2 dX7_personOf_106
      replace hM := itn c9_4 hM
      by_cases c9_5 : p2 = (5 : Int32)
      · replace hM := itp c9_5 hM
        refine lv_tableIn (tgt := 107) hx hb dX7_personOf_28 (by rw [c9_5]; decide) (by rw [c9_5]; decide) (by rw [c9_5]; first | done | rfl) (by decide) ?_
        refine lv_aload_n hx hb dX7_personOf_107 rfl (lv_at hl 0 rfl) ?_
        refine wk_get hx hb hts hin_X7 hown hK hw.1 7 0 16 (.ref (a0 6)) rfl rfl (by decide) (mi 7 rfl) rfl rfl dX7_personOf_108 ?_
        refine lv_iload_n hx hb dX7_personOf_111 rfl (lv_at hl 1 rfl) ?_
        obtain ⟨k15, hM⟩ := ck hM
        refine wk_iald hx hb hK hw.1 6 7 (U0 16) rfl k15 dX7_personOf_112 ?_
        obtain rfl := Option.some.inj hM
        exact W.iret hx hb hr (fun t ht _ => ⟨rfl, by rw [ht]; exact hw.1, hw.2.2.F ht⟩) hw.2.2.2.2 dX7_personOf_113
      replace hM := itn c9_5 hM
      by_cases c9_6 : p2 = (6 : Int32)
      · replace hM := itp c9_6 hM
        refine lv_tableIn (tgt := 114) hx hb dX7_personOf_28 (by rw [c9_6]; decide) (by rw [c9_6]; decide) (by rw [c9_6]; first | done | rfl) (by decide) ?_
        refine lv_aload_n hx hb dX7_personOf_114 rfl (lv_at hl 0 rfl) ?_
        refine lv_iload_n hx hb dX7_personOf_115 rfl (lv_at hl 1 rfl) ?_
        obtain ⟨q17, h16, hM⟩ := bd hM
        refine rVR (wc := (wXT g a0 (fm a0 V0 kv tv) U0)) (As := [.int p1]) (rest := []) (q0 := 0) hS (c_X7_knows l g a0 (fm a0 V0 kv tv) U0 p1 h16) gX7_personOf_X7_knows rfl hd_X7_knows ⟨Nat.le_of_ble_eq_true rfl, Nat.le_of_ble_eq_true rfl⟩ hK (va_P.pm hw.1 (pmX1 _ _ _ _ _ _ _ _)) rfl rfl rfl rfl hl.1 rfl (Nat.le_of_ble_eq_true rfl) dX7_personOf_116 ⟨Nat.zero_le _, Nat.zero_le _⟩ ?_
        obtain rfl := Option.some.inj hM
        exact W.iret hx hb hr (fun t ht _ => ⟨rfl, by rw [ht]; exact hw.1, hw.2.2.F ht⟩) hw.2.2.2.2 dX7_personOf_119
      replace hM := itn c9_6 hM
      refine lv_tableOut (tgt := 120) hx hb dX7_personOf_28 (sw_out (lo := 0) (hi := 6) (by decide) (by decide) (fun k h1 h2 hk => by
            have hs : k = (0 : Int) ∨ k = (1 : Int) ∨ k = (2 : Int) ∨ k = (3 : Int) ∨ k = (4 : Int) ∨ k = (5 : Int) ∨ k = (6 : Int) := by omega
            rcases hs with hs | hs | hs | hs | hs | hs | hs <;> subst hs <;> first | exact c9_0 (Int32.toInt_inj.mp (hk.trans (by decide))) | exact c9_1 (Int32.toInt_inj.mp (hk.trans (by decide))) | exact c9_2 (Int32.toInt_inj.mp (hk.trans (by decide))) | exact c9_3 (Int32.toInt_inj.mp (hk.trans (by decide))) | exact c9_4 (Int32.toInt_inj.mp (hk.trans (by decide))) | exact c9_5 (Int32.toInt_inj.mp (hk.trans (by decide))) | exact c9_6 (Int32.toInt_inj.mp (hk.trans (by decide))))) (by decide) ?_
      refine lv_aload_n hx hb dX7_personOf_120 rfl (lv_at hl 0 rfl) ?_
      refine lv_iload_n hx hb dX7_personOf_121 rfl (lv_at hl 1 rfl) ?_
      obtain ⟨q19, h18, hM⟩ := bd hM
      refine rVR (wc := (wXT g a0 (fm a0 V0 kv tv) U0)) (As := [.int p1]) (rest := []) (q0 := 0) hS (c_X7_barredBy l g a0 (fm a0 V0 kv tv) U0 p1 h18) gX7_personOf_X7_barredBy rfl hd_X7_barredBy ⟨Nat.le_of_ble_eq_true rfl, Nat.le_of_ble_eq_true rfl⟩ hK (va_P.pm hw.1 (pmX1 _ _ _ _ _ _ _ _)) rfl rfl rfl rfl hl.1 rfl (Nat.le_of_ble_eq_true rfl) dX7_personOf_122 ⟨Nat.zero_le _, Nat.zero_le _⟩ ?_
      obtain rfl := Option.some.inj hM
      exact W.iret hx hb hr (fun t ht _ => ⟨rfl, by rw [ht]; exact hw.1, hw.2.2.F ht⟩) hw.2.2.2.2 dX7_personOf_125
    · replace hM := itp c6 hM
      refine lv_aload_n hx hb dX7_personOf_20 rfl (lv_at hl 0 rfl) ?_
      refine lv_bipush (v := (-2 : Int32)) hx hb dX7_personOf_21 (by decide) ?_
      obtain ⟨q8, h7, hM⟩ := bd hM
      refine rVWp (wc := (wXM g a0 U0 V0 M0 R0 kv tv)) (wq := (wXM g a0 U0 q8.2 M0 R0 kv tv)) (As := [.int (-2 : Int32)]) (rest := []) (q0 := 0) hS (c_X7_refuse l g a0 kv tv U0 V0 M0 R0 (-2 : Int32) h7) gX7_personOf_X7_refuse rfl hd_X7_refuse ⟨Nat.le_of_ble_eq_true rfl, Nat.le_of_ble_eq_true rfl⟩ hK hw hA (pm_1_0 _) rfl (pm_1_0 _) rfl rfl rfl rfl hl.1 rfl (Nat.le_of_ble_eq_true rfl) dX7_personOf_23 ⟨Nat.zero_le _, Nat.zero_le _⟩ (fun H locs hw => ?_)
      obtain rfl := Option.some.inj hM
      exact W.iret hx hb hr (fun t ht _ => ⟨rfl, by rw [ht]; exact hw.1, hw.2.2.F ht⟩) hw.2.2.2.2 dX7_personOf_26
theorem hd_X7_round : yX7_round.cls = RX7 ∧ yX7_round.cls ≠ "java/lang/invoke/MethodHandle" ∧ yX7_round.cls ≠ "java/lang/invoke/VarHandle" ∧ (parseMethodDescriptor yX7_round.desc).map (fun d => d.parameters.length) = some 0 := by decide +kernel
set_option maxHeartbeats 4000000 in
set_option maxRecDepth 100000 in
theorem c_X7_round (l : Launch) (g : Gm) (a0 : Nat → Nat) (kv : Value) (tv : Value) (U0 : TS) (V0 : TS) (M0 : LTS) (R0 : LTS) {q : (Int32 × TS)} (hM : f_X7_round U0 V0 M0 R0 = some q) : MW l yX7_round wsX7_round 3 71 g [.ref (a0 0)] (wXM g a0 U0 V0 M0 R0 kv tv) (some (.int q.1)) (wXM g a0 q.2 V0 M0 R0 kv tv) := by
  intro sz
  refine Met.ofW (cc := cX7_round) (maxL := 1) (ret := (some .int)) (by decide) rfl ?_
  intro p e s m args below meth c s₁ B hml hv
  obtain ⟨rfl, hsz, hP, hK, hD0⟩ := hv
  have hx := B.exec; have hb := B.bytes; have hr := B.returns
  have hts := atoms_spec (ws := wsX7_round) B.pre
  have hown : s.vm.findClass RX7 = some m.cls := findClass_of_methodNamed B.named
  have hlocks := B.notSynchronized
  have hS : CallFix p m c cX7_round 1 s _ wsX7_round RX7 := ⟨hx, hb, hml, hown, hts⟩
  subst hsz
  have hw := wk_start hP hD0
  have hA : ∀ q : Nat, s.heap.size ≤ q → va_A (wXM g a0 U0 V0 M0 R0 kv tv) s.heap.size q := fun q h => Or.inr h
  generalize va_A (wXM g a0 U0 V0 M0 R0 kv tv) s.heap.size = A at hw hA ⊢
  clear hP hD0
  have hl := lv_entry ([.ref (a0 0)]) (n := 1) (Nat.le_of_ble_eq_true rfl)
  rw [lg_entry_eq]
  generalize (lg_sl ([.ref (a0 0)]) ++ List.replicate (1 - (lg_sl ([.ref (a0 0)])).length) Slot.unset).toArray = ls at hl ⊢
  have hl : lv_has ls 1 [(0, .ref (a0 0))] := hl
  rw [f_X7_round] at hM
  refine lv_aload_n hx hb dX7_round_0 rfl (lv_at hl 0 rfl) ?_
  obtain ⟨q2, h1, hM⟩ := bd hM
  refine rVWp (wc := (wXT g a0 (fm a0 V0 kv tv) U0)) (wq := (wXM g a0 q2.2 V0 M0 R0 kv tv)) (As := []) (rest := []) (q0 := 0) hS (c_X7_goesRound l g a0 (fm a0 V0 kv tv) U0 h1) gX7_round_X7_goesRound rfl hd_X7_goesRound ⟨Nat.le_of_ble_eq_true rfl, Nat.le_of_ble_eq_true rfl⟩ hK hw hA (pmX1 _ _ _ _ _ _ _ _) rfl (pmX1 _ _ _ _ _ _ _ _) rfl rfl rfl rfl hl.1 rfl (Nat.le_of_ble_eq_true rfl) dX7_round_1 ⟨Nat.zero_le _, Nat.zero_le _⟩ (fun H locs hw => ?_)
  refine lv_pop hx hb dX7_round_4 rfl ?_
  refine lv_aload_n hx hb dX7_round_5 rfl (lv_at hl 0 rfl) ?_
  obtain ⟨q4, h3, hM⟩ := bd hM
  refine rVR (wc := (wXT g a0 (fm a0 V0 kv tv) q2.2)) (As := []) (rest := []) (q0 := 0) hS (c_X7_knownNow l g a0 (fm a0 V0 kv tv) q2.2 h3) gX7_round_X7_knownNow rfl hd_X7_knownNow ⟨Nat.le_of_ble_eq_true rfl, Nat.le_of_ble_eq_true rfl⟩ hK (va_P.pm hw.1 (pmX1 _ _ _ _ _ _ _ _)) rfl rfl rfl rfl hl.1 rfl (Nat.le_of_ble_eq_true rfl) dX7_round_6 ⟨Nat.zero_le _, Nat.zero_le _⟩ ?_
  obtain rfl := Option.some.inj hM
  exact W.iret hx hb hr (fun t ht _ => ⟨rfl, by rw [ht]; exact hw.1, hw.2.2.F ht⟩) hw.2.2.2.2 dX7_round_9
theorem hd_X7_rounds : yX7_rounds.cls = RX7 ∧ yX7_rounds.cls ≠ "java/lang/invoke/MethodHandle" ∧ yX7_rounds.cls ≠ "java/lang/invoke/VarHandle" ∧ (parseMethodDescriptor yX7_rounds.desc).map (fun d => d.parameters.length) = some 0 := by decide +kernel
set_option maxHeartbeats 4000000 in
set_option maxRecDepth 100000 in
theorem c_X7_rounds (l : Launch) (g : Gm) (a0 : Nat → Nat) (U0 : TS) (V0 : TS) (M0 : LTS) (R0 : LTS) (kv : Value) (t0 : Tr) (tp0 : Option (Nat → Int32)) (h0 : tpOf t0 = tp0) {q : (Int32 × (Option (Nat → Int32)))} (hM : f_X7_rounds U0 V0 M0 R0 tp0 = some q) : MB l yX7_rounds wsX7_rounds 5 140 g [.ref (a0 0)] (fun t => (wXM g a0 U0 V0 M0 R0 kv (tvOf t)) ++ wOT g t) t0 (some (.int q.1)) (fun t => (wXM g a0 U0 V0 M0 R0 kv (tvOf t)) ++ wOT g t) q.2 := by
  intro sz
  refine Met.ofW (cc := cX7_rounds) (maxL := 3) (ret := (some .int)) (by decide) rfl ?_
  intro p e s m args below meth c s₁ B hml hv
  obtain ⟨rfl, hsz, hP, hK, hD0⟩ := hv
  have hx := B.exec; have hb := B.bytes; have hr := B.returns
  have hts := atoms_spec (ws := wsX7_rounds) B.pre
  have hown : s.vm.findClass RX7 = some m.cls := findClass_of_methodNamed B.named
  have hlocks := B.notSynchronized
  have hS : CallFix p m c cX7_rounds 3 s _ wsX7_rounds RX7 := ⟨hx, hb, hml, hown, hts⟩
  subst hsz
  have hw := wk_start hP hD0
  have hA : ∀ q : Nat, s.heap.size ≤ q → va_A ((wXM g a0 U0 V0 M0 R0 kv (tvOf t0)) ++ (wOT g t0)) s.heap.size q := fun q h => Or.inr h
  generalize va_A ((wXM g a0 U0 V0 M0 R0 kv (tvOf t0)) ++ (wOT g t0)) s.heap.size = A at hw hA ⊢
  clear hP hD0
  have hl := lv_entry ([.ref (a0 0)]) (n := 3) (Nat.le_of_ble_eq_true rfl)
  rw [lg_entry_eq]
  generalize (lg_sl ([.ref (a0 0)]) ++ List.replicate (3 - (lg_sl ([.ref (a0 0)])).length) Slot.unset).toArray = ls at hl ⊢
  have hl : lv_has ls 3 [(0, .ref (a0 0))] := hl
  refine W_nl t0 ?_
  rw [f_X7_rounds] at hM
  refine lv_aload_n hx hb dX7_rounds_0 rfl (lv_at hl 0 rfl) ?_
  refine rVF (t0 := t0) (As := []) (rest := []) (hn := (Nat.le_refl _)) hS (c_X7_fresh l g a0 U0 V0 M0 R0 kv t0 tp0 h0) gX7_rounds_X7_fresh rfl hd_X7_fresh ⟨Nat.le_of_ble_eq_true rfl, Nat.le_of_ble_eq_true rfl⟩ hK hw hA rfl rfl rfl rfl hl.1 rfl (Nat.le_of_ble_eq_true rfl) dX7_rounds_1 (fun b2 G3 H locs hw => ?_)
  have hw : Wk g A s.heap H locs ((wXM g a0 U0 V0 M0 R0 kv (.ref (b2 0))) ++ (wXT g b2 G3 (fr0 U0 tp0))) := hw
  refine lv_astore_n (lv' := [(1, .ref (b2 0)), (0, .ref (a0 0))]) hx hb dX7_rounds_4 rfl hl (by decide) rfl (fun ls hl => ?_)
  refine lv_iconst (v := (0 : Int32)) hx hb dX7_rounds_5 (by decide) ?_
  refine lv_istore_n (lv' := [(2, .int (0 : Int32)), (1, .ref (b2 0)), (0, .ref (a0 0))]) hx hb dX7_rounds_6 rfl hl (by decide) rfl (fun ls hl => ?_)
  obtain ⟨q6, hL7, hM⟩ := bd hM
  have hJ7 : ∀ (H : Heap) (locs : List Loc), Wk g A s.heap H locs ((wXM g a0 U0 V0 M0 R0 kv (.ref (b2 0))) ++ (wXT g b2 G3 q6.2)) → ∀ (ls : Array Slot), lv_has ls 3 [(2, .int q6.1)] → W p l e (headSpec wsX7_rounds ({ frames := 5, cells := 28 * nlOf t0, slots := 759 * nlOf t0, locals := 140 } : Room)).room s m ([.ref (a0 0)] : List Value).toArray below meth c H locs (28 * nlOf t0) (759 * nlOf t0) (MQ below (QcB g (some (.int q.1)) (fun t => (wXM g a0 U0 V0 M0 R0 kv (tvOf t)) ++ wOT g t) q.2 A) ([.ref (a0 0)] : List Value).toArray s (28 * nlOf t0) (759 * nlOf t0) A) (F0 m 26 ls []) := by
    intro H locs hw ls hl
    refine lv_iload_n hx hb dX7_rounds_26 rfl (lv_at hl 0 rfl) ?_
    obtain rfl := Option.some.inj hM
    exact W.iret hx hb hr (fun t ht _ => ⟨rfl, ⟨(some (b2, G3, q6.2)), rfl, by rw [ht]; exact hw.1, hw.2.1⟩, hw.2.2.F ht⟩) hw.2.2.2.2 dX7_rounds_27
  have hW7 : ∀ (n : Nat) (v2_4 : Int32) (UL5 : TS), L_X7_rounds_7 n v2_4 UL5 = some q6 → ∀ (H : Heap) (locs : List Loc), Wk g A s.heap H locs ((wXM g a0 U0 V0 M0 R0 kv (.ref (b2 0))) ++ (wXT g b2 G3 UL5)) → ∀ (ls : Array Slot), lv_has ls 3 [(2, .int v2_4), (1, .ref (b2 0))] → W p l e (headSpec wsX7_rounds ({ frames := 5, cells := 28 * nlOf t0, slots := 759 * nlOf t0, locals := 140 } : Room)).room s m ([.ref (a0 0)] : List Value).toArray below meth c H locs (28 * nlOf t0) (759 * nlOf t0) (MQ below (QcB g (some (.int q.1)) (fun t => (wXM g a0 U0 V0 M0 R0 kv (tvOf t)) ++ wOT g t) q.2 A) ([.ref (a0 0)] : List Value).toArray s (28 * nlOf t0) (759 * nlOf t0) A) (F0 m 7 ls []) := by
    intro n
    induction n with
    | zero => intro v2_4 UL5 hM; rw [L_X7_rounds_7] at hM; exact nn hM
    | succ n ih7 =>
      intro v2_4 UL5 hM H locs hw ls hl
      rw [L_X7_rounds_7] at hM
      refine lv_iload_n hx hb dX7_rounds_7 rfl (lv_at hl 0 rfl) ?_
      refine lv_bipush (v := (20 : Int32)) hx hb dX7_rounds_8 (by decide) ?_
      refine lv_icmp_ge (tgt := 26) hx hb dX7_rounds_10 (by decide) (fun c7 => ?_) (fun c7 => ?_)
      · replace hM := itp c7 hM
        obtain rfl := Option.some.inj hM
        exact hJ7 _ _ hw _ (lv_sub hl [0] rfl)
      · replace hM := itn c7 hM
        refine lv_aload_n hx hb dX7_rounds_13 rfl (lv_at hl 1 rfl) ?_
        obtain ⟨q9, h8, hM⟩ := bd hM
        refine rVWp (wc := (wXT g b2 G3 UL5)) (wq := ((wXM g a0 U0 V0 M0 R0 kv (.ref (b2 0))) ++ (wXT g b2 G3 q9.2))) (As := []) (rest := []) (q0 := 0) hS (c_X7_goesRound l g b2 G3 UL5 h8) gX7_rounds_X7_goesRound rfl hd_X7_goesRound ⟨Nat.le_of_ble_eq_true rfl, Nat.le_of_ble_eq_true rfl⟩ hK hw hA (pm_2_1 _ _) rfl (pm_2_1 _ _) rfl rfl rfl rfl hl.1 rfl (Nat.le_of_ble_eq_true rfl) dX7_rounds_14 ⟨Nat.le_refl _, Nat.le_refl _⟩ (fun H locs hw => ?_)
        refine lv_if_eq (tgt := 26) hx hb dX7_rounds_17 (by decide) (fun c10 => ?_) (fun c10 => ?_)
        · replace hM := itp c10 hM
          obtain rfl := Option.some.inj hM
          exact hJ7 _ _ hw _ (lv_sub hl [0] rfl)
        · replace hM := itn c10 hM
          refine lv_iinc (v := (v2_4 + (1 : Int32))) (lv' := [(2, .int (v2_4 + (1 : Int32))), (1, .ref (b2 0))]) hx hb dX7_rounds_20 hl (k := 0) rfl rfl (by decide) rfl (fun ls hl => ?_)
          refine lv_goto (tgt := 7) hx hb dX7_rounds_23 (by decide) ?_
          exact ih7 (v2_4 + (1 : Int32)) q9.2 hM _ _ hw _ (lv_sub hl [0, 1] rfl)
  exact hW7 300 (0 : Int32) (fr0 U0 tp0) hL7 _ _ hw _ (lv_sub hl [0, 1] rfl)
theorem hd_X7_row : yX7_row.cls = RX7 ∧ yX7_row.cls ≠ "java/lang/invoke/MethodHandle" ∧ yX7_row.cls ≠ "java/lang/invoke/VarHandle" ∧ (parseMethodDescriptor yX7_row.desc).map (fun d => d.parameters.length) = some 3 := by decide +kernel
set_option maxHeartbeats 4000000 in
set_option maxRecDepth 100000 in
theorem c_X7_row (l : Launch) (g : Gm) (a0 : Nat → Nat) (kv : Value) (tv : Value) (U0 : TS) (V0 : TS) (M0 : LTS) (R0 : LTS) (p1 : Int32) (p2 : Int32) (p3 : Int32) {q : (Int32 × TS × LTS)} (hM : f_X7_row U0 V0 M0 R0 p1 p2 p3 = some q) : MW l yX7_row wsX7_row 1 25 g [.ref (a0 0), .int p1, .int p2, .int p3] (wXM g a0 U0 V0 M0 R0 kv tv) (some (.int q.1)) (wXM g a0 U0 q.2.1 M0 q.2.2 kv tv) := by
  intro sz
  refine Met.ofW (cc := cX7_row) (maxL := 5) (ret := (some .int)) (by decide) rfl ?_
  intro p e s m args below meth c s₁ B hml hv
  obtain ⟨rfl, hsz, hP, hK, hD0⟩ := hv
  have hx := B.exec; have hb := B.bytes; have hr := B.returns
  have hts := atoms_spec (ws := wsX7_row) B.pre
  have hown : s.vm.findClass RX7 = some m.cls := findClass_of_methodNamed B.named
  have hlocks := B.notSynchronized
  have hS : CallFix p m c cX7_row 5 s _ wsX7_row RX7 := ⟨hx, hb, hml, hown, hts⟩
  have hin_X7 : ∀ w ∈ wsX70, w ∈ wsX7_row := fun w h => (List.mem_cons_of_mem _ (List.mem_append_right _ h))
  subst hsz
  have hw := wk_start hP hD0
  have hA : ∀ q : Nat, s.heap.size ≤ q → va_A (wXM g a0 U0 V0 M0 R0 kv tv) s.heap.size q := fun q h => Or.inr h
  generalize va_A (wXM g a0 U0 V0 M0 R0 kv tv) s.heap.size = A at hw hA ⊢
  clear hP hD0
  have hl := lv_entry ([.ref (a0 0), .int p1, .int p2, .int p3]) (n := 5) (Nat.le_of_ble_eq_true rfl)
  rw [lg_entry_eq]
  generalize (lg_sl ([.ref (a0 0), .int p1, .int p2, .int p3]) ++ List.replicate (5 - (lg_sl ([.ref (a0 0), .int p1, .int p2, .int p3])).length) Slot.unset).toArray = ls at hl ⊢
  have hl : lv_has ls 5 [(0, .ref (a0 0)), (1, .int p1), (2, .int p2), (3, .int p3)] := hl
  rw [f_X7_row] at hM
  refine lv_iload_n hx hb dX7_row_0 rfl (lv_at hl 1 rfl) ?_
  refine lv_i2l (v := ((p1).toInt64)) hx hb dX7_row_1 rfl ?_
  refine lv_lconst (v := (0 : Int64)) hx hb dX7_row_2 (by decide) ?_
  refine lv_ldc2 (v := (7 : Int64)) hx hb hown (hts _ (mi 1 rfl)) dX7_row_3 ?_
  refine rSR (wc := ([] : va_W)) (As := [.long ((p1).toInt64), .long (0 : Int64), .long (7 : Int64)]) (rest := []) hS (c_X7_in l g ((p1).toInt64) (0 : Int64) (7 : Int64)) gX7_row_X7_in rfl hd_X7_in ⟨Nat.le_of_ble_eq_true rfl, Nat.le_of_ble_eq_true rfl⟩ hK (hP_nil) rfl hl.1 rfl (Nat.le_of_ble_eq_true rfl) dX7_row_6 ⟨Nat.zero_le _, Nat.zero_le _⟩ ?_
  refine lv_if_eq (tgt := 36) hx hb dX7_row_9 (by decide) (fun c2 => ?_) (fun c2 => ?_)
  · replace hM := itp c2 hM
    refine lv_aload_n hx hb dX7_row_36 rfl (lv_at hl 0 rfl) ?_
    refine lv_bipush (v := (-2 : Int32)) hx hb dX7_row_37 (by decide) ?_
    obtain ⟨q4, h3, hM⟩ := bd hM
    refine rVWp (wc := (wXM g a0 U0 V0 M0 R0 kv tv)) (wq := (wXM g a0 U0 q4.2 M0 R0 kv tv)) (As := [.int (-2 : Int32)]) (rest := []) (q0 := 0) hS (c_X7_refuse l g a0 kv tv U0 V0 M0 R0 (-2 : Int32) h3) gX7_row_X7_refuse rfl hd_X7_refuse ⟨Nat.le_of_ble_eq_true rfl, Nat.le_of_ble_eq_true rfl⟩ hK hw hA (pm_1_0 _) rfl (pm_1_0 _) rfl rfl rfl rfl hl.1 rfl (Nat.le_of_ble_eq_true rfl) dX7_row_39 ⟨Nat.zero_le _, Nat.zero_le _⟩ (fun H locs hw => ?_)
    obtain rfl := Option.some.inj hM
    exact W.iret hx hb hr (fun t ht _ => ⟨rfl, by rw [ht]; exact hw.1, hw.2.2.F ht⟩) hw.2.2.2.2 dX7_row_42
  · replace hM := itn c2 hM
    refine lv_iload_n hx hb dX7_row_12 rfl (lv_at hl 2 rfl) ?_
    refine lv_i2l (v := ((p2).toInt64)) hx hb dX7_row_13 rfl ?_
    refine lv_lconst (v := (0 : Int64)) hx hb dX7_row_14 (by decide) ?_
    refine lv_ldc2 (v := (4 : Int64)) hx hb hown (hts _ (mi 2 rfl)) dX7_row_15 ?_
    refine rSR (wc := ([] : va_W)) (As := [.long ((p2).toInt64), .long (0 : Int64), .long (4 : Int64)]) (rest := []) hS (c_X7_in l g ((p2).toInt64) (0 : Int64) (4 : Int64)) gX7_row_X7_in rfl hd_X7_in ⟨Nat.le_of_ble_eq_true rfl, Nat.le_of_ble_eq_true rfl⟩ hK (hP_nil) rfl hl.1 rfl (Nat.le_of_ble_eq_true rfl) dX7_row_18 ⟨Nat.zero_le _, Nat.zero_le _⟩ ?_
    refine lv_if_eq (tgt := 36) hx hb dX7_row_21 (by decide) (fun c6 => ?_) (fun c6 => ?_)
    · replace hM := itp c6 hM
      refine lv_aload_n hx hb dX7_row_36 rfl (lv_at hl 0 rfl) ?_
      refine lv_bipush (v := (-2 : Int32)) hx hb dX7_row_37 (by decide) ?_
      obtain ⟨q8, h7, hM⟩ := bd hM
      refine rVWp (wc := (wXM g a0 U0 V0 M0 R0 kv tv)) (wq := (wXM g a0 U0 q8.2 M0 R0 kv tv)) (As := [.int (-2 : Int32)]) (rest := []) (q0 := 0) hS (c_X7_refuse l g a0 kv tv U0 V0 M0 R0 (-2 : Int32) h7) gX7_row_X7_refuse rfl hd_X7_refuse ⟨Nat.le_of_ble_eq_true rfl, Nat.le_of_ble_eq_true rfl⟩ hK hw hA (pm_1_0 _) rfl (pm_1_0 _) rfl rfl rfl rfl hl.1 rfl (Nat.le_of_ble_eq_true rfl) dX7_row_39 ⟨Nat.zero_le _, Nat.zero_le _⟩ (fun H locs hw => ?_)
      obtain rfl := Option.some.inj hM
      exact W.iret hx hb hr (fun t ht _ => ⟨rfl, by rw [ht]; exact hw.1, hw.2.2.F ht⟩) hw.2.2.2.2 dX7_row_42
    · replace hM := itn c6 hM
      refine lv_iload_n hx hb dX7_row_24 rfl (lv_at hl 3 rfl) ?_
      refine lv_i2l (v := ((p3).toInt64)) hx hb dX7_row_25 rfl ?_
      refine lv_lconst (v := (0 : Int64)) hx hb dX7_row_26 (by decide) ?_
      refine lv_ldc2 (v := (40 : Int64)) hx hb hown (hts _ (mi 3 rfl)) dX7_row_27 ?_
      refine rSR (wc := ([] : va_W)) (As := [.long ((p3).toInt64), .long (0 : Int64), .long (40 : Int64)]) (rest := []) hS (c_X7_in l g ((p3).toInt64) (0 : Int64) (40 : Int64)) gX7_row_X7_in rfl hd_X7_in ⟨Nat.le_of_ble_eq_true rfl, Nat.le_of_ble_eq_true rfl⟩ hK (hP_nil) rfl hl.1 rfl (Nat.le_of_ble_eq_true rfl) dX7_row_30 ⟨Nat.zero_le _, Nat.zero_le _⟩ ?_
      refine lv_if_ne (tgt := 43) hx hb dX7_row_33 (by decide) (fun c10 => ?_) (fun c10 => ?_)
      · replace hM := itn c10 hM
        refine lv_aload_n hx hb dX7_row_43 rfl (lv_at hl 0 rfl) ?_
        refine wk_get hx hb hts hin_X7 hown hK hw.1 7 0 0 (.ref (a0 9)) rfl rfl (by decide) (mi 4 rfl) rfl rfl dX7_row_44 ?_
        refine lv_iload_n hx hb dX7_row_47 rfl (lv_at hl 1 rfl) ?_
        refine lv_iconst (v := (1 : Int32)) hx hb dX7_row_48 (by decide) ?_
        obtain ⟨k13, hM⟩ := ck hM
        refine wk_iast (wq := (wXM g a0 U0 (up V0 0 (upd (V0 0) (p1).toNatClampNeg (1 : Int32))) M0 R0 kv tv)) hx hb hK hw 9 8 (V0 0) rfl k13 dX7_row_49 rfl (fun H locs hw => ?_)
        refine lv_aload_n hx hb dX7_row_50 rfl (lv_at hl 0 rfl) ?_
        refine wk_get hx hb hts hin_X7 hown hK hw.1 7 0 1 (.ref (a0 10)) rfl rfl (by decide) (mi 5 rfl) rfl rfl dX7_row_51 ?_
        refine lv_iload_n hx hb dX7_row_54 rfl (lv_at hl 1 rfl) ?_
        refine lv_iload_n hx hb dX7_row_55 rfl (lv_at hl 2 rfl) ?_
        refine wk_iast (wq := (wXM g a0 U0 (up (up V0 0 (upd (V0 0) (p1).toNatClampNeg (1 : Int32))) 1 (upd (V0 1) (p1).toNatClampNeg p2)) M0 R0 kv tv)) hx hb hK hw 10 8 (V0 1) rfl k13 dX7_row_56 rfl (fun H locs hw => ?_)
        refine lv_aload_n hx hb dX7_row_57 rfl (lv_at hl 0 rfl) ?_
        refine wk_get hx hb hts hin_X7 hown hK hw.1 7 0 2 (.ref (a0 11)) rfl rfl (by decide) (mi 6 rfl) rfl rfl dX7_row_58 ?_
        refine lv_iload_n hx hb dX7_row_61 rfl (lv_at hl 1 rfl) ?_
        refine lv_iload_n hx hb dX7_row_62 rfl (lv_at hl 3 rfl) ?_
        refine wk_iast (wq := (wXM g a0 U0 (up (up (up V0 0 (upd (V0 0) (p1).toNatClampNeg (1 : Int32))) 1 (upd (V0 1) (p1).toNatClampNeg p2)) 2 (upd (V0 2) (p1).toNatClampNeg p3)) M0 R0 kv tv)) hx hb hK hw 11 8 (V0 2) rfl k13 dX7_row_63 rfl (fun H locs hw => ?_)
        refine lv_iconst (v := (0 : Int32)) hx hb dX7_row_64 (by decide) ?_
        refine lv_istore (lv' := [(4, .int (0 : Int32)), (0, .ref (a0 0)), (1, .int p1), (2, .int p2), (3, .int p3)]) hx hb dX7_row_65 hl (by decide) rfl (fun ls hl => ?_)
        obtain ⟨q16, hL67, hM⟩ := bd hM
        have hJ67 : ∀ (H : Heap) (locs : List Loc), Wk g A s.heap H locs (wXM g a0 U0 (up (up (up V0 0 (upd (V0 0) (p1).toNatClampNeg (1 : Int32))) 1 (upd (V0 1) (p1).toNatClampNeg p2)) 2 (upd (V0 2) (p1).toNatClampNeg p3)) M0 q16 kv tv) → ∀ (ls : Array Slot), lv_has ls 5 [] → W p l e (headSpec wsX7_row ({ frames := 1, cells := 0, slots := 0, locals := 25 } : Room)).room s m ([.ref (a0 0), .int p1, .int p2, .int p3] : List Value).toArray below meth c H locs 0 0 (MQ below (QcW g (some (.int q.1)) (wXM g a0 U0 q.2.1 M0 q.2.2 kv tv) A) ([.ref (a0 0), .int p1, .int p2, .int p3] : List Value).toArray s 0 0 A) (F0 m 90 ls []) := by
          intro H locs hw ls hl
          refine lv_iconst (v := (1 : Int32)) hx hb dX7_row_90 (by decide) ?_
          obtain rfl := Option.some.inj hM
          exact W.iret hx hb hr (fun t ht _ => ⟨rfl, by rw [ht]; exact hw.1, hw.2.2.F ht⟩) hw.2.2.2.2 dX7_row_91
        have hW67 : ∀ (n : Nat) (v4_14 : Int32) (RL15 : LTS), L_X7_row_67 p1 n v4_14 RL15 = some q16 → ∀ (H : Heap) (locs : List Loc), Wk g A s.heap H locs (wXM g a0 U0 (up (up (up V0 0 (upd (V0 0) (p1).toNatClampNeg (1 : Int32))) 1 (upd (V0 1) (p1).toNatClampNeg p2)) 2 (upd (V0 2) (p1).toNatClampNeg p3)) M0 RL15 kv tv) → ∀ (ls : Array Slot), lv_has ls 5 [(4, .int v4_14), (0, .ref (a0 0)), (1, .int p1)] → W p l e (headSpec wsX7_row ({ frames := 1, cells := 0, slots := 0, locals := 25 } : Room)).room s m ([.ref (a0 0), .int p1, .int p2, .int p3] : List Value).toArray below meth c H locs 0 0 (MQ below (QcW g (some (.int q.1)) (wXM g a0 U0 q.2.1 M0 q.2.2 kv tv) A) ([.ref (a0 0), .int p1, .int p2, .int p3] : List Value).toArray s 0 0 A) (F0 m 67 ls []) := by
          intro n
          induction n with
          | zero => intro v4_14 RL15 hM; rw [L_X7_row_67] at hM; exact nn hM
          | succ n ih67 =>
            intro v4_14 RL15 hM H locs hw ls hl
            rw [L_X7_row_67] at hM
            refine lv_iload hx hb dX7_row_67 (lv_at hl 0 rfl) ?_
            refine lv_bipush (v := (40 : Int32)) hx hb dX7_row_69 (by decide) ?_
            refine lv_icmp_ge (tgt := 90) hx hb dX7_row_71 (by decide) (fun c17 => ?_) (fun c17 => ?_)
            · replace hM := itp c17 hM
              obtain rfl := Option.some.inj hM
              exact hJ67 _ _ hw _ (lv_sub hl [] rfl)
            · replace hM := itn c17 hM
              refine lv_aload_n hx hb dX7_row_74 rfl (lv_at hl 1 rfl) ?_
              refine wk_get hx hb hts hin_X7 hown hK hw.1 7 0 3 (.ref (a0 12)) rfl rfl (by decide) (mi 7 rfl) rfl rfl dX7_row_75 ?_
              refine lv_iload_n hx hb dX7_row_78 rfl (lv_at hl 2 rfl) ?_
              refine wk_aald hx hb hK hw.1 12 8 (fun i => a0 (20 + i)) 3 rfl (k13) rfl rfl dX7_row_79 ?_
              refine lv_iload hx hb dX7_row_80 (lv_at hl 0 rfl) ?_
              refine lv_lconst (v := (0 : Int64)) hx hb dX7_row_82 (by decide) ?_
              obtain ⟨k18, hM⟩ := ck hM
              refine wk_last (wq := (wXM g a0 U0 (up (up (up V0 0 (upd (V0 0) (p1).toNatClampNeg (1 : Int32))) 1 (upd (V0 1) (p1).toNatClampNeg p2)) 2 (upd (V0 2) (p1).toNatClampNeg p3)) M0 (upL RL15 (p1).toNatClampNeg (vp_updL (RL15 (p1).toNatClampNeg) (v4_14).toNatClampNeg (0 : Int64))) kv tv)) hx hb hK hw (20 + (p1).toNatClampNeg) 40 (RL15 (p1).toNatClampNeg) (wXM_row (Nat.lt_of_not_le (fun z => k13 (Or.inr z)))) k18 dX7_row_83 (wXM_set (Nat.lt_of_not_le (fun z => k13 (Or.inr z)))) (fun H locs hw => ?_)
              refine lv_iinc (v := (v4_14 + (1 : Int32))) (lv' := [(4, .int (v4_14 + (1 : Int32))), (0, .ref (a0 0)), (1, .int p1)]) hx hb dX7_row_84 hl (k := 0) rfl rfl (by decide) rfl (fun ls hl => ?_)
              refine lv_goto (tgt := 67) hx hb dX7_row_87 (by decide) ?_
              exact ih67 (v4_14 + (1 : Int32)) (upL RL15 (p1).toNatClampNeg (vp_updL (RL15 (p1).toNatClampNeg) (v4_14).toNatClampNeg (0 : Int64))) hM _ _ hw _ (lv_sub hl [0, 1, 2] rfl)
        exact hW67 300 (0 : Int32) R0 hL67 _ _ hw _ (lv_sub hl [0, 1, 2] rfl)
      · replace hM := itp c10 hM
        refine lv_aload_n hx hb dX7_row_36 rfl (lv_at hl 0 rfl) ?_
        refine lv_bipush (v := (-2 : Int32)) hx hb dX7_row_37 (by decide) ?_
        obtain ⟨q12, h11, hM⟩ := bd hM
        refine rVWp (wc := (wXM g a0 U0 V0 M0 R0 kv tv)) (wq := (wXM g a0 U0 q12.2 M0 R0 kv tv)) (As := [.int (-2 : Int32)]) (rest := []) (q0 := 0) hS (c_X7_refuse l g a0 kv tv U0 V0 M0 R0 (-2 : Int32) h11) gX7_row_X7_refuse rfl hd_X7_refuse ⟨Nat.le_of_ble_eq_true rfl, Nat.le_of_ble_eq_true rfl⟩ hK hw hA (pm_1_0 _) rfl (pm_1_0 _) rfl rfl rfl rfl hl.1 rfl (Nat.le_of_ble_eq_true rfl) dX7_row_39 ⟨Nat.zero_le _, Nat.zero_le _⟩ (fun H locs hw => ?_)
        obtain rfl := Option.some.inj hM
        exact W.iret hx hb hr (fun t ht _ => ⟨rfl, by rw [ht]; exact hw.1, hw.2.2.F ht⟩) hw.2.2.2.2 dX7_row_42
theorem hd_X7_say : yX7_say.cls = RX7 ∧ yX7_say.cls ≠ "java/lang/invoke/MethodHandle" ∧ yX7_say.cls ≠ "java/lang/invoke/VarHandle" ∧ (parseMethodDescriptor yX7_say.desc).map (fun d => d.parameters.length) = some 2 := by decide +kernel
set_option maxHeartbeats 4000000 in
set_option maxRecDepth 100000 in
theorem c_X7_say (l : Launch) (g : Gm) (a0 : Nat → Nat) (kv : Value) (tv : Value) (U0 : TS) (V0 : TS) (M0 : LTS) (R0 : LTS) (p1 : Int32) (p2 : Int32) {q : (Int32 × TS × TS)} (hM : f_X7_say U0 V0 M0 R0 p1 p2 = some q) : MW l yX7_say wsX7_say 2 46 g [.ref (a0 0), .int p1, .int p2] (wXM g a0 U0 V0 M0 R0 kv tv) (some (.int q.1)) (wXM g a0 q.2.1 q.2.2 M0 R0 kv tv) := by
  intro sz
  refine Met.ofW (cc := cX7_say) (maxL := 3) (ret := (some .int)) (by decide) rfl ?_
  intro p e s m args below meth c s₁ B hml hv
  obtain ⟨rfl, hsz, hP, hK, hD0⟩ := hv
  have hx := B.exec; have hb := B.bytes; have hr := B.returns
  have hts := atoms_spec (ws := wsX7_say) B.pre
  have hown : s.vm.findClass RX7 = some m.cls := findClass_of_methodNamed B.named
  have hlocks := B.notSynchronized
  have hS : CallFix p m c cX7_say 3 s _ wsX7_say RX7 := ⟨hx, hb, hml, hown, hts⟩
  subst hsz
  have hw := wk_start hP hD0
  have hA : ∀ q : Nat, s.heap.size ≤ q → va_A (wXM g a0 U0 V0 M0 R0 kv tv) s.heap.size q := fun q h => Or.inr h
  generalize va_A (wXM g a0 U0 V0 M0 R0 kv tv) s.heap.size = A at hw hA ⊢
  clear hP hD0
  have hl := lv_entry ([.ref (a0 0), .int p1, .int p2]) (n := 3) (Nat.le_of_ble_eq_true rfl)
  rw [lg_entry_eq]
  generalize (lg_sl ([.ref (a0 0), .int p1, .int p2]) ++ List.replicate (3 - (lg_sl ([.ref (a0 0), .int p1, .int p2])).length) Slot.unset).toArray = ls at hl ⊢
  have hl : lv_has ls 3 [(0, .ref (a0 0)), (1, .int p1), (2, .int p2)] := hl
  rw [f_X7_say] at hM
  refine lv_aload_n hx hb dX7_say_0 rfl (lv_at hl 0 rfl) ?_
  refine lv_iload_n hx hb dX7_say_1 rfl (lv_at hl 1 rfl) ?_
  refine rVR (wc := (wXT g a0 (fm a0 V0 kv tv) U0)) (As := [.int p1]) (rest := []) (q0 := 0) hS (c_X7_isOne l g a0 (fm a0 V0 kv tv) U0 p1) gX7_say_X7_isOne rfl hd_X7_isOne ⟨Nat.le_of_ble_eq_true rfl, Nat.le_of_ble_eq_true rfl⟩ hK (va_P.pm hw.1 (pmX1 _ _ _ _ _ _ _ _)) rfl rfl rfl rfl hl.1 rfl (Nat.le_of_ble_eq_true rfl) dX7_say_2 ⟨Nat.zero_le _, Nat.zero_le _⟩ ?_
  refine lv_if_eq (tgt := 16) hx hb dX7_say_5 (by decide) (fun c2 => ?_) (fun c2 => ?_)
  · replace hM := itp c2 hM
    refine lv_aload_n hx hb dX7_say_16 rfl (lv_at hl 0 rfl) ?_
    refine lv_bipush (v := (-2 : Int32)) hx hb dX7_say_17 (by decide) ?_
    obtain ⟨q4, h3, hM⟩ := bd hM
    refine rVWp (wc := (wXM g a0 U0 V0 M0 R0 kv tv)) (wq := (wXM g a0 U0 q4.2 M0 R0 kv tv)) (As := [.int (-2 : Int32)]) (rest := []) (q0 := 0) hS (c_X7_refuse l g a0 kv tv U0 V0 M0 R0 (-2 : Int32) h3) gX7_say_X7_refuse rfl hd_X7_refuse ⟨Nat.le_of_ble_eq_true rfl, Nat.le_of_ble_eq_true rfl⟩ hK hw hA (pm_1_0 _) rfl (pm_1_0 _) rfl rfl rfl rfl hl.1 rfl (Nat.le_of_ble_eq_true rfl) dX7_say_19 ⟨Nat.zero_le _, Nat.zero_le _⟩ (fun H locs hw => ?_)
    obtain rfl := Option.some.inj hM
    exact W.iret hx hb hr (fun t ht _ => ⟨rfl, by rw [ht]; exact hw.1, hw.2.2.F ht⟩) hw.2.2.2.2 dX7_say_22
  · replace hM := itn c2 hM
    refine lv_aload_n hx hb dX7_say_8 rfl (lv_at hl 0 rfl) ?_
    refine lv_iload_n hx hb dX7_say_9 rfl (lv_at hl 2 rfl) ?_
    refine rVR (wc := (wXT g a0 (fm a0 V0 kv tv) U0)) (As := [.int p2]) (rest := []) (q0 := 0) hS (c_X7_isSight l g a0 (fm a0 V0 kv tv) U0 p2) gX7_say_X7_isSight rfl hd_X7_isSight ⟨Nat.le_of_ble_eq_true rfl, Nat.le_of_ble_eq_true rfl⟩ hK (va_P.pm hw.1 (pmX1 _ _ _ _ _ _ _ _)) rfl rfl rfl rfl hl.1 rfl (Nat.le_of_ble_eq_true rfl) dX7_say_10 ⟨Nat.zero_le _, Nat.zero_le _⟩ ?_
    refine lv_if_ne (tgt := 23) hx hb dX7_say_13 (by decide) (fun c6 => ?_) (fun c6 => ?_)
    · replace hM := itn c6 hM
      refine lv_aload_n hx hb dX7_say_23 rfl (lv_at hl 0 rfl) ?_
      refine lv_iload_n hx hb dX7_say_24 rfl (lv_at hl 1 rfl) ?_
      obtain ⟨q10, h9, hM⟩ := bd hM
      refine rVR (wc := (wXT g a0 (fm a0 V0 kv tv) U0)) (As := [.int p1]) (rest := []) (q0 := 0) hS (c_X7_mayOf l g a0 (fm a0 V0 kv tv) U0 p1 h9) gX7_say_X7_mayOf rfl hd_X7_mayOf ⟨Nat.le_of_ble_eq_true rfl, Nat.le_of_ble_eq_true rfl⟩ hK (va_P.pm hw.1 (pmX1 _ _ _ _ _ _ _ _)) rfl rfl rfl rfl hl.1 rfl (Nat.le_of_ble_eq_true rfl) dX7_say_25 ⟨Nat.zero_le _, Nat.zero_le _⟩ ?_
      refine lv_iload_n hx hb dX7_say_28 rfl (lv_at hl 2 rfl) ?_
      refine rSR (wc := ([] : va_W)) (As := [.int q10, .int p2]) (rest := []) hS (c_X7_has l g q10 p2) gX7_say_X7_has rfl hd_X7_has ⟨Nat.le_of_ble_eq_true rfl, Nat.le_of_ble_eq_true rfl⟩ hK (hP_nil) rfl hl.1 rfl (Nat.le_of_ble_eq_true rfl) dX7_say_29 ⟨Nat.zero_le _, Nat.zero_le _⟩ ?_
      refine lv_if_eq (tgt := 46) hx hb dX7_say_32 (by decide) (fun c12 => ?_) (fun c12 => ?_)
      · replace hM := itp c12 hM
        refine lv_aload_n hx hb dX7_say_46 rfl (lv_at hl 0 rfl) ?_
        refine lv_bipush (v := (-5 : Int32)) hx hb dX7_say_47 (by decide) ?_
        obtain ⟨q14, h13, hM⟩ := bd hM
        refine rVWp (wc := (wXM g a0 U0 V0 M0 R0 kv tv)) (wq := (wXM g a0 U0 q14.2 M0 R0 kv tv)) (As := [.int (-5 : Int32)]) (rest := []) (q0 := 0) hS (c_X7_refuse l g a0 kv tv U0 V0 M0 R0 (-5 : Int32) h13) gX7_say_X7_refuse rfl hd_X7_refuse ⟨Nat.le_of_ble_eq_true rfl, Nat.le_of_ble_eq_true rfl⟩ hK hw hA (pm_1_0 _) rfl (pm_1_0 _) rfl rfl rfl rfl hl.1 rfl (Nat.le_of_ble_eq_true rfl) dX7_say_49 ⟨Nat.zero_le _, Nat.zero_le _⟩ (fun H locs hw => ?_)
        obtain rfl := Option.some.inj hM
        exact W.iret hx hb hr (fun t ht _ => ⟨rfl, by rw [ht]; exact hw.1, hw.2.2.F ht⟩) hw.2.2.2.2 dX7_say_52
      · replace hM := itn c12 hM
        refine lv_aload_n hx hb dX7_say_35 rfl (lv_at hl 0 rfl) ?_
        refine lv_iload_n hx hb dX7_say_36 rfl (lv_at hl 1 rfl) ?_
        refine lv_iconst (v := (1 : Int32)) hx hb dX7_say_37 (by decide) ?_
        refine lv_iload_n hx hb dX7_say_38 rfl (lv_at hl 2 rfl) ?_
        refine lv_ishl hx hb dX7_say_39 ?_
        obtain ⟨q16, h15, hM⟩ := bd hM
        refine rVWp (wc := (wXT g a0 (fm a0 V0 kv tv) U0)) (wq := (wXM g a0 q16.2 V0 M0 R0 kv tv)) (As := [.int p1, .int ((1 : Int32) <<< (p2 &&& 31))]) (rest := []) (q0 := 0) hS (c_X7_isSaid l g a0 (fm a0 V0 kv tv) U0 p1 ((1 : Int32) <<< (p2 &&& 31)) h15) gX7_say_X7_isSaid rfl hd_X7_isSaid ⟨Nat.le_of_ble_eq_true rfl, Nat.le_of_ble_eq_true rfl⟩ hK hw hA (pmX1 _ _ _ _ _ _ _ _) rfl (pmX1 _ _ _ _ _ _ _ _) rfl rfl rfl rfl hl.1 rfl (Nat.le_of_ble_eq_true rfl) dX7_say_40 ⟨Nat.zero_le _, Nat.zero_le _⟩ (fun H locs hw => ?_)
        refine lv_goto (tgt := 52) hx hb dX7_say_43 (by decide) ?_
        obtain rfl := Option.some.inj hM
        exact W.iret hx hb hr (fun t ht _ => ⟨rfl, by rw [ht]; exact hw.1, hw.2.2.F ht⟩) hw.2.2.2.2 dX7_say_52
    · replace hM := itp c6 hM
      refine lv_aload_n hx hb dX7_say_16 rfl (lv_at hl 0 rfl) ?_
      refine lv_bipush (v := (-2 : Int32)) hx hb dX7_say_17 (by decide) ?_
      obtain ⟨q8, h7, hM⟩ := bd hM
      refine rVWp (wc := (wXM g a0 U0 V0 M0 R0 kv tv)) (wq := (wXM g a0 U0 q8.2 M0 R0 kv tv)) (As := [.int (-2 : Int32)]) (rest := []) (q0 := 0) hS (c_X7_refuse l g a0 kv tv U0 V0 M0 R0 (-2 : Int32) h7) gX7_say_X7_refuse rfl hd_X7_refuse ⟨Nat.le_of_ble_eq_true rfl, Nat.le_of_ble_eq_true rfl⟩ hK hw hA (pm_1_0 _) rfl (pm_1_0 _) rfl rfl rfl rfl hl.1 rfl (Nat.le_of_ble_eq_true rfl) dX7_say_19 ⟨Nat.zero_le _, Nat.zero_le _⟩ (fun H locs hw => ?_)
      obtain rfl := Option.some.inj hM
      exact W.iret hx hb hr (fun t ht _ => ⟨rfl, by rw [ht]; exact hw.1, hw.2.2.F ht⟩) hw.2.2.2.2 dX7_say_22
