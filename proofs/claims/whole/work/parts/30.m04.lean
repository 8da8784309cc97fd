theorem hd_X7_doesPart : yX7_doesPart.cls = RX7 ∧ yX7_doesPart.cls ≠ "java/lang/invoke/MethodHandle" ∧ yX7_doesPart.cls ≠ "java/lang/invoke/VarHandle" ∧ (parseMethodDescriptor yX7_doesPart.desc).map (fun d => d.parameters.length) = some 3 := by decide +kernel
set_option maxHeartbeats 4000000 in
set_option maxRecDepth 100000 in
theorem c_X7_doesPart (l : Launch) (g : Gm) (a0 : Nat → Nat) (kv : Value) (tv : Value) (U0 : TS) (V0 : TS) (M0 : LTS) (R0 : LTS) (p1 : Int32) (p2 : Int32) (p3 : Int32) {q : Int32} (hM : f_X7_doesPart U0 V0 M0 R0 p1 p2 p3 = some q) : MR l yX7_doesPart wsX7_doesPart 0 0 g [.ref (a0 0), .int p1, .int p2, .int p3] (wXM g a0 U0 V0 M0 R0 kv tv) (some (.int q)) := by
  refine Met.ofW (cc := cX7_doesPart) (maxL := 8) (ret := (some .boolean)) (by decide) rfl ?_
  intro p e s m args below meth c s₁ B hml hv
  obtain ⟨rfl, hP, hK⟩ := hv
  have hx := B.exec; have hb := B.bytes; have hr := B.returns
  have hts := atoms_spec (ws := wsX7_doesPart) B.pre
  have hown : s.vm.findClass RX7 = some m.cls := findClass_of_methodNamed B.named
  have hlocks := B.notSynchronized
  have hS : CallFix p m c cX7_doesPart 8 s _ wsX7_doesPart RX7 := ⟨hx, hb, hml, hown, hts⟩
  have hin_X7 : ∀ w ∈ wsX70, w ∈ wsX7_doesPart := fun w h => (List.mem_cons_of_mem _ (List.mem_append_right _ h))
  have hl := lv_entry ([.ref (a0 0), .int p1, .int p2, .int p3]) (n := 8) (Nat.le_of_ble_eq_true rfl)
  rw [lg_entry_eq]
  generalize (lg_sl ([.ref (a0 0), .int p1, .int p2, .int p3]) ++ List.replicate (8 - (lg_sl ([.ref (a0 0), .int p1, .int p2, .int p3])).length) Slot.unset).toArray = ls at hl ⊢
  have hl : lv_has ls 8 [(0, .ref (a0 0)), (1, .int p1), (2, .int p2), (3, .int p3)] := hl
  rw [f_X7_doesPart] at hM
  refine lv_iconst (v := (1 : Int32)) hx hb dX7_doesPart_0 (by decide) ?_
  refine lv_aload_n hx hb dX7_doesPart_1 rfl (lv_at hl 0 rfl) ?_
  refine wk_get hx hb hts hin_X7 hown hK hP 7 0 10 (.int (U0 10 0)) rfl rfl (by decide) (mi 1 rfl) rfl rfl dX7_doesPart_2 ?_
  refine lv_ishl hx hb dX7_doesPart_5 ?_
  refine lv_iconst (v := (1 : Int32)) hx hb dX7_doesPart_6 (by decide) ?_
  refine lv_isub hx hb dX7_doesPart_7 ?_
  refine lv_istore (lv' := [(4, .int (((1 : Int32) <<< ((U0 10 0) &&& 31)) - (1 : Int32))), (0, .ref (a0 0)), (1, .int p1), (2, .int p2), (3, .int p3)]) hx hb dX7_doesPart_8 hl (by decide) rfl (fun ls hl => ?_)
  refine lv_iconst (v := (0 : Int32)) hx hb dX7_doesPart_10 (by decide) ?_
  refine lv_istore (lv' := [(5, .int (0 : Int32)), (4, .int (((1 : Int32) <<< ((U0 10 0) &&& 31)) - (1 : Int32))), (0, .ref (a0 0)), (1, .int p1), (2, .int p2), (3, .int p3)]) hx hb dX7_doesPart_11 hl (by decide) rfl (fun ls hl => ?_)
  obtain ⟨q2, hL13, hM13⟩ := bd hM
  have hJ13 : ∀ (q2x : Unit), q2 = .inr q2x → ∀ (ls : Array Slot), lv_has ls 8 [] → W p l e (headSpec wsX7_doesPart ({ frames := 0, cells := 0, slots := 0, locals := 0 } : Room)).room s m ([.ref (a0 0), .int p1, .int p2, .int p3] : List Value).toArray below meth c s.heap [] 0 0 (MQ below (QcR (some (.int q))) ([.ref (a0 0), .int p1, .int p2, .int p3] : List Value).toArray s 0 0 (fun _ => False)) (F0 m 80 ls []) := by
    intro q2x hX13 ls hl
    rw [hX13] at hM13
    have hM := eo_inr hM13
    refine lv_iconst (v := (1 : Int32)) hx hb dX7_doesPart_80 (by decide) ?_
    obtain rfl := Option.some.inj hM
    exact W.zret hx hb hr (nz (Or.inr rfl)) (fun t ht _ => ⟨rfl, ht⟩) (fun q hq => by cases hq) dX7_doesPart_81
  have hW13 : ∀ (n : Nat) (v5_1 : Int32), L_X7_doesPart_13 U0 R0 p1 p2 p3 n v5_1 = some q2 → ∀ (ls : Array Slot), lv_has ls 8 [(5, .int v5_1), (4, .int (((1 : Int32) <<< ((U0 10 0) &&& 31)) - (1 : Int32))), (0, .ref (a0 0)), (1, .int p1), (2, .int p2), (3, .int p3)] → W p l e (headSpec wsX7_doesPart ({ frames := 0, cells := 0, slots := 0, locals := 0 } : Room)).room s m ([.ref (a0 0), .int p1, .int p2, .int p3] : List Value).toArray below meth c s.heap [] 0 0 (MQ below (QcR (some (.int q))) ([.ref (a0 0), .int p1, .int p2, .int p3] : List Value).toArray s 0 0 (fun _ => False)) (F0 m 13 ls []) := by
    intro n
    induction n with
    | zero => intro v5_1 hM; rw [L_X7_doesPart_13] at hM; exact nn hM
    | succ n ih13 =>
      intro v5_1 hM ls hl
      rw [L_X7_doesPart_13] at hM
      refine lv_iload hx hb dX7_doesPart_13 (lv_at hl 0 rfl) ?_
      refine lv_iload_n hx hb dX7_doesPart_15 rfl (lv_at hl 4 rfl) ?_
      refine lv_icmp_ge (tgt := 80) hx hb dX7_doesPart_16 (by decide) (fun c3 => ?_) (fun c3 => ?_)
      · replace hM := itp c3 hM
        exact hJ13 _ (Option.some.inj hM).symm _ (lv_sub hl [] rfl)
      · replace hM := itn c3 hM
        refine lv_iconst (v := (0 : Int32)) hx hb dX7_doesPart_19 (by decide) ?_
        refine lv_istore (lv' := [(6, .int (0 : Int32)), (5, .int v5_1), (4, .int (((1 : Int32) <<< ((U0 10 0) &&& 31)) - (1 : Int32))), (0, .ref (a0 0)), (1, .int p1), (2, .int p2), (3, .int p3)]) hx hb dX7_doesPart_20 hl (by decide) rfl (fun ls hl => ?_)
        obtain ⟨q5, hL22, hM22⟩ := bd hM
        have hJ22 : ∀ (q5x : Unit), q5 = .inr q5x → ∀ (ls : Array Slot), lv_has ls 8 [(5, .int v5_1), (4, .int (((1 : Int32) <<< ((U0 10 0) &&& 31)) - (1 : Int32))), (0, .ref (a0 0)), (1, .int p1), (2, .int p2), (3, .int p3)] → W p l e (headSpec wsX7_doesPart ({ frames := 0, cells := 0, slots := 0, locals := 0 } : Room)).room s m ([.ref (a0 0), .int p1, .int p2, .int p3] : List Value).toArray below meth c s.heap [] 0 0 (MQ below (QcR (some (.int q))) ([.ref (a0 0), .int p1, .int p2, .int p3] : List Value).toArray s 0 0 (fun _ => False)) (F0 m 74 ls []) := by
          intro q5x hX22 ls hl
          rw [hX22] at hM22
          have hM := eoS_inr hM22
          refine lv_iinc (v := (v5_1 + (1 : Int32))) (lv' := [(5, .int (v5_1 + (1 : Int32))), (4, .int (((1 : Int32) <<< ((U0 10 0) &&& 31)) - (1 : Int32))), (0, .ref (a0 0)), (1, .int p1), (2, .int p2), (3, .int p3)]) hx hb dX7_doesPart_74 hl (k := 0) rfl rfl (by decide) rfl (fun ls hl => ?_)
          refine lv_goto (tgt := 13) hx hb dX7_doesPart_77 (by decide) ?_
          exact ih13 (v5_1 + (1 : Int32)) hM _ (lv_sub hl [0, 1, 2, 3, 4, 5] rfl)
        have hW22 : ∀ (n : Nat) (v6_4 : Int32), L_X7_doesPart_22 U0 R0 p1 p3 v5_1 n v6_4 = some q5 → ∀ (ls : Array Slot), lv_has ls 8 [(6, .int v6_4), (5, .int v5_1), (4, .int (((1 : Int32) <<< ((U0 10 0) &&& 31)) - (1 : Int32))), (0, .ref (a0 0)), (1, .int p1), (2, .int p2), (3, .int p3)] → W p l e (headSpec wsX7_doesPart ({ frames := 0, cells := 0, slots := 0, locals := 0 } : Room)).room s m ([.ref (a0 0), .int p1, .int p2, .int p3] : List Value).toArray below meth c s.heap [] 0 0 (MQ below (QcR (some (.int q))) ([.ref (a0 0), .int p1, .int p2, .int p3] : List Value).toArray s 0 0 (fun _ => False)) (F0 m 22 ls []) := by
          intro n
          induction n with
          | zero => intro v6_4 hM; rw [L_X7_doesPart_22] at hM; exact nn hM
          | succ n ih22 =>
            intro v6_4 hM ls hl
            rw [L_X7_doesPart_22] at hM
            refine lv_iload hx hb dX7_doesPart_22 (lv_at hl 0 rfl) ?_
            refine lv_iload hx hb dX7_doesPart_24 (lv_at hl 1 rfl) ?_
            refine lv_icmp_ge (tgt := 74) hx hb dX7_doesPart_26 (by decide) (fun c6 => ?_) (fun c6 => ?_)
            · replace hM := itp c6 hM
              exact hJ22 _ (Option.some.inj hM).symm _ (lv_sub hl [1, 2, 3, 4, 5, 6] rfl)
            · replace hM := itn c6 hM
              refine lv_aload_n hx hb dX7_doesPart_29 rfl (lv_at hl 3 rfl) ?_
              refine wk_get hx hb hts hin_X7 hown hK hP 7 0 3 (.ref (a0 12)) rfl rfl (by decide) (mi 2 rfl) rfl rfl dX7_doesPart_30 ?_
              refine lv_iload_n hx hb dX7_doesPart_33 rfl (lv_at hl 4 rfl) ?_
              obtain ⟨k7, hM⟩ := ck hM
              refine wk_aald hx hb hK hP 12 8 (fun i => a0 (20 + i)) 3 rfl (k7) rfl rfl dX7_doesPart_34 ?_
              refine lv_iload hx hb dX7_doesPart_35 (lv_at hl 1 rfl) ?_
              obtain ⟨k8, hM⟩ := ck hM
              refine wk_lald hx hb hK hP (20 + (p1).toNatClampNeg) 40 (R0 (p1).toNatClampNeg) (wXM_row (Nat.lt_of_not_le (fun z => k7 (Or.inr z)))) k8 dX7_doesPart_37 ?_
              refine lv_aload_n hx hb dX7_doesPart_38 rfl (lv_at hl 3 rfl) ?_
              refine wk_get hx hb hts hin_X7 hown hK hP 7 0 3 (.ref (a0 12)) rfl rfl (by decide) (mi 2 rfl) rfl rfl dX7_doesPart_39 ?_
              refine lv_iload_n hx hb dX7_doesPart_42 rfl (lv_at hl 4 rfl) ?_
              refine wk_aald hx hb hK hP 12 8 (fun i => a0 (20 + i)) 3 rfl (k7) rfl rfl dX7_doesPart_43 ?_
              refine lv_iload hx hb dX7_doesPart_44 (lv_at hl 0 rfl) ?_
              obtain ⟨k9, hM⟩ := ck hM
              refine wk_lald hx hb hK hP (20 + (p1).toNatClampNeg) 40 (R0 (p1).toNatClampNeg) (wXM_row (Nat.lt_of_not_le (fun z => k7 (Or.inr z)))) k9 dX7_doesPart_46 ?_
              refine lv_lxor hx hb dX7_doesPart_47 ?_
              refine lv_l2i (v := (((((R0 (p1).toNatClampNeg) (v5_1).toNatClampNeg) ^^^ ((R0 (p1).toNatClampNeg) (v6_4).toNatClampNeg))).toInt32)) hx hb dX7_doesPart_48 rfl ?_
              refine lv_iload hx hb dX7_doesPart_49 (lv_at hl 2 rfl) ?_
              refine lv_iand hx hb dX7_doesPart_51 ?_
              refine lv_istore (lv' := [(7, .int ((((((R0 (p1).toNatClampNeg) (v5_1).toNatClampNeg) ^^^ ((R0 (p1).toNatClampNeg) (v6_4).toNatClampNeg))).toInt32) &&& (((1 : Int32) <<< ((U0 10 0) &&& 31)) - (1 : Int32)))), (6, .int v6_4), (5, .int v5_1), (4, .int (((1 : Int32) <<< ((U0 10 0) &&& 31)) - (1 : Int32))), (0, .ref (a0 0)), (1, .int p1), (2, .int p2), (3, .int p3)]) hx hb dX7_doesPart_52 hl (by decide) rfl (fun ls hl => ?_)
              refine lv_iload hx hb dX7_doesPart_54 (lv_at hl 0 rfl) ?_
              refine lv_if_eq (tgt := 68) hx hb dX7_doesPart_56 (by decide) (fun c10 => ?_) (fun c10 => ?_)
              · replace hM := itp c10 hM
                refine lv_iinc (v := (v6_4 + (1 : Int32))) (lv' := [(6, .int (v6_4 + (1 : Int32))), (7, .int ((((((R0 (p1).toNatClampNeg) (v5_1).toNatClampNeg) ^^^ ((R0 (p1).toNatClampNeg) (v6_4).toNatClampNeg))).toInt32) &&& (((1 : Int32) <<< ((U0 10 0) &&& 31)) - (1 : Int32)))), (5, .int v5_1), (4, .int (((1 : Int32) <<< ((U0 10 0) &&& 31)) - (1 : Int32))), (0, .ref (a0 0)), (1, .int p1), (2, .int p2), (3, .int p3)]) hx hb dX7_doesPart_68 hl (k := 1) rfl rfl (by decide) rfl (fun ls hl => ?_)
                refine lv_goto (tgt := 22) hx hb dX7_doesPart_71 (by decide) ?_
                exact ih22 (v6_4 + (1 : Int32)) hM _ (lv_sub hl [0, 2, 3, 4, 5, 6, 7] rfl)
              · replace hM := itn c10 hM
                refine lv_iload hx hb dX7_doesPart_59 (lv_at hl 0 rfl) ?_
                refine lv_iload_n hx hb dX7_doesPart_61 rfl (lv_at hl 7 rfl) ?_
                refine lv_iand hx hb dX7_doesPart_62 ?_
                refine lv_if_ne (tgt := 68) hx hb dX7_doesPart_63 (by decide) (fun c11 => ?_) (fun c11 => ?_)
                · replace hM := itn c11 hM
                  refine lv_iinc (v := (v6_4 + (1 : Int32))) (lv' := [(6, .int (v6_4 + (1 : Int32))), (7, .int ((((((R0 (p1).toNatClampNeg) (v5_1).toNatClampNeg) ^^^ ((R0 (p1).toNatClampNeg) (v6_4).toNatClampNeg))).toInt32) &&& (((1 : Int32) <<< ((U0 10 0) &&& 31)) - (1 : Int32)))), (5, .int v5_1), (4, .int (((1 : Int32) <<< ((U0 10 0) &&& 31)) - (1 : Int32))), (0, .ref (a0 0)), (1, .int p1), (2, .int p2), (3, .int p3)]) hx hb dX7_doesPart_68 hl (k := 1) rfl rfl (by decide) rfl (fun ls hl => ?_)
                  refine lv_goto (tgt := 22) hx hb dX7_doesPart_71 (by decide) ?_
                  exact ih22 (v6_4 + (1 : Int32)) hM _ (lv_sub hl [0, 2, 3, 4, 5, 6, 7] rfl)
                · replace hM := itp c11 hM
                  refine lv_iconst (v := (0 : Int32)) hx hb dX7_doesPart_66 (by decide) ?_
                  have hE := Option.some.inj hM
                  have hM22' := hM22
                  rw [← hE] at hM22'
                  have hE22 := eoS_inl hM22'
                  have hM13' := hM13
                  rw [← hE22] at hM13'
                  obtain rfl := eo_inl hM13'
                  exact W.zret hx hb hr (nz (Or.inl rfl)) (fun t ht _ => ⟨rfl, ht⟩) (fun q hq => by cases hq) dX7_doesPart_67
        exact hW22 300 (0 : Int32) hL22 _ (lv_sub hl [0, 1, 2, 3, 4, 5, 6] rfl)
  exact hW13 300 (0 : Int32) hL13 _ (lv_sub hl [0, 1, 2, 3, 4, 5] rfl)
theorem hd_X7_knownBehind : yX7_knownBehind.cls = RX7 ∧ yX7_knownBehind.cls ≠ "java/lang/invoke/MethodHandle" ∧ yX7_knownBehind.cls ≠ "java/lang/invoke/VarHandle" ∧ (parseMethodDescriptor yX7_knownBehind.desc).map (fun d => d.parameters.length) = some 2 := by decide +kernel
set_option maxHeartbeats 4000000 in
set_option maxRecDepth 100000 in
theorem c_X7_knownBehind (l : Launch) (g : Gm) (a0 : Nat → Nat) (U0 : TS) (V0 : TS) (M0 : LTS) (R0 : LTS) (kv : Value) (t0 : Tr) (tp0 : Option (Nat → Int32)) (h0 : tpOf t0 = tp0) (p1 : Int32) (p2 : Int32) {q : (Int32 × (Option (Nat → Int32)))} (hM : f_X7_knownBehind U0 V0 M0 R0 tp0 p1 p2 = some q) : MB l yX7_knownBehind wsX7_knownBehind 5 140 g [.ref (a0 0), .int p1, .int p2] (fun t => (wXM g a0 U0 V0 M0 R0 kv (tvOf t)) ++ wOT g t) t0 (some (.int q.1)) (fun t => (wXM g a0 U0 V0 M0 R0 kv (tvOf t)) ++ wOT g t) q.2 := by
  intro sz
  refine Met.ofW (cc := cX7_knownBehind) (maxL := 5) (ret := (some .int)) (by decide) rfl ?_
  intro p e s m args below meth c s₁ B hml hv
  obtain ⟨rfl, hsz, hP, hK, hD0⟩ := hv
  have hx := B.exec; have hb := B.bytes; have hr := B.returns
  have hts := atoms_spec (ws := wsX7_knownBehind) B.pre
  have hown : s.vm.findClass RX7 = some m.cls := findClass_of_methodNamed B.named
  have hlocks := B.notSynchronized
  have hS : CallFix p m c cX7_knownBehind 5 s _ wsX7_knownBehind RX7 := ⟨hx, hb, hml, hown, hts⟩
  have hin_X7 : ∀ w ∈ wsX70, w ∈ wsX7_knownBehind := fun w h => (List.mem_cons_of_mem _ (List.mem_append_right _ h))
  subst hsz
  have hw := wk_start hP hD0
  have hA : ∀ q : Nat, s.heap.size ≤ q → va_A ((wXM g a0 U0 V0 M0 R0 kv (tvOf t0)) ++ (wOT g t0)) s.heap.size q := fun q h => Or.inr h
  generalize va_A ((wXM g a0 U0 V0 M0 R0 kv (tvOf t0)) ++ (wOT g t0)) s.heap.size = A at hw hA ⊢
  clear hP hD0
  have hl := lv_entry ([.ref (a0 0), .int p1, .int p2]) (n := 5) (Nat.le_of_ble_eq_true rfl)
  rw [lg_entry_eq]
  generalize (lg_sl ([.ref (a0 0), .int p1, .int p2]) ++ List.replicate (5 - (lg_sl ([.ref (a0 0), .int p1, .int p2])).length) Slot.unset).toArray = ls at hl ⊢
  have hl : lv_has ls 5 [(0, .ref (a0 0)), (1, .int p1), (2, .int p2)] := hl
  refine W_nl t0 ?_
  rw [f_X7_knownBehind] at hM
  refine lv_aload_n hx hb dX7_knownBehind_0 rfl (lv_at hl 0 rfl) ?_
  refine rVF (t0 := t0) (As := []) (rest := []) (hn := (Nat.le_refl _)) hS (c_X7_fresh l g a0 U0 V0 M0 R0 kv t0 tp0 h0) gX7_knownBehind_X7_fresh rfl hd_X7_fresh ⟨Nat.le_of_ble_eq_true rfl, Nat.le_of_ble_eq_true rfl⟩ hK hw hA rfl rfl rfl rfl hl.1 rfl (Nat.le_of_ble_eq_true rfl) dX7_knownBehind_1 (fun b2 G3 H locs hw => ?_)
  have hw : Wk g A s.heap H locs ((wXM g a0 U0 V0 M0 R0 kv (.ref (b2 0))) ++ (wXT g b2 G3 (fr0 U0 tp0))) := hw
  refine lv_astore_n (lv' := [(3, .ref (b2 0)), (0, .ref (a0 0)), (1, .int p1), (2, .int p2)]) hx hb dX7_knownBehind_4 rfl hl (by decide) rfl (fun ls hl => ?_)
  refine lv_aload_n hx hb dX7_knownBehind_5 rfl (lv_at hl 0 rfl) ?_
  refine wk_get hx hb hts hin_X7 hown hK hw.1 7 28 17 (.ref (b2 7)) rfl rfl (by decide) (mi 1 rfl) rfl rfl dX7_knownBehind_6 ?_
  refine lv_iconst (v := (0 : Int32)) hx hb dX7_knownBehind_9 (by decide) ?_
  refine lv_iload_n hx hb dX7_knownBehind_10 rfl (lv_at hl 2 rfl) ?_
  refine wk_iast (wq := ((wXM g a0 U0 V0 M0 R0 kv (.ref (b2 0))) ++ (wXT g b2 G3 (up (fr0 U0 tp0) 17 (upd ((fr0 U0 tp0) 17) ((0 : Int32)).toNatClampNeg p1))))) hx hb hK hw 35 3 ((fr0 U0 tp0) 17) rfl (by decide) dX7_knownBehind_11 rfl (fun H locs hw => ?_)
  refine lv_iconst (v := (0 : Int32)) hx hb dX7_knownBehind_12 (by decide) ?_
  refine lv_istore (lv' := [(4, .int (0 : Int32)), (3, .ref (b2 0)), (0, .ref (a0 0)), (1, .int p1), (2, .int p2)]) hx hb dX7_knownBehind_13 hl (by decide) rfl (fun ls hl => ?_)
  obtain ⟨q6, hL15, hM⟩ := bd hM
  have hJ15 : ∀ (H : Heap) (locs : List Loc), Wk g A s.heap H locs ((wXM g a0 U0 V0 M0 R0 kv (.ref (b2 0))) ++ (wXT g b2 G3 q6)) → ∀ (ls : Array Slot), lv_has ls 5 [(3, .ref (b2 0))] → W p l e (headSpec wsX7_knownBehind ({ frames := 5, cells := 28 * nlOf t0, slots := 759 * nlOf t0, locals := 140 } : Room)).room s m ([.ref (a0 0), .int p1, .int p2] : List Value).toArray below meth c H locs (28 * nlOf t0) (759 * nlOf t0) (MQ below (QcB g (some (.int q.1)) (fun t => (wXM g a0 U0 V0 M0 R0 kv (tvOf t)) ++ wOT g t) q.2 A) ([.ref (a0 0), .int p1, .int p2] : List Value).toArray s (28 * nlOf t0) (759 * nlOf t0) A) (F0 m 32 ls []) := by
    intro H locs hw ls hl
    refine lv_aload_n hx hb dX7_knownBehind_32 rfl (lv_at hl 0 rfl) ?_
    obtain ⟨q11, h10, hM⟩ := bd hM
    refine rVR (wc := (wXT g b2 G3 q6)) (As := []) (rest := []) (q0 := 0) hS (c_X7_knownNow l g b2 G3 q6 h10) gX7_knownBehind_X7_knownNow rfl hd_X7_knownNow ⟨Nat.le_of_ble_eq_true rfl, Nat.le_of_ble_eq_true rfl⟩ hK (va_P.pm hw.1 (pm_2_1 _ _)) rfl rfl rfl rfl hl.1 rfl (Nat.le_of_ble_eq_true rfl) dX7_knownBehind_33 ⟨Nat.le_refl _, Nat.le_refl _⟩ ?_
    obtain rfl := Option.some.inj hM
    exact W.iret hx hb hr (fun t ht _ => ⟨rfl, ⟨(some (b2, G3, q6)), rfl, by rw [ht]; exact hw.1, hw.2.1⟩, hw.2.2.F ht⟩) hw.2.2.2.2 dX7_knownBehind_36
  have hW15 : ∀ (n : Nat) (v4_4 : Int32) (UL5 : TS), L_X7_knownBehind_15 p2 n v4_4 UL5 = some q6 → ∀ (H : Heap) (locs : List Loc), Wk g A s.heap H locs ((wXM g a0 U0 V0 M0 R0 kv (.ref (b2 0))) ++ (wXT g b2 G3 UL5)) → ∀ (ls : Array Slot), lv_has ls 5 [(4, .int v4_4), (3, .ref (b2 0)), (2, .int p2)] → W p l e (headSpec wsX7_knownBehind ({ frames := 5, cells := 28 * nlOf t0, slots := 759 * nlOf t0, locals := 140 } : Room)).room s m ([.ref (a0 0), .int p1, .int p2] : List Value).toArray below meth c H locs (28 * nlOf t0) (759 * nlOf t0) (MQ below (QcB g (some (.int q.1)) (fun t => (wXM g a0 U0 V0 M0 R0 kv (tvOf t)) ++ wOT g t) q.2 A) ([.ref (a0 0), .int p1, .int p2] : List Value).toArray s (28 * nlOf t0) (759 * nlOf t0) A) (F0 m 15 ls []) := by
    intro n
    induction n with
    | zero => intro v4_4 UL5 hM; rw [L_X7_knownBehind_15] at hM; exact nn hM
    | succ n ih15 =>
      intro v4_4 UL5 hM H locs hw ls hl
      rw [L_X7_knownBehind_15] at hM
      refine lv_iload hx hb dX7_knownBehind_15 (lv_at hl 0 rfl) ?_
      refine lv_iload_n hx hb dX7_knownBehind_17 rfl (lv_at hl 2 rfl) ?_
      refine lv_icmp_ge (tgt := 32) hx hb dX7_knownBehind_18 (by decide) (fun c7 => ?_) (fun c7 => ?_)
      · replace hM := itp c7 hM
        obtain rfl := Option.some.inj hM
        exact hJ15 _ _ hw _ (lv_sub hl [1] rfl)
      · replace hM := itn c7 hM
        refine lv_aload_n hx hb dX7_knownBehind_21 rfl (lv_at hl 1 rfl) ?_
        obtain ⟨q9, h8, hM⟩ := bd hM
        refine rVWp (wc := (wXT g b2 G3 UL5)) (wq := ((wXM g a0 U0 V0 M0 R0 kv (.ref (b2 0))) ++ (wXT g b2 G3 q9.2))) (As := []) (rest := []) (q0 := 0) hS (c_X7_goesRound l g b2 G3 UL5 h8) gX7_knownBehind_X7_goesRound rfl hd_X7_goesRound ⟨Nat.le_of_ble_eq_true rfl, Nat.le_of_ble_eq_true rfl⟩ hK hw hA (pm_2_1 _ _) rfl (pm_2_1 _ _) rfl rfl rfl rfl hl.1 rfl (Nat.le_of_ble_eq_true rfl) dX7_knownBehind_22 ⟨Nat.le_refl _, Nat.le_refl _⟩ (fun H locs hw => ?_)
        refine lv_pop hx hb dX7_knownBehind_25 rfl ?_
        refine lv_iinc (v := (v4_4 + (1 : Int32))) (lv' := [(4, .int (v4_4 + (1 : Int32))), (3, .ref (b2 0)), (2, .int p2)]) hx hb dX7_knownBehind_26 hl (k := 0) rfl rfl (by decide) rfl (fun ls hl => ?_)
        refine lv_goto (tgt := 15) hx hb dX7_knownBehind_29 (by decide) ?_
        exact ih15 (v4_4 + (1 : Int32)) q9.2 hM _ _ hw _ (lv_sub hl [0, 1, 2] rfl)
  exact hW15 300 (0 : Int32) (up (fr0 U0 tp0) 17 (upd ((fr0 U0 tp0) 17) ((0 : Int32)).toNatClampNeg p1)) hL15 _ _ hw _ (lv_sub hl [0, 1, 4] rfl)
theorem hd_X7_dusk : yX7_dusk.cls = RX7 ∧ yX7_dusk.cls ≠ "java/lang/invoke/MethodHandle" ∧ yX7_dusk.cls ≠ "java/lang/invoke/VarHandle" ∧ (parseMethodDescriptor yX7_dusk.desc).map (fun d => d.parameters.length) = some 1 := by decide +kernel
set_option maxHeartbeats 4000000 in
set_option maxRecDepth 100000 in
theorem c_X7_dusk (l : Launch) (g : Gm) (a0 : Nat → Nat) (U0 : TS) (V0 : TS) (M0 : LTS) (R0 : LTS) (kv : Value) (t0 : Tr) (tp0 : Option (Nat → Int32)) (h0 : tpOf t0 = tp0) (p1 : Int32) {q : (Int32 × TS × (Option (Nat → Int32)))} (hM : f_X7_dusk U0 V0 M0 R0 tp0 p1 = some q) : MB l yX7_dusk wsX7_dusk 6 164 g [.ref (a0 0), .int p1] (fun t => (wXM g a0 U0 V0 M0 R0 kv (tvOf t)) ++ wOT g t) t0 (some (.int q.1)) (fun t => (wXM g a0 U0 q.2.1 M0 R0 kv (tvOf t)) ++ wOT g t) q.2.2 := by
  intro sz
  refine Met.ofW (cc := cX7_dusk) (maxL := 2) (ret := (some .int)) (by decide) rfl ?_
  intro p e s m args below meth c s₁ B hml hv
  obtain ⟨rfl, hsz, hP, hK, hD0⟩ := hv
  have hx := B.exec; have hb := B.bytes; have hr := B.returns
  have hts := atoms_spec (ws := wsX7_dusk) B.pre
  have hown : s.vm.findClass RX7 = some m.cls := findClass_of_methodNamed B.named
  have hlocks := B.notSynchronized
  have hS : CallFix p m c cX7_dusk 2 s _ wsX7_dusk RX7 := ⟨hx, hb, hml, hown, hts⟩
  subst hsz
  have hw := wk_start hP hD0
  have hA : ∀ q : Nat, s.heap.size ≤ q → va_A ((wXM g a0 U0 V0 M0 R0 kv (tvOf t0)) ++ (wOT g t0)) s.heap.size q := fun q h => Or.inr h
  generalize va_A ((wXM g a0 U0 V0 M0 R0 kv (tvOf t0)) ++ (wOT g t0)) s.heap.size = A at hw hA ⊢
  clear hP hD0
  have hl := lv_entry ([.ref (a0 0), .int p1]) (n := 2) (Nat.le_of_ble_eq_true rfl)
  rw [lg_entry_eq]
  generalize (lg_sl ([.ref (a0 0), .int p1]) ++ List.replicate (2 - (lg_sl ([.ref (a0 0), .int p1])).length) Slot.unset).toArray = ls at hl ⊢
  have hl : lv_has ls 2 [(0, .ref (a0 0)), (1, .int p1)] := hl
  refine W_nl t0 ?_
  rw [f_X7_dusk] at hM
  refine lv_iload_n hx hb dX7_dusk_0 rfl (lv_at hl 1 rfl) ?_
  refine rSR (wc := ([] : va_W)) (As := [.int p1]) (rest := []) hS (c_X7_isRounds l g p1) gX7_dusk_X7_isRounds rfl hd_X7_isRounds ⟨Nat.le_of_ble_eq_true rfl, Nat.le_of_ble_eq_true rfl⟩ hK (hP_nil) rfl hl.1 rfl (Nat.le_of_ble_eq_true rfl) dX7_dusk_1 ⟨nlc _ _ _, nlc _ _ _⟩ ?_
  refine lv_if_eq (tgt := 23) hx hb dX7_dusk_4 (by decide) (fun c2 => ?_) (fun c2 => ?_)
  · replace hM := itp c2 hM
    refine lv_ldcw (v := (-1000000 : Int32)) hx hb hown (hts _ (mi 1 rfl)) dX7_dusk_23 ?_
    refine lv_aload_n hx hb dX7_dusk_26 rfl (lv_at hl 0 rfl) ?_
    refine lv_bipush (v := (-2 : Int32)) hx hb dX7_dusk_27 (by decide) ?_
    obtain ⟨q4, h3, hM⟩ := bd hM
    refine rVWp (wc := (wXM g a0 U0 V0 M0 R0 kv (tvOf t0))) (wq := ((wXM g a0 U0 q4.2 M0 R0 kv (tvOf t0)) ++ (wOT g t0))) (As := [.int (-2 : Int32)]) (rest := [.int (-1000000 : Int32)]) (q0 := 0) hS (c_X7_refuse l g a0 kv (tvOf t0) U0 V0 M0 R0 (-2 : Int32) h3) gX7_dusk_X7_refuse rfl hd_X7_refuse ⟨Nat.le_of_ble_eq_true rfl, Nat.le_of_ble_eq_true rfl⟩ hK hw hA (pm_2_0 _ _) rfl (pm_2_0 _ _) rfl rfl rfl rfl hl.1 rfl (Nat.le_of_ble_eq_true rfl) dX7_dusk_29 ⟨nlc _ _ _, nlc _ _ _⟩ (fun H locs hw => ?_)
    refine lv_iadd hx hb dX7_dusk_32 ?_
    obtain rfl := Option.some.inj hM
    refine W.widen (k := 28 * nlOf t0) (n := 759 * nlOf t0) (nlc _ _ _) (nlc _ _ _) ?_
    exact W.iret hx hb hr (fun t ht _ => ⟨rfl, ⟨t0, h0, by rw [ht]; exact hw.1, hw.2.1⟩, hw.2.2.F ht⟩) hw.2.2.2.2 dX7_dusk_33
  · replace hM := itn c2 hM
    refine lv_aload_n hx hb dX7_dusk_7 rfl (lv_at hl 0 rfl) ?_
    refine lv_iconst (v := (0 : Int32)) hx hb dX7_dusk_8 (by decide) ?_
    refine lv_iload_n hx hb dX7_dusk_9 rfl (lv_at hl 1 rfl) ?_
    obtain ⟨q6, h5, hM⟩ := bd hM
    obtain ⟨k7, hM⟩ := ck hM
    refine rVB (t0 := t0) (As := [.int (0 : Int32), .int p1]) (rest := []) (hn := (Nat.le_refl _)) hS (c_X7_knownBehind l g a0 U0 V0 M0 R0 kv t0 tp0 h0 (0 : Int32) p1 h5) k7 gX7_dusk_X7_knownBehind rfl hd_X7_knownBehind ⟨Nat.le_of_ble_eq_true rfl, Nat.le_of_ble_eq_true rfl⟩ hK hw hA rfl rfl rfl rfl hl.1 rfl (Nat.le_of_ble_eq_true rfl) dX7_dusk_10 (fun t8 ht9 hn10 H locs hw => ?_)
    have hw : Wk g A s.heap H locs ((wXM g a0 U0 V0 M0 R0 kv (tvOf t8)) ++ (wOT g t8)) := hw
    refine lv_aload_n hx hb dX7_dusk_13 rfl (lv_at hl 0 rfl) ?_
    refine lv_iconst (v := (1 : Int32)) hx hb dX7_dusk_14 (by decide) ?_
    refine lv_iload_n hx hb dX7_dusk_15 rfl (lv_at hl 1 rfl) ?_
    obtain ⟨q12, h11, hM⟩ := bd hM
    obtain ⟨k13, hM⟩ := ck hM
    refine rVB (t0 := t0) (As := [.int (1 : Int32), .int p1]) (rest := [.int q6.1]) (hn := hn10) hS (c_X7_knownBehind l g a0 U0 V0 M0 R0 kv t8 q6.2 ht9 (1 : Int32) p1 h11) k13 gX7_dusk_X7_knownBehind rfl hd_X7_knownBehind ⟨Nat.le_of_ble_eq_true rfl, Nat.le_of_ble_eq_true rfl⟩ hK hw hA rfl rfl rfl rfl hl.1 rfl (Nat.le_of_ble_eq_true rfl) dX7_dusk_16 (fun t14 ht15 hn16 H locs hw => ?_)
    have hw : Wk g A s.heap H locs ((wXM g a0 U0 V0 M0 R0 kv (tvOf t14)) ++ (wOT g t14)) := hw
    refine lv_isub hx hb dX7_dusk_19 ?_
    refine lv_goto (tgt := 33) hx hb dX7_dusk_20 (by decide) ?_
    obtain rfl := Option.some.inj hM
    refine W.widen (k := 28 * nlOf t0) (n := 759 * nlOf t0) (nlc _ _ _) (nlc _ _ _) ?_
    exact W.iret hx hb hr (fun t ht _ => ⟨rfl, ⟨t14, ht15, by rw [ht]; exact hw.1, hw.2.1⟩, hw.2.2.F ht⟩) hw.2.2.2.2 dX7_dusk_33
theorem hd_X7_element : yX7_element.cls = RX7 ∧ yX7_element.cls ≠ "java/lang/invoke/MethodHandle" ∧ yX7_element.cls ≠ "java/lang/invoke/VarHandle" ∧ (parseMethodDescriptor yX7_element.desc).map (fun d => d.parameters.length) = some 2 := by decide +kernel
set_option maxHeartbeats 4000000 in
set_option maxRecDepth 100000 in
theorem c_X7_element (l : Launch) (g : Gm) (a0 : Nat → Nat) (kv : Value) (tv : Value) (U0 : TS) (V0 : TS) (M0 : LTS) (R0 : LTS) (p1 : Int32) (p2 : Int32) {q : Int64} (hM : f_X7_element U0 V0 M0 R0 p1 p2 = some q) : MR l yX7_element wsX7_element 1 25 g [.ref (a0 0), .int p1, .int p2] (wXM g a0 U0 V0 M0 R0 kv tv) (some (.long q)) := by
  refine Met.ofW (cc := cX7_element) (maxL := 3) (ret := (some .long)) (by decide) rfl ?_
  intro p e s m args below meth c s₁ B hml hv
  obtain ⟨rfl, hP, hK⟩ := hv
  have hx := B.exec; have hb := B.bytes; have hr := B.returns
  have hts := atoms_spec (ws := wsX7_element) B.pre
  have hown : s.vm.findClass RX7 = some m.cls := findClass_of_methodNamed B.named
  have hlocks := B.notSynchronized
  have hS : CallFix p m c cX7_element 3 s _ wsX7_element RX7 := ⟨hx, hb, hml, hown, hts⟩
  have hin_X7 : ∀ w ∈ wsX70, w ∈ wsX7_element := fun w h => (List.mem_cons_of_mem _ (List.mem_append_right _ h))
  have hl := lv_entry ([.ref (a0 0), .int p1, .int p2]) (n := 3) (Nat.le_of_ble_eq_true rfl)
  rw [lg_entry_eq]
  generalize (lg_sl ([.ref (a0 0), .int p1, .int p2]) ++ List.replicate (3 - (lg_sl ([.ref (a0 0), .int p1, .int p2])).length) Slot.unset).toArray = ls at hl ⊢
  have hl : lv_has ls 3 [(0, .ref (a0 0)), (1, .int p1), (2, .int p2)] := hl
  rw [f_X7_element] at hM
  refine lv_iload_n hx hb dX7_element_0 rfl (lv_at hl 1 rfl) ?_
  refine lv_i2l (v := ((p1).toInt64)) hx hb dX7_element_1 rfl ?_
  refine lv_lconst (v := (0 : Int64)) hx hb dX7_element_2 (by decide) ?_
  refine lv_ldc2 (v := (7 : Int64)) hx hb hown (hts _ (mi 1 rfl)) dX7_element_3 ?_
  refine rSR (wc := ([] : va_W)) (As := [.long ((p1).toInt64), .long (0 : Int64), .long (7 : Int64)]) (rest := []) hS (c_X7_in l g ((p1).toInt64) (0 : Int64) (7 : Int64)) gX7_element_X7_in rfl hd_X7_in ⟨Nat.le_of_ble_eq_true rfl, Nat.le_of_ble_eq_true rfl⟩ hK (hP_nil) rfl hl.1 rfl (Nat.le_of_ble_eq_true rfl) dX7_element_6 ⟨Nat.zero_le _, Nat.zero_le _⟩ ?_
  refine lv_if_eq (tgt := 51) hx hb dX7_element_9 (by decide) (fun c2 => ?_) (fun c2 => ?_)
  · replace hM := itp c2 hM
    refine lv_lconst (v := (0 : Int64)) hx hb dX7_element_51 (by decide) ?_
    obtain rfl := Option.some.inj hM
    exact W.lret hx hb hr (fun t ht _ => ⟨rfl, ht⟩) (fun q hq => by cases hq) dX7_element_52
  · replace hM := itn c2 hM
    refine lv_aload_n hx hb dX7_element_12 rfl (lv_at hl 0 rfl) ?_
    refine wk_get hx hb hts hin_X7 hown hK hP 7 0 0 (.ref (a0 9)) rfl rfl (by decide) (mi 2 rfl) rfl rfl dX7_element_13 ?_
    refine lv_iload_n hx hb dX7_element_16 rfl (lv_at hl 1 rfl) ?_
    obtain ⟨k3, hM⟩ := ck hM
    refine wk_iald hx hb hK hP 9 8 (V0 0) rfl k3 dX7_element_17 ?_
    refine lv_iconst (v := (1 : Int32)) hx hb dX7_element_18 (by decide) ?_
    refine lv_icmp_ne (tgt := 51) hx hb dX7_element_19 (by decide) (fun c4 => ?_) (fun c4 => ?_)
    · replace hM := itn c4 hM
      refine lv_lconst (v := (0 : Int64)) hx hb dX7_element_51 (by decide) ?_
      obtain rfl := Option.some.inj hM
      exact W.lret hx hb hr (fun t ht _ => ⟨rfl, ht⟩) (fun q hq => by cases hq) dX7_element_52
    · replace hM := itp c4 hM
      refine lv_iload_n hx hb dX7_element_22 rfl (lv_at hl 2 rfl) ?_
      refine lv_i2l (v := ((p2).toInt64)) hx hb dX7_element_23 rfl ?_
      refine lv_lconst (v := (0 : Int64)) hx hb dX7_element_24 (by decide) ?_
      refine lv_aload_n hx hb dX7_element_25 rfl (lv_at hl 0 rfl) ?_
      refine wk_get hx hb hts hin_X7 hown hK hP 7 0 2 (.ref (a0 11)) rfl rfl (by decide) (mi 3 rfl) rfl rfl dX7_element_26 ?_
      refine lv_iload_n hx hb dX7_element_29 rfl (lv_at hl 1 rfl) ?_
      refine wk_iald hx hb hK hP 11 8 (V0 2) rfl k3 dX7_element_30 ?_
      refine lv_iconst (v := (1 : Int32)) hx hb dX7_element_31 (by decide) ?_
      refine lv_isub hx hb dX7_element_32 ?_
      refine lv_i2l (v := (((((V0 2) (p1).toNatClampNeg) - (1 : Int32))).toInt64)) hx hb dX7_element_33 rfl ?_
      refine rSR (wc := ([] : va_W)) (As := [.long ((p2).toInt64), .long (0 : Int64), .long (((((V0 2) (p1).toNatClampNeg) - (1 : Int32))).toInt64)]) (rest := []) hS (c_X7_in l g ((p2).toInt64) (0 : Int64) (((((V0 2) (p1).toNatClampNeg) - (1 : Int32))).toInt64)) gX7_element_X7_in rfl hd_X7_in ⟨Nat.le_of_ble_eq_true rfl, Nat.le_of_ble_eq_true rfl⟩ hK (hP_nil) rfl hl.1 rfl (Nat.le_of_ble_eq_true rfl) dX7_element_34 ⟨Nat.zero_le _, Nat.zero_le _⟩ ?_
      refine lv_if_eq (tgt := 51) hx hb dX7_element_37 (by decide) (fun c6 => ?_) (fun c6 => ?_)
      · replace hM := itp c6 hM
        refine lv_lconst (v := (0 : Int64)) hx hb dX7_element_51 (by decide) ?_
        obtain rfl := Option.some.inj hM
        exact W.lret hx hb hr (fun t ht _ => ⟨rfl, ht⟩) (fun q hq => by cases hq) dX7_element_52
      · replace hM := itn c6 hM
        refine lv_aload_n hx hb dX7_element_40 rfl (lv_at hl 0 rfl) ?_
        refine wk_get hx hb hts hin_X7 hown hK hP 7 0 3 (.ref (a0 12)) rfl rfl (by decide) (mi 4 rfl) rfl rfl dX7_element_41 ?_
        refine lv_iload_n hx hb dX7_element_44 rfl (lv_at hl 1 rfl) ?_
        refine wk_aald hx hb hK hP 12 8 (fun i => a0 (20 + i)) 3 rfl (k3) rfl rfl dX7_element_45 ?_
        refine lv_iload_n hx hb dX7_element_46 rfl (lv_at hl 2 rfl) ?_
        obtain ⟨k7, hM⟩ := ck hM
        refine wk_lald hx hb hK hP (20 + (p1).toNatClampNeg) 40 (R0 (p1).toNatClampNeg) (wXM_row (Nat.lt_of_not_le (fun z => k3 (Or.inr z)))) k7 dX7_element_47 ?_
        refine lv_goto (tgt := 52) hx hb dX7_element_48 (by decide) ?_
        obtain rfl := Option.some.inj hM
        exact W.lret hx hb hr (fun t ht _ => ⟨rfl, ht⟩) (fun q hq => by cases hq) dX7_element_52
theorem hd_X7_noRow : yX7_noRow.cls = RX7 ∧ yX7_noRow.cls ≠ "java/lang/invoke/MethodHandle" ∧ yX7_noRow.cls ≠ "java/lang/invoke/VarHandle" ∧ (parseMethodDescriptor yX7_noRow.desc).map (fun d => d.parameters.length) = some 1 := by decide +kernel
set_option maxHeartbeats 4000000 in
set_option maxRecDepth 100000 in
theorem c_X7_noRow (l : Launch) (g : Gm) (a0 : Nat → Nat) (kv : Value) (tv : Value) (U0 : TS) (V0 : TS) (M0 : LTS) (R0 : LTS) (p1 : Int32) {q : (Int32 × TS)} (hM : f_X7_noRow U0 V0 M0 R0 p1 = some q) : MW l yX7_noRow wsX7_noRow 1 25 g [.ref (a0 0), .int p1] (wXM g a0 U0 V0 M0 R0 kv tv) (some (.int q.1)) (wXM g a0 U0 q.2 M0 R0 kv tv) := by
  intro sz
  refine Met.ofW (cc := cX7_noRow) (maxL := 2) (ret := (some .int)) (by decide) rfl ?_
  intro p e s m args below meth c s₁ B hml hv
  obtain ⟨rfl, hsz, hP, hK, hD0⟩ := hv
  have hx := B.exec; have hb := B.bytes; have hr := B.returns
  have hts := atoms_spec (ws := wsX7_noRow) B.pre
  have hown : s.vm.findClass RX7 = some m.cls := findClass_of_methodNamed B.named
  have hlocks := B.notSynchronized
  have hS : CallFix p m c cX7_noRow 2 s _ wsX7_noRow RX7 := ⟨hx, hb, hml, hown, hts⟩
  have hin_X7 : ∀ w ∈ wsX70, w ∈ wsX7_noRow := fun w h => (List.mem_cons_of_mem _ (List.mem_append_right _ h))
  subst hsz
  have hw := wk_start hP hD0
  have hA : ∀ q : Nat, s.heap.size ≤ q → va_A (wXM g a0 U0 V0 M0 R0 kv tv) s.heap.size q := fun q h => Or.inr h
  generalize va_A (wXM g a0 U0 V0 M0 R0 kv tv) s.heap.size = A at hw hA ⊢
  clear hP hD0
  have hl := lv_entry ([.ref (a0 0), .int p1]) (n := 2) (Nat.le_of_ble_eq_true rfl)
  rw [lg_entry_eq]
  generalize (lg_sl ([.ref (a0 0), .int p1]) ++ List.replicate (2 - (lg_sl ([.ref (a0 0), .int p1])).length) Slot.unset).toArray = ls at hl ⊢
  have hl : lv_has ls 2 [(0, .ref (a0 0)), (1, .int p1)] := hl
  rw [f_X7_noRow] at hM
  refine lv_iload_n hx hb dX7_noRow_0 rfl (lv_at hl 1 rfl) ?_
  refine lv_i2l (v := ((p1).toInt64)) hx hb dX7_noRow_1 rfl ?_
  refine lv_lconst (v := (0 : Int64)) hx hb dX7_noRow_2 (by decide) ?_
  refine lv_ldc2 (v := (7 : Int64)) hx hb hown (hts _ (mi 1 rfl)) dX7_noRow_3 ?_
  refine rSR (wc := ([] : va_W)) (As := [.long ((p1).toInt64), .long (0 : Int64), .long (7 : Int64)]) (rest := []) hS (c_X7_in l g ((p1).toInt64) (0 : Int64) (7 : Int64)) gX7_noRow_X7_in rfl hd_X7_in ⟨Nat.le_of_ble_eq_true rfl, Nat.le_of_ble_eq_true rfl⟩ hK (hP_nil) rfl hl.1 rfl (Nat.le_of_ble_eq_true rfl) dX7_noRow_6 ⟨Nat.zero_le _, Nat.zero_le _⟩ ?_
  refine lv_if_ne (tgt := 19) hx hb dX7_noRow_9 (by decide) (fun c2 => ?_) (fun c2 => ?_)
  · replace hM := itn c2 hM
    refine lv_aload_n hx hb dX7_noRow_19 rfl (lv_at hl 0 rfl) ?_
    refine wk_get hx hb hts hin_X7 hown hK hw.1 7 0 0 (.ref (a0 9)) rfl rfl (by decide) (mi 2 rfl) rfl rfl dX7_noRow_20 ?_
    refine lv_iload_n hx hb dX7_noRow_23 rfl (lv_at hl 1 rfl) ?_
    obtain ⟨k5, hM⟩ := ck hM
    refine wk_iald hx hb hK hw.1 9 8 (V0 0) rfl k5 dX7_noRow_24 ?_
    refine lv_iconst (v := (2 : Int32)) hx hb dX7_noRow_25 (by decide) ?_
    refine lv_icmp_ne (tgt := 36) hx hb dX7_noRow_26 (by decide) (fun c6 => ?_) (fun c6 => ?_)
    · replace hM := itn c6 hM
      refine lv_aload_n hx hb dX7_noRow_36 rfl (lv_at hl 0 rfl) ?_
      refine wk_get hx hb hts hin_X7 hown hK hw.1 7 0 0 (.ref (a0 9)) rfl rfl (by decide) (mi 2 rfl) rfl rfl dX7_noRow_37 ?_
      refine lv_iload_n hx hb dX7_noRow_40 rfl (lv_at hl 1 rfl) ?_
      refine wk_iald hx hb hK hw.1 9 8 (V0 0) rfl k5 dX7_noRow_41 ?_
      refine lv_if_ne (tgt := 54) hx hb dX7_noRow_42 (by decide) (fun c9 => ?_) (fun c9 => ?_)
      · replace hM := itn c9 hM
        refine lv_iconst (v := (0 : Int32)) hx hb dX7_noRow_54 (by decide) ?_
        obtain rfl := Option.some.inj hM
        exact W.iret hx hb hr (fun t ht _ => ⟨rfl, by rw [ht]; exact hw.1, hw.2.2.F ht⟩) hw.2.2.2.2 dX7_noRow_55
      · replace hM := itp c9 hM
        refine lv_aload_n hx hb dX7_noRow_45 rfl (lv_at hl 0 rfl) ?_
        refine lv_bipush (v := (-4 : Int32)) hx hb dX7_noRow_46 (by decide) ?_
        obtain ⟨q11, h10, hM⟩ := bd hM
        refine rVWp (wc := (wXM g a0 U0 V0 M0 R0 kv tv)) (wq := (wXM g a0 U0 q11.2 M0 R0 kv tv)) (As := [.int (-4 : Int32)]) (rest := []) (q0 := 0) hS (c_X7_refuse l g a0 kv tv U0 V0 M0 R0 (-4 : Int32) h10) gX7_noRow_X7_refuse rfl hd_X7_refuse ⟨Nat.le_of_ble_eq_true rfl, Nat.le_of_ble_eq_true rfl⟩ hK hw hA (pm_1_0 _) rfl (pm_1_0 _) rfl rfl rfl rfl hl.1 rfl (Nat.le_of_ble_eq_true rfl) dX7_noRow_48 ⟨Nat.zero_le _, Nat.zero_le _⟩ (fun H locs hw => ?_)
        refine lv_goto (tgt := 55) hx hb dX7_noRow_51 (by decide) ?_
        obtain rfl := Option.some.inj hM
        exact W.iret hx hb hr (fun t ht _ => ⟨rfl, by rw [ht]; exact hw.1, hw.2.2.F ht⟩) hw.2.2.2.2 dX7_noRow_55
    · replace hM := itp c6 hM
      refine lv_aload_n hx hb dX7_noRow_29 rfl (lv_at hl 0 rfl) ?_
      refine lv_bipush (v := (-3 : Int32)) hx hb dX7_noRow_30 (by decide) ?_
      obtain ⟨q8, h7, hM⟩ := bd hM
      refine rVWp (wc := (wXM g a0 U0 V0 M0 R0 kv tv)) (wq := (wXM g a0 U0 q8.2 M0 R0 kv tv)) (As := [.int (-3 : Int32)]) (rest := []) (q0 := 0) hS (c_X7_refuse l g a0 kv tv U0 V0 M0 R0 (-3 : Int32) h7) gX7_noRow_X7_refuse rfl hd_X7_refuse ⟨Nat.le_of_ble_eq_true rfl, Nat.le_of_ble_eq_true rfl⟩ hK hw hA (pm_1_0 _) rfl (pm_1_0 _) rfl rfl rfl rfl hl.1 rfl (Nat.le_of_ble_eq_true rfl) dX7_noRow_32 ⟨Nat.zero_le _, Nat.zero_le _⟩ (fun H locs hw => ?_)
      obtain rfl := Option.some.inj hM
      exact W.iret hx hb hr (fun t ht _ => ⟨rfl, by rw [ht]; exact hw.1, hw.2.2.F ht⟩) hw.2.2.2.2 dX7_noRow_35
  · replace hM := itp c2 hM
    refine lv_aload_n hx hb dX7_noRow_12 rfl (lv_at hl 0 rfl) ?_
    refine lv_bipush (v := (-2 : Int32)) hx hb dX7_noRow_13 (by decide) ?_
    obtain ⟨q4, h3, hM⟩ := bd hM
    refine rVWp (wc := (wXM g a0 U0 V0 M0 R0 kv tv)) (wq := (wXM g a0 U0 q4.2 M0 R0 kv tv)) (As := [.int (-2 : Int32)]) (rest := []) (q0 := 0) hS (c_X7_refuse l g a0 kv tv U0 V0 M0 R0 (-2 : Int32) h3) gX7_noRow_X7_refuse rfl hd_X7_refuse ⟨Nat.le_of_ble_eq_true rfl, Nat.le_of_ble_eq_true rfl⟩ hK hw hA (pm_1_0 _) rfl (pm_1_0 _) rfl rfl rfl rfl hl.1 rfl (Nat.le_of_ble_eq_true rfl) dX7_noRow_15 ⟨Nat.zero_le _, Nat.zero_le _⟩ (fun H locs hw => ?_)
    obtain rfl := Option.some.inj hM
    exact W.iret hx hb hr (fun t ht _ => ⟨rfl, by rw [ht]; exact hw.1, hw.2.2.F ht⟩) hw.2.2.2.2 dX7_noRow_18
theorem hd_X7_noEvening : yX7_noEvening.cls = RX7 ∧ yX7_noEvening.cls ≠ "java/lang/invoke/MethodHandle" ∧ yX7_noEvening.cls ≠ "java/lang/invoke/VarHandle" ∧ (parseMethodDescriptor yX7_noEvening.desc).map (fun d => d.parameters.length) = some 2 := by decide +kernel
set_option maxHeartbeats 4000000 in
set_option maxRecDepth 100000 in
theorem c_X7_noEvening (l : Launch) (g : Gm) (a0 : Nat → Nat) (kv : Value) (tv : Value) (U0 : TS) (V0 : TS) (M0 : LTS) (R0 : LTS) (p1 : Int32) (p2 : Int32) {q : (Int32 × TS)} (hM : f_X7_noEvening U0 V0 M0 R0 p1 p2 = some q) : MW l yX7_noEvening wsX7_noEvening 2 46 g [.ref (a0 0), .int p1, .int p2] (wXM g a0 U0 V0 M0 R0 kv tv) (some (.int q.1)) (wXM g a0 U0 q.2 M0 R0 kv tv) := by
  intro sz
  refine Met.ofW (cc := cX7_noEvening) (maxL := 4) (ret := (some .int)) (by decide) rfl ?_
  intro p e s m args below meth c s₁ B hml hv
  obtain ⟨rfl, hsz, hP, hK, hD0⟩ := hv
  have hx := B.exec; have hb := B.bytes; have hr := B.returns
  have hts := atoms_spec (ws := wsX7_noEvening) B.pre
  have hown : s.vm.findClass RX7 = some m.cls := findClass_of_methodNamed B.named
  have hlocks := B.notSynchronized
  have hS : CallFix p m c cX7_noEvening 4 s _ wsX7_noEvening RX7 := ⟨hx, hb, hml, hown, hts⟩
  have hin_X7 : ∀ w ∈ wsX70, w ∈ wsX7_noEvening := fun w h => (List.mem_cons_of_mem _ (List.mem_append_right _ h))
  subst hsz
  have hw := wk_start hP hD0
  have hA : ∀ q : Nat, s.heap.size ≤ q → va_A (wXM g a0 U0 V0 M0 R0 kv tv) s.heap.size q := fun q h => Or.inr h
  generalize va_A (wXM g a0 U0 V0 M0 R0 kv tv) s.heap.size = A at hw hA ⊢
  clear hP hD0
  have hl := lv_entry ([.ref (a0 0), .int p1, .int p2]) (n := 4) (Nat.le_of_ble_eq_true rfl)
  rw [lg_entry_eq]
  generalize (lg_sl ([.ref (a0 0), .int p1, .int p2]) ++ List.replicate (4 - (lg_sl ([.ref (a0 0), .int p1, .int p2])).length) Slot.unset).toArray = ls at hl ⊢
  have hl : lv_has ls 4 [(0, .ref (a0 0)), (1, .int p1), (2, .int p2)] := hl
  rw [f_X7_noEvening] at hM
  refine lv_iload_n hx hb dX7_noEvening_0 rfl (lv_at hl 1 rfl) ?_
  refine lv_i2l (v := ((p1).toInt64)) hx hb dX7_noEvening_1 rfl ?_
  refine lv_lconst (v := (0 : Int64)) hx hb dX7_noEvening_2 (by decide) ?_
  refine lv_ldc2 (v := (7 : Int64)) hx hb hown (hts _ (mi 1 rfl)) dX7_noEvening_3 ?_
  refine rSR (wc := ([] : va_W)) (As := [.long ((p1).toInt64), .long (0 : Int64), .long (7 : Int64)]) (rest := []) hS (c_X7_in l g ((p1).toInt64) (0 : Int64) (7 : Int64)) gX7_noEvening_X7_in rfl hd_X7_in ⟨Nat.le_of_ble_eq_true rfl, Nat.le_of_ble_eq_true rfl⟩ hK (hP_nil) rfl hl.1 rfl (Nat.le_of_ble_eq_true rfl) dX7_noEvening_6 ⟨Nat.zero_le _, Nat.zero_le _⟩ ?_
  refine lv_if_eq (tgt := 24) hx hb dX7_noEvening_9 (by decide) (fun c2 => ?_) (fun c2 => ?_)
  · replace hM := itp c2 hM
    refine lv_aload_n hx hb dX7_noEvening_24 rfl (lv_at hl 0 rfl) ?_
    refine lv_bipush (v := (-2 : Int32)) hx hb dX7_noEvening_25 (by decide) ?_
    obtain ⟨q4, h3, hM⟩ := bd hM
    refine rVWp (wc := (wXM g a0 U0 V0 M0 R0 kv tv)) (wq := (wXM g a0 U0 q4.2 M0 R0 kv tv)) (As := [.int (-2 : Int32)]) (rest := []) (q0 := 0) hS (c_X7_refuse l g a0 kv tv U0 V0 M0 R0 (-2 : Int32) h3) gX7_noEvening_X7_refuse rfl hd_X7_refuse ⟨Nat.le_of_ble_eq_true rfl, Nat.le_of_ble_eq_true rfl⟩ hK hw hA (pm_1_0 _) rfl (pm_1_0 _) rfl rfl rfl rfl hl.1 rfl (Nat.le_of_ble_eq_true rfl) dX7_noEvening_27 ⟨Nat.zero_le _, Nat.zero_le _⟩ (fun H locs hw => ?_)
    obtain rfl := Option.some.inj hM
    exact W.iret hx hb hr (fun t ht _ => ⟨rfl, by rw [ht]; exact hw.1, hw.2.2.F ht⟩) hw.2.2.2.2 dX7_noEvening_30
  · replace hM := itn c2 hM
    refine lv_iload_n hx hb dX7_noEvening_12 rfl (lv_at hl 2 rfl) ?_
    refine lv_i2l (v := ((p2).toInt64)) hx hb dX7_noEvening_13 rfl ?_
    refine lv_lconst (v := (0 : Int64)) hx hb dX7_noEvening_14 (by decide) ?_
    refine lv_ldc2 (v := (40 : Int64)) hx hb hown (hts _ (mi 2 rfl)) dX7_noEvening_15 ?_
    refine rSR (wc := ([] : va_W)) (As := [.long ((p2).toInt64), .long (0 : Int64), .long (40 : Int64)]) (rest := []) hS (c_X7_in l g ((p2).toInt64) (0 : Int64) (40 : Int64)) gX7_noEvening_X7_in rfl hd_X7_in ⟨Nat.le_of_ble_eq_true rfl, Nat.le_of_ble_eq_true rfl⟩ hK (hP_nil) rfl hl.1 rfl (Nat.le_of_ble_eq_true rfl) dX7_noEvening_18 ⟨Nat.zero_le _, Nat.zero_le _⟩ ?_
    refine lv_if_ne (tgt := 31) hx hb dX7_noEvening_21 (by decide) (fun c6 => ?_) (fun c6 => ?_)
    · replace hM := itn c6 hM
      refine lv_aload_n hx hb dX7_noEvening_31 rfl (lv_at hl 0 rfl) ?_
      refine lv_iload_n hx hb dX7_noEvening_32 rfl (lv_at hl 1 rfl) ?_
      obtain ⟨q10, h9, hM⟩ := bd hM
      refine rVWp (wc := (wXM g a0 U0 V0 M0 R0 kv tv)) (wq := (wXM g a0 U0 q10.2 M0 R0 kv tv)) (As := [.int p1]) (rest := []) (q0 := 0) hS (c_X7_noRow l g a0 kv tv U0 V0 M0 R0 p1 h9) gX7_noEvening_X7_noRow rfl hd_X7_noRow ⟨Nat.le_of_ble_eq_true rfl, Nat.le_of_ble_eq_true rfl⟩ hK hw hA (pm_1_0 _) rfl (pm_1_0 _) rfl rfl rfl rfl hl.1 rfl (Nat.le_of_ble_eq_true rfl) dX7_noEvening_33 ⟨Nat.zero_le _, Nat.zero_le _⟩ (fun H locs hw => ?_)
      refine lv_istore_n (lv' := [(3, .int q10.1), (0, .ref (a0 0)), (1, .int p1), (2, .int p2)]) hx hb dX7_noEvening_36 rfl hl (by decide) rfl (fun ls hl => ?_)
      refine lv_iload_n hx hb dX7_noEvening_37 rfl (lv_at hl 0 rfl) ?_
      refine lv_if_eq (tgt := 43) hx hb dX7_noEvening_38 (by decide) (fun c11 => ?_) (fun c11 => ?_)
      · replace hM := itp c11 hM
        refine lv_aload_n hx hb dX7_noEvening_43 rfl (lv_at hl 1 rfl) ?_
        refine wk_get hx hb hts hin_X7 hown hK hw.1 7 0 2 (.ref (a0 11)) rfl rfl (by decide) (mi 3 rfl) rfl rfl dX7_noEvening_44 ?_
        refine lv_iload_n hx hb dX7_noEvening_47 rfl (lv_at hl 2 rfl) ?_
        obtain ⟨k12, hM⟩ := ck hM
        refine wk_iald hx hb hK hw.1 11 8 (q10.2 2) rfl k12 dX7_noEvening_48 ?_
        refine lv_iload_n hx hb dX7_noEvening_49 rfl (lv_at hl 3 rfl) ?_
        refine lv_icmp_ge (tgt := 62) hx hb dX7_noEvening_50 (by decide) (fun c13 => ?_) (fun c13 => ?_)
        · replace hM := itp c13 hM
          refine lv_iconst (v := (0 : Int32)) hx hb dX7_noEvening_62 (by decide) ?_
          obtain rfl := Option.some.inj hM
          exact W.iret hx hb hr (fun t ht _ => ⟨rfl, by rw [ht]; exact hw.1, hw.2.2.F ht⟩) hw.2.2.2.2 dX7_noEvening_63
        · replace hM := itn c13 hM
          refine lv_aload_n hx hb dX7_noEvening_53 rfl (lv_at hl 1 rfl) ?_
          refine lv_bipush (v := (-2 : Int32)) hx hb dX7_noEvening_54 (by decide) ?_
          obtain ⟨q15, h14, hM⟩ := bd hM
          refine rVWp (wc := (wXM g a0 U0 q10.2 M0 R0 kv tv)) (wq := (wXM g a0 U0 q15.2 M0 R0 kv tv)) (As := [.int (-2 : Int32)]) (rest := []) (q0 := 0) hS (c_X7_refuse l g a0 kv tv U0 q10.2 M0 R0 (-2 : Int32) h14) gX7_noEvening_X7_refuse rfl hd_X7_refuse ⟨Nat.le_of_ble_eq_true rfl, Nat.le_of_ble_eq_true rfl⟩ hK hw hA (pm_1_0 _) rfl (pm_1_0 _) rfl rfl rfl rfl hl.1 rfl (Nat.le_of_ble_eq_true rfl) dX7_noEvening_56 ⟨Nat.zero_le _, Nat.zero_le _⟩ (fun H locs hw => ?_)
          refine lv_goto (tgt := 63) hx hb dX7_noEvening_59 (by decide) ?_
          obtain rfl := Option.some.inj hM
          exact W.iret hx hb hr (fun t ht _ => ⟨rfl, by rw [ht]; exact hw.1, hw.2.2.F ht⟩) hw.2.2.2.2 dX7_noEvening_63
      · replace hM := itn c11 hM
        refine lv_iload_n hx hb dX7_noEvening_41 rfl (lv_at hl 0 rfl) ?_
        obtain rfl := Option.some.inj hM
        exact W.iret hx hb hr (fun t ht _ => ⟨rfl, by rw [ht]; exact hw.1, hw.2.2.F ht⟩) hw.2.2.2.2 dX7_noEvening_42
    · replace hM := itp c6 hM
      refine lv_aload_n hx hb dX7_noEvening_24 rfl (lv_at hl 0 rfl) ?_
      refine lv_bipush (v := (-2 : Int32)) hx hb dX7_noEvening_25 (by decide) ?_
      obtain ⟨q8, h7, hM⟩ := bd hM
      refine rVWp (wc := (wXM g a0 U0 V0 M0 R0 kv tv)) (wq := (wXM g a0 U0 q8.2 M0 R0 kv tv)) (As := [.int (-2 : Int32)]) (rest := []) (q0 := 0) hS (c_X7_refuse l g a0 kv tv U0 V0 M0 R0 (-2 : Int32) h7) gX7_noEvening_X7_refuse rfl hd_X7_refuse ⟨Nat.le_of_ble_eq_true rfl, Nat.le_of_ble_eq_true rfl⟩ hK hw hA (pm_1_0 _) rfl (pm_1_0 _) rfl rfl rfl rfl hl.1 rfl (Nat.le_of_ble_eq_true rfl) dX7_noEvening_27 ⟨Nat.zero_le _, Nat.zero_le _⟩ (fun H locs hw => ?_)
      obtain rfl := Option.some.inj hM
      exact W.iret hx hb hr (fun t ht _ => ⟨rfl, by rw [ht]; exact hw.1, hw.2.2.F ht⟩) hw.2.2.2.2 dX7_noEvening_30
theorem hd_X7_isSaying : yX7_isSaying.cls = RX7 ∧ yX7_isSaying.cls ≠ "java/lang/invoke/MethodHandle" ∧ yX7_isSaying.cls ≠ "java/lang/invoke/VarHandle" ∧ (parseMethodDescriptor yX7_isSaying.desc).map (fun d => d.parameters.length) = some 1 := by decide +kernel
set_option maxHeartbeats 4000000 in
set_option maxRecDepth 100000 in
theorem c_X7_isSaying (l : Launch) (g : Gm) (a0 : Nat → Nat) (Fw0 : Nat → Value) (U0 : TS) (p1 : Int64) : MR l yX7_isSaying wsX7_isSaying 0 0 g [.ref (a0 0), .long p1] (wXT g a0 Fw0 U0) (some (.int (f_X7_isSaying U0 p1))) := by
  refine Met.ofW (cc := cX7_isSaying) (maxL := 3) (ret := (some .boolean)) (by decide) rfl ?_
  intro p e s m args below meth c s₁ B hml hv
  obtain ⟨rfl, hP, hK⟩ := hv
  have hx := B.exec; have hb := B.bytes; have hr := B.returns
  have hts := atoms_spec (ws := wsX7_isSaying) B.pre
  have hown : s.vm.findClass RX7 = some m.cls := findClass_of_methodNamed B.named
  have hlocks := B.notSynchronized
  have hS : CallFix p m c cX7_isSaying 3 s _ wsX7_isSaying RX7 := ⟨hx, hb, hml, hown, hts⟩
  have hin_X7 : ∀ w ∈ wsX70, w ∈ wsX7_isSaying := fun w h => (List.mem_cons_of_mem _ (List.mem_append_right _ h))
  have hl := lv_entry ([.ref (a0 0), .long p1]) (n := 3) (Nat.le_of_ble_eq_true rfl)
  rw [lg_entry_eq]
  generalize (lg_sl ([.ref (a0 0), .long p1]) ++ List.replicate (3 - (lg_sl ([.ref (a0 0), .long p1])).length) Slot.unset).toArray = ls at hl ⊢
  have hl : lv_has ls 3 [(0, .ref (a0 0)), (1, .long p1)] := hl
  obtain ⟨rr, hM⟩ : ∃ rr, f_X7_isSaying U0 p1 = rr := ⟨_, rfl⟩
  rw [hM]
  rw [f_X7_isSaying] at hM
  refine lv_lload_n hx hb dX7_isSaying_0 rfl (lv_at hl 1 rfl) ?_
  refine lv_lconst (v := (0 : Int64)) hx hb dX7_isSaying_1 (by decide) ?_
  refine W.lcmp hx hb dX7_isSaying_2 ?_
  have hJ9 : ∀ (x8 : Int32) (ls : Array Slot), x8 = (if (lg_cmp p1 (0 : Int64)) < 0 then (0 : Int32) else (if 0 ≤ (lg_cmp (p1 / (10 : Int64)) (((U0 10 0)).toInt64)) then (0 : Int32) else (if 0 ≤ (lg_cmp (p1 - p1 / (10 : Int64) * (10 : Int64)) (((U0 9 0)).toInt64)) then (0 : Int32) else (1 : Int32)))) → lv_has ls 3 [] → W p l e (headSpec wsX7_isSaying ({ frames := 0, cells := 0, slots := 0, locals := 0 } : Room)).room s m ([.ref (a0 0), .long p1] : List Value).toArray below meth c s.heap [] 0 0 (MQ below (QcR (some (.int rr))) ([.ref (a0 0), .long p1] : List Value).toArray s 0 0 (fun _ => False)) (F0 m 39 ls [.int x8]) := by
    intro x8 ls hxx8 hl
    subst hxx8
    subst hM
    exact W.zret hx hb hr (nz (by repeat (first | exact Or.inl rfl | exact Or.inr rfl | split))) (fun t ht _ => ⟨rfl, ht⟩) (fun q hq => by cases hq) dX7_isSaying_39
  refine lv_if_lt (tgt := 38) hx hb dX7_isSaying_3 (by decide) (fun c1 => ?_) (fun c1 => ?_)
  · refine lv_iconst (v := (0 : Int32)) hx hb dX7_isSaying_38 (by decide) ?_
    exact hJ9 _ _ (by first | with_reducible rfl | (simp only [if_pos c1]) | rfl) (lv_sub hl [] rfl)
  · refine lv_lload_n hx hb dX7_isSaying_6 rfl (lv_at hl 1 rfl) ?_
    refine lv_ldc2 (v := (10 : Int64)) hx hb hown (hts _ (mi 1 rfl)) dX7_isSaying_7 ?_
    refine lv_ldiv hx hb dX7_isSaying_10 (by decide) ?_
    refine lv_aload_n hx hb dX7_isSaying_11 rfl (lv_at hl 0 rfl) ?_
    refine wk_get hx hb hts hin_X7 hown hK hP 7 0 10 (.int (U0 10 0)) rfl rfl (by decide) (mi 2 rfl) rfl rfl dX7_isSaying_12 ?_
    refine lv_i2l (v := (((U0 10 0)).toInt64)) hx hb dX7_isSaying_15 rfl ?_
    refine W.lcmp hx hb dX7_isSaying_16 ?_
    refine lv_if_ge (tgt := 38) hx hb dX7_isSaying_17 (by decide) (fun c2 => ?_) (fun c2 => ?_)
    · refine lv_iconst (v := (0 : Int32)) hx hb dX7_isSaying_38 (by decide) ?_
      exact hJ9 _ _ (by first | with_reducible rfl | (simp only [if_neg c1, if_pos c2]) | rfl) (lv_sub hl [] rfl)
    · refine lv_lload_n hx hb dX7_isSaying_20 rfl (lv_at hl 1 rfl) ?_
      refine lv_ldc2 (v := (10 : Int64)) hx hb hown (hts _ (mi 1 rfl)) dX7_isSaying_21 ?_
      refine lv_lrem hx hb dX7_isSaying_24 (by decide) ?_
      refine lv_aload_n hx hb dX7_isSaying_25 rfl (lv_at hl 0 rfl) ?_
      refine wk_get hx hb hts hin_X7 hown hK hP 7 0 9 (.int (U0 9 0)) rfl rfl (by decide) (mi 3 rfl) rfl rfl dX7_isSaying_26 ?_
      refine lv_i2l (v := (((U0 9 0)).toInt64)) hx hb dX7_isSaying_29 rfl ?_
      refine W.lcmp hx hb dX7_isSaying_30 ?_
      refine lv_if_ge (tgt := 38) hx hb dX7_isSaying_31 (by decide) (fun c3 => ?_) (fun c3 => ?_)
      · refine lv_iconst (v := (0 : Int32)) hx hb dX7_isSaying_38 (by decide) ?_
        exact hJ9 _ _ (by first | with_reducible rfl | (simp only [if_neg c1, if_neg c2, if_pos c3]) | rfl) (lv_sub hl [] rfl)
      · refine lv_iconst (v := (1 : Int32)) hx hb dX7_isSaying_34 (by decide) ?_
        refine lv_goto (tgt := 39) hx hb dX7_isSaying_35 (by decide) ?_
        exact hJ9 _ _ (by first | with_reducible rfl | (simp only [if_neg c1, if_neg c2, if_neg c3]) | rfl) (lv_sub hl [] rfl)
theorem hd_X7_goesBy : yX7_goesBy.cls = RX7 ∧ yX7_goesBy.cls ≠ "java/lang/invoke/MethodHandle" ∧ yX7_goesBy.cls ≠ "java/lang/invoke/VarHandle" ∧ (parseMethodDescriptor yX7_goesBy.desc).map (fun d => d.parameters.length) = some 2 := by decide +kernel
set_option maxHeartbeats 4000000 in
set_option maxRecDepth 100000 in
theorem c_X7_goesBy (l : Launch) (g : Gm) (a0 : Nat → Nat) (a1 : Nat → Nat) (Fw0 : Nat → Value) (U0 : TS) (Y1 : LTS) (p2 : Int32) {q : (Int32 × TS)} (hM : f_X7_goesBy U0 Y1 p2 = some q) : MW l yX7_goesBy wsX7_goesBy 2 46 g [.ref (a0 0), .ref (a1 0), .int p2] ((wXT g a0 Fw0 U0) ++ (wAL g a1 Y1)) (some (.int q.1)) ((wXT g a0 Fw0 q.2) ++ (wAL g a1 Y1)) := by
  intro sz
  refine Met.ofW (cc := cX7_goesBy) (maxL := 4) (ret := (some .int)) (by decide) rfl ?_
  intro p e s m args below meth c s₁ B hml hv
  obtain ⟨rfl, hsz, hP, hK, hD0⟩ := hv
  have hx := B.exec; have hb := B.bytes; have hr := B.returns
  have hts := atoms_spec (ws := wsX7_goesBy) B.pre
  have hown : s.vm.findClass RX7 = some m.cls := findClass_of_methodNamed B.named
  have hlocks := B.notSynchronized
  have hS : CallFix p m c cX7_goesBy 4 s _ wsX7_goesBy RX7 := ⟨hx, hb, hml, hown, hts⟩
  subst hsz
  have hw := wk_start hP hD0
  have hA : ∀ q : Nat, s.heap.size ≤ q → va_A ((wXT g a0 Fw0 U0) ++ (wAL g a1 Y1)) s.heap.size q := fun q h => Or.inr h
  generalize va_A ((wXT g a0 Fw0 U0) ++ (wAL g a1 Y1)) s.heap.size = A at hw hA ⊢
  clear hP hD0
  have hl := lv_entry ([.ref (a0 0), .ref (a1 0), .int p2]) (n := 4) (Nat.le_of_ble_eq_true rfl)
  rw [lg_entry_eq]
  generalize (lg_sl ([.ref (a0 0), .ref (a1 0), .int p2]) ++ List.replicate (4 - (lg_sl ([.ref (a0 0), .ref (a1 0), .int p2])).length) Slot.unset).toArray = ls at hl ⊢
  have hl : lv_has ls 4 [(0, .ref (a0 0)), (1, .ref (a1 0)), (2, .int p2)] := hl
  rw [f_X7_goesBy] at hM
  refine lv_iconst (v := (0 : Int32)) hx hb dX7_goesBy_0 (by decide) ?_
  refine lv_istore_n (lv' := [(3, .int (0 : Int32)), (0, .ref (a0 0)), (1, .ref (a1 0)), (2, .int p2)]) hx hb dX7_goesBy_1 rfl hl (by decide) rfl (fun ls hl => ?_)
  obtain ⟨q3, hL2, hM2⟩ := bd hM
  have hJ2 : ∀ (q3x : TS), q3 = .inr q3x → ∀ (H : Heap) (locs : List Loc), Wk g A s.heap H locs ((wXT g a0 Fw0 q3x) ++ (wAL g a1 Y1)) → ∀ (ls : Array Slot), lv_has ls 4 [] → W p l e (headSpec wsX7_goesBy ({ frames := 2, cells := 0, slots := 0, locals := 46 } : Room)).room s m ([.ref (a0 0), .ref (a1 0), .int p2] : List Value).toArray below meth c H locs 0 0 (MQ below (QcW g (some (.int q.1)) ((wXT g a0 Fw0 q.2) ++ (wAL g a1 Y1)) A) ([.ref (a0 0), .ref (a1 0), .int p2] : List Value).toArray s 0 0 A) (F0 m 74 ls []) := by
    intro q3x hX2 H locs hw ls hl
    rw [hX2] at hM2
    have hM := eo_inr hM2
    refine lv_iconst (v := (-1 : Int32)) hx hb dX7_goesBy_74 (by decide) ?_
    obtain rfl := Option.some.inj hM
    exact W.iret hx hb hr (fun t ht _ => ⟨rfl, by rw [ht]; exact hw.1, hw.2.2.F ht⟩) hw.2.2.2.2 dX7_goesBy_75
  have hW2 : ∀ (n : Nat) (v3_1 : Int32) (UL2 : TS), L_X7_goesBy_2 Y1 p2 n v3_1 UL2 = some q3 → ∀ (H : Heap) (locs : List Loc), Wk g A s.heap H locs ((wXT g a0 Fw0 UL2) ++ (wAL g a1 Y1)) → ∀ (ls : Array Slot), lv_has ls 4 [(3, .int v3_1), (0, .ref (a0 0)), (1, .ref (a1 0)), (2, .int p2)] → W p l e (headSpec wsX7_goesBy ({ frames := 2, cells := 0, slots := 0, locals := 46 } : Room)).room s m ([.ref (a0 0), .ref (a1 0), .int p2] : List Value).toArray below meth c H locs 0 0 (MQ below (QcW g (some (.int q.1)) ((wXT g a0 Fw0 q.2) ++ (wAL g a1 Y1)) A) ([.ref (a0 0), .ref (a1 0), .int p2] : List Value).toArray s 0 0 A) (F0 m 2 ls []) := by
    intro n
    induction n with
    | zero => intro v3_1 UL2 hM; rw [L_X7_goesBy_2] at hM; exact nn hM
    | succ n ih2 =>
      intro v3_1 UL2 hM H locs hw ls hl
      rw [L_X7_goesBy_2] at hM
      refine lv_iload_n hx hb dX7_goesBy_2 rfl (lv_at hl 0 rfl) ?_
      refine lv_iload_n hx hb dX7_goesBy_3 rfl (lv_at hl 3 rfl) ?_
      refine lv_icmp_ge (tgt := 74) hx hb dX7_goesBy_4 (by decide) (fun c4 => ?_) (fun c4 => ?_)
      · replace hM := itp c4 hM
        exact hJ2 _ (Option.some.inj hM).symm _ _ hw _ (lv_sub hl [] rfl)
      · replace hM := itn c4 hM
        refine lv_aload_n hx hb dX7_goesBy_7 rfl (lv_at hl 1 rfl) ?_
        refine lv_aload_n hx hb dX7_goesBy_8 rfl (lv_at hl 2 rfl) ?_
        refine lv_iload_n hx hb dX7_goesBy_9 rfl (lv_at hl 0 rfl) ?_
        obtain ⟨k5, hM⟩ := ck hM
        refine wk_lald hx hb hK hw.1 9 40 (Y1 0) rfl k5 dX7_goesBy_10 ?_
        refine rVR (wc := (wXT g a0 Fw0 UL2)) (As := [.long ((Y1 0) (v3_1).toNatClampNeg)]) (rest := []) (q0 := 0) hS (c_X7_isSaying l g a0 Fw0 UL2 ((Y1 0) (v3_1).toNatClampNeg)) gX7_goesBy_X7_isSaying rfl hd_X7_isSaying ⟨Nat.le_of_ble_eq_true rfl, Nat.le_of_ble_eq_true rfl⟩ hK (va_P.pm hw.1 (pm_2_0 _ _)) rfl rfl rfl rfl hl.1 rfl (Nat.le_of_ble_eq_true rfl) dX7_goesBy_11 ⟨Nat.zero_le _, Nat.zero_le _⟩ ?_
        refine lv_if_eq (tgt := 43) hx hb dX7_goesBy_14 (by decide) (fun c7 => ?_) (fun c7 => ?_)
        · replace hM := itp c7 hM
          refine lv_iload_n hx hb dX7_goesBy_43 rfl (lv_at hl 0 rfl) ?_
          have hE := Option.some.inj hM
          have hM2' := hM2
          rw [← hE] at hM2'
          obtain rfl := eo_inl hM2'
          exact W.iret hx hb hr (fun t ht _ => ⟨rfl, by rw [ht]; exact hw.1, hw.2.2.F ht⟩) hw.2.2.2.2 dX7_goesBy_44
        · replace hM := itn c7 hM
          refine lv_aload_n hx hb dX7_goesBy_17 rfl (lv_at hl 1 rfl) ?_
          refine lv_aload_n hx hb dX7_goesBy_18 rfl (lv_at hl 2 rfl) ?_
          refine lv_iload_n hx hb dX7_goesBy_19 rfl (lv_at hl 0 rfl) ?_
          refine wk_lald hx hb hK hw.1 9 40 (Y1 0) rfl k5 dX7_goesBy_20 ?_
          refine lv_ldc2 (v := (10 : Int64)) hx hb hown (hts _ (mi 1 rfl)) dX7_goesBy_21 ?_
          refine lv_ldiv hx hb dX7_goesBy_24 (by decide) ?_
          refine lv_l2i (v := (((((Y1 0) (v3_1).toNatClampNeg) / (10 : Int64))).toInt32)) hx hb dX7_goesBy_25 rfl ?_
          obtain ⟨q9, h8, hM⟩ := bd hM
          refine rVR (wc := (wXT g a0 Fw0 UL2)) (As := [.int (((((Y1 0) (v3_1).toNatClampNeg) / (10 : Int64))).toInt32)]) (rest := []) (q0 := 0) hS (c_X7_mayOf l g a0 Fw0 UL2 (((((Y1 0) (v3_1).toNatClampNeg) / (10 : Int64))).toInt32) h8) gX7_goesBy_X7_mayOf rfl hd_X7_mayOf ⟨Nat.le_of_ble_eq_true rfl, Nat.le_of_ble_eq_true rfl⟩ hK (va_P.pm hw.1 (pm_2_0 _ _)) rfl rfl rfl rfl hl.1 rfl (Nat.le_of_ble_eq_true rfl) dX7_goesBy_26 ⟨Nat.zero_le _, Nat.zero_le _⟩ ?_
          refine lv_aload_n hx hb dX7_goesBy_29 rfl (lv_at hl 2 rfl) ?_
          refine lv_iload_n hx hb dX7_goesBy_30 rfl (lv_at hl 0 rfl) ?_
          refine wk_lald hx hb hK hw.1 9 40 (Y1 0) rfl k5 dX7_goesBy_31 ?_
          refine lv_ldc2 (v := (10 : Int64)) hx hb hown (hts _ (mi 1 rfl)) dX7_goesBy_32 ?_
          refine lv_lrem hx hb dX7_goesBy_35 (by decide) ?_
          refine lv_l2i (v := (((((Y1 0) (v3_1).toNatClampNeg) - ((Y1 0) (v3_1).toNatClampNeg) / (10 : Int64) * (10 : Int64))).toInt32)) hx hb dX7_goesBy_36 rfl ?_
          refine rSR (wc := ([] : va_W)) (As := [.int q9, .int (((((Y1 0) (v3_1).toNatClampNeg) - ((Y1 0) (v3_1).toNatClampNeg) / (10 : Int64) * (10 : Int64))).toInt32)]) (rest := []) hS (c_X7_has l g q9 (((((Y1 0) (v3_1).toNatClampNeg) - ((Y1 0) (v3_1).toNatClampNeg) / (10 : Int64) * (10 : Int64))).toInt32)) gX7_goesBy_X7_has rfl hd_X7_has ⟨Nat.le_of_ble_eq_true rfl, Nat.le_of_ble_eq_true rfl⟩ hK (hP_nil) rfl hl.1 rfl (Nat.le_of_ble_eq_true rfl) dX7_goesBy_37 ⟨Nat.zero_le _, Nat.zero_le _⟩ ?_
          refine lv_if_ne (tgt := 45) hx hb dX7_goesBy_40 (by decide) (fun c11 => ?_) (fun c11 => ?_)
          · replace hM := itn c11 hM
            refine lv_aload_n hx hb dX7_goesBy_45 rfl (lv_at hl 1 rfl) ?_
            refine lv_aload_n hx hb dX7_goesBy_46 rfl (lv_at hl 2 rfl) ?_
            refine lv_iload_n hx hb dX7_goesBy_47 rfl (lv_at hl 0 rfl) ?_
            refine wk_lald hx hb hK hw.1 9 40 (Y1 0) rfl k5 dX7_goesBy_48 ?_
            refine lv_ldc2 (v := (10 : Int64)) hx hb hown (hts _ (mi 1 rfl)) dX7_goesBy_49 ?_
            refine lv_ldiv hx hb dX7_goesBy_52 (by decide) ?_
            refine lv_l2i (v := (((((Y1 0) (v3_1).toNatClampNeg) / (10 : Int64))).toInt32)) hx hb dX7_goesBy_53 rfl ?_
            refine lv_iconst (v := (1 : Int32)) hx hb dX7_goesBy_54 (by decide) ?_
            refine lv_aload_n hx hb dX7_goesBy_55 rfl (lv_at hl 2 rfl) ?_
            refine lv_iload_n hx hb dX7_goesBy_56 rfl (lv_at hl 0 rfl) ?_
            refine wk_lald hx hb hK hw.1 9 40 (Y1 0) rfl k5 dX7_goesBy_57 ?_
            refine lv_ldc2 (v := (10 : Int64)) hx hb hown (hts _ (mi 1 rfl)) dX7_goesBy_58 ?_
            refine lv_lrem hx hb dX7_goesBy_61 (by decide) ?_
            refine lv_l2i (v := (((((Y1 0) (v3_1).toNatClampNeg) - ((Y1 0) (v3_1).toNatClampNeg) / (10 : Int64) * (10 : Int64))).toInt32)) hx hb dX7_goesBy_62 rfl ?_
            refine lv_ishl hx hb dX7_goesBy_63 ?_
            obtain ⟨q13, h12, hM⟩ := bd hM
            refine rVWp (wc := (wXT g a0 Fw0 UL2)) (wq := ((wXT g a0 Fw0 q13.2) ++ (wAL g a1 Y1))) (As := [.int (((((Y1 0) (v3_1).toNatClampNeg) / (10 : Int64))).toInt32), .int ((1 : Int32) <<< ((((((Y1 0) (v3_1).toNatClampNeg) - ((Y1 0) (v3_1).toNatClampNeg) / (10 : Int64) * (10 : Int64))).toInt32) &&& 31))]) (rest := []) (q0 := 0) hS (c_X7_isSaid l g a0 Fw0 UL2 (((((Y1 0) (v3_1).toNatClampNeg) / (10 : Int64))).toInt32) ((1 : Int32) <<< ((((((Y1 0) (v3_1).toNatClampNeg) - ((Y1 0) (v3_1).toNatClampNeg) / (10 : Int64) * (10 : Int64))).toInt32) &&& 31)) h12) gX7_goesBy_X7_isSaid rfl hd_X7_isSaid ⟨Nat.le_of_ble_eq_true rfl, Nat.le_of_ble_eq_true rfl⟩ hK hw hA (pm_2_0 _ _) rfl (pm_2_0 _ _) rfl rfl rfl rfl hl.1 rfl (Nat.le_of_ble_eq_true rfl) dX7_goesBy_64 ⟨Nat.zero_le _, Nat.zero_le _⟩ (fun H locs hw => ?_)
            refine lv_pop hx hb dX7_goesBy_67 rfl ?_
            refine lv_iinc (v := (v3_1 + (1 : Int32))) (lv' := [(3, .int (v3_1 + (1 : Int32))), (0, .ref (a0 0)), (1, .ref (a1 0)), (2, .int p2)]) hx hb dX7_goesBy_68 hl (k := 0) rfl rfl (by decide) rfl (fun ls hl => ?_)
            refine lv_goto (tgt := 2) hx hb dX7_goesBy_71 (by decide) ?_
            exact ih2 (v3_1 + (1 : Int32)) q13.2 hM _ _ hw _ (lv_sub hl [0, 1, 2, 3] rfl)
          · replace hM := itp c11 hM
            refine lv_iload_n hx hb dX7_goesBy_43 rfl (lv_at hl 0 rfl) ?_
            have hE := Option.some.inj hM
            have hM2' := hM2
            rw [← hE] at hM2'
            obtain rfl := eo_inl hM2'
            exact W.iret hx hb hr (fun t ht _ => ⟨rfl, by rw [ht]; exact hw.1, hw.2.2.F ht⟩) hw.2.2.2.2 dX7_goesBy_44
  exact hW2 300 (0 : Int32) U0 hL2 _ _ hw _ (lv_sub hl [0, 1, 2, 3] rfl)
theorem hd_X7_evening : yX7_evening.cls = RX7 ∧ yX7_evening.cls ≠ "java/lang/invoke/MethodHandle" ∧ yX7_evening.cls ≠ "java/lang/invoke/VarHandle" ∧ (parseMethodDescriptor yX7_evening.desc).map (fun d => d.parameters.length) = some 2 := by decide +kernel
set_option maxHeartbeats 4000000 in
set_option maxRecDepth 100000 in
theorem c_X7_evening (l : Launch) (g : Gm) (a0 : Nat → Nat) (U0 : TS) (V0 : TS) (M0 : LTS) (R0 : LTS) (kv : Value) (t0 : Tr) (tp0 : Option (Nat → Int32)) (h0 : tpOf t0 = tp0) (p1 : Int32) (p2 : Int32) {q : (Int32 × TS × TS × (Option (Nat → Int32)))} (hM : f_X7_evening U0 V0 M0 R0 tp0 p1 p2 = some q) : MB l yX7_evening wsX7_evening 5 140 g [.ref (a0 0), .int p1, .int p2] (fun t => (wXM g a0 U0 V0 M0 R0 kv (tvOf t)) ++ wOT g t) t0 (some (.int q.1)) (fun t => (wXM g a0 q.2.1 q.2.2.1 M0 R0 kv (tvOf t)) ++ wOT g t) q.2.2.2 := by
  intro sz
  refine Met.ofW (cc := cX7_evening) (maxL := 4) (ret := (some .int)) (by decide) rfl ?_
  intro p e s m args below meth c s₁ B hml hv
  obtain ⟨rfl, hsz, hP, hK, hD0⟩ := hv
  have hx := B.exec; have hb := B.bytes; have hr := B.returns
  have hts := atoms_spec (ws := wsX7_evening) B.pre
  have hown : s.vm.findClass RX7 = some m.cls := findClass_of_methodNamed B.named
  have hlocks := B.notSynchronized
  have hS : CallFix p m c cX7_evening 4 s _ wsX7_evening RX7 := ⟨hx, hb, hml, hown, hts⟩
  have hin_X7 : ∀ w ∈ wsX70, w ∈ wsX7_evening := fun w h => (List.mem_cons_of_mem _ (List.mem_append_right _ h))
  subst hsz
  have hw := wk_start hP hD0
  have hA : ∀ q : Nat, s.heap.size ≤ q → va_A ((wXM g a0 U0 V0 M0 R0 kv (tvOf t0)) ++ (wOT g t0)) s.heap.size q := fun q h => Or.inr h
  generalize va_A ((wXM g a0 U0 V0 M0 R0 kv (tvOf t0)) ++ (wOT g t0)) s.heap.size = A at hw hA ⊢
  clear hP hD0
  have hl := lv_entry ([.ref (a0 0), .int p1, .int p2]) (n := 4) (Nat.le_of_ble_eq_true rfl)
  rw [lg_entry_eq]
  generalize (lg_sl ([.ref (a0 0), .int p1, .int p2]) ++ List.replicate (4 - (lg_sl ([.ref (a0 0), .int p1, .int p2])).length) Slot.unset).toArray = ls at hl ⊢
  have hl : lv_has ls 4 [(0, .ref (a0 0)), (1, .int p1), (2, .int p2)] := hl
  refine W_nl t0 ?_
  rw [f_X7_evening] at hM
  refine lv_aload_n hx hb dX7_evening_0 rfl (lv_at hl 0 rfl) ?_
  refine lv_iload_n hx hb dX7_evening_1 rfl (lv_at hl 1 rfl) ?_
  refine lv_iload_n hx hb dX7_evening_2 rfl (lv_at hl 2 rfl) ?_
  obtain ⟨q2, h1, hM⟩ := bd hM
  refine rVWp (wc := (wXM g a0 U0 V0 M0 R0 kv (tvOf t0))) (wq := ((wXM g a0 U0 q2.2 M0 R0 kv (tvOf t0)) ++ (wOT g t0))) (As := [.int p1, .int p2]) (rest := []) (q0 := 0) hS (c_X7_noEvening l g a0 kv (tvOf t0) U0 V0 M0 R0 p1 p2 h1) gX7_evening_X7_noEvening rfl hd_X7_noEvening ⟨Nat.le_of_ble_eq_true rfl, Nat.le_of_ble_eq_true rfl⟩ hK hw hA (pm_2_0 _ _) rfl (pm_2_0 _ _) rfl rfl rfl rfl hl.1 rfl (Nat.le_of_ble_eq_true rfl) dX7_evening_3 ⟨nlc _ _ _, nlc _ _ _⟩ (fun H locs hw => ?_)
  refine lv_istore_n (lv' := [(3, .int q2.1), (0, .ref (a0 0)), (1, .int p1), (2, .int p2)]) hx hb dX7_evening_6 rfl hl (by decide) rfl (fun ls hl => ?_)
  refine lv_iload_n hx hb dX7_evening_7 rfl (lv_at hl 0 rfl) ?_
  refine lv_if_eq (tgt := 13) hx hb dX7_evening_8 (by decide) (fun c3 => ?_) (fun c3 => ?_)
  · replace hM := itp c3 hM
    refine lv_aload_n hx hb dX7_evening_13 rfl (lv_at hl 1 rfl) ?_
    refine rVF (t0 := t0) (As := []) (rest := []) (hn := (Nat.le_refl _)) hS (c_X7_fresh l g a0 U0 q2.2 M0 R0 kv t0 tp0 h0) gX7_evening_X7_fresh rfl hd_X7_fresh ⟨Nat.le_of_ble_eq_true rfl, Nat.le_of_ble_eq_true rfl⟩ hK hw hA rfl rfl rfl rfl hl.1 rfl (Nat.le_of_ble_eq_true rfl) dX7_evening_14 (fun b5 G6 H locs hw => ?_)
    have hw : Wk g A s.heap H locs ((wXM g a0 U0 q2.2 M0 R0 kv (.ref (b5 0))) ++ (wXT g b5 G6 (fr0 U0 tp0))) := hw
    refine lv_aload_n hx hb dX7_evening_17 rfl (lv_at hl 1 rfl) ?_
    refine wk_get hx hb hts hin_X7 hown hK hw.1 7 0 3 (.ref (a0 12)) rfl rfl (by decide) (mi 1 rfl) rfl rfl dX7_evening_18 ?_
    refine lv_iload_n hx hb dX7_evening_21 rfl (lv_at hl 2 rfl) ?_
    obtain ⟨k7, hM⟩ := ck hM
    refine wk_aald hx hb hK hw.1 12 8 (fun i => a0 (20 + i)) 3 rfl (k7) rfl rfl dX7_evening_22 ?_
    refine lv_iload_n hx hb dX7_evening_23 rfl (lv_at hl 3 rfl) ?_
    obtain ⟨q9, h8, hM⟩ := bd hM
    refine rVWp (wc := ((wXT g b5 G6 (fr0 U0 tp0)) ++ (wAL g (fun _ => a0 (20 + (p1).toNatClampNeg)) (fun _ => (R0 (p1).toNatClampNeg))))) (wq := ((wXM g a0 U0 q2.2 M0 R0 kv (.ref (b5 0))) ++ (wXT g b5 G6 q9.2))) (As := [.ref (a0 (20 + (p1).toNatClampNeg)), .int p2]) (rest := []) (q0 := 0) hS (c_X7_goesBy l g b5 (fun _ => a0 (20 + (p1).toNatClampNeg)) G6 (fr0 U0 tp0) (fun _ => (R0 (p1).toNatClampNeg)) p2 h8) gX7_evening_X7_goesBy rfl hd_X7_goesBy ⟨Nat.le_of_ble_eq_true rfl, Nat.le_of_ble_eq_true rfl⟩ hK hw hA (pmR1 (Nat.lt_of_not_le (fun z => k7 (Or.inr z))) _ _ _ _ _ _ _ _ _) rfl (pmR1 (Nat.lt_of_not_le (fun z => k7 (Or.inr z))) _ _ _ _ _ _ _ _ _) rfl rfl rfl rfl hl.1 rfl (Nat.le_of_ble_eq_true rfl) dX7_evening_24 ⟨Nat.le_refl _, Nat.le_refl _⟩ (fun H locs hw => ?_)
    refine lv_iconst (v := (-1 : Int32)) hx hb dX7_evening_27 (by decide) ?_
    refine lv_icmp_eq (tgt := 38) hx hb dX7_evening_28 (by decide) (fun c10 => ?_) (fun c10 => ?_)
    · replace hM := itp c10 hM
      refine lv_aload_n hx hb dX7_evening_38 rfl (lv_at hl 1 rfl) ?_
      refine lv_aload_n hx hb dX7_evening_39 rfl (lv_at hl 1 rfl) ?_
      refine wk_get hx hb hts hin_X7 hown hK hw.1 7 0 3 (.ref (a0 12)) rfl rfl (by decide) (mi 1 rfl) rfl rfl dX7_evening_40 ?_
      refine lv_iload_n hx hb dX7_evening_43 rfl (lv_at hl 2 rfl) ?_
      refine wk_aald hx hb hK hw.1 12 8 (fun i => a0 (20 + i)) 3 rfl (k7) rfl rfl dX7_evening_44 ?_
      refine lv_iload_n hx hb dX7_evening_45 rfl (lv_at hl 3 rfl) ?_
      obtain ⟨q12, h11, hM⟩ := bd hM
      refine rVWp (wc := ((wXT g a0 (fm a0 q2.2 kv (.ref (b5 0))) U0) ++ (wAL g (fun _ => a0 (20 + (p1).toNatClampNeg)) (fun _ => (R0 (p1).toNatClampNeg))))) (wq := ((wXM g a0 q12.2 q2.2 M0 R0 kv (.ref (b5 0))) ++ (wXT g b5 G6 q9.2))) (As := [.ref (a0 (20 + (p1).toNatClampNeg)), .int p2]) (rest := []) (q0 := 0) hS (c_X7_goesBy l g a0 (fun _ => a0 (20 + (p1).toNatClampNeg)) (fm a0 q2.2 kv (.ref (b5 0))) U0 (fun _ => (R0 (p1).toNatClampNeg)) p2 h11) gX7_evening_X7_goesBy rfl hd_X7_goesBy ⟨Nat.le_of_ble_eq_true rfl, Nat.le_of_ble_eq_true rfl⟩ hK hw hA (pmR2 (Nat.lt_of_not_le (fun z => k7 (Or.inr z))) _ _ _ _ _ _ _ _ _) rfl (pmR2 (Nat.lt_of_not_le (fun z => k7 (Or.inr z))) _ _ _ _ _ _ _ _ _) rfl rfl rfl rfl hl.1 rfl (Nat.le_of_ble_eq_true rfl) dX7_evening_46 ⟨Nat.le_refl _, Nat.le_refl _⟩ (fun H locs hw => ?_)
      refine lv_pop hx hb dX7_evening_49 rfl ?_
      refine lv_aload_n hx hb dX7_evening_50 rfl (lv_at hl 1 rfl) ?_
      obtain ⟨q14, h13, hM⟩ := bd hM
      refine rVR (wc := (wXT g a0 (fm a0 q2.2 kv (.ref (b5 0))) q12.2)) (As := []) (rest := []) (q0 := 0) hS (c_X7_knownNow l g a0 (fm a0 q2.2 kv (.ref (b5 0))) q12.2 h13) gX7_evening_X7_knownNow rfl hd_X7_knownNow ⟨Nat.le_of_ble_eq_true rfl, Nat.le_of_ble_eq_true rfl⟩ hK (va_P.pm hw.1 (pmX2 _ _ _ _ _ _ _ _ _)) rfl rfl rfl rfl hl.1 rfl (Nat.le_of_ble_eq_true rfl) dX7_evening_51 ⟨Nat.le_refl _, Nat.le_refl _⟩ ?_
      obtain rfl := Option.some.inj hM
      exact W.iret hx hb hr (fun t ht _ => ⟨rfl, ⟨(some (b5, G6, q9.2)), rfl, by rw [ht]; exact hw.1, hw.2.1⟩, hw.2.2.F ht⟩) hw.2.2.2.2 dX7_evening_54
    · replace hM := itn c10 hM
      refine lv_aload_n hx hb dX7_evening_31 rfl (lv_at hl 1 rfl) ?_
      refine lv_bipush (v := (-5 : Int32)) hx hb dX7_evening_32 (by decide) ?_
      obtain ⟨q16, h15, hM⟩ := bd hM
      refine rVWp (wc := (wXM g a0 U0 q2.2 M0 R0 kv (.ref (b5 0)))) (wq := ((wXM g a0 U0 q16.2 M0 R0 kv (.ref (b5 0))) ++ (wXT g b5 G6 q9.2))) (As := [.int (-5 : Int32)]) (rest := []) (q0 := 0) hS (c_X7_refuse l g a0 kv (.ref (b5 0)) U0 q2.2 M0 R0 (-5 : Int32) h15) gX7_evening_X7_refuse rfl hd_X7_refuse ⟨Nat.le_of_ble_eq_true rfl, Nat.le_of_ble_eq_true rfl⟩ hK hw hA (pm_2_0 _ _) rfl (pm_2_0 _ _) rfl rfl rfl rfl hl.1 rfl (Nat.le_of_ble_eq_true rfl) dX7_evening_34 ⟨Nat.le_refl _, Nat.le_refl _⟩ (fun H locs hw => ?_)
      obtain rfl := Option.some.inj hM
      exact W.iret hx hb hr (fun t ht _ => ⟨rfl, ⟨(some (b5, G6, q9.2)), rfl, by rw [ht]; exact hw.1, hw.2.1⟩, hw.2.2.F ht⟩) hw.2.2.2.2 dX7_evening_37
  · replace hM := itn c3 hM
    refine lv_iload_n hx hb dX7_evening_11 rfl (lv_at hl 0 rfl) ?_
    obtain rfl := Option.some.inj hM
    refine W.widen (k := 28 * nlOf t0) (n := 759 * nlOf t0) (nlc _ _ _) (nlc _ _ _) ?_
    exact W.iret hx hb hr (fun t ht _ => ⟨rfl, ⟨t0, h0, by rw [ht]; exact hw.1, hw.2.1⟩, hw.2.2.F ht⟩) hw.2.2.2.2 dX7_evening_12
theorem hd_X7_noSayings : yX7_noSayings.cls = RX7 ∧ yX7_noSayings.cls ≠ "java/lang/invoke/MethodHandle" ∧ yX7_noSayings.cls ≠ "java/lang/invoke/VarHandle" ∧ (parseMethodDescriptor yX7_noSayings.desc).map (fun d => d.parameters.length) = some 2 := by decide +kernel
set_option maxHeartbeats 4000000 in
set_option maxRecDepth 100000 in
theorem c_X7_noSayings (l : Launch) (g : Gm) (a0 : Nat → Nat) (kv : Value) (tv : Value) (U0 : TS) (V0 : TS) (M0 : LTS) (R0 : LTS) (p1 : Int32) (p2 : Int32) {q : (Int32 × TS)} (hM : f_X7_noSayings U0 V0 M0 R0 p1 p2 = some q) : MW l yX7_noSayings wsX7_noSayings 3 69 g [.ref (a0 0), .int p1, .int p2] (wXM g a0 U0 V0 M0 R0 kv tv) (some (.int q.1)) (wXM g a0 U0 q.2 M0 R0 kv tv) := by
  intro sz
  refine Met.ofW (cc := cX7_noSayings) (maxL := 5) (ret := (some .int)) (by decide) rfl ?_
  intro p e s m args below meth c s₁ B hml hv
  obtain ⟨rfl, hsz, hP, hK, hD0⟩ := hv
  have hx := B.exec; have hb := B.bytes; have hr := B.returns
  have hts := atoms_spec (ws := wsX7_noSayings) B.pre
  have hown : s.vm.findClass RX7 = some m.cls := findClass_of_methodNamed B.named
  have hlocks := B.notSynchronized
  have hS : CallFix p m c cX7_noSayings 5 s _ wsX7_noSayings RX7 := ⟨hx, hb, hml, hown, hts⟩
  have hin_X7 : ∀ w ∈ wsX70, w ∈ wsX7_noSayings := fun w h => (List.mem_cons_of_mem _ (List.mem_append_right _ h))
  subst hsz
  have hw := wk_start hP hD0
  have hA : ∀ q : Nat, s.heap.size ≤ q → va_A (wXM g a0 U0 V0 M0 R0 kv tv) s.heap.size q := fun q h => Or.inr h
  generalize va_A (wXM g a0 U0 V0 M0 R0 kv tv) s.heap.size = A at hw hA ⊢
  clear hP hD0
  have hl := lv_entry ([.ref (a0 0), .int p1, .int p2]) (n := 5) (Nat.le_of_ble_eq_true rfl)
  rw [lg_entry_eq]
  generalize (lg_sl ([.ref (a0 0), .int p1, .int p2]) ++ List.replicate (5 - (lg_sl ([.ref (a0 0), .int p1, .int p2])).length) Slot.unset).toArray = ls at hl ⊢
  have hl : lv_has ls 5 [(0, .ref (a0 0)), (1, .int p1), (2, .int p2)] := hl
  rw [f_X7_noSayings] at hM
  refine lv_aload_n hx hb dX7_noSayings_0 rfl (lv_at hl 0 rfl) ?_
  refine lv_iload_n hx hb dX7_noSayings_1 rfl (lv_at hl 1 rfl) ?_
  refine lv_iload_n hx hb dX7_noSayings_2 rfl (lv_at hl 2 rfl) ?_
  obtain ⟨q2, h1, hM⟩ := bd hM
  refine rVWp (wc := (wXM g a0 U0 V0 M0 R0 kv tv)) (wq := (wXM g a0 U0 q2.2 M0 R0 kv tv)) (As := [.int p1, .int p2]) (rest := []) (q0 := 0) hS (c_X7_noEvening l g a0 kv tv U0 V0 M0 R0 p1 p2 h1) gX7_noSayings_X7_noEvening rfl hd_X7_noEvening ⟨Nat.le_of_ble_eq_true rfl, Nat.le_of_ble_eq_true rfl⟩ hK hw hA (pm_1_0 _) rfl (pm_1_0 _) rfl rfl rfl rfl hl.1 rfl (Nat.le_of_ble_eq_true rfl) dX7_noSayings_3 ⟨Nat.zero_le _, Nat.zero_le _⟩ (fun H locs hw => ?_)
  refine lv_istore_n (lv' := [(3, .int q2.1), (0, .ref (a0 0)), (1, .int p1), (2, .int p2)]) hx hb dX7_noSayings_6 rfl hl (by decide) rfl (fun ls hl => ?_)
  refine lv_iload_n hx hb dX7_noSayings_7 rfl (lv_at hl 0 rfl) ?_
  refine lv_if_eq (tgt := 13) hx hb dX7_noSayings_8 (by decide) (fun c3 => ?_) (fun c3 => ?_)
  · replace hM := itp c3 hM
    refine lv_iconst (v := (0 : Int32)) hx hb dX7_noSayings_13 (by decide) ?_
    refine lv_istore (lv' := [(4, .int (0 : Int32)), (3, .int q2.1), (0, .ref (a0 0)), (1, .int p1), (2, .int p2)]) hx hb dX7_noSayings_14 hl (by decide) rfl (fun ls hl => ?_)
    obtain ⟨q6, hL16, hM16⟩ := bd hM
    have hJ16 : ∀ (q6x : TS), q6 = .inr q6x → ∀ (H : Heap) (locs : List Loc), Wk g A s.heap H locs (wXM g a0 U0 q6x M0 R0 kv tv) → ∀ (ls : Array Slot), lv_has ls 5 [] → W p l e (headSpec wsX7_noSayings ({ frames := 3, cells := 0, slots := 0, locals := 69 } : Room)).room s m ([.ref (a0 0), .int p1, .int p2] : List Value).toArray below meth c H locs 0 0 (MQ below (QcW g (some (.int q.1)) (wXM g a0 U0 q.2 M0 R0 kv tv) A) ([.ref (a0 0), .int p1, .int p2] : List Value).toArray s 0 0 A) (F0 m 51 ls []) := by
      intro q6x hX16 H locs hw ls hl
      rw [hX16] at hM16
      have hM := eo_inr hM16
      refine lv_iconst (v := (0 : Int32)) hx hb dX7_noSayings_51 (by decide) ?_
      obtain rfl := Option.some.inj hM
      exact W.iret hx hb hr (fun t ht _ => ⟨rfl, by rw [ht]; exact hw.1, hw.2.2.F ht⟩) hw.2.2.2.2 dX7_noSayings_52
    have hW16 : ∀ (n : Nat) (v4_4 : Int32) (VL5 : TS), L_X7_noSayings_16 U0 M0 R0 p1 p2 n v4_4 VL5 = some q6 → ∀ (H : Heap) (locs : List Loc), Wk g A s.heap H locs (wXM g a0 U0 VL5 M0 R0 kv tv) → ∀ (ls : Array Slot), lv_has ls 5 [(4, .int v4_4), (0, .ref (a0 0)), (1, .int p1), (2, .int p2)] → W p l e (headSpec wsX7_noSayings ({ frames := 3, cells := 0, slots := 0, locals := 69 } : Room)).room s m ([.ref (a0 0), .int p1, .int p2] : List Value).toArray below meth c H locs 0 0 (MQ below (QcW g (some (.int q.1)) (wXM g a0 U0 q.2 M0 R0 kv tv) A) ([.ref (a0 0), .int p1, .int p2] : List Value).toArray s 0 0 A) (F0 m 16 ls []) := by
      intro n
      induction n with
      | zero => intro v4_4 VL5 hM; rw [L_X7_noSayings_16] at hM; exact nn hM
      | succ n ih16 =>
        intro v4_4 VL5 hM H locs hw ls hl
        rw [L_X7_noSayings_16] at hM
        refine lv_iload hx hb dX7_noSayings_16 (lv_at hl 0 rfl) ?_
        refine lv_iload_n hx hb dX7_noSayings_18 rfl (lv_at hl 3 rfl) ?_
        refine lv_icmp_ge (tgt := 51) hx hb dX7_noSayings_19 (by decide) (fun c7 => ?_) (fun c7 => ?_)
        · replace hM := itp c7 hM
          exact hJ16 _ (Option.some.inj hM).symm _ _ hw _ (lv_sub hl [] rfl)
        · replace hM := itn c7 hM
          refine lv_aload_n hx hb dX7_noSayings_22 rfl (lv_at hl 1 rfl) ?_
          refine lv_aload_n hx hb dX7_noSayings_23 rfl (lv_at hl 1 rfl) ?_
          refine wk_get hx hb hts hin_X7 hown hK hw.1 7 0 3 (.ref (a0 12)) rfl rfl (by decide) (mi 1 rfl) rfl rfl dX7_noSayings_24 ?_
          refine lv_iload_n hx hb dX7_noSayings_27 rfl (lv_at hl 2 rfl) ?_
          obtain ⟨k8, hM⟩ := ck hM
          refine wk_aald hx hb hK hw.1 12 8 (fun i => a0 (20 + i)) 3 rfl (k8) rfl rfl dX7_noSayings_28 ?_
          refine lv_iload hx hb dX7_noSayings_29 (lv_at hl 0 rfl) ?_
          obtain ⟨k9, hM⟩ := ck hM
          refine wk_lald hx hb hK hw.1 (20 + (p1).toNatClampNeg) 40 (R0 (p1).toNatClampNeg) (wXM_row (Nat.lt_of_not_le (fun z => k8 (Or.inr z)))) k9 dX7_noSayings_31 ?_
          refine rVR (wc := (wXT g a0 (fm a0 VL5 kv tv) U0)) (As := [.long ((R0 (p1).toNatClampNeg) (v4_4).toNatClampNeg)]) (rest := []) (q0 := 0) hS (c_X7_isSaying l g a0 (fm a0 VL5 kv tv) U0 ((R0 (p1).toNatClampNeg) (v4_4).toNatClampNeg)) gX7_noSayings_X7_isSaying rfl hd_X7_isSaying ⟨Nat.le_of_ble_eq_true rfl, Nat.le_of_ble_eq_true rfl⟩ hK (va_P.pm hw.1 (pmX1 _ _ _ _ _ _ _ _)) rfl rfl rfl rfl hl.1 rfl (Nat.le_of_ble_eq_true rfl) dX7_noSayings_32 ⟨Nat.zero_le _, Nat.zero_le _⟩ ?_
          refine lv_if_ne (tgt := 45) hx hb dX7_noSayings_35 (by decide) (fun c11 => ?_) (fun c11 => ?_)
          · replace hM := itn c11 hM
            refine lv_iinc (v := (v4_4 + (1 : Int32))) (lv' := [(4, .int (v4_4 + (1 : Int32))), (0, .ref (a0 0)), (1, .int p1), (2, .int p2)]) hx hb dX7_noSayings_45 hl (k := 0) rfl rfl (by decide) rfl (fun ls hl => ?_)
            refine lv_goto (tgt := 16) hx hb dX7_noSayings_48 (by decide) ?_
            exact ih16 (v4_4 + (1 : Int32)) VL5 hM _ _ hw _ (lv_sub hl [0, 1, 2, 3] rfl)
          · replace hM := itp c11 hM
            refine lv_aload_n hx hb dX7_noSayings_38 rfl (lv_at hl 1 rfl) ?_
            refine lv_bipush (v := (-2 : Int32)) hx hb dX7_noSayings_39 (by decide) ?_
            obtain ⟨q13, h12, hM⟩ := bd hM
            refine rVWp (wc := (wXM g a0 U0 VL5 M0 R0 kv tv)) (wq := (wXM g a0 U0 q13.2 M0 R0 kv tv)) (As := [.int (-2 : Int32)]) (rest := []) (q0 := 0) hS (c_X7_refuse l g a0 kv tv U0 VL5 M0 R0 (-2 : Int32) h12) gX7_noSayings_X7_refuse rfl hd_X7_refuse ⟨Nat.le_of_ble_eq_true rfl, Nat.le_of_ble_eq_true rfl⟩ hK hw hA (pm_1_0 _) rfl (pm_1_0 _) rfl rfl rfl rfl hl.1 rfl (Nat.le_of_ble_eq_true rfl) dX7_noSayings_41 ⟨Nat.zero_le _, Nat.zero_le _⟩ (fun H locs hw => ?_)
            have hE := Option.some.inj hM
            have hM16' := hM16
            rw [← hE] at hM16'
            obtain rfl := eo_inl hM16'
            exact W.iret hx hb hr (fun t ht _ => ⟨rfl, by rw [ht]; exact hw.1, hw.2.2.F ht⟩) hw.2.2.2.2 dX7_noSayings_44
    exact hW16 300 (0 : Int32) q2.2 hL16 _ _ hw _ (lv_sub hl [0, 2, 3, 4] rfl)
  · replace hM := itn c3 hM
    refine lv_iload_n hx hb dX7_noSayings_11 rfl (lv_at hl 0 rfl) ?_
    obtain rfl := Option.some.inj hM
    exact W.iret hx hb hr (fun t ht _ => ⟨rfl, by rw [ht]; exact hw.1, hw.2.2.F ht⟩) hw.2.2.2.2 dX7_noSayings_12
theorem hd_X7_falsely : yX7_falsely.cls = RX7 ∧ yX7_falsely.cls ≠ "java/lang/invoke/MethodHandle" ∧ yX7_falsely.cls ≠ "java/lang/invoke/VarHandle" ∧ (parseMethodDescriptor yX7_falsely.desc).map (fun d => d.parameters.length) = some 2 := by decide +kernel
set_option maxHeartbeats 4000000 in
set_option maxRecDepth 100000 in
theorem c_X7_falsely (l : Launch) (g : Gm) (a0 : Nat → Nat) (kv : Value) (tv : Value) (U0 : TS) (V0 : TS) (M0 : LTS) (R0 : LTS) (p1 : Int32) (p2 : Int32) {q : (Int32 × TS)} (hM : f_X7_falsely U0 V0 M0 R0 p1 p2 = some q) : MW l yX7_falsely wsX7_falsely 4 93 g [.ref (a0 0), .int p1, .int p2] (wXM g a0 U0 V0 M0 R0 kv tv) (some (.int q.1)) (wXM g a0 U0 q.2 M0 R0 kv tv) := by
  intro sz
  refine Met.ofW (cc := cX7_falsely) (maxL := 7) (ret := (some .int)) (by decide) rfl ?_
  intro p e s m args below meth c s₁ B hml hv
  obtain ⟨rfl, hsz, hP, hK, hD0⟩ := hv
  have hx := B.exec; have hb := B.bytes; have hr := B.returns
  have hts := atoms_spec (ws := wsX7_falsely) B.pre
  have hown : s.vm.findClass RX7 = some m.cls := findClass_of_methodNamed B.named
  have hlocks := B.notSynchronized
  have hS : CallFix p m c cX7_falsely 7 s _ wsX7_falsely RX7 := ⟨hx, hb, hml, hown, hts⟩
  have hin_X7 : ∀ w ∈ wsX70, w ∈ wsX7_falsely := fun w h => (List.mem_cons_of_mem _ (List.mem_append_right _ h))
  subst hsz
  have hw := wk_start hP hD0
  have hA : ∀ q : Nat, s.heap.size ≤ q → va_A (wXM g a0 U0 V0 M0 R0 kv tv) s.heap.size q := fun q h => Or.inr h
  generalize va_A (wXM g a0 U0 V0 M0 R0 kv tv) s.heap.size = A at hw hA ⊢
  clear hP hD0
  have hl := lv_entry ([.ref (a0 0), .int p1, .int p2]) (n := 7) (Nat.le_of_ble_eq_true rfl)
  rw [lg_entry_eq]
  generalize (lg_sl ([.ref (a0 0), .int p1, .int p2]) ++ List.replicate (7 - (lg_sl ([.ref (a0 0), .int p1, .int p2])).length) Slot.unset).toArray = ls at hl ⊢
  have hl : lv_has ls 7 [(0, .ref (a0 0)), (1, .int p1), (2, .int p2)] := hl
  rw [f_X7_falsely] at hM
  refine lv_aload_n hx hb dX7_falsely_0 rfl (lv_at hl 0 rfl) ?_
  refine lv_iload_n hx hb dX7_falsely_1 rfl (lv_at hl 1 rfl) ?_
  refine lv_iload_n hx hb dX7_falsely_2 rfl (lv_at hl 2 rfl) ?_
  obtain ⟨q2, h1, hM⟩ := bd hM
  refine rVWp (wc := (wXM g a0 U0 V0 M0 R0 kv tv)) (wq := (wXM g a0 U0 q2.2 M0 R0 kv tv)) (As := [.int p1, .int p2]) (rest := []) (q0 := 0) hS (c_X7_noSayings l g a0 kv tv U0 V0 M0 R0 p1 p2 h1) gX7_falsely_X7_noSayings rfl hd_X7_noSayings ⟨Nat.le_of_ble_eq_true rfl, Nat.le_of_ble_eq_true rfl⟩ hK hw hA (pm_1_0 _) rfl (pm_1_0 _) rfl rfl rfl rfl hl.1 rfl (Nat.le_of_ble_eq_true rfl) dX7_falsely_3 ⟨Nat.zero_le _, Nat.zero_le _⟩ (fun H locs hw => ?_)
  refine lv_istore_n (lv' := [(3, .int q2.1), (0, .ref (a0 0)), (1, .int p1), (2, .int p2)]) hx hb dX7_falsely_6 rfl hl (by decide) rfl (fun ls hl => ?_)
  refine lv_iload_n hx hb dX7_falsely_7 rfl (lv_at hl 0 rfl) ?_
  refine lv_if_eq (tgt := 13) hx hb dX7_falsely_8 (by decide) (fun c3 => ?_) (fun c3 => ?_)
  · replace hM := itp c3 hM
    refine lv_iconst (v := (0 : Int32)) hx hb dX7_falsely_13 (by decide) ?_
    refine lv_istore (lv' := [(4, .int (0 : Int32)), (3, .int q2.1), (0, .ref (a0 0)), (1, .int p1), (2, .int p2)]) hx hb dX7_falsely_14 hl (by decide) rfl (fun ls hl => ?_)
    refine lv_iconst (v := (0 : Int32)) hx hb dX7_falsely_16 (by decide) ?_
    refine lv_istore (lv' := [(5, .int (0 : Int32)), (4, .int (0 : Int32)), (3, .int q2.1), (0, .ref (a0 0)), (1, .int p1), (2, .int p2)]) hx hb dX7_falsely_17 hl (by decide) rfl (fun ls hl => ?_)
    obtain ⟨q6, hL19, hM⟩ := bd hM
    have hJ19 : ∀ (H : Heap) (locs : List Loc), Wk g A s.heap H locs (wXM g a0 U0 q2.2 M0 R0 kv tv) → ∀ (ls : Array Slot), lv_has ls 7 [(4, .int q6)] → W p l e (headSpec wsX7_falsely ({ frames := 4, cells := 0, slots := 0, locals := 93 } : Room)).room s m ([.ref (a0 0), .int p1, .int p2] : List Value).toArray below meth c H locs 0 0 (MQ below (QcW g (some (.int q.1)) (wXM g a0 U0 q.2 M0 R0 kv tv) A) ([.ref (a0 0), .int p1, .int p2] : List Value).toArray s 0 0 A) (F0 m 73 ls []) := by
      intro H locs hw ls hl
      refine lv_iload hx hb dX7_falsely_73 (lv_at hl 0 rfl) ?_
      obtain rfl := Option.some.inj hM
      exact W.iret hx hb hr (fun t ht _ => ⟨rfl, by rw [ht]; exact hw.1, hw.2.2.F ht⟩) hw.2.2.2.2 dX7_falsely_75
    have hW19 : ∀ (n : Nat) (v5_4 : Int32) (v4_5 : Int32), L_X7_falsely_19 U0 R0 p1 p2 n v5_4 v4_5 = some q6 → ∀ (H : Heap) (locs : List Loc), Wk g A s.heap H locs (wXM g a0 U0 q2.2 M0 R0 kv tv) → ∀ (ls : Array Slot), lv_has ls 7 [(5, .int v5_4), (4, .int v4_5), (0, .ref (a0 0)), (1, .int p1), (2, .int p2)] → W p l e (headSpec wsX7_falsely ({ frames := 4, cells := 0, slots := 0, locals := 93 } : Room)).room s m ([.ref (a0 0), .int p1, .int p2] : List Value).toArray below meth c H locs 0 0 (MQ below (QcW g (some (.int q.1)) (wXM g a0 U0 q.2 M0 R0 kv tv) A) ([.ref (a0 0), .int p1, .int p2] : List Value).toArray s 0 0 A) (F0 m 19 ls []) := by
      intro n
      induction n with
      | zero => intro v5_4 v4_5 hM; rw [L_X7_falsely_19] at hM; exact nn hM
      | succ n ih19 =>
        intro v5_4 v4_5 hM H locs hw ls hl
        rw [L_X7_falsely_19] at hM
        refine lv_iload hx hb dX7_falsely_19 (lv_at hl 0 rfl) ?_
        refine lv_iload_n hx hb dX7_falsely_21 rfl (lv_at hl 4 rfl) ?_
        refine lv_icmp_ge (tgt := 73) hx hb dX7_falsely_22 (by decide) (fun c7 => ?_) (fun c7 => ?_)
        · replace hM := itp c7 hM
          obtain rfl := Option.some.inj hM
          exact hJ19 _ _ hw _ (lv_sub hl [1] rfl)
        · replace hM := itn c7 hM
          refine lv_aload_n hx hb dX7_falsely_25 rfl (lv_at hl 2 rfl) ?_
          refine wk_get hx hb hts hin_X7 hown hK hw.1 7 0 3 (.ref (a0 12)) rfl rfl (by decide) (mi 1 rfl) rfl rfl dX7_falsely_26 ?_
          refine lv_iload_n hx hb dX7_falsely_29 rfl (lv_at hl 3 rfl) ?_
          obtain ⟨k8, hM⟩ := ck hM
          refine wk_aald hx hb hK hw.1 12 8 (fun i => a0 (20 + i)) 3 rfl (k8) rfl rfl dX7_falsely_30 ?_
          refine lv_iload hx hb dX7_falsely_31 (lv_at hl 0 rfl) ?_
          obtain ⟨k9, hM⟩ := ck hM
          refine wk_lald hx hb hK hw.1 (20 + (p1).toNatClampNeg) 40 (R0 (p1).toNatClampNeg) (wXM_row (Nat.lt_of_not_le (fun z => k8 (Or.inr z)))) k9 dX7_falsely_33 ?_
          refine lv_l2i (v := ((((R0 (p1).toNatClampNeg) (v5_4).toNatClampNeg)).toInt32)) hx hb dX7_falsely_34 rfl ?_
          refine lv_istore (lv' := [(6, .int ((((R0 (p1).toNatClampNeg) (v5_4).toNatClampNeg)).toInt32)), (5, .int v5_4), (4, .int v4_5), (0, .ref (a0 0)), (1, .int p1), (2, .int p2)]) hx hb dX7_falsely_35 hl (by decide) rfl (fun ls hl => ?_)
          refine lv_iload hx hb dX7_falsely_37 (lv_at hl 2 rfl) ?_
          refine lv_aload_n hx hb dX7_falsely_39 rfl (lv_at hl 3 rfl) ?_
          refine lv_iload hx hb dX7_falsely_40 (lv_at hl 0 rfl) ?_
          refine lv_bipush (v := (10 : Int32)) hx hb dX7_falsely_42 (by decide) ?_
          refine lv_idiv hx hb dX7_falsely_44 (by decide) ?_
          obtain ⟨q11, h10, hM⟩ := bd hM
          refine rVR (wc := (wXT g a0 (fm a0 q2.2 kv tv) U0)) (As := [.int (((((R0 (p1).toNatClampNeg) (v5_4).toNatClampNeg)).toInt32) / (10 : Int32))]) (rest := [.int v4_5]) (q0 := 0) hS (c_X7_barredBy l g a0 (fm a0 q2.2 kv tv) U0 (((((R0 (p1).toNatClampNeg) (v5_4).toNatClampNeg)).toInt32) / (10 : Int32)) h10) gX7_falsely_X7_barredBy rfl hd_X7_barredBy ⟨Nat.le_of_ble_eq_true rfl, Nat.le_of_ble_eq_true rfl⟩ hK (va_P.pm hw.1 (pmX1 _ _ _ _ _ _ _ _)) rfl rfl rfl rfl hl.1 rfl (Nat.le_of_ble_eq_true rfl) dX7_falsely_45 ⟨Nat.zero_le _, Nat.zero_le _⟩ ?_
          refine lv_iload hx hb dX7_falsely_48 (lv_at hl 0 rfl) ?_
          refine lv_bipush (v := (10 : Int32)) hx hb dX7_falsely_50 (by decide) ?_
          refine lv_irem hx hb dX7_falsely_52 (by decide) ?_
          refine rSR (wc := ([] : va_W)) (As := [.int q11, .int (((((R0 (p1).toNatClampNeg) (v5_4).toNatClampNeg)).toInt32) - ((((R0 (p1).toNatClampNeg) (v5_4).toNatClampNeg)).toInt32) / (10 : Int32) * (10 : Int32))]) (rest := [.int v4_5]) hS (c_X7_has l g q11 (((((R0 (p1).toNatClampNeg) (v5_4).toNatClampNeg)).toInt32) - ((((R0 (p1).toNatClampNeg) (v5_4).toNatClampNeg)).toInt32) / (10 : Int32) * (10 : Int32))) gX7_falsely_X7_has rfl hd_X7_has ⟨Nat.le_of_ble_eq_true rfl, Nat.le_of_ble_eq_true rfl⟩ hK (hP_nil) rfl hl.1 rfl (Nat.le_of_ble_eq_true rfl) dX7_falsely_53 ⟨Nat.zero_le _, Nat.zero_le _⟩ ?_
          have hJ19 : ∀ (H : Heap) (locs : List Loc) (x18 : Int32) (ls : Array Slot), Wk g A s.heap H locs (wXM g a0 U0 q2.2 M0 R0 kv tv) → x18 = (if (f_X7_has q11 (((((R0 (p1).toNatClampNeg) (v5_4).toNatClampNeg)).toInt32) - ((((R0 (p1).toNatClampNeg) (v5_4).toNatClampNeg)).toInt32) / (10 : Int32) * (10 : Int32))) = 0 then (0 : Int32) else (1 : Int32)) → lv_has ls 7 [(5, .int v5_4), (0, .ref (a0 0)), (1, .int p1), (2, .int p2)] → W p l e (headSpec wsX7_falsely ({ frames := 4, cells := 0, slots := 0, locals := 93 } : Room)).room s m ([.ref (a0 0), .int p1, .int p2] : List Value).toArray below meth c H locs 0 0 (MQ below (QcW g (some (.int q.1)) (wXM g a0 U0 q.2 M0 R0 kv tv) A) ([.ref (a0 0), .int p1, .int p2] : List Value).toArray s 0 0 A) (F0 m 64 ls [.int x18, .int v4_5]) := by
            intro H locs x18 ls hw hxx18 hl
            subst hxx18
            refine lv_iadd hx hb dX7_falsely_64 ?_
            refine lv_istore (lv' := [(4, .int (v4_5 + (if (f_X7_has q11 (((((R0 (p1).toNatClampNeg) (v5_4).toNatClampNeg)).toInt32) - ((((R0 (p1).toNatClampNeg) (v5_4).toNatClampNeg)).toInt32) / (10 : Int32) * (10 : Int32))) = 0 then (0 : Int32) else (1 : Int32)))), (5, .int v5_4), (0, .ref (a0 0)), (1, .int p1), (2, .int p2)]) hx hb dX7_falsely_65 hl (by decide) rfl (fun ls hl => ?_)
            refine lv_iinc (v := (v5_4 + (1 : Int32))) (lv' := [(5, .int (v5_4 + (1 : Int32))), (4, .int (v4_5 + (if (f_X7_has q11 (((((R0 (p1).toNatClampNeg) (v5_4).toNatClampNeg)).toInt32) - ((((R0 (p1).toNatClampNeg) (v5_4).toNatClampNeg)).toInt32) / (10 : Int32) * (10 : Int32))) = 0 then (0 : Int32) else (1 : Int32)))), (0, .ref (a0 0)), (1, .int p1), (2, .int p2)]) hx hb dX7_falsely_67 hl (k := 1) rfl rfl (by decide) rfl (fun ls hl => ?_)
            refine lv_goto (tgt := 19) hx hb dX7_falsely_70 (by decide) ?_
            exact ih19 (v5_4 + (1 : Int32)) (v4_5 + (if (f_X7_has q11 (((((R0 (p1).toNatClampNeg) (v5_4).toNatClampNeg)).toInt32) - ((((R0 (p1).toNatClampNeg) (v5_4).toNatClampNeg)).toInt32) / (10 : Int32) * (10 : Int32))) = 0 then (0 : Int32) else (1 : Int32))) hM _ _ hw _ (lv_sub hl [0, 1, 2, 3, 4] rfl)
          refine lv_if_eq (tgt := 63) hx hb dX7_falsely_56 (by decide) (fun c13 => ?_) (fun c13 => ?_)
          · refine lv_iconst (v := (0 : Int32)) hx hb dX7_falsely_63 (by decide) ?_
            exact hJ19 _ _ _ _ hw (by first | with_reducible rfl | (simp only [if_pos c13]) | rfl) (lv_sub hl [1, 3, 4, 5] rfl)
          · refine lv_iconst (v := (1 : Int32)) hx hb dX7_falsely_59 (by decide) ?_
            refine lv_goto (tgt := 64) hx hb dX7_falsely_60 (by decide) ?_
            exact hJ19 _ _ _ _ hw (by first | with_reducible rfl | (simp only [if_neg c13]) | rfl) (lv_sub hl [1, 3, 4, 5] rfl)
    exact hW19 300 (0 : Int32) (0 : Int32) hL19 _ _ hw _ (lv_sub hl [0, 1, 3, 4, 5] rfl)
  · replace hM := itn c3 hM
    refine lv_iload_n hx hb dX7_falsely_11 rfl (lv_at hl 0 rfl) ?_
    obtain rfl := Option.some.inj hM
    exact W.iret hx hb hr (fun t ht _ => ⟨rfl, by rw [ht]; exact hw.1, hw.2.2.F ht⟩) hw.2.2.2.2 dX7_falsely_12
