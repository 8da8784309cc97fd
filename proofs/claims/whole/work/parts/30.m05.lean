theorem hd_X7_feed : yX7_feed.cls = RX7 ∧ yX7_feed.cls ≠ "java/lang/invoke/MethodHandle" ∧ yX7_feed.cls ≠ "java/lang/invoke/VarHandle" ∧ (parseMethodDescriptor yX7_feed.desc).map (fun d => d.parameters.length) = some 1 := by decide +kernel
set_option maxHeartbeats 4000000 in
set_option maxRecDepth 100000 in
theorem c_X7_feed (l : Launch) (g : Gm) (a0 : Nat → Nat) (kv : Value) (tv : Value) (U0 : TS) (V0 : TS) (M0 : LTS) (R0 : LTS) (p1 : Int32) {q : (Int32 × TS)} (hM : f_X7_feed U0 V0 M0 R0 p1 = some q) : MW l yX7_feed wsX7_feed 1 25 g [.ref (a0 0), .int p1] (wXM g a0 U0 V0 M0 R0 kv tv) (some (.int q.1)) (wXM g a0 U0 q.2 M0 R0 kv tv) := by
  intro sz
  refine Met.ofW (cc := cX7_feed) (maxL := 2) (ret := (some .int)) (by decide) rfl ?_
  intro p e s m args below meth c s₁ B hml hv
  obtain ⟨rfl, hsz, hP, hK, hD0⟩ := hv
  have hx := B.exec; have hb := B.bytes; have hr := B.returns
  have hts := atoms_spec (ws := wsX7_feed) B.pre
  have hown : s.vm.findClass RX7 = some m.cls := findClass_of_methodNamed B.named
  have hlocks := B.notSynchronized
  have hS : CallFix p m c cX7_feed 2 s _ wsX7_feed RX7 := ⟨hx, hb, hml, hown, hts⟩
  have hin_X7 : ∀ w ∈ wsX70, w ∈ wsX7_feed := fun w h => (List.mem_cons_of_mem _ (List.mem_append_right _ h))
  subst hsz
  have hw := wk_start hP hD0
  have hA : ∀ q : Nat, s.heap.size ≤ q → va_A (wXM g a0 U0 V0 M0 R0 kv tv) s.heap.size q := fun q h => Or.inr h
  generalize va_A (wXM g a0 U0 V0 M0 R0 kv tv) s.heap.size = A at hw hA ⊢
  clear hP hD0
  have hl := lv_entry ([.ref (a0 0), .int p1]) (n := 2) (Nat.le_of_ble_eq_true rfl)
  rw [lg_entry_eq]
  generalize (lg_sl ([.ref (a0 0), .int p1]) ++ List.replicate (2 - (lg_sl ([.ref (a0 0), .int p1])).length) Slot.unset).toArray = ls at hl ⊢
  have hl : lv_has ls 2 [(0, .ref (a0 0)), (1, .int p1)] := hl
  rw [f_X7_feed] at hM
  refine lv_iload_n hx hb dX7_feed_0 rfl (lv_at hl 1 rfl) ?_
  refine lv_i2l (v := ((p1).toInt64)) hx hb dX7_feed_1 rfl ?_
  refine lv_lconst (v := (0 : Int64)) hx hb dX7_feed_2 (by decide) ?_
  refine lv_ldc2 (v := (255 : Int64)) hx hb hown (hts _ (mi 1 rfl)) dX7_feed_3 ?_
  refine rSR (wc := ([] : va_W)) (As := [.long ((p1).toInt64), .long (0 : Int64), .long (255 : Int64)]) (rest := []) hS (c_X7_in l g ((p1).toInt64) (0 : Int64) (255 : Int64)) gX7_feed_X7_in rfl hd_X7_in ⟨Nat.le_of_ble_eq_true rfl, Nat.le_of_ble_eq_true rfl⟩ hK (hP_nil) rfl hl.1 rfl (Nat.le_of_ble_eq_true rfl) dX7_feed_6 ⟨Nat.zero_le _, Nat.zero_le _⟩ ?_
  refine lv_if_ne (tgt := 19) hx hb dX7_feed_9 (by decide) (fun c2 => ?_) (fun c2 => ?_)
  · replace hM := itn c2 hM
    refine lv_aload_n hx hb dX7_feed_19 rfl (lv_at hl 0 rfl) ?_
    refine wk_get hx hb hts hin_X7 hown hK hw.1 7 0 7 (.int (V0 7 0)) rfl rfl (by decide) (mi 2 rfl) rfl rfl dX7_feed_20 ?_
    refine lv_sipush (v := (250 : Int32)) hx hb dX7_feed_23 (by decide) ?_
    refine lv_icmp_ne (tgt := 36) hx hb dX7_feed_26 (by decide) (fun c5 => ?_) (fun c5 => ?_)
    · replace hM := itn c5 hM
      refine lv_aload_n hx hb dX7_feed_36 rfl (lv_at hl 0 rfl) ?_
      refine wk_get hx hb hts hin_X7 hown hK hw.1 7 0 6 (.ref (a0 15)) rfl rfl (by decide) (mi 3 rfl) rfl rfl dX7_feed_37 ?_
      refine lv_aload_n hx hb dX7_feed_40 rfl (lv_at hl 0 rfl) ?_
      refine lv_dup hx hb dX7_feed_41 rfl ?_
      refine wk_get hx hb hts hin_X7 hown hK hw.1 7 0 7 (.int (V0 7 0)) rfl rfl (by decide) (mi 2 rfl) rfl rfl dX7_feed_42 ?_
      refine lv_dup_x1 hx hb dX7_feed_45 rfl rfl ?_
      refine lv_iconst (v := (1 : Int32)) hx hb dX7_feed_46 (by decide) ?_
      refine lv_iadd hx hb dX7_feed_47 ?_
      refine wk_put (wq := (wXM g a0 U0 (up V0 7 (fun _ => ((V0 7 0) + (1 : Int32)))) M0 R0 kv tv)) hx hb hts hin_X7 tyX7 tyX7_ok nmX7 hown hK hw 7 0 7 rfl rfl (by decide) (mi 2 rfl) rfl rfl rfl rfl (Nat.le_of_ble_eq_true rfl) dX7_feed_48 rfl (fun H locs hw => ?_)
      refine lv_iload_n hx hb dX7_feed_51 rfl (lv_at hl 1 rfl) ?_
      obtain ⟨k8, hM⟩ := ck hM
      refine wk_iast (wq := (wXM g a0 U0 (up (up V0 7 (fun _ => ((V0 7 0) + (1 : Int32)))) 6 (upd (V0 6) ((V0 7 0)).toNatClampNeg p1)) M0 R0 kv tv)) hx hb hK hw 15 250 (V0 6) rfl k8 dX7_feed_52 rfl (fun H locs hw => ?_)
      refine lv_aload_n hx hb dX7_feed_53 rfl (lv_at hl 0 rfl) ?_
      refine wk_get hx hb hts hin_X7 hown hK hw.1 7 0 7 (.int ((V0 7 0) + (1 : Int32))) rfl rfl (by decide) (mi 2 rfl) rfl rfl dX7_feed_54 ?_
      obtain rfl := Option.some.inj hM
      exact W.iret hx hb hr (fun t ht _ => ⟨rfl, by rw [ht]; exact hw.1, hw.2.2.F ht⟩) hw.2.2.2.2 dX7_feed_57
    · replace hM := itp c5 hM
      refine lv_aload_n hx hb dX7_feed_29 rfl (lv_at hl 0 rfl) ?_
      refine lv_bipush (v := (-6 : Int32)) hx hb dX7_feed_30 (by decide) ?_
      obtain ⟨q7, h6, hM⟩ := bd hM
      refine rVWp (wc := (wXM g a0 U0 V0 M0 R0 kv tv)) (wq := (wXM g a0 U0 q7.2 M0 R0 kv tv)) (As := [.int (-6 : Int32)]) (rest := []) (q0 := 0) hS (c_X7_refuse l g a0 kv tv U0 V0 M0 R0 (-6 : Int32) h6) gX7_feed_X7_refuse rfl hd_X7_refuse ⟨Nat.le_of_ble_eq_true rfl, Nat.le_of_ble_eq_true rfl⟩ hK hw hA (pm_1_0 _) rfl (pm_1_0 _) rfl rfl rfl rfl hl.1 rfl (Nat.le_of_ble_eq_true rfl) dX7_feed_32 ⟨Nat.zero_le _, Nat.zero_le _⟩ (fun H locs hw => ?_)
      obtain rfl := Option.some.inj hM
      exact W.iret hx hb hr (fun t ht _ => ⟨rfl, by rw [ht]; exact hw.1, hw.2.2.F ht⟩) hw.2.2.2.2 dX7_feed_35
  · replace hM := itp c2 hM
    refine lv_aload_n hx hb dX7_feed_12 rfl (lv_at hl 0 rfl) ?_
    refine lv_bipush (v := (-2 : Int32)) hx hb dX7_feed_13 (by decide) ?_
    obtain ⟨q4, h3, hM⟩ := bd hM
    refine rVWp (wc := (wXM g a0 U0 V0 M0 R0 kv tv)) (wq := (wXM g a0 U0 q4.2 M0 R0 kv tv)) (As := [.int (-2 : Int32)]) (rest := []) (q0 := 0) hS (c_X7_refuse l g a0 kv tv U0 V0 M0 R0 (-2 : Int32) h3) gX7_feed_X7_refuse rfl hd_X7_refuse ⟨Nat.le_of_ble_eq_true rfl, Nat.le_of_ble_eq_true rfl⟩ hK hw hA (pm_1_0 _) rfl (pm_1_0 _) rfl rfl rfl rfl hl.1 rfl (Nat.le_of_ble_eq_true rfl) dX7_feed_15 ⟨Nat.zero_le _, Nat.zero_le _⟩ (fun H locs hw => ?_)
    obtain rfl := Option.some.inj hM
    exact W.iret hx hb hr (fun t ht _ => ⟨rfl, by rw [ht]; exact hw.1, hw.2.2.F ht⟩) hw.2.2.2.2 dX7_feed_18
theorem hd_X7_first : yX7_first.cls = RX7 ∧ yX7_first.cls ≠ "java/lang/invoke/MethodHandle" ∧ yX7_first.cls ≠ "java/lang/invoke/VarHandle" ∧ (parseMethodDescriptor yX7_first.desc).map (fun d => d.parameters.length) = some 2 := by decide +kernel
set_option maxHeartbeats 4000000 in
set_option maxRecDepth 100000 in
theorem c_X7_first (l : Launch) (g : Gm) (a0 : Nat → Nat) (U0 : TS) (V0 : TS) (M0 : LTS) (R0 : LTS) (kv : Value) (t0 : Tr) (tp0 : Option (Nat → Int32)) (h0 : tpOf t0 = tp0) (p1 : Int32) (p2 : Int32) {q : (Int32 × TS × (Option (Nat → Int32)))} (hM : f_X7_first U0 V0 M0 R0 tp0 p1 p2 = some q) : MB l yX7_first wsX7_first 5 140 g [.ref (a0 0), .int p1, .int p2] (fun t => (wXM g a0 U0 V0 M0 R0 kv (tvOf t)) ++ wOT g t) t0 (some (.int q.1)) (fun t => (wXM g a0 U0 q.2.1 M0 R0 kv (tvOf t)) ++ wOT g t) q.2.2 := by
  intro sz
  refine Met.ofW (cc := cX7_first) (maxL := 9) (ret := (some .int)) (by decide) rfl ?_
  intro p e s m args below meth c s₁ B hml hv
  obtain ⟨rfl, hsz, hP, hK, hD0⟩ := hv
  have hx := B.exec; have hb := B.bytes; have hr := B.returns
  have hts := atoms_spec (ws := wsX7_first) B.pre
  have hown : s.vm.findClass RX7 = some m.cls := findClass_of_methodNamed B.named
  have hlocks := B.notSynchronized
  have hS : CallFix p m c cX7_first 9 s _ wsX7_first RX7 := ⟨hx, hb, hml, hown, hts⟩
  have hin_X7 : ∀ w ∈ wsX70, w ∈ wsX7_first := fun w h => (List.mem_cons_of_mem _ (List.mem_append_right _ h))
  subst hsz
  have hw := wk_start hP hD0
  have hA : ∀ q : Nat, s.heap.size ≤ q → va_A ((wXM g a0 U0 V0 M0 R0 kv (tvOf t0)) ++ (wOT g t0)) s.heap.size q := fun q h => Or.inr h
  generalize va_A ((wXM g a0 U0 V0 M0 R0 kv (tvOf t0)) ++ (wOT g t0)) s.heap.size = A at hw hA ⊢
  clear hP hD0
  have hl := lv_entry ([.ref (a0 0), .int p1, .int p2]) (n := 9) (Nat.le_of_ble_eq_true rfl)
  rw [lg_entry_eq]
  generalize (lg_sl ([.ref (a0 0), .int p1, .int p2]) ++ List.replicate (9 - (lg_sl ([.ref (a0 0), .int p1, .int p2])).length) Slot.unset).toArray = ls at hl ⊢
  have hl : lv_has ls 9 [(0, .ref (a0 0)), (1, .int p1), (2, .int p2)] := hl
  refine W_nl t0 ?_
  rw [f_X7_first] at hM
  refine lv_aload_n hx hb dX7_first_0 rfl (lv_at hl 0 rfl) ?_
  refine lv_iload_n hx hb dX7_first_1 rfl (lv_at hl 1 rfl) ?_
  refine rVR (wc := (wXT g a0 (fm a0 V0 kv (tvOf t0)) U0)) (As := [.int p1]) (rest := []) (q0 := 0) hS (c_X7_isSight l g a0 (fm a0 V0 kv (tvOf t0)) U0 p1) gX7_first_X7_isSight rfl hd_X7_isSight ⟨Nat.le_of_ble_eq_true rfl, Nat.le_of_ble_eq_true rfl⟩ hK (va_P.pm hw.1 (pmX2 _ _ _ _ _ _ _ _ _)) rfl rfl rfl rfl hl.1 rfl (Nat.le_of_ble_eq_true rfl) dX7_first_2 ⟨nlc _ _ _, nlc _ _ _⟩ ?_
  refine lv_if_eq (tgt := 15) hx hb dX7_first_5 (by decide) (fun c2 => ?_) (fun c2 => ?_)
  · replace hM := itp c2 hM
    refine lv_aload_n hx hb dX7_first_15 rfl (lv_at hl 0 rfl) ?_
    refine lv_bipush (v := (-2 : Int32)) hx hb dX7_first_16 (by decide) ?_
    obtain ⟨q4, h3, hM⟩ := bd hM
    refine rVWp (wc := (wXM g a0 U0 V0 M0 R0 kv (tvOf t0))) (wq := ((wXM g a0 U0 q4.2 M0 R0 kv (tvOf t0)) ++ (wOT g t0))) (As := [.int (-2 : Int32)]) (rest := []) (q0 := 0) hS (c_X7_refuse l g a0 kv (tvOf t0) U0 V0 M0 R0 (-2 : Int32) h3) gX7_first_X7_refuse rfl hd_X7_refuse ⟨Nat.le_of_ble_eq_true rfl, Nat.le_of_ble_eq_true rfl⟩ hK hw hA (pm_2_0 _ _) rfl (pm_2_0 _ _) rfl rfl rfl rfl hl.1 rfl (Nat.le_of_ble_eq_true rfl) dX7_first_18 ⟨nlc _ _ _, nlc _ _ _⟩ (fun H locs hw => ?_)
    obtain rfl := Option.some.inj hM
    refine W.widen (k := 28 * nlOf t0) (n := 759 * nlOf t0) (nlc _ _ _) (nlc _ _ _) ?_
    exact W.iret hx hb hr (fun t ht _ => ⟨rfl, ⟨t0, h0, by rw [ht]; exact hw.1, hw.2.1⟩, hw.2.2.F ht⟩) hw.2.2.2.2 dX7_first_21
  · replace hM := itn c2 hM
    refine lv_iload_n hx hb dX7_first_8 rfl (lv_at hl 2 rfl) ?_
    refine rSR (wc := ([] : va_W)) (As := [.int p2]) (rest := []) hS (c_X7_isRounds l g p2) gX7_first_X7_isRounds rfl hd_X7_isRounds ⟨Nat.le_of_ble_eq_true rfl, Nat.le_of_ble_eq_true rfl⟩ hK (hP_nil) rfl hl.1 rfl (Nat.le_of_ble_eq_true rfl) dX7_first_9 ⟨nlc _ _ _, nlc _ _ _⟩ ?_
    refine lv_if_ne (tgt := 22) hx hb dX7_first_12 (by decide) (fun c6 => ?_) (fun c6 => ?_)
    · replace hM := itn c6 hM
      refine lv_aload_n hx hb dX7_first_22 rfl (lv_at hl 0 rfl) ?_
      refine wk_get hx hb hts hin_X7 hown hK hw.1 7 0 10 (.int (U0 10 0)) rfl rfl (by decide) (mi 1 rfl) rfl rfl dX7_first_23 ?_
      refine lv_if_ne (tgt := 36) hx hb dX7_first_26 (by decide) (fun c9 => ?_) (fun c9 => ?_)
      · replace hM := itn c9 hM
        refine lv_iconst (v := (0 : Int32)) hx hb dX7_first_36 (by decide) ?_
        refine lv_istore_n (lv' := [(3, .int (0 : Int32)), (0, .ref (a0 0)), (1, .int p1), (2, .int p2)]) hx hb dX7_first_37 rfl hl (by decide) rfl (fun ls hl => ?_)
        refine lv_iconst (v := (-1 : Int32)) hx hb dX7_first_38 (by decide) ?_
        refine lv_istore (lv' := [(4, .int (-1 : Int32)), (3, .int (0 : Int32)), (0, .ref (a0 0)), (1, .int p1), (2, .int p2)]) hx hb dX7_first_39 hl (by decide) rfl (fun ls hl => ?_)
        refine lv_iconst (v := (0 : Int32)) hx hb dX7_first_41 (by decide) ?_
        refine lv_istore (lv' := [(5, .int (0 : Int32)), (4, .int (-1 : Int32)), (3, .int (0 : Int32)), (0, .ref (a0 0)), (1, .int p1), (2, .int p2)]) hx hb dX7_first_42 hl (by decide) rfl (fun ls hl => ?_)
        obtain ⟨q19, hL44, hM⟩ := bd hM
        have hJ44 : ∀ (tX40 : Tr), tpOf tX40 = q19.2 → nlOf tX40 ≤ nlOf t0 → ∀ (H : Heap) (locs : List Loc), Wk g A s.heap H locs ((wXM g a0 U0 V0 M0 R0 kv (tvOf tX40)) ++ (wOT g tX40)) → ∀ (ls : Array Slot), lv_has ls 9 [(3, .int q19.1)] → W p l e (headSpec wsX7_first ({ frames := 5, cells := 28 * nlOf t0, slots := 759 * nlOf t0, locals := 140 } : Room)).room s m ([.ref (a0 0), .int p1, .int p2] : List Value).toArray below meth c H locs (28 * (nlOf t0 - nlOf tX40)) (759 * (nlOf t0 - nlOf tX40)) (MQ below (QcB g (some (.int q.1)) (fun t => (wXM g a0 U0 q.2.1 M0 R0 kv (tvOf t)) ++ wOT g t) q.2.2 A) ([.ref (a0 0), .int p1, .int p2] : List Value).toArray s (28 * nlOf t0) (759 * nlOf t0) A) (F0 m 159 ls []) := by
          intro tX40 hX41 hNX42 H locs hw ls hl
          refine lv_iload_n hx hb dX7_first_159 rfl (lv_at hl 0 rfl) ?_
          obtain rfl := Option.some.inj hM
          refine W.widen (k := 28 * nlOf t0) (n := 759 * nlOf t0) (nlc _ _ _) (nlc _ _ _) ?_
          exact W.iret hx hb hr (fun t ht _ => ⟨rfl, ⟨tX40, hX41, by rw [ht]; exact hw.1, hw.2.1⟩, hw.2.2.F ht⟩) hw.2.2.2.2 dX7_first_160
        have hW44 : ∀ (n : Nat) (v5_12 : Int32) (v4_13 : Int32) (v3_14 : Int32) (tpL16 : Option (Nat → Int32)), L_X7_first_44 U0 p1 p2 n v5_12 v4_13 v3_14 tpL16 = some q19 → ∀ (tL15 : Tr), tpOf tL15 = tpL16 → nlOf tL15 ≤ nlOf t0 → ∀ (H : Heap) (locs : List Loc), Wk g A s.heap H locs ((wXM g a0 U0 V0 M0 R0 kv (tvOf tL15)) ++ (wOT g tL15)) → ∀ (ls : Array Slot), lv_has ls 9 [(5, .int v5_12), (4, .int v4_13), (3, .int v3_14), (0, .ref (a0 0)), (1, .int p1), (2, .int p2)] → W p l e (headSpec wsX7_first ({ frames := 5, cells := 28 * nlOf t0, slots := 759 * nlOf t0, locals := 140 } : Room)).room s m ([.ref (a0 0), .int p1, .int p2] : List Value).toArray below meth c H locs (28 * (nlOf t0 - nlOf tL15)) (759 * (nlOf t0 - nlOf tL15)) (MQ below (QcB g (some (.int q.1)) (fun t => (wXM g a0 U0 q.2.1 M0 R0 kv (tvOf t)) ++ wOT g t) q.2.2 A) ([.ref (a0 0), .int p1, .int p2] : List Value).toArray s (28 * nlOf t0) (759 * nlOf t0) A) (F0 m 44 ls []) := by
          intro n
          induction n with
          | zero => intro v5_12 v4_13 v3_14 tpL16 hM; rw [L_X7_first_44] at hM; exact nn hM
          | succ n ih44 =>
            intro v5_12 v4_13 v3_14 tpL16 hM tL15 hL17 hN18 H locs hw ls hl
            rw [L_X7_first_44] at hM
            refine lv_iload hx hb dX7_first_44 (lv_at hl 0 rfl) ?_
            refine lv_aload_n hx hb dX7_first_46 rfl (lv_at hl 3 rfl) ?_
            refine wk_get hx hb hts hin_X7 hown hK hw.1 7 0 10 (.int (U0 10 0)) rfl rfl (by decide) (mi 1 rfl) rfl rfl dX7_first_47 ?_
            refine lv_icmp_ge (tgt := 159) hx hb dX7_first_50 (by decide) (fun c20 => ?_) (fun c20 => ?_)
            · replace hM := itp c20 hM
              obtain rfl := Option.some.inj hM
              exact hJ44 tL15 hL17 hN18 _ _ hw _ (lv_sub hl [2] rfl)
            · replace hM := itn c20 hM
              refine lv_aload_n hx hb dX7_first_53 rfl (lv_at hl 3 rfl) ?_
              refine rVF (t0 := t0) (As := []) (rest := []) (hn := hN18) hS (c_X7_fresh l g a0 U0 V0 M0 R0 kv tL15 tpL16 hL17) gX7_first_X7_fresh rfl hd_X7_fresh ⟨Nat.le_of_ble_eq_true rfl, Nat.le_of_ble_eq_true rfl⟩ hK hw hA rfl rfl rfl rfl hl.1 rfl (Nat.le_of_ble_eq_true rfl) dX7_first_54 (fun b22 G23 H locs hw => ?_)
              have hw : Wk g A s.heap H locs ((wXM g a0 U0 V0 M0 R0 kv (.ref (b22 0))) ++ (wXT g b22 G23 (fr0 U0 tpL16))) := hw
              refine lv_astore (lv' := [(6, .ref (b22 0)), (5, .int v5_12), (4, .int v4_13), (3, .int v3_14), (0, .ref (a0 0)), (1, .int p1), (2, .int p2)]) hx hb dX7_first_57 hl (by decide) rfl (fun ls hl => ?_)
              refine lv_aload hx hb dX7_first_59 (lv_at hl 0 rfl) ?_
              refine wk_get hx hb hts hin_X7 hown hK hw.1 7 28 15 (.ref (b22 5)) rfl rfl (by decide) (mi 2 rfl) rfl rfl dX7_first_61 ?_
              refine lv_iload hx hb dX7_first_64 (lv_at hl 1 rfl) ?_
              refine lv_dup2_11 hx hb dX7_first_66 rfl rfl ?_
              obtain ⟨k24, hM⟩ := ck hM
              refine wk_iald hx hb hK hw.1 33 7 ((fr0 U0 tpL16) 15) rfl k24 dX7_first_67 ?_
              refine lv_iconst (v := (1 : Int32)) hx hb dX7_first_68 (by decide) ?_
              refine lv_iload_n hx hb dX7_first_69 rfl (lv_at hl 5 rfl) ?_
              refine lv_ishl hx hb dX7_first_70 ?_
              refine lv_ior hx hb dX7_first_71 ?_
              refine wk_iast (wq := ((wXM g a0 U0 V0 M0 R0 kv (.ref (b22 0))) ++ (wXT g b22 G23 (up (fr0 U0 tpL16) 15 (upd ((fr0 U0 tpL16) 15) (v5_12).toNatClampNeg ((((fr0 U0 tpL16) 15) (v5_12).toNatClampNeg) ||| ((1 : Int32) <<< (p1 &&& 31)))))))) hx hb hK hw 33 7 ((fr0 U0 tpL16) 15) rfl k24 dX7_first_72 rfl (fun H locs hw => ?_)
              refine lv_iconst (v := (0 : Int32)) hx hb dX7_first_73 (by decide) ?_
              refine lv_istore (lv' := [(7, .int (0 : Int32)), (6, .ref (b22 0)), (5, .int v5_12), (4, .int v4_13), (3, .int v3_14), (0, .ref (a0 0)), (1, .int p1), (2, .int p2)]) hx hb dX7_first_74 hl (by decide) rfl (fun ls hl => ?_)
              obtain ⟨q27, hL76, hM⟩ := bd hM
              have hJ76 : ∀ (H : Heap) (locs : List Loc), Wk g A s.heap H locs ((wXM g a0 U0 V0 M0 R0 kv (.ref (b22 0))) ++ (wXT g b22 G23 q27)) → ∀ (ls : Array Slot), lv_has ls 9 [(6, .ref (b22 0)), (5, .int v5_12), (4, .int v4_13), (3, .int v3_14), (0, .ref (a0 0)), (1, .int p1), (2, .int p2)] → W p l e (headSpec wsX7_first ({ frames := 5, cells := 28 * nlOf t0, slots := 759 * nlOf t0, locals := 140 } : Room)).room s m ([.ref (a0 0), .int p1, .int p2] : List Value).toArray below meth c H locs (28 * nlOf t0) (759 * nlOf t0) (MQ below (QcB g (some (.int q.1)) (fun t => (wXM g a0 U0 q.2.1 M0 R0 kv (tvOf t)) ++ wOT g t) q.2.2 A) ([.ref (a0 0), .int p1, .int p2] : List Value).toArray s (28 * nlOf t0) (759 * nlOf t0) A) (F0 m 94 ls []) := by
                intro H locs hw ls hl
                refine lv_iconst (v := (0 : Int32)) hx hb dX7_first_94 (by decide) ?_
                refine lv_istore (lv' := [(7, .int (0 : Int32)), (6, .ref (b22 0)), (5, .int v5_12), (4, .int v4_13), (3, .int v3_14), (0, .ref (a0 0)), (1, .int p1), (2, .int p2)]) hx hb dX7_first_95 hl (by decide) rfl (fun ls hl => ?_)
                refine lv_iconst (v := (0 : Int32)) hx hb dX7_first_97 (by decide) ?_
                refine lv_istore (lv' := [(8, .int (0 : Int32)), (7, .int (0 : Int32)), (6, .ref (b22 0)), (5, .int v5_12), (4, .int v4_13), (3, .int v3_14), (0, .ref (a0 0)), (1, .int p1), (2, .int p2)]) hx hb dX7_first_98 hl (by decide) rfl (fun ls hl => ?_)
                obtain ⟨q33, hL100, hM⟩ := bd hM
                have hJ100 : ∀ (H : Heap) (locs : List Loc), Wk g A s.heap H locs ((wXM g a0 U0 V0 M0 R0 kv (.ref (b22 0))) ++ (wXT g b22 G23 q27)) → ∀ (ls : Array Slot), lv_has ls 9 [(7, .int q33), (5, .int v5_12), (4, .int v4_13), (3, .int v3_14), (0, .ref (a0 0)), (1, .int p1), (2, .int p2)] → W p l e (headSpec wsX7_first ({ frames := 5, cells := 28 * nlOf t0, slots := 759 * nlOf t0, locals := 140 } : Room)).room s m ([.ref (a0 0), .int p1, .int p2] : List Value).toArray below meth c H locs (28 * nlOf t0) (759 * nlOf t0) (MQ below (QcB g (some (.int q.1)) (fun t => (wXM g a0 U0 q.2.1 M0 R0 kv (tvOf t)) ++ wOT g t) q.2.2 A) ([.ref (a0 0), .int p1, .int p2] : List Value).toArray s (28 * nlOf t0) (759 * nlOf t0) A) (F0 m 139 ls []) := by
                  intro H locs hw ls hl
                  refine lv_iload hx hb dX7_first_139 (lv_at hl 0 rfl) ?_
                  refine lv_iload hx hb dX7_first_141 (lv_at hl 2 rfl) ?_
                  have hJ55 : ∀ (H : Heap) (locs : List Loc) (x53 : Int32) (x54 : Int32) (ls : Array Slot), Wk g A s.heap H locs ((wXM g a0 U0 V0 M0 R0 kv (.ref (b22 0))) ++ (wXT g b22 G23 q27)) → x53 = (if q33 ≤ v4_13 then v4_13 else q33) → x54 = (if q33 ≤ v4_13 then v3_14 else v5_12) → lv_has ls 9 [(5, .int v5_12), (4, .int x53), (3, .int x54), (0, .ref (a0 0)), (1, .int p1), (2, .int p2)] → W p l e (headSpec wsX7_first ({ frames := 5, cells := 28 * nlOf t0, slots := 759 * nlOf t0, locals := 140 } : Room)).room s m ([.ref (a0 0), .int p1, .int p2] : List Value).toArray below meth c H locs (28 * nlOf t0) (759 * nlOf t0) (MQ below (QcB g (some (.int q.1)) (fun t => (wXM g a0 U0 q.2.1 M0 R0 kv (tvOf t)) ++ wOT g t) q.2.2 A) ([.ref (a0 0), .int p1, .int p2] : List Value).toArray s (28 * nlOf t0) (759 * nlOf t0) A) (F0 m 153 ls []) := by
                    intro H locs x53 x54 ls hw hxx53 hxx54 hl
                    subst hxx53
                    subst hxx54
                    refine lv_iinc (v := (v5_12 + (1 : Int32))) (lv' := [(5, .int (v5_12 + (1 : Int32))), (4, .int (if q33 ≤ v4_13 then v4_13 else q33)), (3, .int (if q33 ≤ v4_13 then v3_14 else v5_12)), (0, .ref (a0 0)), (1, .int p1), (2, .int p2)]) hx hb dX7_first_153 hl (k := 0) rfl rfl (by decide) rfl (fun ls hl => ?_)
                    refine lv_goto (tgt := 44) hx hb dX7_first_156 (by decide) ?_
                    exact ih44 (v5_12 + (1 : Int32)) (if q33 ≤ v4_13 then v4_13 else q33) (if q33 ≤ v4_13 then v3_14 else v5_12) (some (q27 29)) hM (some (b22, G23, q27)) rfl (Nat.zero_le _) _ _ hw _ (lv_sub hl [0, 1, 2, 3, 4, 5] rfl)
                  refine lv_icmp_le (tgt := 153) hx hb dX7_first_143 (by decide) (fun c39 => ?_) (fun c39 => ?_)
                  · exact hJ55 _ _ _ _ _ hw (by first | with_reducible rfl | (simp only [if_pos c39]) | rfl) (by first | with_reducible rfl | (simp only [if_pos c39]) | rfl) (lv_sub hl [1, 2, 3, 4, 5, 6] rfl)
                  · refine lv_iload hx hb dX7_first_146 (lv_at hl 1 rfl) ?_
                    refine lv_istore_n (lv' := [(3, .int v5_12), (7, .int q33), (5, .int v5_12), (4, .int v4_13), (0, .ref (a0 0)), (1, .int p1), (2, .int p2)]) hx hb dX7_first_148 rfl hl (by decide) rfl (fun ls hl => ?_)
                    refine lv_iload hx hb dX7_first_149 (lv_at hl 1 rfl) ?_
                    refine lv_istore (lv' := [(4, .int q33), (3, .int v5_12), (7, .int q33), (5, .int v5_12), (0, .ref (a0 0)), (1, .int p1), (2, .int p2)]) hx hb dX7_first_151 hl (by decide) rfl (fun ls hl => ?_)
                    exact hJ55 _ _ _ _ _ hw (by first | with_reducible rfl | (simp only [if_neg c39]) | rfl) (by first | with_reducible rfl | (simp only [if_neg c39]) | rfl) (lv_sub hl [3, 0, 1, 4, 5, 6] rfl)
                have hW100 : ∀ (n : Nat) (v8_31 : Int32) (v7_32 : Int32), L_X7_first_100 U0 p1 q27 n v8_31 v7_32 = some q33 → ∀ (H : Heap) (locs : List Loc), Wk g A s.heap H locs ((wXM g a0 U0 V0 M0 R0 kv (.ref (b22 0))) ++ (wXT g b22 G23 q27)) → ∀ (ls : Array Slot), lv_has ls 9 [(8, .int v8_31), (7, .int v7_32), (6, .ref (b22 0)), (5, .int v5_12), (4, .int v4_13), (3, .int v3_14), (0, .ref (a0 0)), (1, .int p1), (2, .int p2)] → W p l e (headSpec wsX7_first ({ frames := 5, cells := 28 * nlOf t0, slots := 759 * nlOf t0, locals := 140 } : Room)).room s m ([.ref (a0 0), .int p1, .int p2] : List Value).toArray below meth c H locs (28 * nlOf t0) (759 * nlOf t0) (MQ below (QcB g (some (.int q.1)) (fun t => (wXM g a0 U0 q.2.1 M0 R0 kv (tvOf t)) ++ wOT g t) q.2.2 A) ([.ref (a0 0), .int p1, .int p2] : List Value).toArray s (28 * nlOf t0) (759 * nlOf t0) A) (F0 m 100 ls []) := by
                  intro n
                  induction n with
                  | zero => intro v8_31 v7_32 hM; rw [L_X7_first_100] at hM; exact nn hM
                  | succ n ih100 =>
                    intro v8_31 v7_32 hM H locs hw ls hl
                    rw [L_X7_first_100] at hM
                    refine lv_iload hx hb dX7_first_100 (lv_at hl 0 rfl) ?_
                    refine lv_aload_n hx hb dX7_first_102 rfl (lv_at hl 6 rfl) ?_
                    refine wk_get hx hb hts hin_X7 hown hK hw.1 7 0 10 (.int (U0 10 0)) rfl rfl (by decide) (mi 1 rfl) rfl rfl dX7_first_103 ?_
                    refine lv_icmp_ge (tgt := 139) hx hb dX7_first_106 (by decide) (fun c34 => ?_) (fun c34 => ?_)
                    · replace hM := itp c34 hM
                      obtain rfl := Option.some.inj hM
                      exact hJ100 _ _ hw _ (lv_sub hl [1, 3, 4, 5, 6, 7, 8] rfl)
                    · replace hM := itn c34 hM
                      refine lv_iload hx hb dX7_first_109 (lv_at hl 1 rfl) ?_
                      refine lv_aload hx hb dX7_first_111 (lv_at hl 2 rfl) ?_
                      refine lv_iload hx hb dX7_first_113 (lv_at hl 0 rfl) ?_
                      obtain ⟨q36, h35, hM⟩ := bd hM
                      refine rVR (wc := (wXT g b22 G23 q27)) (As := [.int v8_31]) (rest := [.int v7_32]) (q0 := 0) hS (c_X7_knows l g b22 G23 q27 v8_31 h35) gX7_first_X7_knows rfl hd_X7_knows ⟨Nat.le_of_ble_eq_true rfl, Nat.le_of_ble_eq_true rfl⟩ hK (va_P.pm hw.1 (pm_2_1 _ _)) rfl rfl rfl rfl hl.1 rfl (Nat.le_of_ble_eq_true rfl) dX7_first_115 ⟨Nat.le_refl _, Nat.le_refl _⟩ ?_
                      refine lv_iload_n hx hb dX7_first_118 rfl (lv_at hl 7 rfl) ?_
                      refine rSR (wc := ([] : va_W)) (As := [.int q36, .int p1]) (rest := [.int v7_32]) hS (c_X7_has l g q36 p1) gX7_first_X7_has rfl hd_X7_has ⟨Nat.le_of_ble_eq_true rfl, Nat.le_of_ble_eq_true rfl⟩ hK (hP_nil) rfl hl.1 rfl (Nat.le_of_ble_eq_true rfl) dX7_first_119 ⟨Nat.le_refl _, Nat.le_refl _⟩ ?_
                      have hJ57 : ∀ (H : Heap) (locs : List Loc) (x56 : Int32) (ls : Array Slot), Wk g A s.heap H locs ((wXM g a0 U0 V0 M0 R0 kv (.ref (b22 0))) ++ (wXT g b22 G23 q27)) → x56 = (if (f_X7_has q36 p1) = 0 then (0 : Int32) else (1 : Int32)) → lv_has ls 9 [(8, .int v8_31), (6, .ref (b22 0)), (5, .int v5_12), (4, .int v4_13), (3, .int v3_14), (0, .ref (a0 0)), (1, .int p1), (2, .int p2)] → W p l e (headSpec wsX7_first ({ frames := 5, cells := 28 * nlOf t0, slots := 759 * nlOf t0, locals := 140 } : Room)).room s m ([.ref (a0 0), .int p1, .int p2] : List Value).toArray below meth c H locs (28 * nlOf t0) (759 * nlOf t0) (MQ below (QcB g (some (.int q.1)) (fun t => (wXM g a0 U0 q.2.1 M0 R0 kv (tvOf t)) ++ wOT g t) q.2.2 A) ([.ref (a0 0), .int p1, .int p2] : List Value).toArray s (28 * nlOf t0) (759 * nlOf t0) A) (F0 m 130 ls [.int x56, .int v7_32]) := by
                        intro H locs x56 ls hw hxx56 hl
                        subst hxx56
                        refine lv_iadd hx hb dX7_first_130 ?_
                        refine lv_istore (lv' := [(7, .int (v7_32 + (if (f_X7_has q36 p1) = 0 then (0 : Int32) else (1 : Int32)))), (8, .int v8_31), (6, .ref (b22 0)), (5, .int v5_12), (4, .int v4_13), (3, .int v3_14), (0, .ref (a0 0)), (1, .int p1), (2, .int p2)]) hx hb dX7_first_131 hl (by decide) rfl (fun ls hl => ?_)
                        refine lv_iinc (v := (v8_31 + (1 : Int32))) (lv' := [(8, .int (v8_31 + (1 : Int32))), (7, .int (v7_32 + (if (f_X7_has q36 p1) = 0 then (0 : Int32) else (1 : Int32)))), (6, .ref (b22 0)), (5, .int v5_12), (4, .int v4_13), (3, .int v3_14), (0, .ref (a0 0)), (1, .int p1), (2, .int p2)]) hx hb dX7_first_133 hl (k := 1) rfl rfl (by decide) rfl (fun ls hl => ?_)
                        refine lv_goto (tgt := 100) hx hb dX7_first_136 (by decide) ?_
                        exact ih100 (v8_31 + (1 : Int32)) (v7_32 + (if (f_X7_has q36 p1) = 0 then (0 : Int32) else (1 : Int32))) hM _ _ hw _ (lv_sub hl [0, 1, 2, 3, 4, 5, 6, 7, 8] rfl)
                      refine lv_if_eq (tgt := 129) hx hb dX7_first_122 (by decide) (fun c38 => ?_) (fun c38 => ?_)
                      · refine lv_iconst (v := (0 : Int32)) hx hb dX7_first_129 (by decide) ?_
                        exact hJ57 _ _ _ _ hw (by first | with_reducible rfl | (simp only [if_pos c38]) | rfl) (lv_sub hl [0, 2, 3, 4, 5, 6, 7, 8] rfl)
                      · refine lv_iconst (v := (1 : Int32)) hx hb dX7_first_125 (by decide) ?_
                        refine lv_goto (tgt := 130) hx hb dX7_first_126 (by decide) ?_
                        exact hJ57 _ _ _ _ hw (by first | with_reducible rfl | (simp only [if_neg c38]) | rfl) (lv_sub hl [0, 2, 3, 4, 5, 6, 7, 8] rfl)
                exact hW100 300 (0 : Int32) (0 : Int32) hL100 _ _ hw _ (lv_sub hl [0, 1, 2, 3, 4, 5, 6, 7, 8] rfl)
              have hW76 : ∀ (n : Nat) (v7_25 : Int32) (UL26 : TS), L_X7_first_76 p2 n v7_25 UL26 = some q27 → ∀ (H : Heap) (locs : List Loc), Wk g A s.heap H locs ((wXM g a0 U0 V0 M0 R0 kv (.ref (b22 0))) ++ (wXT g b22 G23 UL26)) → ∀ (ls : Array Slot), lv_has ls 9 [(7, .int v7_25), (6, .ref (b22 0)), (5, .int v5_12), (4, .int v4_13), (3, .int v3_14), (0, .ref (a0 0)), (1, .int p1), (2, .int p2)] → W p l e (headSpec wsX7_first ({ frames := 5, cells := 28 * nlOf t0, slots := 759 * nlOf t0, locals := 140 } : Room)).room s m ([.ref (a0 0), .int p1, .int p2] : List Value).toArray below meth c H locs (28 * nlOf t0) (759 * nlOf t0) (MQ below (QcB g (some (.int q.1)) (fun t => (wXM g a0 U0 q.2.1 M0 R0 kv (tvOf t)) ++ wOT g t) q.2.2 A) ([.ref (a0 0), .int p1, .int p2] : List Value).toArray s (28 * nlOf t0) (759 * nlOf t0) A) (F0 m 76 ls []) := by
                intro n
                induction n with
                | zero => intro v7_25 UL26 hM; rw [L_X7_first_76] at hM; exact nn hM
                | succ n ih76 =>
                  intro v7_25 UL26 hM H locs hw ls hl
                  rw [L_X7_first_76] at hM
                  refine lv_iload hx hb dX7_first_76 (lv_at hl 0 rfl) ?_
                  refine lv_iload_n hx hb dX7_first_78 rfl (lv_at hl 7 rfl) ?_
                  refine lv_icmp_ge (tgt := 94) hx hb dX7_first_79 (by decide) (fun c28 => ?_) (fun c28 => ?_)
                  · replace hM := itp c28 hM
                    obtain rfl := Option.some.inj hM
                    exact hJ76 _ _ hw _ (lv_sub hl [1, 2, 3, 4, 5, 6, 7] rfl)
                  · replace hM := itn c28 hM
                    refine lv_aload hx hb dX7_first_82 (lv_at hl 1 rfl) ?_
                    obtain ⟨q30, h29, hM⟩ := bd hM
                    refine rVWp (wc := (wXT g b22 G23 UL26)) (wq := ((wXM g a0 U0 V0 M0 R0 kv (.ref (b22 0))) ++ (wXT g b22 G23 q30.2))) (As := []) (rest := []) (q0 := 0) hS (c_X7_goesRound l g b22 G23 UL26 h29) gX7_first_X7_goesRound rfl hd_X7_goesRound ⟨Nat.le_of_ble_eq_true rfl, Nat.le_of_ble_eq_true rfl⟩ hK hw hA (pm_2_1 _ _) rfl (pm_2_1 _ _) rfl rfl rfl rfl hl.1 rfl (Nat.le_of_ble_eq_true rfl) dX7_first_84 ⟨Nat.le_refl _, Nat.le_refl _⟩ (fun H locs hw => ?_)
                    refine lv_pop hx hb dX7_first_87 rfl ?_
                    refine lv_iinc (v := (v7_25 + (1 : Int32))) (lv' := [(7, .int (v7_25 + (1 : Int32))), (6, .ref (b22 0)), (5, .int v5_12), (4, .int v4_13), (3, .int v3_14), (0, .ref (a0 0)), (1, .int p1), (2, .int p2)]) hx hb dX7_first_88 hl (k := 0) rfl rfl (by decide) rfl (fun ls hl => ?_)
                    refine lv_goto (tgt := 76) hx hb dX7_first_91 (by decide) ?_
                    exact ih76 (v7_25 + (1 : Int32)) q30.2 hM _ _ hw _ (lv_sub hl [0, 1, 2, 3, 4, 5, 6, 7] rfl)
              exact hW76 300 (0 : Int32) (up (fr0 U0 tpL16) 15 (upd ((fr0 U0 tpL16) 15) (v5_12).toNatClampNeg ((((fr0 U0 tpL16) 15) (v5_12).toNatClampNeg) ||| ((1 : Int32) <<< (p1 &&& 31))))) hL76 _ _ hw _ (lv_sub hl [0, 1, 2, 3, 4, 5, 6, 7] rfl)
        exact hW44 300 (0 : Int32) (-1 : Int32) (0 : Int32) tp0 hL44 t0 h0 (Nat.le_refl _) _ _ hw _ (lv_sub hl [0, 1, 2, 3, 4, 5] rfl)
      · replace hM := itp c9 hM
        refine lv_aload_n hx hb dX7_first_29 rfl (lv_at hl 0 rfl) ?_
        refine lv_bipush (v := (-5 : Int32)) hx hb dX7_first_30 (by decide) ?_
        obtain ⟨q11, h10, hM⟩ := bd hM
        refine rVWp (wc := (wXM g a0 U0 V0 M0 R0 kv (tvOf t0))) (wq := ((wXM g a0 U0 q11.2 M0 R0 kv (tvOf t0)) ++ (wOT g t0))) (As := [.int (-5 : Int32)]) (rest := []) (q0 := 0) hS (c_X7_refuse l g a0 kv (tvOf t0) U0 V0 M0 R0 (-5 : Int32) h10) gX7_first_X7_refuse rfl hd_X7_refuse ⟨Nat.le_of_ble_eq_true rfl, Nat.le_of_ble_eq_true rfl⟩ hK hw hA (pm_2_0 _ _) rfl (pm_2_0 _ _) rfl rfl rfl rfl hl.1 rfl (Nat.le_of_ble_eq_true rfl) dX7_first_32 ⟨nlc _ _ _, nlc _ _ _⟩ (fun H locs hw => ?_)
        obtain rfl := Option.some.inj hM
        refine W.widen (k := 28 * nlOf t0) (n := 759 * nlOf t0) (nlc _ _ _) (nlc _ _ _) ?_
        exact W.iret hx hb hr (fun t ht _ => ⟨rfl, ⟨t0, h0, by rw [ht]; exact hw.1, hw.2.1⟩, hw.2.2.F ht⟩) hw.2.2.2.2 dX7_first_35
    · replace hM := itp c6 hM
      refine lv_aload_n hx hb dX7_first_15 rfl (lv_at hl 0 rfl) ?_
      refine lv_bipush (v := (-2 : Int32)) hx hb dX7_first_16 (by decide) ?_
      obtain ⟨q8, h7, hM⟩ := bd hM
      refine rVWp (wc := (wXM g a0 U0 V0 M0 R0 kv (tvOf t0))) (wq := ((wXM g a0 U0 q8.2 M0 R0 kv (tvOf t0)) ++ (wOT g t0))) (As := [.int (-2 : Int32)]) (rest := []) (q0 := 0) hS (c_X7_refuse l g a0 kv (tvOf t0) U0 V0 M0 R0 (-2 : Int32) h7) gX7_first_X7_refuse rfl hd_X7_refuse ⟨Nat.le_of_ble_eq_true rfl, Nat.le_of_ble_eq_true rfl⟩ hK hw hA (pm_2_0 _ _) rfl (pm_2_0 _ _) rfl rfl rfl rfl hl.1 rfl (Nat.le_of_ble_eq_true rfl) dX7_first_18 ⟨nlc _ _ _, nlc _ _ _⟩ (fun H locs hw => ?_)
      obtain rfl := Option.some.inj hM
      refine W.widen (k := 28 * nlOf t0) (n := 759 * nlOf t0) (nlc _ _ _) (nlc _ _ _) ?_
      exact W.iret hx hb hr (fun t ht _ => ⟨rfl, ⟨t0, h0, by rw [ht]; exact hw.1, hw.2.1⟩, hw.2.2.F ht⟩) hw.2.2.2.2 dX7_first_21
theorem hd_X7_firstOf : yX7_firstOf.cls ≠ "java/lang/invoke/MethodHandle" ∧ yX7_firstOf.cls ≠ "java/lang/invoke/VarHandle" ∧ (parseMethodDescriptor yX7_firstOf.desc).map (fun d => d.parameters.length) = some 1 := by decide +kernel
set_option maxHeartbeats 4000000 in
set_option maxRecDepth 100000 in
theorem c_X7_firstOf (l : Launch) (g : Gm) (p0 : Int32) {q : Int32} (hM : f_X7_firstOf p0 = some q) : MR l yX7_firstOf wsX7_firstOf 1 21 g [.int p0] ([] : va_W) (some (.int q)) := by
  refine Met.ofW (cc := cX7_firstOf) (maxL := 2) (ret := (some .int)) (by decide) rfl ?_
  intro p e s m args below meth c s₁ B hml hv
  obtain ⟨rfl, hP, hK⟩ := hv
  have hx := B.exec; have hb := B.bytes; have hr := B.returns
  have hts := atoms_spec (ws := wsX7_firstOf) B.pre
  have hown : s.vm.findClass RX7 = some m.cls := findClass_of_methodNamed B.named
  have hlocks := B.notSynchronized
  have hS : CallFix p m c cX7_firstOf 2 s _ wsX7_firstOf RX7 := ⟨hx, hb, hml, hown, hts⟩
  have hl := lv_entry ([.int p0]) (n := 2) (Nat.le_of_ble_eq_true rfl)
  rw [lg_entry_eq]
  generalize (lg_sl ([.int p0]) ++ List.replicate (2 - (lg_sl ([.int p0])).length) Slot.unset).toArray = ls at hl ⊢
  have hl : lv_has ls 2 [(0, .int p0)] := hl
  rw [f_X7_firstOf] at hM
  refine lv_iconst (v := (0 : Int32)) hx hb dX7_firstOf_0 (by decide) ?_
  refine lv_istore_n (lv' := [(1, .int (0 : Int32)), (0, .int p0)]) hx hb dX7_firstOf_1 rfl hl (by decide) rfl (fun ls hl => ?_)
  obtain ⟨q2, hL2, hM2⟩ := bd hM
  have hJ2 : ∀ (q2x : Unit), q2 = .inr q2x → ∀ (ls : Array Slot), lv_has ls 2 [] → W p l e (headSpec wsX7_firstOf ({ frames := 1, cells := 0, slots := 0, locals := 21 } : Room)).room s m ([.int p0] : List Value).toArray below meth c s.heap [] 0 0 (MQ below (QcR (some (.int q))) ([.int p0] : List Value).toArray s 0 0 (fun _ => False)) (F0 m 24 ls []) := by
    intro q2x hX2 ls hl
    rw [hX2] at hM2
    have hM := eo_inr hM2
    refine lv_iconst (v := (-1 : Int32)) hx hb dX7_firstOf_24 (by decide) ?_
    obtain rfl := Option.some.inj hM
    exact W.iret hx hb hr (fun t ht _ => ⟨rfl, ht⟩) (fun q hq => by cases hq) dX7_firstOf_25
  have hW2 : ∀ (n : Nat) (v1_1 : Int32), L_X7_firstOf_2 p0 n v1_1 = some q2 → ∀ (ls : Array Slot), lv_has ls 2 [(1, .int v1_1), (0, .int p0)] → W p l e (headSpec wsX7_firstOf ({ frames := 1, cells := 0, slots := 0, locals := 21 } : Room)).room s m ([.int p0] : List Value).toArray below meth c s.heap [] 0 0 (MQ below (QcR (some (.int q))) ([.int p0] : List Value).toArray s 0 0 (fun _ => False)) (F0 m 2 ls []) := by
    intro n
    induction n with
    | zero => intro v1_1 hM; rw [L_X7_firstOf_2] at hM; exact nn hM
    | succ n ih2 =>
      intro v1_1 hM ls hl
      rw [L_X7_firstOf_2] at hM
      refine lv_iload_n hx hb dX7_firstOf_2 rfl (lv_at hl 0 rfl) ?_
      refine lv_bipush (v := (8 : Int32)) hx hb dX7_firstOf_3 (by decide) ?_
      refine lv_icmp_ge (tgt := 24) hx hb dX7_firstOf_5 (by decide) (fun c3 => ?_) (fun c3 => ?_)
      · replace hM := itp c3 hM
        exact hJ2 _ (Option.some.inj hM).symm _ (lv_sub hl [] rfl)
      · replace hM := itn c3 hM
        refine lv_iload_n hx hb dX7_firstOf_8 rfl (lv_at hl 1 rfl) ?_
        refine lv_iload_n hx hb dX7_firstOf_9 rfl (lv_at hl 0 rfl) ?_
        refine rSR (wc := ([] : va_W)) (As := [.int p0, .int v1_1]) (rest := []) hS (c_X7_has l g p0 v1_1) gX7_firstOf_X7_has rfl hd_X7_has ⟨Nat.le_of_ble_eq_true rfl, Nat.le_of_ble_eq_true rfl⟩ hK (hP_nil) rfl hl.1 rfl (Nat.le_of_ble_eq_true rfl) dX7_firstOf_10 ⟨Nat.zero_le _, Nat.zero_le _⟩ ?_
        refine lv_if_eq (tgt := 18) hx hb dX7_firstOf_13 (by decide) (fun c5 => ?_) (fun c5 => ?_)
        · replace hM := itp c5 hM
          refine lv_iinc (v := (v1_1 + (1 : Int32))) (lv' := [(1, .int (v1_1 + (1 : Int32))), (0, .int p0)]) hx hb dX7_firstOf_18 hl (k := 0) rfl rfl (by decide) rfl (fun ls hl => ?_)
          refine lv_goto (tgt := 2) hx hb dX7_firstOf_21 (by decide) ?_
          exact ih2 (v1_1 + (1 : Int32)) hM _ (lv_sub hl [0, 1] rfl)
        · replace hM := itn c5 hM
          refine lv_iload_n hx hb dX7_firstOf_16 rfl (lv_at hl 0 rfl) ?_
          have hE := Option.some.inj hM
          have hM2' := hM2
          rw [← hE] at hM2'
          obtain rfl := eo_inl hM2'
          exact W.iret hx hb hr (fun t ht _ => ⟨rfl, ht⟩) (fun q hq => by cases hq) dX7_firstOf_17
  exact hW2 300 (0 : Int32) hL2 _ (lv_sub hl [0, 1] rfl)
theorem hd_X7_fit : yX7_fit.cls ≠ "java/lang/invoke/MethodHandle" ∧ yX7_fit.cls ≠ "java/lang/invoke/VarHandle" ∧ (parseMethodDescriptor yX7_fit.desc).map (fun d => d.parameters.length) = some 2 := by decide +kernel
set_option maxHeartbeats 4000000 in
set_option maxRecDepth 100000 in
theorem c_X7_fit (l : Launch) (g : Gm) (p0 : Int32) (p1 : Int64) : MR l yX7_fit wsX7_fit 0 0 g [.int p0, .long p1] ([] : va_W) (some (.long (f_X7_fit p0 p1))) := by
  refine Met.ofW (cc := cX7_fit) (maxL := 3) (ret := (some .long)) (by decide) rfl ?_
  intro p e s m args below meth c s₁ B hml hv
  obtain ⟨rfl, hP, hK⟩ := hv
  have hx := B.exec; have hb := B.bytes; have hr := B.returns
  have hts := atoms_spec (ws := wsX7_fit) B.pre
  have hown : s.vm.findClass RX7 = some m.cls := findClass_of_methodNamed B.named
  have hlocks := B.notSynchronized
  have hS : CallFix p m c cX7_fit 3 s _ wsX7_fit RX7 := ⟨hx, hb, hml, hown, hts⟩
  have hl := lv_entry ([.int p0, .long p1]) (n := 3) (Nat.le_of_ble_eq_true rfl)
  rw [lg_entry_eq]
  generalize (lg_sl ([.int p0, .long p1]) ++ List.replicate (3 - (lg_sl ([.int p0, .long p1])).length) Slot.unset).toArray = ls at hl ⊢
  have hl : lv_has ls 3 [(0, .int p0), (1, .long p1)] := hl
  obtain ⟨rr, hM⟩ : ∃ rr, f_X7_fit p0 p1 = rr := ⟨_, rfl⟩
  rw [hM]
  rw [f_X7_fit] at hM
  refine lv_iload_n hx hb dX7_fit_0 rfl (lv_at hl 0 rfl) ?_
  by_cases c1_0 : p0 = (0 : Int32)
  · replace hM := itp c1_0 hM
    refine lv_tableIn (tgt := 32) hx hb dX7_fit_1 (by rw [c1_0]; decide) (by rw [c1_0]; decide) (by rw [c1_0]; first | done | rfl) (by decide) ?_
    refine lv_lload_n hx hb dX7_fit_32 rfl (lv_at hl 1 rfl) ?_
    refine lv_l2i (v := ((p1).toInt32)) hx hb dX7_fit_33 rfl ?_
    refine lv_i2b (v := ((((p1).toInt32)).toInt8.toInt32)) hx hb dX7_fit_34 rfl ?_
    refine lv_i2l (v := ((((((p1).toInt32)).toInt8.toInt32)).toInt64)) hx hb dX7_fit_35 rfl ?_
    subst hM
    exact W.lret hx hb hr (fun t ht _ => ⟨rfl, ht⟩) (fun q hq => by cases hq) dX7_fit_36
  replace hM := itn c1_0 hM
  by_cases c1_1 : p0 = (1 : Int32)
  · replace hM := itp c1_1 hM
    refine lv_tableIn (tgt := 37) hx hb dX7_fit_1 (by rw [c1_1]; decide) (by rw [c1_1]; decide) (by rw [c1_1]; first | done | rfl) (by decide) ?_
    refine lv_lload_n hx hb dX7_fit_37 rfl (lv_at hl 1 rfl) ?_
    refine lv_l2i (v := ((p1).toInt32)) hx hb dX7_fit_38 rfl ?_
    refine lv_i2s (v := ((((p1).toInt32)).toInt16.toInt32)) hx hb dX7_fit_39 rfl ?_
    refine lv_i2l (v := ((((((p1).toInt32)).toInt16.toInt32)).toInt64)) hx hb dX7_fit_40 rfl ?_
    subst hM
    exact W.lret hx hb hr (fun t ht _ => ⟨rfl, ht⟩) (fun q hq => by cases hq) dX7_fit_41
  replace hM := itn c1_1 hM
  by_cases c1_2 : p0 = (2 : Int32)
  · replace hM := itp c1_2 hM
    refine lv_tableIn (tgt := 42) hx hb dX7_fit_1 (by rw [c1_2]; decide) (by rw [c1_2]; decide) (by rw [c1_2]; first | done | rfl) (by decide) ?_
    refine lv_lload_n hx hb dX7_fit_42 rfl (lv_at hl 1 rfl) ?_
    refine lv_l2i (v := ((p1).toInt32)) hx hb dX7_fit_43 rfl ?_
    refine lv_i2l (v := ((((p1).toInt32)).toInt64)) hx hb dX7_fit_44 rfl ?_
    subst hM
    exact W.lret hx hb hr (fun t ht _ => ⟨rfl, ht⟩) (fun q hq => by cases hq) dX7_fit_45
  replace hM := itn c1_2 hM
  by_cases c1_3 : p0 = (3 : Int32)
  · replace hM := itp c1_3 hM
    refine lv_tableIn (tgt := 46) hx hb dX7_fit_1 (by rw [c1_3]; decide) (by rw [c1_3]; decide) (by rw [c1_3]; first | done | rfl) (by decide) ?_
    refine lv_lload_n hx hb dX7_fit_46 rfl (lv_at hl 1 rfl) ?_
    subst hM
    exact W.lret hx hb hr (fun t ht _ => ⟨rfl, ht⟩) (fun q hq => by cases hq) dX7_fit_47
  replace hM := itn c1_3 hM
  refine lv_tableOut (tgt := 48) hx hb dX7_fit_1 (sw_out (lo := 0) (hi := 3) (by decide) (by decide) (fun k h1 h2 hk => by
            have hs : k = (0 : Int) ∨ k = (1 : Int) ∨ k = (2 : Int) ∨ k = (3 : Int) := by omega
            rcases hs with hs | hs | hs | hs <;> subst hs <;> first | exact c1_0 (Int32.toInt_inj.mp (hk.trans (by decide))) | exact c1_1 (Int32.toInt_inj.mp (hk.trans (by decide))) | exact c1_2 (Int32.toInt_inj.mp (hk.trans (by decide))) | exact c1_3 (Int32.toInt_inj.mp (hk.trans (by decide))))) (by decide) ?_
  refine lv_lload_n hx hb dX7_fit_48 rfl (lv_at hl 1 rfl) ?_
  refine lv_lconst (v := (0 : Int64)) hx hb dX7_fit_49 (by decide) ?_
  refine W.lcmp hx hb dX7_fit_50 ?_
  have hJ8 : ∀ (x7 : Int64) (ls : Array Slot), x7 = (if (lg_cmp p1 (0 : Int64)) = 0 then (0 : Int64) else (1 : Int64)) → lv_has ls 3 [] → W p l e (headSpec wsX7_fit ({ frames := 0, cells := 0, slots := 0, locals := 0 } : Room)).room s m ([.int p0, .long p1] : List Value).toArray below meth c s.heap [] 0 0 (MQ below (QcR (some (.long rr))) ([.int p0, .long p1] : List Value).toArray s 0 0 (fun _ => False)) (F0 m 59 ls [.long x7]) := by
    intro x7 ls hxx7 hl
    subst hxx7
    subst hM
    exact W.lret hx hb hr (fun t ht _ => ⟨rfl, ht⟩) (fun q hq => by cases hq) dX7_fit_59
  refine lv_if_eq (tgt := 58) hx hb dX7_fit_51 (by decide) (fun c2 => ?_) (fun c2 => ?_)
  · refine lv_lconst (v := (0 : Int64)) hx hb dX7_fit_58 (by decide) ?_
    exact hJ8 _ _ (by first | with_reducible rfl | (simp only [if_pos c2]) | rfl) (lv_sub hl [] rfl)
  · refine lv_lconst (v := (1 : Int64)) hx hb dX7_fit_54 (by decide) ?_
    refine lv_goto (tgt := 59) hx hb dX7_fit_55 (by decide) ?_
    exact hJ8 _ _ (by first | with_reducible rfl | (simp only [if_neg c2]) | rfl) (lv_sub hl [] rfl)
theorem hd_X7_silent : yX7_silent.cls = RX7 ∧ yX7_silent.cls ≠ "java/lang/invoke/MethodHandle" ∧ yX7_silent.cls ≠ "java/lang/invoke/VarHandle" ∧ (parseMethodDescriptor yX7_silent.desc).map (fun d => d.parameters.length) = some 3 := by decide +kernel
set_option maxHeartbeats 4000000 in
set_option maxRecDepth 100000 in
theorem c_X7_silent (l : Launch) (g : Gm) (a0 : Nat → Nat) (kv : Value) (tv : Value) (U0 : TS) (V0 : TS) (M0 : LTS) (R0 : LTS) (p1 : Int32) (p2 : Int32) (p3 : Int32) {q : Int32} (hM : f_X7_silent U0 V0 M0 R0 p1 p2 p3 = some q) : MR l yX7_silent wsX7_silent 1 21 g [.ref (a0 0), .int p1, .int p2, .int p3] (wXM g a0 U0 V0 M0 R0 kv tv) (some (.int q)) := by
  refine Met.ofW (cc := cX7_silent) (maxL := 10) (ret := (some .int)) (by decide) rfl ?_
  intro p e s m args below meth c s₁ B hml hv
  obtain ⟨rfl, hP, hK⟩ := hv
  have hx := B.exec; have hb := B.bytes; have hr := B.returns
  have hts := atoms_spec (ws := wsX7_silent) B.pre
  have hown : s.vm.findClass RX7 = some m.cls := findClass_of_methodNamed B.named
  have hlocks := B.notSynchronized
  have hS : CallFix p m c cX7_silent 10 s _ wsX7_silent RX7 := ⟨hx, hb, hml, hown, hts⟩
  have hin_X7 : ∀ w ∈ wsX70, w ∈ wsX7_silent := fun w h => (List.mem_cons_of_mem _ (List.mem_append_right _ h))
  have hl := lv_entry ([.ref (a0 0), .int p1, .int p2, .int p3]) (n := 10) (Nat.le_of_ble_eq_true rfl)
  rw [lg_entry_eq]
  generalize (lg_sl ([.ref (a0 0), .int p1, .int p2, .int p3]) ++ List.replicate (10 - (lg_sl ([.ref (a0 0), .int p1, .int p2, .int p3])).length) Slot.unset).toArray = ls at hl ⊢
  have hl : lv_has ls 10 [(0, .ref (a0 0)), (1, .int p1), (2, .int p2), (3, .int p3)] := hl
  rw [f_X7_silent] at hM
  refine lv_iconst (v := (0 : Int32)) hx hb dX7_silent_0 (by decide) ?_
  refine lv_istore (lv' := [(4, .int (0 : Int32)), (0, .ref (a0 0)), (1, .int p1), (2, .int p2), (3, .int p3)]) hx hb dX7_silent_1 hl (by decide) rfl (fun ls hl => ?_)
  refine lv_iconst (v := (0 : Int32)) hx hb dX7_silent_3 (by decide) ?_
  refine lv_istore (lv' := [(5, .int (0 : Int32)), (4, .int (0 : Int32)), (0, .ref (a0 0)), (1, .int p1), (2, .int p2), (3, .int p3)]) hx hb dX7_silent_4 hl (by decide) rfl (fun ls hl => ?_)
  obtain ⟨q3, hL6, hM⟩ := bd hM
  have hJ6 : ∀ (ls : Array Slot), lv_has ls 10 [(4, .int q3)] → W p l e (headSpec wsX7_silent ({ frames := 1, cells := 0, slots := 0, locals := 21 } : Room)).room s m ([.ref (a0 0), .int p1, .int p2, .int p3] : List Value).toArray below meth c s.heap [] 0 0 (MQ below (QcR (some (.int q))) ([.ref (a0 0), .int p1, .int p2, .int p3] : List Value).toArray s 0 0 (fun _ => False)) (F0 m 131 ls []) := by
    intro ls hl
    refine lv_iload hx hb dX7_silent_131 (lv_at hl 0 rfl) ?_
    obtain rfl := Option.some.inj hM
    exact W.iret hx hb hr (fun t ht _ => ⟨rfl, ht⟩) (fun q hq => by cases hq) dX7_silent_133
  have hW6 : ∀ (n : Nat) (v5_1 : Int32) (v4_2 : Int32), L_X7_silent_6 U0 R0 p1 p2 p3 n v5_1 v4_2 = some q3 → ∀ (ls : Array Slot), lv_has ls 10 [(5, .int v5_1), (4, .int v4_2), (0, .ref (a0 0)), (1, .int p1), (2, .int p2), (3, .int p3)] → W p l e (headSpec wsX7_silent ({ frames := 1, cells := 0, slots := 0, locals := 21 } : Room)).room s m ([.ref (a0 0), .int p1, .int p2, .int p3] : List Value).toArray below meth c s.heap [] 0 0 (MQ below (QcR (some (.int q))) ([.ref (a0 0), .int p1, .int p2, .int p3] : List Value).toArray s 0 0 (fun _ => False)) (F0 m 6 ls []) := by
    intro n
    induction n with
    | zero => intro v5_1 v4_2 hM; rw [L_X7_silent_6] at hM; exact nn hM
    | succ n ih6 =>
      intro v5_1 v4_2 hM ls hl
      rw [L_X7_silent_6] at hM
      refine lv_iload hx hb dX7_silent_6 (lv_at hl 0 rfl) ?_
      refine lv_aload_n hx hb dX7_silent_8 rfl (lv_at hl 2 rfl) ?_
      refine wk_get hx hb hts hin_X7 hown hK hP 7 0 10 (.int (U0 10 0)) rfl rfl (by decide) (mi 1 rfl) rfl rfl dX7_silent_9 ?_
      refine lv_icmp_ge (tgt := 131) hx hb dX7_silent_12 (by decide) (fun c4 => ?_) (fun c4 => ?_)
      · replace hM := itp c4 hM
        obtain rfl := Option.some.inj hM
        exact hJ6 _ (lv_sub hl [1] rfl)
      · replace hM := itn c4 hM
        refine lv_iconst (v := (0 : Int32)) hx hb dX7_silent_15 (by decide) ?_
        refine lv_istore (lv' := [(6, .int (0 : Int32)), (5, .int v5_1), (4, .int v4_2), (0, .ref (a0 0)), (1, .int p1), (2, .int p2), (3, .int p3)]) hx hb dX7_silent_16 hl (by decide) rfl (fun ls hl => ?_)
        refine lv_iconst (v := (0 : Int32)) hx hb dX7_silent_18 (by decide) ?_
        refine lv_istore (lv' := [(7, .int (0 : Int32)), (6, .int (0 : Int32)), (5, .int v5_1), (4, .int v4_2), (0, .ref (a0 0)), (1, .int p1), (2, .int p2), (3, .int p3)]) hx hb dX7_silent_19 hl (by decide) rfl (fun ls hl => ?_)
        refine lv_iconst (v := (0 : Int32)) hx hb dX7_silent_21 (by decide) ?_
        refine lv_istore (lv' := [(8, .int (0 : Int32)), (7, .int (0 : Int32)), (6, .int (0 : Int32)), (5, .int v5_1), (4, .int v4_2), (0, .ref (a0 0)), (1, .int p1), (2, .int p2), (3, .int p3)]) hx hb dX7_silent_22 hl (by decide) rfl (fun ls hl => ?_)
        obtain ⟨q8, hL24, hM⟩ := bd hM
        have hJ24 : ∀ (ls : Array Slot), lv_has ls 10 [(7, .int q8.1), (6, .int q8.2), (5, .int v5_1), (4, .int v4_2), (0, .ref (a0 0)), (1, .int p1), (2, .int p2), (3, .int p3)] → W p l e (headSpec wsX7_silent ({ frames := 1, cells := 0, slots := 0, locals := 21 } : Room)).room s m ([.ref (a0 0), .int p1, .int p2, .int p3] : List Value).toArray below meth c s.heap [] 0 0 (MQ below (QcR (some (.int q))) ([.ref (a0 0), .int p1, .int p2, .int p3] : List Value).toArray s 0 0 (fun _ => False)) (F0 m 102 ls []) := by
          intro ls hl
          refine lv_iload hx hb dX7_silent_102 (lv_at hl 3 rfl) ?_
          refine lv_iload hx hb dX7_silent_104 (lv_at hl 1 rfl) ?_
          have hJ28 : ∀ (x27 : Int32) (ls : Array Slot), x27 = (if q8.2 = 0 then (0 : Int32) else (if q8.1 = 0 then ((1 : Int32) <<< (v5_1 &&& 31)) else (0 : Int32))) → lv_has ls 10 [(5, .int v5_1), (0, .ref (a0 0)), (1, .int p1), (2, .int p2), (3, .int p3)] → W p l e (headSpec wsX7_silent ({ frames := 1, cells := 0, slots := 0, locals := 21 } : Room)).room s m ([.ref (a0 0), .int p1, .int p2, .int p3] : List Value).toArray below meth c s.heap [] 0 0 (MQ below (QcR (some (.int q))) ([.ref (a0 0), .int p1, .int p2, .int p3] : List Value).toArray s 0 0 (fun _ => False)) (F0 m 122 ls [.int x27, .int v4_2]) := by
            intro x27 ls hxx27 hl
            subst hxx27
            refine lv_ior hx hb dX7_silent_122 ?_
            refine lv_istore (lv' := [(4, .int (v4_2 ||| (if q8.2 = 0 then (0 : Int32) else (if q8.1 = 0 then ((1 : Int32) <<< (v5_1 &&& 31)) else (0 : Int32))))), (5, .int v5_1), (0, .ref (a0 0)), (1, .int p1), (2, .int p2), (3, .int p3)]) hx hb dX7_silent_123 hl (by decide) rfl (fun ls hl => ?_)
            refine lv_iinc (v := (v5_1 + (1 : Int32))) (lv' := [(5, .int (v5_1 + (1 : Int32))), (4, .int (v4_2 ||| (if q8.2 = 0 then (0 : Int32) else (if q8.1 = 0 then ((1 : Int32) <<< (v5_1 &&& 31)) else (0 : Int32))))), (0, .ref (a0 0)), (1, .int p1), (2, .int p2), (3, .int p3)]) hx hb dX7_silent_125 hl (k := 1) rfl rfl (by decide) rfl (fun ls hl => ?_)
            refine lv_goto (tgt := 6) hx hb dX7_silent_128 (by decide) ?_
            exact ih6 (v5_1 + (1 : Int32)) (v4_2 ||| (if q8.2 = 0 then (0 : Int32) else (if q8.1 = 0 then ((1 : Int32) <<< (v5_1 &&& 31)) else (0 : Int32)))) hM _ (lv_sub hl [0, 1, 2, 3, 4, 5] rfl)
          refine lv_if_eq (tgt := 121) hx hb dX7_silent_106 (by decide) (fun c17 => ?_) (fun c17 => ?_)
          · refine lv_iconst (v := (0 : Int32)) hx hb dX7_silent_121 (by decide) ?_
            exact hJ28 _ _ (by first | with_reducible rfl | (simp only [if_pos c17]) | rfl) (lv_sub hl [2, 4, 5, 6, 7] rfl)
          · refine lv_iload hx hb dX7_silent_109 (lv_at hl 0 rfl) ?_
            refine lv_if_ne (tgt := 121) hx hb dX7_silent_111 (by decide) (fun c18 => ?_) (fun c18 => ?_)
            · refine lv_iconst (v := (0 : Int32)) hx hb dX7_silent_121 (by decide) ?_
              exact hJ28 _ _ (by first | with_reducible rfl | (simp only [if_neg c17, if_neg c18]) | rfl) (lv_sub hl [2, 4, 5, 6, 7] rfl)
            · refine lv_iconst (v := (1 : Int32)) hx hb dX7_silent_114 (by decide) ?_
              refine lv_iload hx hb dX7_silent_115 (lv_at hl 2 rfl) ?_
              refine lv_ishl hx hb dX7_silent_117 ?_
              refine lv_goto (tgt := 122) hx hb dX7_silent_118 (by decide) ?_
              exact hJ28 _ _ (by first | with_reducible rfl | (simp only [if_neg c17, if_pos c18]) | rfl) (lv_sub hl [2, 4, 5, 6, 7] rfl)
        have hW24 : ∀ (n : Nat) (v8_5 : Int32) (v7_6 : Int32) (v6_7 : Int32), L_X7_silent_24 U0 R0 p1 p2 p3 v5_1 n v8_5 v7_6 v6_7 = some q8 → ∀ (ls : Array Slot), lv_has ls 10 [(8, .int v8_5), (7, .int v7_6), (6, .int v6_7), (5, .int v5_1), (4, .int v4_2), (0, .ref (a0 0)), (1, .int p1), (2, .int p2), (3, .int p3)] → W p l e (headSpec wsX7_silent ({ frames := 1, cells := 0, slots := 0, locals := 21 } : Room)).room s m ([.ref (a0 0), .int p1, .int p2, .int p3] : List Value).toArray below meth c s.heap [] 0 0 (MQ below (QcR (some (.int q))) ([.ref (a0 0), .int p1, .int p2, .int p3] : List Value).toArray s 0 0 (fun _ => False)) (F0 m 24 ls []) := by
          intro n
          induction n with
          | zero => intro v8_5 v7_6 v6_7 hM; rw [L_X7_silent_24] at hM; exact nn hM
          | succ n ih24 =>
            intro v8_5 v7_6 v6_7 hM ls hl
            rw [L_X7_silent_24] at hM
            refine lv_iload hx hb dX7_silent_24 (lv_at hl 0 rfl) ?_
            refine lv_iload_n hx hb dX7_silent_26 rfl (lv_at hl 7 rfl) ?_
            refine lv_icmp_ge (tgt := 102) hx hb dX7_silent_27 (by decide) (fun c9 => ?_) (fun c9 => ?_)
            · replace hM := itp c9 hM
              obtain rfl := Option.some.inj hM
              exact hJ24 _ (lv_sub hl [1, 2, 3, 4, 5, 6, 7, 8] rfl)
            · replace hM := itn c9 hM
              refine lv_aload_n hx hb dX7_silent_30 rfl (lv_at hl 5 rfl) ?_
              refine wk_get hx hb hts hin_X7 hown hK hP 7 0 3 (.ref (a0 12)) rfl rfl (by decide) (mi 2 rfl) rfl rfl dX7_silent_31 ?_
              refine lv_iload_n hx hb dX7_silent_34 rfl (lv_at hl 6 rfl) ?_
              obtain ⟨k10, hM⟩ := ck hM
              refine wk_aald hx hb hK hP 12 8 (fun i => a0 (20 + i)) 3 rfl (k10) rfl rfl dX7_silent_35 ?_
              refine lv_iload hx hb dX7_silent_36 (lv_at hl 0 rfl) ?_
              obtain ⟨k11, hM⟩ := ck hM
              refine wk_lald hx hb hK hP (20 + (p1).toNatClampNeg) 40 (R0 (p1).toNatClampNeg) (wXM_row (Nat.lt_of_not_le (fun z => k10 (Or.inr z)))) k11 dX7_silent_38 ?_
              refine lv_l2i (v := ((((R0 (p1).toNatClampNeg) (v8_5).toNatClampNeg)).toInt32)) hx hb dX7_silent_39 rfl ?_
              refine lv_istore (lv' := [(9, .int ((((R0 (p1).toNatClampNeg) (v8_5).toNatClampNeg)).toInt32)), (8, .int v8_5), (7, .int v7_6), (6, .int v6_7), (5, .int v5_1), (4, .int v4_2), (0, .ref (a0 0)), (1, .int p1), (2, .int p2), (3, .int p3)]) hx hb dX7_silent_40 hl (by decide) rfl (fun ls hl => ?_)
              refine lv_iload hx hb dX7_silent_42 (lv_at hl 0 rfl) ?_
              refine lv_bipush (v := (10 : Int32)) hx hb dX7_silent_44 (by decide) ?_
              refine lv_irem hx hb dX7_silent_46 (by decide) ?_
              refine lv_iload_n hx hb dX7_silent_47 rfl (lv_at hl 9 rfl) ?_
              refine lv_icmp_ne (tgt := 96) hx hb dX7_silent_48 (by decide) (fun c12 => ?_) (fun c12 => ?_)
              · replace hM := itn c12 hM
                refine lv_iinc (v := (v8_5 + (1 : Int32))) (lv' := [(8, .int (v8_5 + (1 : Int32))), (9, .int ((((R0 (p1).toNatClampNeg) (v8_5).toNatClampNeg)).toInt32)), (7, .int v7_6), (6, .int v6_7), (5, .int v5_1), (4, .int v4_2), (0, .ref (a0 0)), (1, .int p1), (2, .int p2), (3, .int p3)]) hx hb dX7_silent_96 hl (k := 1) rfl rfl (by decide) rfl (fun ls hl => ?_)
                refine lv_goto (tgt := 24) hx hb dX7_silent_99 (by decide) ?_
                exact ih24 (v8_5 + (1 : Int32)) v7_6 v6_7 hM _ (lv_sub hl [0, 2, 3, 4, 5, 6, 7, 8, 9] rfl)
              · replace hM := itp c12 hM
                refine lv_iload hx hb dX7_silent_51 (lv_at hl 2 rfl) ?_
                refine lv_iload hx hb dX7_silent_53 (lv_at hl 3 rfl) ?_
                have hJ30 : ∀ (x29 : Int32) (ls : Array Slot), x29 = (if v6_7 = 0 then (0 : Int32) else (if (((((R0 (p1).toNatClampNeg) (v8_5).toNatClampNeg)).toInt32) / (10 : Int32)) = v5_1 then (1 : Int32) else (0 : Int32))) → lv_has ls 10 [(9, .int ((((R0 (p1).toNatClampNeg) (v8_5).toNatClampNeg)).toInt32)), (8, .int v8_5), (6, .int v6_7), (5, .int v5_1), (4, .int v4_2), (0, .ref (a0 0)), (1, .int p1), (2, .int p2), (3, .int p3)] → W p l e (headSpec wsX7_silent ({ frames := 1, cells := 0, slots := 0, locals := 21 } : Room)).room s m ([.ref (a0 0), .int p1, .int p2, .int p3] : List Value).toArray below meth c s.heap [] 0 0 (MQ below (QcR (some (.int q))) ([.ref (a0 0), .int p1, .int p2, .int p3] : List Value).toArray s 0 0 (fun _ => False)) (F0 m 73 ls [.int x29, .int v7_6]) := by
                  intro x29 ls hxx29 hl
                  subst hxx29
                  refine lv_ior hx hb dX7_silent_73 ?_
                  refine lv_istore (lv' := [(7, .int (v7_6 ||| (if v6_7 = 0 then (0 : Int32) else (if (((((R0 (p1).toNatClampNeg) (v8_5).toNatClampNeg)).toInt32) / (10 : Int32)) = v5_1 then (1 : Int32) else (0 : Int32))))), (9, .int ((((R0 (p1).toNatClampNeg) (v8_5).toNatClampNeg)).toInt32)), (8, .int v8_5), (6, .int v6_7), (5, .int v5_1), (4, .int v4_2), (0, .ref (a0 0)), (1, .int p1), (2, .int p2), (3, .int p3)]) hx hb dX7_silent_74 hl (by decide) rfl (fun ls hl => ?_)
                  refine lv_iload hx hb dX7_silent_76 (lv_at hl 3 rfl) ?_
                  refine lv_aload_n hx hb dX7_silent_78 rfl (lv_at hl 6 rfl) ?_
                  refine wk_get hx hb hts hin_X7 hown hK hP 7 0 16 (.ref (a0 6)) rfl rfl (by decide) (mi 3 rfl) rfl rfl dX7_silent_79 ?_
                  refine lv_iload hx hb dX7_silent_82 (lv_at hl 4 rfl) ?_
                  obtain ⟨k15, hM⟩ := ck hM
                  refine wk_iald hx hb hK hP 6 7 (U0 16) rfl k15 dX7_silent_84 ?_
                  refine lv_iload hx hb dX7_silent_85 (lv_at hl 1 rfl) ?_
                  refine lv_bipush (v := (10 : Int32)) hx hb dX7_silent_87 (by decide) ?_
                  refine lv_idiv hx hb dX7_silent_89 (by decide) ?_
                  refine rSR (wc := ([] : va_W)) (As := [.int ((U0 16) (v5_1).toNatClampNeg), .int (((((R0 (p1).toNatClampNeg) (v8_5).toNatClampNeg)).toInt32) / (10 : Int32))]) (rest := [.int v6_7]) hS (c_X7_has l g ((U0 16) (v5_1).toNatClampNeg) (((((R0 (p1).toNatClampNeg) (v8_5).toNatClampNeg)).toInt32) / (10 : Int32))) gX7_silent_X7_has rfl hd_X7_has ⟨Nat.le_of_ble_eq_true rfl, Nat.le_of_ble_eq_true rfl⟩ hK (hP_nil) rfl hl.1 rfl (Nat.le_of_ble_eq_true rfl) dX7_silent_90 ⟨Nat.zero_le _, Nat.zero_le _⟩ ?_
                  refine lv_ior hx hb dX7_silent_93 ?_
                  refine lv_istore (lv' := [(6, .int (v6_7 ||| (f_X7_has ((U0 16) (v5_1).toNatClampNeg) (((((R0 (p1).toNatClampNeg) (v8_5).toNatClampNeg)).toInt32) / (10 : Int32))))), (7, .int (v7_6 ||| (if v6_7 = 0 then (0 : Int32) else (if (((((R0 (p1).toNatClampNeg) (v8_5).toNatClampNeg)).toInt32) / (10 : Int32)) = v5_1 then (1 : Int32) else (0 : Int32))))), (9, .int ((((R0 (p1).toNatClampNeg) (v8_5).toNatClampNeg)).toInt32)), (8, .int v8_5), (5, .int v5_1), (4, .int v4_2), (0, .ref (a0 0)), (1, .int p1), (2, .int p2), (3, .int p3)]) hx hb dX7_silent_94 hl (by decide) rfl (fun ls hl => ?_)
                  refine lv_iinc (v := (v8_5 + (1 : Int32))) (lv' := [(8, .int (v8_5 + (1 : Int32))), (6, .int (v6_7 ||| (f_X7_has ((U0 16) (v5_1).toNatClampNeg) (((((R0 (p1).toNatClampNeg) (v8_5).toNatClampNeg)).toInt32) / (10 : Int32))))), (7, .int (v7_6 ||| (if v6_7 = 0 then (0 : Int32) else (if (((((R0 (p1).toNatClampNeg) (v8_5).toNatClampNeg)).toInt32) / (10 : Int32)) = v5_1 then (1 : Int32) else (0 : Int32))))), (9, .int ((((R0 (p1).toNatClampNeg) (v8_5).toNatClampNeg)).toInt32)), (5, .int v5_1), (4, .int v4_2), (0, .ref (a0 0)), (1, .int p1), (2, .int p2), (3, .int p3)]) hx hb dX7_silent_96 hl (k := 3) rfl rfl (by decide) rfl (fun ls hl => ?_)
                  refine lv_goto (tgt := 24) hx hb dX7_silent_99 (by decide) ?_
                  exact ih24 (v8_5 + (1 : Int32)) (v7_6 ||| (if v6_7 = 0 then (0 : Int32) else (if (((((R0 (p1).toNatClampNeg) (v8_5).toNatClampNeg)).toInt32) / (10 : Int32)) = v5_1 then (1 : Int32) else (0 : Int32)))) (v6_7 ||| (f_X7_has ((U0 16) (v5_1).toNatClampNeg) (((((R0 (p1).toNatClampNeg) (v8_5).toNatClampNeg)).toInt32) / (10 : Int32)))) hM _ (lv_sub hl [0, 2, 1, 4, 5, 6, 7, 8, 9] rfl)
                refine lv_if_eq (tgt := 72) hx hb dX7_silent_55 (by decide) (fun c13 => ?_) (fun c13 => ?_)
                · refine lv_iconst (v := (0 : Int32)) hx hb dX7_silent_72 (by decide) ?_
                  exact hJ30 _ _ (by first | with_reducible rfl | (simp only [if_pos c13]) | rfl) (lv_sub hl [0, 1, 3, 4, 5, 6, 7, 8, 9] rfl)
                · refine lv_iload hx hb dX7_silent_58 (lv_at hl 0 rfl) ?_
                  refine lv_bipush (v := (10 : Int32)) hx hb dX7_silent_60 (by decide) ?_
                  refine lv_idiv hx hb dX7_silent_62 (by decide) ?_
                  refine lv_iload hx hb dX7_silent_63 (lv_at hl 4 rfl) ?_
                  refine lv_icmp_ne (tgt := 72) hx hb dX7_silent_65 (by decide) (fun c14 => ?_) (fun c14 => ?_)
                  · refine lv_iconst (v := (0 : Int32)) hx hb dX7_silent_72 (by decide) ?_
                    exact hJ30 _ _ (by first | with_reducible rfl | (simp only [if_neg c13, if_neg c14]) | rfl) (lv_sub hl [0, 1, 3, 4, 5, 6, 7, 8, 9] rfl)
                  · refine lv_iconst (v := (1 : Int32)) hx hb dX7_silent_68 (by decide) ?_
                    refine lv_goto (tgt := 73) hx hb dX7_silent_69 (by decide) ?_
                    exact hJ30 _ _ (by first | with_reducible rfl | (simp only [if_neg c13, if_pos c14]) | rfl) (lv_sub hl [0, 1, 3, 4, 5, 6, 7, 8, 9] rfl)
        exact hW24 300 (0 : Int32) (0 : Int32) (0 : Int32) hL24 _ (lv_sub hl [0, 1, 2, 3, 4, 5, 6, 7, 8] rfl)
  exact hW6 300 (0 : Int32) (0 : Int32) hL6 _ (lv_sub hl [0, 1, 2, 3, 4, 5] rfl)
theorem hd_X7_mouthsOf : yX7_mouthsOf.cls = RX7 ∧ yX7_mouthsOf.cls ≠ "java/lang/invoke/MethodHandle" ∧ yX7_mouthsOf.cls ≠ "java/lang/invoke/VarHandle" ∧ (parseMethodDescriptor yX7_mouthsOf.desc).map (fun d => d.parameters.length) = some 1 := by decide +kernel
set_option maxHeartbeats 4000000 in
set_option maxRecDepth 100000 in
theorem c_X7_mouthsOf (l : Launch) (g : Gm) (a0 : Nat → Nat) (Fw0 : Nat → Value) (U0 : TS) (p1 : Int32) {q : Int32} (hM : f_X7_mouthsOf U0 p1 = some q) : MR l yX7_mouthsOf wsX7_mouthsOf 2 46 g [.ref (a0 0), .int p1] (wXT g a0 Fw0 U0) (some (.int q)) := by
  refine Met.ofW (cc := cX7_mouthsOf) (maxL := 4) (ret := (some .int)) (by decide) rfl ?_
  intro p e s m args below meth c s₁ B hml hv
  obtain ⟨rfl, hP, hK⟩ := hv
  have hx := B.exec; have hb := B.bytes; have hr := B.returns
  have hts := atoms_spec (ws := wsX7_mouthsOf) B.pre
  have hown : s.vm.findClass RX7 = some m.cls := findClass_of_methodNamed B.named
  have hlocks := B.notSynchronized
  have hS : CallFix p m c cX7_mouthsOf 4 s _ wsX7_mouthsOf RX7 := ⟨hx, hb, hml, hown, hts⟩
  have hin_X7 : ∀ w ∈ wsX70, w ∈ wsX7_mouthsOf := fun w h => (List.mem_cons_of_mem _ (List.mem_append_right _ h))
  have hl := lv_entry ([.ref (a0 0), .int p1]) (n := 4) (Nat.le_of_ble_eq_true rfl)
  rw [lg_entry_eq]
  generalize (lg_sl ([.ref (a0 0), .int p1]) ++ List.replicate (4 - (lg_sl ([.ref (a0 0), .int p1])).length) Slot.unset).toArray = ls at hl ⊢
  have hl : lv_has ls 4 [(0, .ref (a0 0)), (1, .int p1)] := hl
  rw [f_X7_mouthsOf] at hM
  refine lv_iconst (v := (0 : Int32)) hx hb dX7_mouthsOf_0 (by decide) ?_
  refine lv_istore_n (lv' := [(2, .int (0 : Int32)), (0, .ref (a0 0)), (1, .int p1)]) hx hb dX7_mouthsOf_1 rfl hl (by decide) rfl (fun ls hl => ?_)
  refine lv_iconst (v := (0 : Int32)) hx hb dX7_mouthsOf_2 (by decide) ?_
  refine lv_istore_n (lv' := [(3, .int (0 : Int32)), (2, .int (0 : Int32)), (0, .ref (a0 0)), (1, .int p1)]) hx hb dX7_mouthsOf_3 rfl hl (by decide) rfl (fun ls hl => ?_)
  obtain ⟨q3, hL4, hM⟩ := bd hM
  have hJ4 : ∀ (ls : Array Slot), lv_has ls 4 [(2, .int q3)] → W p l e (headSpec wsX7_mouthsOf ({ frames := 2, cells := 0, slots := 0, locals := 46 } : Room)).room s m ([.ref (a0 0), .int p1] : List Value).toArray below meth c s.heap [] 0 0 (MQ below (QcR (some (.int q))) ([.ref (a0 0), .int p1] : List Value).toArray s 0 0 (fun _ => False)) (F0 m 40 ls []) := by
    intro ls hl
    refine lv_iload_n hx hb dX7_mouthsOf_40 rfl (lv_at hl 0 rfl) ?_
    obtain rfl := Option.some.inj hM
    exact W.iret hx hb hr (fun t ht _ => ⟨rfl, ht⟩) (fun q hq => by cases hq) dX7_mouthsOf_41
  have hW4 : ∀ (n : Nat) (v3_1 : Int32) (v2_2 : Int32), L_X7_mouthsOf_4 U0 p1 n v3_1 v2_2 = some q3 → ∀ (ls : Array Slot), lv_has ls 4 [(3, .int v3_1), (2, .int v2_2), (0, .ref (a0 0)), (1, .int p1)] → W p l e (headSpec wsX7_mouthsOf ({ frames := 2, cells := 0, slots := 0, locals := 46 } : Room)).room s m ([.ref (a0 0), .int p1] : List Value).toArray below meth c s.heap [] 0 0 (MQ below (QcR (some (.int q))) ([.ref (a0 0), .int p1] : List Value).toArray s 0 0 (fun _ => False)) (F0 m 4 ls []) := by
    intro n
    induction n with
    | zero => intro v3_1 v2_2 hM; rw [L_X7_mouthsOf_4] at hM; exact nn hM
    | succ n ih4 =>
      intro v3_1 v2_2 hM ls hl
      rw [L_X7_mouthsOf_4] at hM
      refine lv_iload_n hx hb dX7_mouthsOf_4 rfl (lv_at hl 0 rfl) ?_
      refine lv_aload_n hx hb dX7_mouthsOf_5 rfl (lv_at hl 2 rfl) ?_
      refine wk_get hx hb hts hin_X7 hown hK hP 7 0 10 (.int (U0 10 0)) rfl rfl (by decide) (mi 1 rfl) rfl rfl dX7_mouthsOf_6 ?_
      refine lv_icmp_ge (tgt := 40) hx hb dX7_mouthsOf_9 (by decide) (fun c4 => ?_) (fun c4 => ?_)
      · replace hM := itp c4 hM
        obtain rfl := Option.some.inj hM
        exact hJ4 _ (lv_sub hl [1] rfl)
      · replace hM := itn c4 hM
        refine lv_iload_n hx hb dX7_mouthsOf_12 rfl (lv_at hl 1 rfl) ?_
        refine lv_aload_n hx hb dX7_mouthsOf_13 rfl (lv_at hl 2 rfl) ?_
        refine lv_iload_n hx hb dX7_mouthsOf_14 rfl (lv_at hl 0 rfl) ?_
        obtain ⟨q6, h5, hM⟩ := bd hM
        refine rVR (wc := (wXT g a0 Fw0 U0)) (As := [.int v3_1]) (rest := [.int v2_2]) (q0 := 0) hS (c_X7_mayOf l g a0 Fw0 U0 v3_1 h5) gX7_mouthsOf_X7_mayOf rfl hd_X7_mayOf ⟨Nat.le_of_ble_eq_true rfl, Nat.le_of_ble_eq_true rfl⟩ hK (va_P.pm hP (pm_1_0 _)) rfl rfl rfl rfl hl.1 rfl (Nat.le_of_ble_eq_true rfl) dX7_mouthsOf_15 ⟨Nat.zero_le _, Nat.zero_le _⟩ ?_
        refine lv_iload_n hx hb dX7_mouthsOf_18 rfl (lv_at hl 3 rfl) ?_
        refine rSR (wc := ([] : va_W)) (As := [.int q6, .int p1]) (rest := [.int v2_2]) hS (c_X7_has l g q6 p1) gX7_mouthsOf_X7_has rfl hd_X7_has ⟨Nat.le_of_ble_eq_true rfl, Nat.le_of_ble_eq_true rfl⟩ hK (hP_nil) rfl hl.1 rfl (Nat.le_of_ble_eq_true rfl) dX7_mouthsOf_19 ⟨Nat.zero_le _, Nat.zero_le _⟩ ?_
        have hJ14 : ∀ (x13 : Int32) (ls : Array Slot), x13 = (if (f_X7_has q6 p1) = 0 then (0 : Int32) else ((1 : Int32) <<< (v3_1 &&& 31))) → lv_has ls 4 [(3, .int v3_1), (0, .ref (a0 0)), (1, .int p1)] → W p l e (headSpec wsX7_mouthsOf ({ frames := 2, cells := 0, slots := 0, locals := 46 } : Room)).room s m ([.ref (a0 0), .int p1] : List Value).toArray below meth c s.heap [] 0 0 (MQ below (QcR (some (.int q))) ([.ref (a0 0), .int p1] : List Value).toArray s 0 0 (fun _ => False)) (F0 m 32 ls [.int x13, .int v2_2]) := by
          intro x13 ls hxx13 hl
          subst hxx13
          refine lv_ior hx hb dX7_mouthsOf_32 ?_
          refine lv_istore_n (lv' := [(2, .int (v2_2 ||| (if (f_X7_has q6 p1) = 0 then (0 : Int32) else ((1 : Int32) <<< (v3_1 &&& 31))))), (3, .int v3_1), (0, .ref (a0 0)), (1, .int p1)]) hx hb dX7_mouthsOf_33 rfl hl (by decide) rfl (fun ls hl => ?_)
          refine lv_iinc (v := (v3_1 + (1 : Int32))) (lv' := [(3, .int (v3_1 + (1 : Int32))), (2, .int (v2_2 ||| (if (f_X7_has q6 p1) = 0 then (0 : Int32) else ((1 : Int32) <<< (v3_1 &&& 31))))), (0, .ref (a0 0)), (1, .int p1)]) hx hb dX7_mouthsOf_34 hl (k := 1) rfl rfl (by decide) rfl (fun ls hl => ?_)
          refine lv_goto (tgt := 4) hx hb dX7_mouthsOf_37 (by decide) ?_
          exact ih4 (v3_1 + (1 : Int32)) (v2_2 ||| (if (f_X7_has q6 p1) = 0 then (0 : Int32) else ((1 : Int32) <<< (v3_1 &&& 31)))) hM _ (lv_sub hl [0, 1, 2, 3] rfl)
        refine lv_if_eq (tgt := 31) hx hb dX7_mouthsOf_22 (by decide) (fun c8 => ?_) (fun c8 => ?_)
        · refine lv_iconst (v := (0 : Int32)) hx hb dX7_mouthsOf_31 (by decide) ?_
          exact hJ14 _ _ (by first | with_reducible rfl | (simp only [if_pos c8]) | rfl) (lv_sub hl [0, 2, 3] rfl)
        · refine lv_iconst (v := (1 : Int32)) hx hb dX7_mouthsOf_25 (by decide) ?_
          refine lv_iload_n hx hb dX7_mouthsOf_26 rfl (lv_at hl 0 rfl) ?_
          refine lv_ishl hx hb dX7_mouthsOf_27 ?_
          refine lv_goto (tgt := 32) hx hb dX7_mouthsOf_28 (by decide) ?_
          exact hJ14 _ _ (by first | with_reducible rfl | (simp only [if_neg c8]) | rfl) (lv_sub hl [0, 2, 3] rfl)
  exact hW4 300 (0 : Int32) (0 : Int32) hL4 _ (lv_sub hl [0, 1, 2, 3] rfl)
theorem hd_X7_free : yX7_free.cls = RX7 ∧ yX7_free.cls ≠ "java/lang/invoke/MethodHandle" ∧ yX7_free.cls ≠ "java/lang/invoke/VarHandle" ∧ (parseMethodDescriptor yX7_free.desc).map (fun d => d.parameters.length) = some 3 := by decide +kernel
set_option maxHeartbeats 4000000 in
set_option maxRecDepth 100000 in
theorem c_X7_free (l : Launch) (g : Gm) (a0 : Nat → Nat) (U0 : TS) (V0 : TS) (M0 : LTS) (R0 : LTS) (kv : Value) (t0 : Tr) (tp0 : Option (Nat → Int32)) (h0 : tpOf t0 = tp0) (p1 : Int32) (p2 : Int32) (p3 : Int32) {q : (Int32 × TS × (Option (Nat → Int32)))} (hM : f_X7_free U0 V0 M0 R0 tp0 p1 p2 p3 = some q) : MB l yX7_free wsX7_free 5 140 g [.ref (a0 0), .int p1, .int p2, .int p3] (fun t => (wXM g a0 U0 V0 M0 R0 kv (tvOf t)) ++ wOT g t) t0 (some (.int q.1)) (fun t => (wXM g a0 U0 q.2.1 M0 R0 kv (tvOf t)) ++ wOT g t) q.2.2 := by
  intro sz
  refine Met.ofW (cc := cX7_free) (maxL := 8) (ret := (some .int)) (by decide) rfl ?_
  intro p e s m args below meth c s₁ B hml hv
  obtain ⟨rfl, hsz, hP, hK, hD0⟩ := hv
  have hx := B.exec; have hb := B.bytes; have hr := B.returns
  have hts := atoms_spec (ws := wsX7_free) B.pre
  have hown : s.vm.findClass RX7 = some m.cls := findClass_of_methodNamed B.named
  have hlocks := B.notSynchronized
  have hS : CallFix p m c cX7_free 8 s _ wsX7_free RX7 := ⟨hx, hb, hml, hown, hts⟩
  have hin_X7 : ∀ w ∈ wsX70, w ∈ wsX7_free := fun w h => (List.mem_cons_of_mem _ (List.mem_append_right _ h))
  subst hsz
  have hw := wk_start hP hD0
  have hA : ∀ q : Nat, s.heap.size ≤ q → va_A ((wXM g a0 U0 V0 M0 R0 kv (tvOf t0)) ++ (wOT g t0)) s.heap.size q := fun q h => Or.inr h
  generalize va_A ((wXM g a0 U0 V0 M0 R0 kv (tvOf t0)) ++ (wOT g t0)) s.heap.size = A at hw hA ⊢
  clear hP hD0
  have hl := lv_entry ([.ref (a0 0), .int p1, .int p2, .int p3]) (n := 8) (Nat.le_of_ble_eq_true rfl)
  rw [lg_entry_eq]
  generalize (lg_sl ([.ref (a0 0), .int p1, .int p2, .int p3]) ++ List.replicate (8 - (lg_sl ([.ref (a0 0), .int p1, .int p2, .int p3])).length) Slot.unset).toArray = ls at hl ⊢
  have hl : lv_has ls 8 [(0, .ref (a0 0)), (1, .int p1), (2, .int p2), (3, .int p3)] := hl
  refine W_nl t0 ?_
  rw [f_X7_free] at hM
  refine lv_aload_n hx hb dX7_free_0 rfl (lv_at hl 0 rfl) ?_
  refine lv_iload_n hx hb dX7_free_1 rfl (lv_at hl 3 rfl) ?_
  refine rVR (wc := (wXT g a0 (fm a0 V0 kv (tvOf t0)) U0)) (As := [.int p3]) (rest := []) (q0 := 0) hS (c_X7_isSight l g a0 (fm a0 V0 kv (tvOf t0)) U0 p3) gX7_free_X7_isSight rfl hd_X7_isSight ⟨Nat.le_of_ble_eq_true rfl, Nat.le_of_ble_eq_true rfl⟩ hK (va_P.pm hw.1 (pmX2 _ _ _ _ _ _ _ _ _)) rfl rfl rfl rfl hl.1 rfl (Nat.le_of_ble_eq_true rfl) dX7_free_2 ⟨nlc _ _ _, nlc _ _ _⟩ ?_
  refine lv_if_ne (tgt := 15) hx hb dX7_free_5 (by decide) (fun c2 => ?_) (fun c2 => ?_)
  · replace hM := itn c2 hM
    refine lv_aload_n hx hb dX7_free_15 rfl (lv_at hl 0 rfl) ?_
    refine lv_iload_n hx hb dX7_free_16 rfl (lv_at hl 1 rfl) ?_
    refine lv_iload_n hx hb dX7_free_17 rfl (lv_at hl 2 rfl) ?_
    obtain ⟨q6, h5, hM⟩ := bd hM
    refine rVWp (wc := (wXM g a0 U0 V0 M0 R0 kv (tvOf t0))) (wq := ((wXM g a0 U0 q6.2 M0 R0 kv (tvOf t0)) ++ (wOT g t0))) (As := [.int p1, .int p2]) (rest := []) (q0 := 0) hS (c_X7_noSayings l g a0 kv (tvOf t0) U0 V0 M0 R0 p1 p2 h5) gX7_free_X7_noSayings rfl hd_X7_noSayings ⟨Nat.le_of_ble_eq_true rfl, Nat.le_of_ble_eq_true rfl⟩ hK hw hA (pm_2_0 _ _) rfl (pm_2_0 _ _) rfl rfl rfl rfl hl.1 rfl (Nat.le_of_ble_eq_true rfl) dX7_free_18 ⟨nlc _ _ _, nlc _ _ _⟩ (fun H locs hw => ?_)
    refine lv_istore (lv' := [(4, .int q6.1), (0, .ref (a0 0)), (1, .int p1), (2, .int p2), (3, .int p3)]) hx hb dX7_free_21 hl (by decide) rfl (fun ls hl => ?_)
    refine lv_iload hx hb dX7_free_23 (lv_at hl 0 rfl) ?_
    refine lv_if_eq (tgt := 31) hx hb dX7_free_25 (by decide) (fun c7 => ?_) (fun c7 => ?_)
    · replace hM := itp c7 hM
      refine lv_aload_n hx hb dX7_free_31 rfl (lv_at hl 1 rfl) ?_
      refine rVF (t0 := t0) (As := []) (rest := []) (hn := (Nat.le_refl _)) hS (c_X7_fresh l g a0 U0 q6.2 M0 R0 kv t0 tp0 h0) gX7_free_X7_fresh rfl hd_X7_fresh ⟨Nat.le_of_ble_eq_true rfl, Nat.le_of_ble_eq_true rfl⟩ hK hw hA rfl rfl rfl rfl hl.1 rfl (Nat.le_of_ble_eq_true rfl) dX7_free_32 (fun b9 G10 H locs hw => ?_)
      have hw : Wk g A s.heap H locs ((wXM g a0 U0 q6.2 M0 R0 kv (.ref (b9 0))) ++ (wXT g b9 G10 (fr0 U0 tp0))) := hw
      refine lv_astore (lv' := [(5, .ref (b9 0)), (4, .int q6.1), (0, .ref (a0 0)), (1, .int p1), (2, .int p2), (3, .int p3)]) hx hb dX7_free_35 hl (by decide) rfl (fun ls hl => ?_)
      refine lv_iconst (v := (0 : Int32)) hx hb dX7_free_37 (by decide) ?_
      refine lv_istore (lv' := [(6, .int (0 : Int32)), (5, .ref (b9 0)), (4, .int q6.1), (0, .ref (a0 0)), (1, .int p1), (2, .int p2), (3, .int p3)]) hx hb dX7_free_38 hl (by decide) rfl (fun ls hl => ?_)
      obtain ⟨q13, hL40, hM⟩ := bd hM
      have hJ40 : ∀ (H : Heap) (locs : List Loc), Wk g A s.heap H locs ((wXM g a0 U0 q6.2 M0 R0 kv (.ref (b9 0))) ++ (wXT g b9 G10 q13)) → ∀ (ls : Array Slot), lv_has ls 8 [(5, .ref (b9 0)), (0, .ref (a0 0)), (1, .int p1), (2, .int p2), (3, .int p3)] → W p l e (headSpec wsX7_free ({ frames := 5, cells := 28 * nlOf t0, slots := 759 * nlOf t0, locals := 140 } : Room)).room s m ([.ref (a0 0), .int p1, .int p2, .int p3] : List Value).toArray below meth c H locs (28 * nlOf t0) (759 * nlOf t0) (MQ below (QcB g (some (.int q.1)) (fun t => (wXM g a0 U0 q.2.1 M0 R0 kv (tvOf t)) ++ wOT g t) q.2.2 A) ([.ref (a0 0), .int p1, .int p2, .int p3] : List Value).toArray s (28 * nlOf t0) (759 * nlOf t0) A) (F0 m 82 ls []) := by
        intro H locs hw ls hl
        refine lv_aload_n hx hb dX7_free_82 rfl (lv_at hl 1 rfl) ?_
        refine lv_iload_n hx hb dX7_free_83 rfl (lv_at hl 2 rfl) ?_
        refine lv_iload_n hx hb dX7_free_84 rfl (lv_at hl 3 rfl) ?_
        refine lv_iload_n hx hb dX7_free_85 rfl (lv_at hl 4 rfl) ?_
        obtain ⟨q20, h19, hM⟩ := bd hM
        refine rVR (wc := (wXM g a0 U0 q6.2 M0 R0 kv (.ref (b9 0)))) (As := [.int p1, .int p2, .int p3]) (rest := []) (q0 := 0) hS (c_X7_silent l g a0 kv (.ref (b9 0)) U0 q6.2 M0 R0 p1 p2 p3 h19) gX7_free_X7_silent rfl hd_X7_silent ⟨Nat.le_of_ble_eq_true rfl, Nat.le_of_ble_eq_true rfl⟩ hK (va_P.pm hw.1 (pm_2_0 _ _)) rfl rfl rfl rfl hl.1 rfl (Nat.le_of_ble_eq_true rfl) dX7_free_86 ⟨Nat.le_refl _, Nat.le_refl _⟩ ?_
        refine lv_aload_n hx hb dX7_free_89 rfl (lv_at hl 1 rfl) ?_
        refine lv_iload_n hx hb dX7_free_90 rfl (lv_at hl 4 rfl) ?_
        obtain ⟨q22, h21, hM⟩ := bd hM
        refine rVR (wc := (wXT g a0 (fm a0 q6.2 kv (.ref (b9 0))) U0)) (As := [.int p3]) (rest := [.int q20]) (q0 := 0) hS (c_X7_barredOf l g a0 (fm a0 q6.2 kv (.ref (b9 0))) U0 p3 h21) gX7_free_X7_barredOf rfl hd_X7_barredOf ⟨Nat.le_of_ble_eq_true rfl, Nat.le_of_ble_eq_true rfl⟩ hK (va_P.pm hw.1 (pmX2 _ _ _ _ _ _ _ _ _)) rfl rfl rfl rfl hl.1 rfl (Nat.le_of_ble_eq_true rfl) dX7_free_91 ⟨Nat.le_refl _, Nat.le_refl _⟩ ?_
        refine lv_iconst (v := (-1 : Int32)) hx hb dX7_free_94 (by decide) ?_
        refine lv_ixor hx hb dX7_free_95 ?_
        refine lv_iand hx hb dX7_free_96 ?_
        refine lv_aload hx hb dX7_free_97 (lv_at hl 0 rfl) ?_
        refine lv_iload_n hx hb dX7_free_99 rfl (lv_at hl 4 rfl) ?_
        obtain ⟨q24, h23, hM⟩ := bd hM
        refine rVR (wc := (wXT g b9 G10 q13)) (As := [.int p3]) (rest := [.int (q20 &&& (q22 ^^^ (-1 : Int32)))]) (q0 := 0) hS (c_X7_mouthsOf l g b9 G10 q13 p3 h23) gX7_free_X7_mouthsOf rfl hd_X7_mouthsOf ⟨Nat.le_of_ble_eq_true rfl, Nat.le_of_ble_eq_true rfl⟩ hK (va_P.pm hw.1 (pm_2_1 _ _)) rfl rfl rfl rfl hl.1 rfl (Nat.le_of_ble_eq_true rfl) dX7_free_100 ⟨Nat.le_refl _, Nat.le_refl _⟩ ?_
        refine lv_iand hx hb dX7_free_103 ?_
        obtain rfl := Option.some.inj hM
        exact W.iret hx hb hr (fun t ht _ => ⟨rfl, ⟨(some (b9, G10, q13)), rfl, by rw [ht]; exact hw.1, hw.2.1⟩, hw.2.2.F ht⟩) hw.2.2.2.2 dX7_free_104
      have hW40 : ∀ (n : Nat) (v6_11 : Int32) (UL12 : TS), L_X7_free_40 R0 p1 p2 n v6_11 UL12 = some q13 → ∀ (H : Heap) (locs : List Loc), Wk g A s.heap H locs ((wXM g a0 U0 q6.2 M0 R0 kv (.ref (b9 0))) ++ (wXT g b9 G10 UL12)) → ∀ (ls : Array Slot), lv_has ls 8 [(6, .int v6_11), (5, .ref (b9 0)), (0, .ref (a0 0)), (1, .int p1), (2, .int p2), (3, .int p3)] → W p l e (headSpec wsX7_free ({ frames := 5, cells := 28 * nlOf t0, slots := 759 * nlOf t0, locals := 140 } : Room)).room s m ([.ref (a0 0), .int p1, .int p2, .int p3] : List Value).toArray below meth c H locs (28 * nlOf t0) (759 * nlOf t0) (MQ below (QcB g (some (.int q.1)) (fun t => (wXM g a0 U0 q.2.1 M0 R0 kv (tvOf t)) ++ wOT g t) q.2.2 A) ([.ref (a0 0), .int p1, .int p2, .int p3] : List Value).toArray s (28 * nlOf t0) (759 * nlOf t0) A) (F0 m 40 ls []) := by
        intro n
        induction n with
        | zero => intro v6_11 UL12 hM; rw [L_X7_free_40] at hM; exact nn hM
        | succ n ih40 =>
          intro v6_11 UL12 hM H locs hw ls hl
          rw [L_X7_free_40] at hM
          refine lv_iload hx hb dX7_free_40 (lv_at hl 0 rfl) ?_
          refine lv_iload_n hx hb dX7_free_42 rfl (lv_at hl 4 rfl) ?_
          refine lv_icmp_ge (tgt := 82) hx hb dX7_free_43 (by decide) (fun c14 => ?_) (fun c14 => ?_)
          · replace hM := itp c14 hM
            obtain rfl := Option.some.inj hM
            exact hJ40 _ _ hw _ (lv_sub hl [1, 2, 3, 4, 5] rfl)
          · replace hM := itn c14 hM
            refine lv_aload_n hx hb dX7_free_46 rfl (lv_at hl 2 rfl) ?_
            refine wk_get hx hb hts hin_X7 hown hK hw.1 7 0 3 (.ref (a0 12)) rfl rfl (by decide) (mi 1 rfl) rfl rfl dX7_free_47 ?_
            refine lv_iload_n hx hb dX7_free_50 rfl (lv_at hl 3 rfl) ?_
            obtain ⟨k15, hM⟩ := ck hM
            refine wk_aald hx hb hK hw.1 12 8 (fun i => a0 (20 + i)) 3 rfl (k15) rfl rfl dX7_free_51 ?_
            refine lv_iload hx hb dX7_free_52 (lv_at hl 0 rfl) ?_
            obtain ⟨k16, hM⟩ := ck hM
            refine wk_lald hx hb hK hw.1 (20 + (p1).toNatClampNeg) 40 (R0 (p1).toNatClampNeg) (wXM_rowA (Nat.lt_of_not_le (fun z => k15 (Or.inr z)))) k16 dX7_free_54 ?_
            refine lv_l2i (v := ((((R0 (p1).toNatClampNeg) (v6_11).toNatClampNeg)).toInt32)) hx hb dX7_free_55 rfl ?_
            refine lv_istore (lv' := [(7, .int ((((R0 (p1).toNatClampNeg) (v6_11).toNatClampNeg)).toInt32)), (6, .int v6_11), (5, .ref (b9 0)), (0, .ref (a0 0)), (1, .int p1), (2, .int p2), (3, .int p3)]) hx hb dX7_free_56 hl (by decide) rfl (fun ls hl => ?_)
            refine lv_aload hx hb dX7_free_58 (lv_at hl 2 rfl) ?_
            refine lv_iload hx hb dX7_free_60 (lv_at hl 0 rfl) ?_
            refine lv_bipush (v := (10 : Int32)) hx hb dX7_free_62 (by decide) ?_
            refine lv_idiv hx hb dX7_free_64 (by decide) ?_
            refine lv_iconst (v := (1 : Int32)) hx hb dX7_free_65 (by decide) ?_
            refine lv_iload hx hb dX7_free_66 (lv_at hl 0 rfl) ?_
            refine lv_bipush (v := (10 : Int32)) hx hb dX7_free_68 (by decide) ?_
            refine lv_irem hx hb dX7_free_70 (by decide) ?_
            refine lv_ishl hx hb dX7_free_71 ?_
            obtain ⟨q18, h17, hM⟩ := bd hM
            refine rVWp (wc := (wXT g b9 G10 UL12)) (wq := ((wXM g a0 U0 q6.2 M0 R0 kv (.ref (b9 0))) ++ (wXT g b9 G10 q18.2))) (As := [.int (((((R0 (p1).toNatClampNeg) (v6_11).toNatClampNeg)).toInt32) / (10 : Int32)), .int ((1 : Int32) <<< ((((((R0 (p1).toNatClampNeg) (v6_11).toNatClampNeg)).toInt32) - ((((R0 (p1).toNatClampNeg) (v6_11).toNatClampNeg)).toInt32) / (10 : Int32) * (10 : Int32)) &&& 31))]) (rest := []) (q0 := 0) hS (c_X7_isSaid l g b9 G10 UL12 (((((R0 (p1).toNatClampNeg) (v6_11).toNatClampNeg)).toInt32) / (10 : Int32)) ((1 : Int32) <<< ((((((R0 (p1).toNatClampNeg) (v6_11).toNatClampNeg)).toInt32) - ((((R0 (p1).toNatClampNeg) (v6_11).toNatClampNeg)).toInt32) / (10 : Int32) * (10 : Int32)) &&& 31)) h17) gX7_free_X7_isSaid rfl hd_X7_isSaid ⟨Nat.le_of_ble_eq_true rfl, Nat.le_of_ble_eq_true rfl⟩ hK hw hA (pm_2_1 _ _) rfl (pm_2_1 _ _) rfl rfl rfl rfl hl.1 rfl (Nat.le_of_ble_eq_true rfl) dX7_free_72 ⟨Nat.le_refl _, Nat.le_refl _⟩ (fun H locs hw => ?_)
            refine lv_pop hx hb dX7_free_75 rfl ?_
            refine lv_iinc (v := (v6_11 + (1 : Int32))) (lv' := [(6, .int (v6_11 + (1 : Int32))), (7, .int ((((R0 (p1).toNatClampNeg) (v6_11).toNatClampNeg)).toInt32)), (5, .ref (b9 0)), (0, .ref (a0 0)), (1, .int p1), (2, .int p2), (3, .int p3)]) hx hb dX7_free_76 hl (k := 1) rfl rfl (by decide) rfl (fun ls hl => ?_)
            refine lv_goto (tgt := 40) hx hb dX7_free_79 (by decide) ?_
            exact ih40 (v6_11 + (1 : Int32)) q18.2 hM _ _ hw _ (lv_sub hl [0, 2, 3, 4, 5, 6] rfl)
      exact hW40 300 (0 : Int32) (fr0 U0 tp0) hL40 _ _ hw _ (lv_sub hl [0, 1, 3, 4, 5, 6] rfl)
    · replace hM := itn c7 hM
      refine lv_iload hx hb dX7_free_28 (lv_at hl 0 rfl) ?_
      obtain rfl := Option.some.inj hM
      refine W.widen (k := 28 * nlOf t0) (n := 759 * nlOf t0) (nlc _ _ _) (nlc _ _ _) ?_
      exact W.iret hx hb hr (fun t ht _ => ⟨rfl, ⟨t0, h0, by rw [ht]; exact hw.1, hw.2.1⟩, hw.2.2.F ht⟩) hw.2.2.2.2 dX7_free_30
  · replace hM := itp c2 hM
    refine lv_aload_n hx hb dX7_free_8 rfl (lv_at hl 0 rfl) ?_
    refine lv_bipush (v := (-2 : Int32)) hx hb dX7_free_9 (by decide) ?_
    obtain ⟨q4, h3, hM⟩ := bd hM
    refine rVWp (wc := (wXM g a0 U0 V0 M0 R0 kv (tvOf t0))) (wq := ((wXM g a0 U0 q4.2 M0 R0 kv (tvOf t0)) ++ (wOT g t0))) (As := [.int (-2 : Int32)]) (rest := []) (q0 := 0) hS (c_X7_refuse l g a0 kv (tvOf t0) U0 V0 M0 R0 (-2 : Int32) h3) gX7_free_X7_refuse rfl hd_X7_refuse ⟨Nat.le_of_ble_eq_true rfl, Nat.le_of_ble_eq_true rfl⟩ hK hw hA (pm_2_0 _ _) rfl (pm_2_0 _ _) rfl rfl rfl rfl hl.1 rfl (Nat.le_of_ble_eq_true rfl) dX7_free_11 ⟨nlc _ _ _, nlc _ _ _⟩ (fun H locs hw => ?_)
    obtain rfl := Option.some.inj hM
    refine W.widen (k := 28 * nlOf t0) (n := 759 * nlOf t0) (nlc _ _ _) (nlc _ _ _) ?_
    exact W.iret hx hb hr (fun t ht _ => ⟨rfl, ⟨t0, h0, by rw [ht]; exact hw.1, hw.2.1⟩, hw.2.2.F ht⟩) hw.2.2.2.2 dX7_free_14
theorem hd_X7_hear : yX7_hear.cls = RX7 ∧ yX7_hear.cls ≠ "java/lang/invoke/MethodHandle" ∧ yX7_hear.cls ≠ "java/lang/invoke/VarHandle" ∧ (parseMethodDescriptor yX7_hear.desc).map (fun d => d.parameters.length) = some 3 := by decide +kernel
set_option maxHeartbeats 4000000 in
set_option maxRecDepth 100000 in
theorem c_X7_hear (l : Launch) (g : Gm) (a0 : Nat → Nat) (kv : Value) (tv : Value) (U0 : TS) (V0 : TS) (M0 : LTS) (R0 : LTS) (p1 : Int32) (p2 : Int32) (p3 : Int32) {q : (Int32 × TS × TS)} (hM : f_X7_hear U0 V0 M0 R0 p1 p2 p3 = some q) : MW l yX7_hear wsX7_hear 2 46 g [.ref (a0 0), .int p1, .int p2, .int p3] (wXM g a0 U0 V0 M0 R0 kv tv) (some (.int q.1)) (wXM g a0 q.2.1 q.2.2 M0 R0 kv tv) := by
  intro sz
  refine Met.ofW (cc := cX7_hear) (maxL := 5) (ret := (some .int)) (by decide) rfl ?_
  intro p e s m args below meth c s₁ B hml hv
  obtain ⟨rfl, hsz, hP, hK, hD0⟩ := hv
  have hx := B.exec; have hb := B.bytes; have hr := B.returns
  have hts := atoms_spec (ws := wsX7_hear) B.pre
  have hown : s.vm.findClass RX7 = some m.cls := findClass_of_methodNamed B.named
  have hlocks := B.notSynchronized
  have hS : CallFix p m c cX7_hear 5 s _ wsX7_hear RX7 := ⟨hx, hb, hml, hown, hts⟩
  have hin_X7 : ∀ w ∈ wsX70, w ∈ wsX7_hear := fun w h => (List.mem_cons_of_mem _ (List.mem_append_right _ h))
  subst hsz
  have hw := wk_start hP hD0
  have hA : ∀ q : Nat, s.heap.size ≤ q → va_A (wXM g a0 U0 V0 M0 R0 kv tv) s.heap.size q := fun q h => Or.inr h
  generalize va_A (wXM g a0 U0 V0 M0 R0 kv tv) s.heap.size = A at hw hA ⊢
  clear hP hD0
  have hl := lv_entry ([.ref (a0 0), .int p1, .int p2, .int p3]) (n := 5) (Nat.le_of_ble_eq_true rfl)
  rw [lg_entry_eq]
  generalize (lg_sl ([.ref (a0 0), .int p1, .int p2, .int p3]) ++ List.replicate (5 - (lg_sl ([.ref (a0 0), .int p1, .int p2, .int p3])).length) Slot.unset).toArray = ls at hl ⊢
  have hl : lv_has ls 5 [(0, .ref (a0 0)), (1, .int p1), (2, .int p2), (3, .int p3)] := hl
  rw [f_X7_hear] at hM
  refine lv_aload_n hx hb dX7_hear_0 rfl (lv_at hl 0 rfl) ?_
  refine lv_iload_n hx hb dX7_hear_1 rfl (lv_at hl 1 rfl) ?_
  refine rVR (wc := (wXT g a0 (fm a0 V0 kv tv) U0)) (As := [.int p1]) (rest := []) (q0 := 0) hS (c_X7_isOne l g a0 (fm a0 V0 kv tv) U0 p1) gX7_hear_X7_isOne rfl hd_X7_isOne ⟨Nat.le_of_ble_eq_true rfl, Nat.le_of_ble_eq_true rfl⟩ hK (va_P.pm hw.1 (pmX1 _ _ _ _ _ _ _ _)) rfl rfl rfl rfl hl.1 rfl (Nat.le_of_ble_eq_true rfl) dX7_hear_2 ⟨Nat.zero_le _, Nat.zero_le _⟩ ?_
  refine lv_if_eq (tgt := 16) hx hb dX7_hear_5 (by decide) (fun c2 => ?_) (fun c2 => ?_)
  · replace hM := itp c2 hM
    refine lv_aload_n hx hb dX7_hear_16 rfl (lv_at hl 0 rfl) ?_
    refine lv_bipush (v := (-2 : Int32)) hx hb dX7_hear_17 (by decide) ?_
    obtain ⟨q4, h3, hM⟩ := bd hM
    refine rVWp (wc := (wXM g a0 U0 V0 M0 R0 kv tv)) (wq := (wXM g a0 U0 q4.2 M0 R0 kv tv)) (As := [.int (-2 : Int32)]) (rest := []) (q0 := 0) hS (c_X7_refuse l g a0 kv tv U0 V0 M0 R0 (-2 : Int32) h3) gX7_hear_X7_refuse rfl hd_X7_refuse ⟨Nat.le_of_ble_eq_true rfl, Nat.le_of_ble_eq_true rfl⟩ hK hw hA (pm_1_0 _) rfl (pm_1_0 _) rfl rfl rfl rfl hl.1 rfl (Nat.le_of_ble_eq_true rfl) dX7_hear_19 ⟨Nat.zero_le _, Nat.zero_le _⟩ (fun H locs hw => ?_)
    obtain rfl := Option.some.inj hM
    exact W.iret hx hb hr (fun t ht _ => ⟨rfl, by rw [ht]; exact hw.1, hw.2.2.F ht⟩) hw.2.2.2.2 dX7_hear_22
  · replace hM := itn c2 hM
    refine lv_aload_n hx hb dX7_hear_8 rfl (lv_at hl 0 rfl) ?_
    refine lv_iload_n hx hb dX7_hear_9 rfl (lv_at hl 2 rfl) ?_
    refine rVR (wc := (wXT g a0 (fm a0 V0 kv tv) U0)) (As := [.int p2]) (rest := []) (q0 := 0) hS (c_X7_isSight l g a0 (fm a0 V0 kv tv) U0 p2) gX7_hear_X7_isSight rfl hd_X7_isSight ⟨Nat.le_of_ble_eq_true rfl, Nat.le_of_ble_eq_true rfl⟩ hK (va_P.pm hw.1 (pmX1 _ _ _ _ _ _ _ _)) rfl rfl rfl rfl hl.1 rfl (Nat.le_of_ble_eq_true rfl) dX7_hear_10 ⟨Nat.zero_le _, Nat.zero_le _⟩ ?_
    refine lv_if_ne (tgt := 23) hx hb dX7_hear_13 (by decide) (fun c6 => ?_) (fun c6 => ?_)
    · replace hM := itn c6 hM
      refine lv_aload_n hx hb dX7_hear_23 rfl (lv_at hl 0 rfl) ?_
      refine wk_get hx hb hts hin_X7 hown hK hw.1 7 0 15 (.ref (a0 5)) rfl rfl (by decide) (mi 1 rfl) rfl rfl dX7_hear_24 ?_
      refine lv_iload_n hx hb dX7_hear_27 rfl (lv_at hl 1 rfl) ?_
      obtain ⟨k9, hM⟩ := ck hM
      refine wk_iald hx hb hK hw.1 5 7 (U0 15) rfl k9 dX7_hear_28 ?_
      refine lv_iload_n hx hb dX7_hear_29 rfl (lv_at hl 2 rfl) ?_
      refine rSR (wc := ([] : va_W)) (As := [.int ((U0 15) (p1).toNatClampNeg), .int p2]) (rest := []) hS (c_X7_has l g ((U0 15) (p1).toNatClampNeg) p2) gX7_hear_X7_has rfl hd_X7_has ⟨Nat.le_of_ble_eq_true rfl, Nat.le_of_ble_eq_true rfl⟩ hK (hP_nil) rfl hl.1 rfl (Nat.le_of_ble_eq_true rfl) dX7_hear_30 ⟨Nat.zero_le _, Nat.zero_le _⟩ ?_
      refine lv_istore (lv' := [(4, .int (f_X7_has ((U0 15) (p1).toNatClampNeg) p2)), (0, .ref (a0 0)), (1, .int p1), (2, .int p2), (3, .int p3)]) hx hb dX7_hear_33 hl (by decide) rfl (fun ls hl => ?_)
      refine lv_aload_n hx hb dX7_hear_35 rfl (lv_at hl 1 rfl) ?_
      refine wk_get hx hb hts hin_X7 hown hK hw.1 7 0 15 (.ref (a0 5)) rfl rfl (by decide) (mi 1 rfl) rfl rfl dX7_hear_36 ?_
      refine lv_iload_n hx hb dX7_hear_39 rfl (lv_at hl 2 rfl) ?_
      refine lv_iload_n hx hb dX7_hear_40 rfl (lv_at hl 4 rfl) ?_
      have hJ22 : ∀ (H : Heap) (locs : List Loc) (x21 : Int32) (ls : Array Slot), Wk g A s.heap H locs (wXM g a0 U0 V0 M0 R0 kv tv) → x21 = (if p3 = 0 then (((U0 15) (p1).toNatClampNeg) &&& (((1 : Int32) <<< (p2 &&& 31)) ^^^ (-1 : Int32))) else (((U0 15) (p1).toNatClampNeg) ||| ((1 : Int32) <<< (p2 &&& 31)))) → lv_has ls 5 [(4, .int (f_X7_has ((U0 15) (p1).toNatClampNeg) p2)), (3, .int p3)] → W p l e (headSpec wsX7_hear ({ frames := 2, cells := 0, slots := 0, locals := 46 } : Room)).room s m ([.ref (a0 0), .int p1, .int p2, .int p3] : List Value).toArray below meth c H locs 0 0 (MQ below (QcW g (some (.int q.1)) (wXM g a0 q.2.1 q.2.2 M0 R0 kv tv) A) ([.ref (a0 0), .int p1, .int p2, .int p3] : List Value).toArray s 0 0 A) (F0 m 69 ls [.int x21, .int p1, .ref (a0 5)]) := by
        intro H locs x21 ls hw hxx21 hl
        subst hxx21
        refine wk_iast (wq := (wXM g a0 (up U0 15 (upd (U0 15) (p1).toNatClampNeg (if p3 = 0 then (((U0 15) (p1).toNatClampNeg) &&& (((1 : Int32) <<< (p2 &&& 31)) ^^^ (-1 : Int32))) else (((U0 15) (p1).toNatClampNeg) ||| ((1 : Int32) <<< (p2 &&& 31)))))) V0 M0 R0 kv tv)) hx hb hK hw 5 7 (U0 15) rfl k9 dX7_hear_69 rfl (fun H locs hw => ?_)
        refine lv_iload hx hb dX7_hear_70 (lv_at hl 0 rfl) ?_
        refine lv_iload_n hx hb dX7_hear_72 rfl (lv_at hl 1 rfl) ?_
        have hJ24 : ∀ (H : Heap) (locs : List Loc) (x23 : Int32) (ls : Array Slot), Wk g A s.heap H locs (wXM g a0 (up U0 15 (upd (U0 15) (p1).toNatClampNeg (if p3 = 0 then (((U0 15) (p1).toNatClampNeg) &&& (((1 : Int32) <<< (p2 &&& 31)) ^^^ (-1 : Int32))) else (((U0 15) (p1).toNatClampNeg) ||| ((1 : Int32) <<< (p2 &&& 31)))))) V0 M0 R0 kv tv) → x23 = (if (f_X7_has ((U0 15) (p1).toNatClampNeg) p2) = p3 then (0 : Int32) else (1 : Int32)) → lv_has ls 5 [] → W p l e (headSpec wsX7_hear ({ frames := 2, cells := 0, slots := 0, locals := 46 } : Room)).room s m ([.ref (a0 0), .int p1, .int p2, .int p3] : List Value).toArray below meth c H locs 0 0 (MQ below (QcW g (some (.int q.1)) (wXM g a0 q.2.1 q.2.2 M0 R0 kv tv) A) ([.ref (a0 0), .int p1, .int p2, .int p3] : List Value).toArray s 0 0 A) (F0 m 81 ls [.int x23]) := by
          intro H locs x23 ls hw hxx23 hl
          subst hxx23
          obtain rfl := Option.some.inj hM
          exact W.iret hx hb hr (fun t ht _ => ⟨rfl, by rw [ht]; exact hw.1, hw.2.2.F ht⟩) hw.2.2.2.2 dX7_hear_81
        refine lv_icmp_eq (tgt := 80) hx hb dX7_hear_73 (by decide) (fun c12 => ?_) (fun c12 => ?_)
        · refine lv_iconst (v := (0 : Int32)) hx hb dX7_hear_80 (by decide) ?_
          exact hJ24 _ _ _ _ hw (by first | with_reducible rfl | (simp only [if_pos c12]) | rfl) (lv_sub hl [] rfl)
        · refine lv_iconst (v := (1 : Int32)) hx hb dX7_hear_76 (by decide) ?_
          refine lv_goto (tgt := 81) hx hb dX7_hear_77 (by decide) ?_
          exact hJ24 _ _ _ _ hw (by first | with_reducible rfl | (simp only [if_neg c12]) | rfl) (lv_sub hl [] rfl)
      refine lv_if_eq (tgt := 57) hx hb dX7_hear_41 (by decide) (fun c11 => ?_) (fun c11 => ?_)
      · refine lv_aload_n hx hb dX7_hear_57 rfl (lv_at hl 1 rfl) ?_
        refine wk_get hx hb hts hin_X7 hown hK hw.1 7 0 15 (.ref (a0 5)) rfl rfl (by decide) (mi 1 rfl) rfl rfl dX7_hear_58 ?_
        refine lv_iload_n hx hb dX7_hear_61 rfl (lv_at hl 2 rfl) ?_
        refine wk_iald hx hb hK hw.1 5 7 (U0 15) rfl k9 dX7_hear_62 ?_
        refine lv_iconst (v := (1 : Int32)) hx hb dX7_hear_63 (by decide) ?_
        refine lv_iload_n hx hb dX7_hear_64 rfl (lv_at hl 3 rfl) ?_
        refine lv_ishl hx hb dX7_hear_65 ?_
        refine lv_iconst (v := (-1 : Int32)) hx hb dX7_hear_66 (by decide) ?_
        refine lv_ixor hx hb dX7_hear_67 ?_
        refine lv_iand hx hb dX7_hear_68 ?_
        exact hJ22 _ _ _ _ hw (by first | with_reducible rfl | (simp only [if_pos c11]) | rfl) (lv_sub hl [0, 4] rfl)
      · refine lv_aload_n hx hb dX7_hear_44 rfl (lv_at hl 1 rfl) ?_
        refine wk_get hx hb hts hin_X7 hown hK hw.1 7 0 15 (.ref (a0 5)) rfl rfl (by decide) (mi 1 rfl) rfl rfl dX7_hear_45 ?_
        refine lv_iload_n hx hb dX7_hear_48 rfl (lv_at hl 2 rfl) ?_
        refine wk_iald hx hb hK hw.1 5 7 (U0 15) rfl k9 dX7_hear_49 ?_
        refine lv_iconst (v := (1 : Int32)) hx hb dX7_hear_50 (by decide) ?_
        refine lv_iload_n hx hb dX7_hear_51 rfl (lv_at hl 3 rfl) ?_
        refine lv_ishl hx hb dX7_hear_52 ?_
        refine lv_ior hx hb dX7_hear_53 ?_
        refine lv_goto (tgt := 69) hx hb dX7_hear_54 (by decide) ?_
        exact hJ22 _ _ _ _ hw (by first | with_reducible rfl | (simp only [if_neg c11]) | rfl) (lv_sub hl [0, 4] rfl)
    · replace hM := itp c6 hM
      refine lv_aload_n hx hb dX7_hear_16 rfl (lv_at hl 0 rfl) ?_
      refine lv_bipush (v := (-2 : Int32)) hx hb dX7_hear_17 (by decide) ?_
      obtain ⟨q8, h7, hM⟩ := bd hM
      refine rVWp (wc := (wXM g a0 U0 V0 M0 R0 kv tv)) (wq := (wXM g a0 U0 q8.2 M0 R0 kv tv)) (As := [.int (-2 : Int32)]) (rest := []) (q0 := 0) hS (c_X7_refuse l g a0 kv tv U0 V0 M0 R0 (-2 : Int32) h7) gX7_hear_X7_refuse rfl hd_X7_refuse ⟨Nat.le_of_ble_eq_true rfl, Nat.le_of_ble_eq_true rfl⟩ hK hw hA (pm_1_0 _) rfl (pm_1_0 _) rfl rfl rfl rfl hl.1 rfl (Nat.le_of_ble_eq_true rfl) dX7_hear_19 ⟨Nat.zero_le _, Nat.zero_le _⟩ (fun H locs hw => ?_)
      obtain rfl := Option.some.inj hM
      exact W.iret hx hb hr (fun t ht _ => ⟨rfl, by rw [ht]; exact hw.1, hw.2.2.F ht⟩) hw.2.2.2.2 dX7_hear_22
