theorem hd_X7_whom : yX7_whom.cls = RX7 ∧ yX7_whom.cls ≠ "java/lang/invoke/MethodHandle" ∧ yX7_whom.cls ≠ "java/lang/invoke/VarHandle" ∧ (parseMethodDescriptor yX7_whom.desc).map (fun d => d.parameters.length) = some 2 := by decide +kernel
set_option maxHeartbeats 4000000 in
set_option maxRecDepth 100000 in
theorem c_X7_whom (l : Launch) (g : Gm) (a0 : Nat → Nat) (kv : Value) (tv : Value) (U0 : TS) (V0 : TS) (M0 : LTS) (R0 : LTS) (p1 : Int32) (p2 : Int32) {q : (Int32 × TS)} (hM : f_X7_whom U0 V0 M0 R0 p1 p2 = some q) : MW l yX7_whom wsX7_whom 3 69 g [.ref (a0 0), .int p1, .int p2] (wXM g a0 U0 V0 M0 R0 kv tv) (some (.int q.1)) (wXM g a0 U0 q.2 M0 R0 kv tv) := by
  intro sz
  refine Met.ofW (cc := cX7_whom) (maxL := 6) (ret := (some .int)) (by decide) rfl ?_
  intro p e s m args below meth c s₁ B hml hv
  obtain ⟨rfl, hsz, hP, hK, hD0⟩ := hv
  have hx := B.exec; have hb := B.bytes; have hr := B.returns
  have hts := atoms_spec (ws := wsX7_whom) B.pre
  have hown : s.vm.findClass RX7 = some m.cls := findClass_of_methodNamed B.named
  have hlocks := B.notSynchronized
  have hS : CallFix p m c cX7_whom 6 s _ wsX7_whom RX7 := ⟨hx, hb, hml, hown, hts⟩
  have hin_X7 : ∀ w ∈ wsX70, w ∈ wsX7_whom := fun w h => (List.mem_cons_of_mem _ (List.mem_append_right _ h))
  subst hsz
  have hw := wk_start hP hD0
  have hA : ∀ q : Nat, s.heap.size ≤ q → va_A (wXM g a0 U0 V0 M0 R0 kv tv) s.heap.size q := fun q h => Or.inr h
  generalize va_A (wXM g a0 U0 V0 M0 R0 kv tv) s.heap.size = A at hw hA ⊢
  clear hP hD0
  have hl := lv_entry ([.ref (a0 0), .int p1, .int p2]) (n := 6) (Nat.le_of_ble_eq_true rfl)
  rw [lg_entry_eq]
  generalize (lg_sl ([.ref (a0 0), .int p1, .int p2]) ++ List.replicate (6 - (lg_sl ([.ref (a0 0), .int p1, .int p2])).length) Slot.unset).toArray = ls at hl ⊢
  have hl : lv_has ls 6 [(0, .ref (a0 0)), (1, .int p1), (2, .int p2)] := hl
  rw [f_X7_whom] at hM
  refine lv_aload_n hx hb dX7_whom_0 rfl (lv_at hl 0 rfl) ?_
  refine lv_iload_n hx hb dX7_whom_1 rfl (lv_at hl 1 rfl) ?_
  refine lv_iload_n hx hb dX7_whom_2 rfl (lv_at hl 2 rfl) ?_
  obtain ⟨q2, h1, hM⟩ := bd hM
  refine rVWp (wc := (wXM g a0 U0 V0 M0 R0 kv tv)) (wq := (wXM g a0 U0 q2.2 M0 R0 kv tv)) (As := [.int p1, .int p2]) (rest := []) (q0 := 0) hS (c_X7_noSets l g a0 kv tv U0 V0 M0 R0 p1 p2 h1) gX7_whom_X7_noSets rfl hd_X7_noSets ⟨Nat.le_of_ble_eq_true rfl, Nat.le_of_ble_eq_true rfl⟩ hK hw hA (pm_1_0 _) rfl (pm_1_0 _) rfl rfl rfl rfl hl.1 rfl (Nat.le_of_ble_eq_true rfl) dX7_whom_3 ⟨Nat.zero_le _, Nat.zero_le _⟩ (fun H locs hw => ?_)
  refine lv_istore_n (lv' := [(3, .int q2.1), (0, .ref (a0 0)), (1, .int p1), (2, .int p2)]) hx hb dX7_whom_6 rfl hl (by decide) rfl (fun ls hl => ?_)
  refine lv_iload_n hx hb dX7_whom_7 rfl (lv_at hl 0 rfl) ?_
  refine lv_if_eq (tgt := 13) hx hb dX7_whom_8 (by decide) (fun c3 => ?_) (fun c3 => ?_)
  · replace hM := itp c3 hM
    refine lv_iconst (v := (1 : Int32)) hx hb dX7_whom_13 (by decide) ?_
    refine lv_aload_n hx hb dX7_whom_14 rfl (lv_at hl 1 rfl) ?_
    refine wk_get hx hb hts hin_X7 hown hK hw.1 7 0 10 (.int (U0 10 0)) rfl rfl (by decide) (mi 1 rfl) rfl rfl dX7_whom_15 ?_
    refine lv_ishl hx hb dX7_whom_18 ?_
    refine lv_iconst (v := (1 : Int32)) hx hb dX7_whom_19 (by decide) ?_
    refine lv_isub hx hb dX7_whom_20 ?_
    refine lv_istore (lv' := [(4, .int (((1 : Int32) <<< ((U0 10 0) &&& 31)) - (1 : Int32))), (3, .int q2.1), (0, .ref (a0 0)), (1, .int p1), (2, .int p2)]) hx hb dX7_whom_21 hl (by decide) rfl (fun ls hl => ?_)
    refine lv_iload hx hb dX7_whom_23 (lv_at hl 0 rfl) ?_
    refine lv_istore (lv' := [(5, .int (((1 : Int32) <<< ((U0 10 0) &&& 31)) - (1 : Int32))), (4, .int (((1 : Int32) <<< ((U0 10 0) &&& 31)) - (1 : Int32))), (3, .int q2.1), (0, .ref (a0 0)), (1, .int p1), (2, .int p2)]) hx hb dX7_whom_25 hl (by decide) rfl (fun ls hl => ?_)
    obtain ⟨q6, hL27, hM⟩ := bd hM
    have hJ27 : ∀ (H : Heap) (locs : List Loc), Wk g A s.heap H locs (wXM g a0 U0 q2.2 M0 R0 kv tv) → ∀ (ls : Array Slot), lv_has ls 6 [(4, .int q6)] → W p l e (headSpec wsX7_whom ({ frames := 3, cells := 0, slots := 0, locals := 69 } : Room)).room s m ([.ref (a0 0), .int p1, .int p2] : List Value).toArray below meth c H locs 0 0 (MQ below (QcW g (some (.int q.1)) (wXM g a0 U0 q.2 M0 R0 kv tv) A) ([.ref (a0 0), .int p1, .int p2] : List Value).toArray s 0 0 A) (F0 m 66 ls []) := by
      intro H locs hw ls hl
      refine lv_iload hx hb dX7_whom_66 (lv_at hl 0 rfl) ?_
      obtain rfl := Option.some.inj hM
      exact W.iret hx hb hr (fun t ht _ => ⟨rfl, by rw [ht]; exact hw.1, hw.2.2.F ht⟩) hw.2.2.2.2 dX7_whom_68
    have hW27 : ∀ (n : Nat) (v5_4 : Int32) (v4_5 : Int32), L_X7_whom_27 U0 M0 R0 p1 p2 q2 n v5_4 v4_5 = some q6 → ∀ (H : Heap) (locs : List Loc), Wk g A s.heap H locs (wXM g a0 U0 q2.2 M0 R0 kv tv) → ∀ (ls : Array Slot), lv_has ls 6 [(5, .int v5_4), (4, .int v4_5), (0, .ref (a0 0)), (1, .int p1), (2, .int p2)] → W p l e (headSpec wsX7_whom ({ frames := 3, cells := 0, slots := 0, locals := 69 } : Room)).room s m ([.ref (a0 0), .int p1, .int p2] : List Value).toArray below meth c H locs 0 0 (MQ below (QcW g (some (.int q.1)) (wXM g a0 U0 q.2 M0 R0 kv tv) A) ([.ref (a0 0), .int p1, .int p2] : List Value).toArray s 0 0 A) (F0 m 27 ls []) := by
      intro n
      induction n with
      | zero => intro v5_4 v4_5 hM; rw [L_X7_whom_27] at hM; exact nn hM
      | succ n ih27 =>
        intro v5_4 v4_5 hM H locs hw ls hl
        rw [L_X7_whom_27] at hM
        refine lv_iload hx hb dX7_whom_27 (lv_at hl 0 rfl) ?_
        refine lv_if_lt (tgt := 66) hx hb dX7_whom_29 (by decide) (fun c7 => ?_) (fun c7 => ?_)
        · replace hM := itp c7 hM
          obtain rfl := Option.some.inj hM
          exact hJ27 _ _ hw _ (lv_sub hl [1] rfl)
        · replace hM := itn c7 hM
          refine lv_iload hx hb dX7_whom_32 (lv_at hl 0 rfl) ?_
          obtain ⟨q9, h8, hM⟩ := bd hM
          refine rSR (wc := ([] : va_W)) (As := [.int v5_4]) (rest := []) hS (c_X7_bits l g v5_4 h8) gX7_whom_X7_bits rfl hd_X7_bits ⟨Nat.le_of_ble_eq_true rfl, Nat.le_of_ble_eq_true rfl⟩ hK (hP_nil) rfl hl.1 rfl (Nat.le_of_ble_eq_true rfl) dX7_whom_34 ⟨Nat.zero_le _, Nat.zero_le _⟩ ?_
          refine lv_iload hx hb dX7_whom_37 (lv_at hl 1 rfl) ?_
          obtain ⟨q11, h10, hM⟩ := bd hM
          refine rSR (wc := ([] : va_W)) (As := [.int v4_5]) (rest := [.int q9]) hS (c_X7_bits l g v4_5 h10) gX7_whom_X7_bits rfl hd_X7_bits ⟨Nat.le_of_ble_eq_true rfl, Nat.le_of_ble_eq_true rfl⟩ hK (hP_nil) rfl hl.1 rfl (Nat.le_of_ble_eq_true rfl) dX7_whom_39 ⟨Nat.zero_le _, Nat.zero_le _⟩ ?_
          refine lv_icmp_gt (tgt := 60) hx hb dX7_whom_42 (by decide) (fun c12 => ?_) (fun c12 => ?_)
          · replace hM := itp c12 hM
            refine lv_iinc (v := (v5_4 + (-1 : Int32))) (lv' := [(5, .int (v5_4 + (-1 : Int32))), (4, .int v4_5), (0, .ref (a0 0)), (1, .int p1), (2, .int p2)]) hx hb dX7_whom_60 hl (k := 0) rfl rfl (by decide) rfl (fun ls hl => ?_)
            refine lv_goto (tgt := 27) hx hb dX7_whom_63 (by decide) ?_
            exact ih27 (v5_4 + (-1 : Int32)) v4_5 hM _ _ hw _ (lv_sub hl [0, 1, 2, 3, 4] rfl)
          · replace hM := itn c12 hM
            refine lv_aload_n hx hb dX7_whom_45 rfl (lv_at hl 2 rfl) ?_
            refine lv_iload_n hx hb dX7_whom_46 rfl (lv_at hl 3 rfl) ?_
            refine lv_iload_n hx hb dX7_whom_47 rfl (lv_at hl 4 rfl) ?_
            refine lv_iload hx hb dX7_whom_48 (lv_at hl 0 rfl) ?_
            obtain ⟨q14, h13, hM⟩ := bd hM
            refine rVR (wc := (wXM g a0 U0 q2.2 M0 R0 kv tv)) (As := [.int p1, .int p2, .int v5_4]) (rest := []) (q0 := 0) hS (c_X7_doesPart l g a0 kv tv U0 q2.2 M0 R0 p1 p2 v5_4 h13) gX7_whom_X7_doesPart rfl hd_X7_doesPart ⟨Nat.le_of_ble_eq_true rfl, Nat.le_of_ble_eq_true rfl⟩ hK (va_P.pm hw.1 (pm_1_0 _)) rfl rfl rfl rfl hl.1 rfl (Nat.le_of_ble_eq_true rfl) dX7_whom_50 ⟨Nat.zero_le _, Nat.zero_le _⟩ ?_
            have hJ21 : ∀ (H : Heap) (locs : List Loc) (x20 : Int32) (ls : Array Slot), Wk g A s.heap H locs (wXM g a0 U0 q2.2 M0 R0 kv tv) → x20 = (if q14 = 0 then v4_5 else v5_4) → lv_has ls 6 [(5, .int v5_4), (4, .int x20), (0, .ref (a0 0)), (1, .int p1), (2, .int p2)] → W p l e (headSpec wsX7_whom ({ frames := 3, cells := 0, slots := 0, locals := 69 } : Room)).room s m ([.ref (a0 0), .int p1, .int p2] : List Value).toArray below meth c H locs 0 0 (MQ below (QcW g (some (.int q.1)) (wXM g a0 U0 q.2 M0 R0 kv tv) A) ([.ref (a0 0), .int p1, .int p2] : List Value).toArray s 0 0 A) (F0 m 60 ls []) := by
              intro H locs x20 ls hw hxx20 hl
              subst hxx20
              refine lv_iinc (v := (v5_4 + (-1 : Int32))) (lv' := [(5, .int (v5_4 + (-1 : Int32))), (4, .int (if q14 = 0 then v4_5 else v5_4)), (0, .ref (a0 0)), (1, .int p1), (2, .int p2)]) hx hb dX7_whom_60 hl (k := 0) rfl rfl (by decide) rfl (fun ls hl => ?_)
              refine lv_goto (tgt := 27) hx hb dX7_whom_63 (by decide) ?_
              exact ih27 (v5_4 + (-1 : Int32)) (if q14 = 0 then v4_5 else v5_4) hM _ _ hw _ (lv_sub hl [0, 1, 2, 3, 4] rfl)
            refine lv_if_eq (tgt := 60) hx hb dX7_whom_53 (by decide) (fun c15 => ?_) (fun c15 => ?_)
            · exact hJ21 _ _ _ _ hw (by first | with_reducible rfl | (simp only [if_pos c15]) | rfl) (lv_sub hl [0, 1, 2, 3, 4] rfl)
            · refine lv_iload hx hb dX7_whom_56 (lv_at hl 0 rfl) ?_
              refine lv_istore (lv' := [(4, .int v5_4), (5, .int v5_4), (0, .ref (a0 0)), (1, .int p1), (2, .int p2)]) hx hb dX7_whom_58 hl (by decide) rfl (fun ls hl => ?_)
              exact hJ21 _ _ _ _ hw (by first | with_reducible rfl | (simp only [if_neg c15]) | rfl) (lv_sub hl [1, 0, 2, 3, 4] rfl)
    exact hW27 300 (((1 : Int32) <<< ((U0 10 0) &&& 31)) - (1 : Int32)) (((1 : Int32) <<< ((U0 10 0) &&& 31)) - (1 : Int32)) hL27 _ _ hw _ (lv_sub hl [0, 1, 3, 4, 5] rfl)
  · replace hM := itn c3 hM
    refine lv_iload_n hx hb dX7_whom_11 rfl (lv_at hl 0 rfl) ?_
    obtain rfl := Option.some.inj hM
    exact W.iret hx hb hr (fun t ht _ => ⟨rfl, by rw [ht]; exact hw.1, hw.2.2.F ht⟩) hw.2.2.2.2 dX7_whom_12
theorem hd_X7_wipe : yX7_wipe.cls = RX7 ∧ yX7_wipe.cls ≠ "java/lang/invoke/MethodHandle" ∧ yX7_wipe.cls ≠ "java/lang/invoke/VarHandle" ∧ (parseMethodDescriptor yX7_wipe.desc).map (fun d => d.parameters.length) = some 0 := by decide +kernel
set_option maxHeartbeats 4000000 in
set_option maxRecDepth 100000 in
theorem c_X7_wipe (l : Launch) (g : Gm) (a0 : Nat → Nat) (kv : Value) (tv : Value) (U0 : TS) (V0 : TS) (M0 : LTS) (R0 : LTS) {q : (Int32 × TS)} (hM : f_X7_wipe U0 V0 M0 R0 = some q) : MW l yX7_wipe wsX7_wipe 0 0 g [.ref (a0 0)] (wXM g a0 U0 V0 M0 R0 kv tv) (some (.int q.1)) (wXM g a0 U0 q.2 M0 R0 kv tv) := by
  intro sz
  refine Met.ofW (cc := cX7_wipe) (maxL := 2) (ret := (some .int)) (by decide) rfl ?_
  intro p e s m args below meth c s₁ B hml hv
  obtain ⟨rfl, hsz, hP, hK, hD0⟩ := hv
  have hx := B.exec; have hb := B.bytes; have hr := B.returns
  have hts := atoms_spec (ws := wsX7_wipe) B.pre
  have hown : s.vm.findClass RX7 = some m.cls := findClass_of_methodNamed B.named
  have hlocks := B.notSynchronized
  have hS : CallFix p m c cX7_wipe 2 s _ wsX7_wipe RX7 := ⟨hx, hb, hml, hown, hts⟩
  have hin_X7 : ∀ w ∈ wsX70, w ∈ wsX7_wipe := fun w h => (List.mem_cons_of_mem _ (List.mem_append_right _ h))
  subst hsz
  have hw := wk_start hP hD0
  have hA : ∀ q : Nat, s.heap.size ≤ q → va_A (wXM g a0 U0 V0 M0 R0 kv tv) s.heap.size q := fun q h => Or.inr h
  generalize va_A (wXM g a0 U0 V0 M0 R0 kv tv) s.heap.size = A at hw hA ⊢
  clear hP hD0
  have hl := lv_entry ([.ref (a0 0)]) (n := 2) (Nat.le_of_ble_eq_true rfl)
  rw [lg_entry_eq]
  generalize (lg_sl ([.ref (a0 0)]) ++ List.replicate (2 - (lg_sl ([.ref (a0 0)])).length) Slot.unset).toArray = ls at hl ⊢
  have hl : lv_has ls 2 [(0, .ref (a0 0))] := hl
  rw [f_X7_wipe] at hM
  refine lv_aload_n hx hb dX7_wipe_0 rfl (lv_at hl 0 rfl) ?_
  refine wk_get hx hb hts hin_X7 hown hK hw.1 7 0 7 (.int (V0 7 0)) rfl rfl (by decide) (mi 1 rfl) rfl rfl dX7_wipe_1 ?_
  refine lv_istore_n (lv' := [(1, .int (V0 7 0)), (0, .ref (a0 0))]) hx hb dX7_wipe_4 rfl hl (by decide) rfl (fun ls hl => ?_)
  refine lv_aload_n hx hb dX7_wipe_5 rfl (lv_at hl 1 rfl) ?_
  refine lv_iconst (v := (0 : Int32)) hx hb dX7_wipe_6 (by decide) ?_
  refine wk_put (wq := (wXM g a0 U0 (up V0 7 (fun _ => (0 : Int32))) M0 R0 kv tv)) hx hb hts hin_X7 tyX7 tyX7_ok nmX7 hown hK hw 7 0 7 rfl rfl (by decide) (mi 1 rfl) rfl rfl rfl rfl (Nat.le_of_ble_eq_true rfl) dX7_wipe_7 rfl (fun H locs hw => ?_)
  refine lv_iload_n hx hb dX7_wipe_10 rfl (lv_at hl 0 rfl) ?_
  obtain rfl := Option.some.inj hM
  exact W.iret hx hb hr (fun t ht _ => ⟨rfl, by rw [ht]; exact hw.1, hw.2.2.F ht⟩) hw.2.2.2.2 dX7_wipe_11
theorem hd_X7_worth : yX7_worth.cls = RX7 ∧ yX7_worth.cls ≠ "java/lang/invoke/MethodHandle" ∧ yX7_worth.cls ≠ "java/lang/invoke/VarHandle" ∧ (parseMethodDescriptor yX7_worth.desc).map (fun d => d.parameters.length) = some 2 := by decide +kernel
set_option maxHeartbeats 4000000 in
set_option maxRecDepth 100000 in
theorem c_X7_worth (l : Launch) (g : Gm) (a0 : Nat → Nat) (U0 : TS) (V0 : TS) (M0 : LTS) (R0 : LTS) (kv : Value) (t0 : Tr) (tp0 : Option (Nat → Int32)) (h0 : tpOf t0 = tp0) (p1 : Int32) (p2 : Int32) {q : (Int32 × TS × (Option (Nat → Int32)))} (hM : f_X7_worth U0 V0 M0 R0 tp0 p1 p2 = some q) : MB l yX7_worth wsX7_worth 6 163 g [.ref (a0 0), .int p1, .int p2] (fun t => (wXM g a0 U0 V0 M0 R0 kv (tvOf t)) ++ wOT g t) t0 (some (.int q.1)) (fun t => (wXM g a0 U0 q.2.1 M0 R0 kv (tvOf t)) ++ wOT g t) q.2.2 := by
  intro sz
  refine Met.ofW (cc := cX7_worth) (maxL := 6) (ret := (some .int)) (by decide) rfl ?_
  intro p e s m args below meth c s₁ B hml hv
  obtain ⟨rfl, hsz, hP, hK, hD0⟩ := hv
  have hx := B.exec; have hb := B.bytes; have hr := B.returns
  have hts := atoms_spec (ws := wsX7_worth) B.pre
  have hown : s.vm.findClass RX7 = some m.cls := findClass_of_methodNamed B.named
  have hlocks := B.notSynchronized
  have hS : CallFix p m c cX7_worth 6 s _ wsX7_worth RX7 := ⟨hx, hb, hml, hown, hts⟩
  have hin_X7 : ∀ w ∈ wsX70, w ∈ wsX7_worth := fun w h => (List.mem_cons_of_mem _ (List.mem_append_right _ h))
  subst hsz
  have hw := wk_start hP hD0
  have hA : ∀ q : Nat, s.heap.size ≤ q → va_A ((wXM g a0 U0 V0 M0 R0 kv (tvOf t0)) ++ (wOT g t0)) s.heap.size q := fun q h => Or.inr h
  generalize va_A ((wXM g a0 U0 V0 M0 R0 kv (tvOf t0)) ++ (wOT g t0)) s.heap.size = A at hw hA ⊢
  clear hP hD0
  have hl := lv_entry ([.ref (a0 0), .int p1, .int p2]) (n := 6) (Nat.le_of_ble_eq_true rfl)
  rw [lg_entry_eq]
  generalize (lg_sl ([.ref (a0 0), .int p1, .int p2]) ++ List.replicate (6 - (lg_sl ([.ref (a0 0), .int p1, .int p2])).length) Slot.unset).toArray = ls at hl ⊢
  have hl : lv_has ls 6 [(0, .ref (a0 0)), (1, .int p1), (2, .int p2)] := hl
  refine W_nl t0 ?_
  rw [f_X7_worth] at hM
  refine lv_aload_n hx hb dX7_worth_0 rfl (lv_at hl 0 rfl) ?_
  refine lv_iload_n hx hb dX7_worth_1 rfl (lv_at hl 1 rfl) ?_
  refine rVR (wc := (wXT g a0 (fm a0 V0 kv (tvOf t0)) U0)) (As := [.int p1]) (rest := []) (q0 := 0) hS (c_X7_isOne l g a0 (fm a0 V0 kv (tvOf t0)) U0 p1) gX7_worth_X7_isOne rfl hd_X7_isOne ⟨Nat.le_of_ble_eq_true rfl, Nat.le_of_ble_eq_true rfl⟩ hK (va_P.pm hw.1 (pmX2 _ _ _ _ _ _ _ _ _)) rfl rfl rfl rfl hl.1 rfl (Nat.le_of_ble_eq_true rfl) dX7_worth_2 ⟨nlc _ _ _, nlc _ _ _⟩ ?_
  refine lv_if_eq (tgt := 15) hx hb dX7_worth_5 (by decide) (fun c2 => ?_) (fun c2 => ?_)
  · replace hM := itp c2 hM
    refine lv_aload_n hx hb dX7_worth_15 rfl (lv_at hl 0 rfl) ?_
    refine lv_bipush (v := (-2 : Int32)) hx hb dX7_worth_16 (by decide) ?_
    obtain ⟨q4, h3, hM⟩ := bd hM
    refine rVWp (wc := (wXM g a0 U0 V0 M0 R0 kv (tvOf t0))) (wq := ((wXM g a0 U0 q4.2 M0 R0 kv (tvOf t0)) ++ (wOT g t0))) (As := [.int (-2 : Int32)]) (rest := []) (q0 := 0) hS (c_X7_refuse l g a0 kv (tvOf t0) U0 V0 M0 R0 (-2 : Int32) h3) gX7_worth_X7_refuse rfl hd_X7_refuse ⟨Nat.le_of_ble_eq_true rfl, Nat.le_of_ble_eq_true rfl⟩ hK hw hA (pm_2_0 _ _) rfl (pm_2_0 _ _) rfl rfl rfl rfl hl.1 rfl (Nat.le_of_ble_eq_true rfl) dX7_worth_18 ⟨nlc _ _ _, nlc _ _ _⟩ (fun H locs hw => ?_)
    obtain rfl := Option.some.inj hM
    refine W.widen (k := 28 * nlOf t0) (n := 759 * nlOf t0) (nlc _ _ _) (nlc _ _ _) ?_
    exact W.iret hx hb hr (fun t ht _ => ⟨rfl, ⟨t0, h0, by rw [ht]; exact hw.1, hw.2.1⟩, hw.2.2.F ht⟩) hw.2.2.2.2 dX7_worth_21
  · replace hM := itn c2 hM
    refine lv_iload_n hx hb dX7_worth_8 rfl (lv_at hl 2 rfl) ?_
    refine rSR (wc := ([] : va_W)) (As := [.int p2]) (rest := []) hS (c_X7_isRounds l g p2) gX7_worth_X7_isRounds rfl hd_X7_isRounds ⟨Nat.le_of_ble_eq_true rfl, Nat.le_of_ble_eq_true rfl⟩ hK (hP_nil) rfl hl.1 rfl (Nat.le_of_ble_eq_true rfl) dX7_worth_9 ⟨nlc _ _ _, nlc _ _ _⟩ ?_
    refine lv_if_ne (tgt := 22) hx hb dX7_worth_12 (by decide) (fun c6 => ?_) (fun c6 => ?_)
    · replace hM := itn c6 hM
      refine lv_aload_n hx hb dX7_worth_22 rfl (lv_at hl 0 rfl) ?_
      refine lv_iload_n hx hb dX7_worth_23 rfl (lv_at hl 2 rfl) ?_
      obtain ⟨q12, h9, hM⟩ := bd hM
      refine rVF (t0 := t0) (As := [.int p2]) (rest := []) (hn := (Nat.le_refl _)) hS (c_X7_after l g a0 U0 V0 M0 R0 kv t0 tp0 h0 p2 h9) gX7_worth_X7_after rfl hd_X7_after ⟨Nat.le_of_ble_eq_true rfl, Nat.le_of_ble_eq_true rfl⟩ hK hw hA rfl rfl rfl rfl hl.1 rfl (Nat.le_of_ble_eq_true rfl) dX7_worth_24 (fun b10 G11 H locs hw => ?_)
      have hw : Wk g A s.heap H locs ((wXM g a0 U0 V0 M0 R0 kv (.ref (b10 0))) ++ (wXT g b10 G11 q12)) := hw
      refine lv_iload_n hx hb dX7_worth_27 rfl (lv_at hl 1 rfl) ?_
      obtain ⟨q14, h13, hM⟩ := bd hM
      refine rVR (wc := (wXT g b10 G11 q12)) (As := [.int p1]) (rest := []) (q0 := 0) hS (c_X7_knownTo l g b10 G11 q12 p1 h13) gX7_worth_X7_knownTo rfl hd_X7_knownTo ⟨Nat.le_of_ble_eq_true rfl, Nat.le_of_ble_eq_true rfl⟩ hK (va_P.pm hw.1 (pm_2_1 _ _)) rfl rfl rfl rfl hl.1 rfl (Nat.le_of_ble_eq_true rfl) dX7_worth_28 ⟨Nat.le_refl _, Nat.le_refl _⟩ ?_
      refine lv_istore_n (lv' := [(3, .int q14), (0, .ref (a0 0)), (1, .int p1), (2, .int p2)]) hx hb dX7_worth_31 rfl hl (by decide) rfl (fun ls hl => ?_)
      refine lv_aload_n hx hb dX7_worth_32 rfl (lv_at hl 1 rfl) ?_
      refine rVFs (t0 := t0) (As := []) (rest := [])  hS (c_X7_fresh l g a0 U0 V0 M0 R0 kv (some (b10, G11, q12)) (some (q12 29)) rfl) gX7_worth_X7_fresh rfl hd_X7_fresh ⟨Nat.le_of_ble_eq_true rfl, Nat.le_of_ble_eq_true rfl⟩ hK hw hA rfl rfl rfl rfl hl.1 rfl (Nat.le_of_ble_eq_true rfl) dX7_worth_33 rfl (fun b16 G17 H locs hw => ?_)
      have hw : Wk g A s.heap H locs ((wXM g a0 U0 V0 M0 R0 kv (.ref (b16 0))) ++ (wXT g b16 G17 (fr0 U0 (some (q12 29))))) := hw
      refine lv_astore (lv' := [(4, .ref (b16 0)), (3, .int q14), (0, .ref (a0 0)), (1, .int p1), (2, .int p2)]) hx hb dX7_worth_36 hl (by decide) rfl (fun ls hl => ?_)
      refine lv_aload hx hb dX7_worth_38 (lv_at hl 0 rfl) ?_
      refine wk_get hx hb hts hin_X7 hown hK hw.1 7 28 16 (.ref (b16 6)) rfl rfl (by decide) (mi 1 rfl) rfl rfl dX7_worth_40 ?_
      refine lv_iload_n hx hb dX7_worth_43 rfl (lv_at hl 3 rfl) ?_
      refine lv_iconst (v := (0 : Int32)) hx hb dX7_worth_44 (by decide) ?_
      obtain ⟨k18, hM⟩ := ck hM
      refine wk_iast (wq := ((wXM g a0 U0 V0 M0 R0 kv (.ref (b16 0))) ++ (wXT g b16 G17 (up (fr0 U0 (some (q12 29))) 16 (upd ((fr0 U0 (some (q12 29))) 16) (p1).toNatClampNeg (0 : Int32)))))) hx hb hK hw 34 7 ((fr0 U0 (some (q12 29))) 16) rfl k18 dX7_worth_45 rfl (fun H locs hw => ?_)
      refine lv_iconst (v := (0 : Int32)) hx hb dX7_worth_46 (by decide) ?_
      refine lv_istore (lv' := [(5, .int (0 : Int32)), (4, .ref (b16 0)), (3, .int q14), (0, .ref (a0 0)), (1, .int p1), (2, .int p2)]) hx hb dX7_worth_47 hl (by decide) rfl (fun ls hl => ?_)
      obtain ⟨q21, hL49, hM⟩ := bd hM
      have hJ49 : ∀ (H : Heap) (locs : List Loc), Wk g A s.heap H locs ((wXM g a0 U0 V0 M0 R0 kv (.ref (b16 0))) ++ (wXT g b16 G17 q21)) → ∀ (ls : Array Slot), lv_has ls 6 [(4, .ref (b16 0)), (3, .int q14), (1, .int p1), (2, .int p2)] → W p l e (headSpec wsX7_worth ({ frames := 6, cells := 28 * nlOf t0, slots := 759 * nlOf t0, locals := 163 } : Room)).room s m ([.ref (a0 0), .int p1, .int p2] : List Value).toArray below meth c H locs (28 * nlOf t0) (759 * nlOf t0) (MQ below (QcB g (some (.int q.1)) (fun t => (wXM g a0 U0 q.2.1 M0 R0 kv (tvOf t)) ++ wOT g t) q.2.2 A) ([.ref (a0 0), .int p1, .int p2] : List Value).toArray s (28 * nlOf t0) (759 * nlOf t0) A) (F0 m 80 ls []) := by
        intro H locs hw ls hl
        refine lv_iconst (v := (0 : Int32)) hx hb dX7_worth_80 (by decide) ?_
        refine lv_istore (lv' := [(5, .int (0 : Int32)), (4, .ref (b16 0)), (3, .int q14), (1, .int p1), (2, .int p2)]) hx hb dX7_worth_81 hl (by decide) rfl (fun ls hl => ?_)
        obtain ⟨q26, hL83, hM⟩ := bd hM
        have hJ83 : ∀ (H : Heap) (locs : List Loc), Wk g A s.heap H locs ((wXM g a0 U0 V0 M0 R0 kv (.ref (b16 0))) ++ (wXT g b16 G17 q26)) → ∀ (ls : Array Slot), lv_has ls 6 [(4, .ref (b16 0)), (3, .int q14), (1, .int p1)] → W p l e (headSpec wsX7_worth ({ frames := 6, cells := 28 * nlOf t0, slots := 759 * nlOf t0, locals := 163 } : Room)).room s m ([.ref (a0 0), .int p1, .int p2] : List Value).toArray below meth c H locs (28 * nlOf t0) (759 * nlOf t0) (MQ below (QcB g (some (.int q.1)) (fun t => (wXM g a0 U0 q.2.1 M0 R0 kv (tvOf t)) ++ wOT g t) q.2.2 A) ([.ref (a0 0), .int p1, .int p2] : List Value).toArray s (28 * nlOf t0) (759 * nlOf t0) A) (F0 m 101 ls []) := by
          intro H locs hw ls hl
          refine lv_iload_n hx hb dX7_worth_101 rfl (lv_at hl 1 rfl) ?_
          refine lv_aload hx hb dX7_worth_102 (lv_at hl 0 rfl) ?_
          refine lv_iload_n hx hb dX7_worth_104 rfl (lv_at hl 2 rfl) ?_
          obtain ⟨q31, h30, hM⟩ := bd hM
          refine rVR (wc := (wXT g b16 G17 q26)) (As := [.int p1]) (rest := [.int q14]) (q0 := 0) hS (c_X7_knownTo l g b16 G17 q26 p1 h30) gX7_worth_X7_knownTo rfl hd_X7_knownTo ⟨Nat.le_of_ble_eq_true rfl, Nat.le_of_ble_eq_true rfl⟩ hK (va_P.pm hw.1 (pm_2_1 _ _)) rfl rfl rfl rfl hl.1 rfl (Nat.le_of_ble_eq_true rfl) dX7_worth_105 ⟨Nat.le_refl _, Nat.le_refl _⟩ ?_
          refine lv_isub hx hb dX7_worth_108 ?_
          obtain rfl := Option.some.inj hM
          exact W.iret hx hb hr (fun t ht _ => ⟨rfl, ⟨(some (b16, G17, q26)), rfl, by rw [ht]; exact hw.1, hw.2.1⟩, hw.2.2.F ht⟩) hw.2.2.2.2 dX7_worth_109
        have hW83 : ∀ (n : Nat) (v5_24 : Int32) (UL25 : TS), L_X7_worth_83 p2 n v5_24 UL25 = some q26 → ∀ (H : Heap) (locs : List Loc), Wk g A s.heap H locs ((wXM g a0 U0 V0 M0 R0 kv (.ref (b16 0))) ++ (wXT g b16 G17 UL25)) → ∀ (ls : Array Slot), lv_has ls 6 [(5, .int v5_24), (4, .ref (b16 0)), (3, .int q14), (1, .int p1), (2, .int p2)] → W p l e (headSpec wsX7_worth ({ frames := 6, cells := 28 * nlOf t0, slots := 759 * nlOf t0, locals := 163 } : Room)).room s m ([.ref (a0 0), .int p1, .int p2] : List Value).toArray below meth c H locs (28 * nlOf t0) (759 * nlOf t0) (MQ below (QcB g (some (.int q.1)) (fun t => (wXM g a0 U0 q.2.1 M0 R0 kv (tvOf t)) ++ wOT g t) q.2.2 A) ([.ref (a0 0), .int p1, .int p2] : List Value).toArray s (28 * nlOf t0) (759 * nlOf t0) A) (F0 m 83 ls []) := by
          intro n
          induction n with
          | zero => intro v5_24 UL25 hM; rw [L_X7_worth_83] at hM; exact nn hM
          | succ n ih83 =>
            intro v5_24 UL25 hM H locs hw ls hl
            rw [L_X7_worth_83] at hM
            refine lv_iload hx hb dX7_worth_83 (lv_at hl 0 rfl) ?_
            refine lv_iload_n hx hb dX7_worth_85 rfl (lv_at hl 4 rfl) ?_
            refine lv_icmp_ge (tgt := 101) hx hb dX7_worth_86 (by decide) (fun c27 => ?_) (fun c27 => ?_)
            · replace hM := itp c27 hM
              obtain rfl := Option.some.inj hM
              exact hJ83 _ _ hw _ (lv_sub hl [1, 2, 3] rfl)
            · replace hM := itn c27 hM
              refine lv_aload hx hb dX7_worth_89 (lv_at hl 1 rfl) ?_
              obtain ⟨q29, h28, hM⟩ := bd hM
              refine rVWp (wc := (wXT g b16 G17 UL25)) (wq := ((wXM g a0 U0 V0 M0 R0 kv (.ref (b16 0))) ++ (wXT g b16 G17 q29.2))) (As := []) (rest := []) (q0 := 0) hS (c_X7_goesRound l g b16 G17 UL25 h28) gX7_worth_X7_goesRound rfl hd_X7_goesRound ⟨Nat.le_of_ble_eq_true rfl, Nat.le_of_ble_eq_true rfl⟩ hK hw hA (pm_2_1 _ _) rfl (pm_2_1 _ _) rfl rfl rfl rfl hl.1 rfl (Nat.le_of_ble_eq_true rfl) dX7_worth_91 ⟨Nat.le_refl _, Nat.le_refl _⟩ (fun H locs hw => ?_)
              refine lv_pop hx hb dX7_worth_94 rfl ?_
              refine lv_iinc (v := (v5_24 + (1 : Int32))) (lv' := [(5, .int (v5_24 + (1 : Int32))), (4, .ref (b16 0)), (3, .int q14), (1, .int p1), (2, .int p2)]) hx hb dX7_worth_95 hl (k := 0) rfl rfl (by decide) rfl (fun ls hl => ?_)
              refine lv_goto (tgt := 83) hx hb dX7_worth_98 (by decide) ?_
              exact ih83 (v5_24 + (1 : Int32)) q29.2 hM _ _ hw _ (lv_sub hl [0, 1, 2, 3, 4] rfl)
        exact hW83 300 (0 : Int32) q21 hL83 _ _ hw _ (lv_sub hl [0, 1, 2, 3, 4] rfl)
      have hW49 : ∀ (n : Nat) (v5_19 : Int32) (UL20 : TS), L_X7_worth_49 U0 p1 n v5_19 UL20 = some q21 → ∀ (H : Heap) (locs : List Loc), Wk g A s.heap H locs ((wXM g a0 U0 V0 M0 R0 kv (.ref (b16 0))) ++ (wXT g b16 G17 UL20)) → ∀ (ls : Array Slot), lv_has ls 6 [(5, .int v5_19), (4, .ref (b16 0)), (3, .int q14), (0, .ref (a0 0)), (1, .int p1), (2, .int p2)] → W p l e (headSpec wsX7_worth ({ frames := 6, cells := 28 * nlOf t0, slots := 759 * nlOf t0, locals := 163 } : Room)).room s m ([.ref (a0 0), .int p1, .int p2] : List Value).toArray below meth c H locs (28 * nlOf t0) (759 * nlOf t0) (MQ below (QcB g (some (.int q.1)) (fun t => (wXM g a0 U0 q.2.1 M0 R0 kv (tvOf t)) ++ wOT g t) q.2.2 A) ([.ref (a0 0), .int p1, .int p2] : List Value).toArray s (28 * nlOf t0) (759 * nlOf t0) A) (F0 m 49 ls []) := by
        intro n
        induction n with
        | zero => intro v5_19 UL20 hM; rw [L_X7_worth_49] at hM; exact nn hM
        | succ n ih49 =>
          intro v5_19 UL20 hM H locs hw ls hl
          rw [L_X7_worth_49] at hM
          refine lv_iload hx hb dX7_worth_49 (lv_at hl 0 rfl) ?_
          refine lv_aload_n hx hb dX7_worth_51 rfl (lv_at hl 3 rfl) ?_
          refine wk_get hx hb hts hin_X7 hown hK hw.1 7 0 10 (.int (U0 10 0)) rfl rfl (by decide) (mi 2 rfl) rfl rfl dX7_worth_52 ?_
          refine lv_icmp_ge (tgt := 80) hx hb dX7_worth_55 (by decide) (fun c22 => ?_) (fun c22 => ?_)
          · replace hM := itp c22 hM
            obtain rfl := Option.some.inj hM
            exact hJ49 _ _ hw _ (lv_sub hl [1, 2, 4, 5] rfl)
          · replace hM := itn c22 hM
            refine lv_aload hx hb dX7_worth_58 (lv_at hl 1 rfl) ?_
            refine wk_get hx hb hts hin_X7 hown hK hw.1 7 28 16 (.ref (b16 6)) rfl rfl (by decide) (mi 1 rfl) rfl rfl dX7_worth_60 ?_
            refine lv_iload hx hb dX7_worth_63 (lv_at hl 0 rfl) ?_
            refine lv_dup2_11 hx hb dX7_worth_65 rfl rfl ?_
            obtain ⟨k23, hM⟩ := ck hM
            refine wk_iald hx hb hK hw.1 34 7 (UL20 16) rfl k23 dX7_worth_66 ?_
            refine lv_iconst (v := (1 : Int32)) hx hb dX7_worth_67 (by decide) ?_
            refine lv_iload_n hx hb dX7_worth_68 rfl (lv_at hl 4 rfl) ?_
            refine lv_ishl hx hb dX7_worth_69 ?_
            refine lv_iconst (v := (-1 : Int32)) hx hb dX7_worth_70 (by decide) ?_
            refine lv_ixor hx hb dX7_worth_71 ?_
            refine lv_iand hx hb dX7_worth_72 ?_
            refine wk_iast (wq := ((wXM g a0 U0 V0 M0 R0 kv (.ref (b16 0))) ++ (wXT g b16 G17 (up UL20 16 (upd (UL20 16) (v5_19).toNatClampNeg (((UL20 16) (v5_19).toNatClampNeg) &&& (((1 : Int32) <<< (p1 &&& 31)) ^^^ (-1 : Int32)))))))) hx hb hK hw 34 7 (UL20 16) rfl k23 dX7_worth_73 rfl (fun H locs hw => ?_)
            refine lv_iinc (v := (v5_19 + (1 : Int32))) (lv' := [(5, .int (v5_19 + (1 : Int32))), (4, .ref (b16 0)), (3, .int q14), (0, .ref (a0 0)), (1, .int p1), (2, .int p2)]) hx hb dX7_worth_74 hl (k := 0) rfl rfl (by decide) rfl (fun ls hl => ?_)
            refine lv_goto (tgt := 49) hx hb dX7_worth_77 (by decide) ?_
            exact ih49 (v5_19 + (1 : Int32)) (up UL20 16 (upd (UL20 16) (v5_19).toNatClampNeg (((UL20 16) (v5_19).toNatClampNeg) &&& (((1 : Int32) <<< (p1 &&& 31)) ^^^ (-1 : Int32))))) hM _ _ hw _ (lv_sub hl [0, 1, 2, 3, 4, 5] rfl)
      exact hW49 300 (0 : Int32) (up (fr0 U0 (some (q12 29))) 16 (upd ((fr0 U0 (some (q12 29))) 16) (p1).toNatClampNeg (0 : Int32))) hL49 _ _ hw _ (lv_sub hl [0, 1, 2, 3, 4, 5] rfl)
    · replace hM := itp c6 hM
      refine lv_aload_n hx hb dX7_worth_15 rfl (lv_at hl 0 rfl) ?_
      refine lv_bipush (v := (-2 : Int32)) hx hb dX7_worth_16 (by decide) ?_
      obtain ⟨q8, h7, hM⟩ := bd hM
      refine rVWp (wc := (wXM g a0 U0 V0 M0 R0 kv (tvOf t0))) (wq := ((wXM g a0 U0 q8.2 M0 R0 kv (tvOf t0)) ++ (wOT g t0))) (As := [.int (-2 : Int32)]) (rest := []) (q0 := 0) hS (c_X7_refuse l g a0 kv (tvOf t0) U0 V0 M0 R0 (-2 : Int32) h7) gX7_worth_X7_refuse rfl hd_X7_refuse ⟨Nat.le_of_ble_eq_true rfl, Nat.le_of_ble_eq_true rfl⟩ hK hw hA (pm_2_0 _ _) rfl (pm_2_0 _ _) rfl rfl rfl rfl hl.1 rfl (Nat.le_of_ble_eq_true rfl) dX7_worth_18 ⟨nlc _ _ _, nlc _ _ _⟩ (fun H locs hw => ?_)
      obtain rfl := Option.some.inj hM
      refine W.widen (k := 28 * nlOf t0) (n := 759 * nlOf t0) (nlc _ _ _) (nlc _ _ _) ?_
      exact W.iret hx hb hr (fun t ht _ => ⟨rfl, ⟨t0, h0, by rw [ht]; exact hw.1, hw.2.1⟩, hw.2.2.F ht⟩) hw.2.2.2.2 dX7_worth_21
