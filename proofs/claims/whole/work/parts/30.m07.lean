theorem hd_X7_near : yX7_near.cls = RX7 ∧ yX7_near.cls ≠ "java/lang/invoke/MethodHandle" ∧ yX7_near.cls ≠ "java/lang/invoke/VarHandle" ∧ (parseMethodDescriptor yX7_near.desc).map (fun d => d.parameters.length) = some 3 := by decide +kernel
set_option maxHeartbeats 4000000 in
set_option maxRecDepth 100000 in
theorem c_X7_near (l : Launch) (g : Gm) (a0 : Nat → Nat) (kv : Value) (tv : Value) (U0 : TS) (V0 : TS) (M0 : LTS) (R0 : LTS) (p1 : Int32) (p2 : Int32) (p3 : Int32) {q : (Int32 × TS × TS)} (hM : f_X7_near U0 V0 M0 R0 p1 p2 p3 = some q) : MW l yX7_near wsX7_near 2 46 g [.ref (a0 0), .int p1, .int p2, .int p3] (wXM g a0 U0 V0 M0 R0 kv tv) (some (.int q.1)) (wXM g a0 q.2.1 q.2.2 M0 R0 kv tv) := by
  intro sz
  refine Met.ofW (cc := cX7_near) (maxL := 5) (ret := (some .int)) (by decide) rfl ?_
  intro p e s m args below meth c s₁ B hml hv
  obtain ⟨rfl, hsz, hP, hK, hD0⟩ := hv
  have hx := B.exec; have hb := B.bytes; have hr := B.returns
  have hts := atoms_spec (ws := wsX7_near) B.pre
  have hown : s.vm.findClass RX7 = some m.cls := findClass_of_methodNamed B.named
  have hlocks := B.notSynchronized
  have hS : CallFix p m c cX7_near 5 s _ wsX7_near RX7 := ⟨hx, hb, hml, hown, hts⟩
  have hin_X7 : ∀ w ∈ wsX70, w ∈ wsX7_near := fun w h => (List.mem_cons_of_mem _ (List.mem_append_right _ h))
  subst hsz
  have hw := wk_start hP hD0
  have hA : ∀ q : Nat, s.heap.size ≤ q → va_A (wXM g a0 U0 V0 M0 R0 kv tv) s.heap.size q := fun q h => Or.inr h
  generalize va_A (wXM g a0 U0 V0 M0 R0 kv tv) s.heap.size = A at hw hA ⊢
  clear hP hD0
  have hl := lv_entry ([.ref (a0 0), .int p1, .int p2, .int p3]) (n := 5) (Nat.le_of_ble_eq_true rfl)
  rw [lg_entry_eq]
  generalize (lg_sl ([.ref (a0 0), .int p1, .int p2, .int p3]) ++ List.replicate (5 - (lg_sl ([.ref (a0 0), .int p1, .int p2, .int p3])).length) Slot.unset).toArray = ls at hl ⊢
  have hl : lv_has ls 5 [(0, .ref (a0 0)), (1, .int p1), (2, .int p2), (3, .int p3)] := hl
  rw [f_X7_near] at hM
  refine lv_aload_n hx hb dX7_near_0 rfl (lv_at hl 0 rfl) ?_
  refine lv_iload_n hx hb dX7_near_1 rfl (lv_at hl 1 rfl) ?_
  refine rVR (wc := (wXT g a0 (fm a0 V0 kv tv) U0)) (As := [.int p1]) (rest := []) (q0 := 0) hS (c_X7_isOne l g a0 (fm a0 V0 kv tv) U0 p1) gX7_near_X7_isOne rfl hd_X7_isOne ⟨Nat.le_of_ble_eq_true rfl, Nat.le_of_ble_eq_true rfl⟩ hK (va_P.pm hw.1 (pmX1 _ _ _ _ _ _ _ _)) rfl rfl rfl rfl hl.1 rfl (Nat.le_of_ble_eq_true rfl) dX7_near_2 ⟨Nat.zero_le _, Nat.zero_le _⟩ ?_
  refine lv_if_eq (tgt := 21) hx hb dX7_near_5 (by decide) (fun c2 => ?_) (fun c2 => ?_)
  · replace hM := itp c2 hM
    refine lv_aload_n hx hb dX7_near_21 rfl (lv_at hl 0 rfl) ?_
    refine lv_bipush (v := (-2 : Int32)) hx hb dX7_near_22 (by decide) ?_
    obtain ⟨q4, h3, hM⟩ := bd hM
    refine rVWp (wc := (wXM g a0 U0 V0 M0 R0 kv tv)) (wq := (wXM g a0 U0 q4.2 M0 R0 kv tv)) (As := [.int (-2 : Int32)]) (rest := []) (q0 := 0) hS (c_X7_refuse l g a0 kv tv U0 V0 M0 R0 (-2 : Int32) h3) gX7_near_X7_refuse rfl hd_X7_refuse ⟨Nat.le_of_ble_eq_true rfl, Nat.le_of_ble_eq_true rfl⟩ hK hw hA (pm_1_0 _) rfl (pm_1_0 _) rfl rfl rfl rfl hl.1 rfl (Nat.le_of_ble_eq_true rfl) dX7_near_24 ⟨Nat.zero_le _, Nat.zero_le _⟩ (fun H locs hw => ?_)
    obtain rfl := Option.some.inj hM
    exact W.iret hx hb hr (fun t ht _ => ⟨rfl, by rw [ht]; exact hw.1, hw.2.2.F ht⟩) hw.2.2.2.2 dX7_near_27
  · replace hM := itn c2 hM
    refine lv_aload_n hx hb dX7_near_8 rfl (lv_at hl 0 rfl) ?_
    refine lv_iload_n hx hb dX7_near_9 rfl (lv_at hl 2 rfl) ?_
    refine rVR (wc := (wXT g a0 (fm a0 V0 kv tv) U0)) (As := [.int p2]) (rest := []) (q0 := 0) hS (c_X7_isOne l g a0 (fm a0 V0 kv tv) U0 p2) gX7_near_X7_isOne rfl hd_X7_isOne ⟨Nat.le_of_ble_eq_true rfl, Nat.le_of_ble_eq_true rfl⟩ hK (va_P.pm hw.1 (pmX1 _ _ _ _ _ _ _ _)) rfl rfl rfl rfl hl.1 rfl (Nat.le_of_ble_eq_true rfl) dX7_near_10 ⟨Nat.zero_le _, Nat.zero_le _⟩ ?_
    refine lv_if_eq (tgt := 21) hx hb dX7_near_13 (by decide) (fun c6 => ?_) (fun c6 => ?_)
    · replace hM := itp c6 hM
      refine lv_aload_n hx hb dX7_near_21 rfl (lv_at hl 0 rfl) ?_
      refine lv_bipush (v := (-2 : Int32)) hx hb dX7_near_22 (by decide) ?_
      obtain ⟨q8, h7, hM⟩ := bd hM
      refine rVWp (wc := (wXM g a0 U0 V0 M0 R0 kv tv)) (wq := (wXM g a0 U0 q8.2 M0 R0 kv tv)) (As := [.int (-2 : Int32)]) (rest := []) (q0 := 0) hS (c_X7_refuse l g a0 kv tv U0 V0 M0 R0 (-2 : Int32) h7) gX7_near_X7_refuse rfl hd_X7_refuse ⟨Nat.le_of_ble_eq_true rfl, Nat.le_of_ble_eq_true rfl⟩ hK hw hA (pm_1_0 _) rfl (pm_1_0 _) rfl rfl rfl rfl hl.1 rfl (Nat.le_of_ble_eq_true rfl) dX7_near_24 ⟨Nat.zero_le _, Nat.zero_le _⟩ (fun H locs hw => ?_)
      obtain rfl := Option.some.inj hM
      exact W.iret hx hb hr (fun t ht _ => ⟨rfl, by rw [ht]; exact hw.1, hw.2.2.F ht⟩) hw.2.2.2.2 dX7_near_27
    · replace hM := itn c6 hM
      refine lv_iload_n hx hb dX7_near_16 rfl (lv_at hl 1 rfl) ?_
      refine lv_iload_n hx hb dX7_near_17 rfl (lv_at hl 2 rfl) ?_
      refine lv_icmp_ne (tgt := 28) hx hb dX7_near_18 (by decide) (fun c9 => ?_) (fun c9 => ?_)
      · replace hM := itn c9 hM
        refine lv_aload_n hx hb dX7_near_28 rfl (lv_at hl 0 rfl) ?_
        refine wk_get hx hb hts hin_X7 hown hK hw.1 7 0 16 (.ref (a0 6)) rfl rfl (by decide) (mi 1 rfl) rfl rfl dX7_near_29 ?_
        refine lv_iload_n hx hb dX7_near_32 rfl (lv_at hl 1 rfl) ?_
        obtain ⟨k12, hM⟩ := ck hM
        refine wk_iald hx hb hK hw.1 6 7 (U0 16) rfl k12 dX7_near_33 ?_
        refine lv_iload_n hx hb dX7_near_34 rfl (lv_at hl 2 rfl) ?_
        refine rSR (wc := ([] : va_W)) (As := [.int ((U0 16) (p1).toNatClampNeg), .int p2]) (rest := []) hS (c_X7_has l g ((U0 16) (p1).toNatClampNeg) p2) gX7_near_X7_has rfl hd_X7_has ⟨Nat.le_of_ble_eq_true rfl, Nat.le_of_ble_eq_true rfl⟩ hK (hP_nil) rfl hl.1 rfl (Nat.le_of_ble_eq_true rfl) dX7_near_35 ⟨Nat.zero_le _, Nat.zero_le _⟩ ?_
        refine lv_istore (lv' := [(4, .int (f_X7_has ((U0 16) (p1).toNatClampNeg) p2)), (0, .ref (a0 0)), (1, .int p1), (2, .int p2), (3, .int p3)]) hx hb dX7_near_38 hl (by decide) rfl (fun ls hl => ?_)
        refine lv_aload_n hx hb dX7_near_40 rfl (lv_at hl 1 rfl) ?_
        refine wk_get hx hb hts hin_X7 hown hK hw.1 7 0 16 (.ref (a0 6)) rfl rfl (by decide) (mi 1 rfl) rfl rfl dX7_near_41 ?_
        refine lv_iload_n hx hb dX7_near_44 rfl (lv_at hl 2 rfl) ?_
        refine lv_iload_n hx hb dX7_near_45 rfl (lv_at hl 4 rfl) ?_
        have hJ25 : ∀ (H : Heap) (locs : List Loc) (x24 : Int32) (ls : Array Slot), Wk g A s.heap H locs (wXM g a0 U0 V0 M0 R0 kv tv) → x24 = (if p3 = 0 then (((U0 16) (p1).toNatClampNeg) &&& (((1 : Int32) <<< (p2 &&& 31)) ^^^ (-1 : Int32))) else (((U0 16) (p1).toNatClampNeg) ||| ((1 : Int32) <<< (p2 &&& 31)))) → lv_has ls 5 [(4, .int (f_X7_has ((U0 16) (p1).toNatClampNeg) p2)), (3, .int p3)] → W p l e (headSpec wsX7_near ({ frames := 2, cells := 0, slots := 0, locals := 46 } : Room)).room s m ([.ref (a0 0), .int p1, .int p2, .int p3] : List Value).toArray below meth c H locs 0 0 (MQ below (QcW g (some (.int q.1)) (wXM g a0 q.2.1 q.2.2 M0 R0 kv tv) A) ([.ref (a0 0), .int p1, .int p2, .int p3] : List Value).toArray s 0 0 A) (F0 m 74 ls [.int x24, .int p1, .ref (a0 6)]) := by
          intro H locs x24 ls hw hxx24 hl
          subst hxx24
          refine wk_iast (wq := (wXM g a0 (up U0 16 (upd (U0 16) (p1).toNatClampNeg (if p3 = 0 then (((U0 16) (p1).toNatClampNeg) &&& (((1 : Int32) <<< (p2 &&& 31)) ^^^ (-1 : Int32))) else (((U0 16) (p1).toNatClampNeg) ||| ((1 : Int32) <<< (p2 &&& 31)))))) V0 M0 R0 kv tv)) hx hb hK hw 6 7 (U0 16) rfl k12 dX7_near_74 rfl (fun H locs hw => ?_)
          refine lv_iload hx hb dX7_near_75 (lv_at hl 0 rfl) ?_
          refine lv_iload_n hx hb dX7_near_77 rfl (lv_at hl 1 rfl) ?_
          have hJ27 : ∀ (H : Heap) (locs : List Loc) (x26 : Int32) (ls : Array Slot), Wk g A s.heap H locs (wXM g a0 (up U0 16 (upd (U0 16) (p1).toNatClampNeg (if p3 = 0 then (((U0 16) (p1).toNatClampNeg) &&& (((1 : Int32) <<< (p2 &&& 31)) ^^^ (-1 : Int32))) else (((U0 16) (p1).toNatClampNeg) ||| ((1 : Int32) <<< (p2 &&& 31)))))) V0 M0 R0 kv tv) → x26 = (if (f_X7_has ((U0 16) (p1).toNatClampNeg) p2) = p3 then (0 : Int32) else (1 : Int32)) → lv_has ls 5 [] → W p l e (headSpec wsX7_near ({ frames := 2, cells := 0, slots := 0, locals := 46 } : Room)).room s m ([.ref (a0 0), .int p1, .int p2, .int p3] : List Value).toArray below meth c H locs 0 0 (MQ below (QcW g (some (.int q.1)) (wXM g a0 q.2.1 q.2.2 M0 R0 kv tv) A) ([.ref (a0 0), .int p1, .int p2, .int p3] : List Value).toArray s 0 0 A) (F0 m 86 ls [.int x26]) := by
            intro H locs x26 ls hw hxx26 hl
            subst hxx26
            obtain rfl := Option.some.inj hM
            exact W.iret hx hb hr (fun t ht _ => ⟨rfl, by rw [ht]; exact hw.1, hw.2.2.F ht⟩) hw.2.2.2.2 dX7_near_86
          refine lv_icmp_eq (tgt := 85) hx hb dX7_near_78 (by decide) (fun c15 => ?_) (fun c15 => ?_)
          · refine lv_iconst (v := (0 : Int32)) hx hb dX7_near_85 (by decide) ?_
            exact hJ27 _ _ _ _ hw (by first | with_reducible rfl | (simp only [if_pos c15]) | rfl) (lv_sub hl [] rfl)
          · refine lv_iconst (v := (1 : Int32)) hx hb dX7_near_81 (by decide) ?_
            refine lv_goto (tgt := 86) hx hb dX7_near_82 (by decide) ?_
            exact hJ27 _ _ _ _ hw (by first | with_reducible rfl | (simp only [if_neg c15]) | rfl) (lv_sub hl [] rfl)
        refine lv_if_eq (tgt := 62) hx hb dX7_near_46 (by decide) (fun c14 => ?_) (fun c14 => ?_)
        · refine lv_aload_n hx hb dX7_near_62 rfl (lv_at hl 1 rfl) ?_
          refine wk_get hx hb hts hin_X7 hown hK hw.1 7 0 16 (.ref (a0 6)) rfl rfl (by decide) (mi 1 rfl) rfl rfl dX7_near_63 ?_
          refine lv_iload_n hx hb dX7_near_66 rfl (lv_at hl 2 rfl) ?_
          refine wk_iald hx hb hK hw.1 6 7 (U0 16) rfl k12 dX7_near_67 ?_
          refine lv_iconst (v := (1 : Int32)) hx hb dX7_near_68 (by decide) ?_
          refine lv_iload_n hx hb dX7_near_69 rfl (lv_at hl 3 rfl) ?_
          refine lv_ishl hx hb dX7_near_70 ?_
          refine lv_iconst (v := (-1 : Int32)) hx hb dX7_near_71 (by decide) ?_
          refine lv_ixor hx hb dX7_near_72 ?_
          refine lv_iand hx hb dX7_near_73 ?_
          exact hJ25 _ _ _ _ hw (by first | with_reducible rfl | (simp only [if_pos c14]) | rfl) (lv_sub hl [0, 4] rfl)
        · refine lv_aload_n hx hb dX7_near_49 rfl (lv_at hl 1 rfl) ?_
          refine wk_get hx hb hts hin_X7 hown hK hw.1 7 0 16 (.ref (a0 6)) rfl rfl (by decide) (mi 1 rfl) rfl rfl dX7_near_50 ?_
          refine lv_iload_n hx hb dX7_near_53 rfl (lv_at hl 2 rfl) ?_
          refine wk_iald hx hb hK hw.1 6 7 (U0 16) rfl k12 dX7_near_54 ?_
          refine lv_iconst (v := (1 : Int32)) hx hb dX7_near_55 (by decide) ?_
          refine lv_iload_n hx hb dX7_near_56 rfl (lv_at hl 3 rfl) ?_
          refine lv_ishl hx hb dX7_near_57 ?_
          refine lv_ior hx hb dX7_near_58 ?_
          refine lv_goto (tgt := 74) hx hb dX7_near_59 (by decide) ?_
          exact hJ25 _ _ _ _ hw (by first | with_reducible rfl | (simp only [if_neg c14]) | rfl) (lv_sub hl [0, 4] rfl)
      · replace hM := itp c9 hM
        refine lv_aload_n hx hb dX7_near_21 rfl (lv_at hl 0 rfl) ?_
        refine lv_bipush (v := (-2 : Int32)) hx hb dX7_near_22 (by decide) ?_
        obtain ⟨q11, h10, hM⟩ := bd hM
        refine rVWp (wc := (wXM g a0 U0 V0 M0 R0 kv tv)) (wq := (wXM g a0 U0 q11.2 M0 R0 kv tv)) (As := [.int (-2 : Int32)]) (rest := []) (q0 := 0) hS (c_X7_refuse l g a0 kv tv U0 V0 M0 R0 (-2 : Int32) h10) gX7_near_X7_refuse rfl hd_X7_refuse ⟨Nat.le_of_ble_eq_true rfl, Nat.le_of_ble_eq_true rfl⟩ hK hw hA (pm_1_0 _) rfl (pm_1_0 _) rfl rfl rfl rfl hl.1 rfl (Nat.le_of_ble_eq_true rfl) dX7_near_24 ⟨Nat.zero_le _, Nat.zero_le _⟩ (fun H locs hw => ?_)
        obtain rfl := Option.some.inj hM
        exact W.iret hx hb hr (fun t ht _ => ⟨rfl, by rw [ht]; exact hw.1, hw.2.2.F ht⟩) hw.2.2.2.2 dX7_near_27
theorem hd_X7_nearTold : yX7_nearTold.cls = RX7 ∧ yX7_nearTold.cls ≠ "java/lang/invoke/MethodHandle" ∧ yX7_nearTold.cls ≠ "java/lang/invoke/VarHandle" ∧ (parseMethodDescriptor yX7_nearTold.desc).map (fun d => d.parameters.length) = some 0 := by decide +kernel
set_option maxHeartbeats 4000000 in
set_option maxRecDepth 100000 in
theorem c_X7_nearTold (l : Launch) (g : Gm) (a0 : Nat → Nat) (kv : Value) (tv : Value) (U0 : TS) (V0 : TS) (M0 : LTS) (R0 : LTS) {q : (Int32 × TS × TS)} (hM : f_X7_nearTold U0 V0 M0 R0 = some q) : MW l yX7_nearTold wsX7_nearTold 4 85 g [.ref (a0 0)] (wXM g a0 U0 V0 M0 R0 kv tv) (some (.int q.1)) (wXM g a0 q.2.1 q.2.2 M0 R0 kv tv) := by
  intro sz
  refine Met.ofW (cc := cX7_nearTold) (maxL := 1) (ret := (some .boolean)) (by decide) rfl ?_
  intro p e s m args below meth c s₁ B hml hv
  obtain ⟨rfl, hsz, hP, hK, hD0⟩ := hv
  have hx := B.exec; have hb := B.bytes; have hr := B.returns
  have hts := atoms_spec (ws := wsX7_nearTold) B.pre
  have hown : s.vm.findClass RX7 = some m.cls := findClass_of_methodNamed B.named
  have hlocks := B.notSynchronized
  have hS : CallFix p m c cX7_nearTold 1 s _ wsX7_nearTold RX7 := ⟨hx, hb, hml, hown, hts⟩
  have hin_X7 : ∀ w ∈ wsX70, w ∈ wsX7_nearTold := fun w h => (List.mem_cons_of_mem _ (List.mem_append_right _ h))
  subst hsz
  have hw := wk_start hP hD0
  have hA : ∀ q : Nat, s.heap.size ≤ q → va_A (wXM g a0 U0 V0 M0 R0 kv tv) s.heap.size q := fun q h => Or.inr h
  generalize va_A (wXM g a0 U0 V0 M0 R0 kv tv) s.heap.size = A at hw hA ⊢
  clear hP hD0
  have hl := lv_entry ([.ref (a0 0)]) (n := 1) (Nat.le_of_ble_eq_true rfl)
  rw [lg_entry_eq]
  generalize (lg_sl ([.ref (a0 0)]) ++ List.replicate (1 - (lg_sl ([.ref (a0 0)])).length) Slot.unset).toArray = ls at hl ⊢
  have hl : lv_has ls 1 [(0, .ref (a0 0))] := hl
  rw [f_X7_nearTold] at hM
  refine lv_aload_n hx hb dX7_nearTold_0 rfl (lv_at hl 0 rfl) ?_
  refine lv_iconst (v := (0 : Int32)) hx hb dX7_nearTold_1 (by decide) ?_
  refine lv_aload_n hx hb dX7_nearTold_2 rfl (lv_at hl 0 rfl) ?_
  refine wk_get hx hb hts hin_X7 hown hK hw.1 7 0 10 (.int (U0 10 0)) rfl rfl (by decide) (mi 1 rfl) rfl rfl dX7_nearTold_3 ?_
  refine lv_iconst (v := (1 : Int32)) hx hb dX7_nearTold_6 (by decide) ?_
  refine lv_isub hx hb dX7_nearTold_7 ?_
  obtain ⟨q2, h1, hM⟩ := bd hM
  refine rVWp (wc := (wXM g a0 U0 V0 M0 R0 kv tv)) (wq := (wXM g a0 U0 q2.2 M0 R0 kv tv)) (As := [.int (0 : Int32), .int ((U0 10 0) - (1 : Int32))]) (rest := []) (q0 := 0) hS (c_X7_tells l g a0 kv tv U0 V0 M0 R0 (0 : Int32) ((U0 10 0) - (1 : Int32)) h1) gX7_nearTold_X7_tells rfl hd_X7_tells ⟨Nat.le_of_ble_eq_true rfl, Nat.le_of_ble_eq_true rfl⟩ hK hw hA (pm_1_0 _) rfl (pm_1_0 _) rfl rfl rfl rfl hl.1 rfl (Nat.le_of_ble_eq_true rfl) dX7_nearTold_8 ⟨Nat.zero_le _, Nat.zero_le _⟩ (fun H locs hw => ?_)
  refine lv_if_ne (tgt := 16) hx hb dX7_nearTold_11 (by decide) (fun c3 => ?_) (fun c3 => ?_)
  · replace hM := itn c3 hM
    refine lv_aload_n hx hb dX7_nearTold_16 rfl (lv_at hl 0 rfl) ?_
    refine wk_get hx hb hts hin_X7 hown hK hw.1 7 0 23 (.int (q2.2 23 0)) rfl rfl (by decide) (mi 2 rfl) rfl rfl dX7_nearTold_17 ?_
    refine lv_iconst (v := (2 : Int32)) hx hb dX7_nearTold_20 (by decide) ?_
    refine lv_icmp_ne (tgt := 37) hx hb dX7_nearTold_21 (by decide) (fun c4 => ?_) (fun c4 => ?_)
    · replace hM := itn c4 hM
      refine lv_aload_n hx hb dX7_nearTold_37 rfl (lv_at hl 0 rfl) ?_
      refine lv_iconst (v := (1 : Int32)) hx hb dX7_nearTold_38 (by decide) ?_
      refine lv_iconst (v := (0 : Int32)) hx hb dX7_nearTold_39 (by decide) ?_
      refine lv_aload_n hx hb dX7_nearTold_40 rfl (lv_at hl 0 rfl) ?_
      refine wk_get hx hb hts hin_X7 hown hK hw.1 7 0 10 (.int (U0 10 0)) rfl rfl (by decide) (mi 1 rfl) rfl rfl dX7_nearTold_41 ?_
      refine lv_iconst (v := (1 : Int32)) hx hb dX7_nearTold_44 (by decide) ?_
      refine lv_isub hx hb dX7_nearTold_45 ?_
      obtain ⟨q15, h14, hM⟩ := bd hM
      refine rVWp (wc := (wXM g a0 U0 q2.2 M0 R0 kv tv)) (wq := (wXM g a0 U0 q15.2 M0 R0 kv tv)) (As := [.int (1 : Int32), .int (0 : Int32), .int ((U0 10 0) - (1 : Int32))]) (rest := []) (q0 := 0) hS (c_X7_number l g a0 kv tv U0 q2.2 M0 R0 (1 : Int32) (0 : Int32) ((U0 10 0) - (1 : Int32)) h14) gX7_nearTold_X7_number rfl hd_X7_number ⟨Nat.le_of_ble_eq_true rfl, Nat.le_of_ble_eq_true rfl⟩ hK hw hA (pm_1_0 _) rfl (pm_1_0 _) rfl rfl rfl rfl hl.1 rfl (Nat.le_of_ble_eq_true rfl) dX7_nearTold_46 ⟨Nat.zero_le _, Nat.zero_le _⟩ (fun H locs hw => ?_)
      refine lv_if_ne (tgt := 57) hx hb dX7_nearTold_49 (by decide) (fun c16 => ?_) (fun c16 => ?_)
      · replace hM := itn c16 hM
        refine lv_aload_n hx hb dX7_nearTold_57 rfl (lv_at hl 0 rfl) ?_
        refine wk_get hx hb hts hin_X7 hown hK hw.1 7 0 16 (.ref (a0 6)) rfl rfl (by decide) (mi 5 rfl) rfl rfl dX7_nearTold_58 ?_
        refine lv_aload_n hx hb dX7_nearTold_61 rfl (lv_at hl 0 rfl) ?_
        refine wk_get hx hb hts hin_X7 hown hK hw.1 7 0 27 (.ref (a0 17)) rfl rfl (by decide) (mi 4 rfl) rfl rfl dX7_nearTold_62 ?_
        refine lv_iconst (v := (0 : Int32)) hx hb dX7_nearTold_65 (by decide) ?_
        refine wk_iald hx hb hK hw.1 17 2 (q15.2 27) rfl (by decide) dX7_nearTold_66 ?_
        refine lv_dup2_11 hx hb dX7_nearTold_67 rfl rfl ?_
        obtain ⟨k19, hM⟩ := ck hM
        refine wk_iald hx hb hK hw.1 6 7 (U0 16) rfl k19 dX7_nearTold_68 ?_
        refine lv_iconst (v := (1 : Int32)) hx hb dX7_nearTold_69 (by decide) ?_
        refine lv_aload_n hx hb dX7_nearTold_70 rfl (lv_at hl 0 rfl) ?_
        refine wk_get hx hb hts hin_X7 hown hK hw.1 7 0 27 (.ref (a0 17)) rfl rfl (by decide) (mi 4 rfl) rfl rfl dX7_nearTold_71 ?_
        refine lv_iconst (v := (1 : Int32)) hx hb dX7_nearTold_74 (by decide) ?_
        refine wk_iald hx hb hK hw.1 17 2 (q15.2 27) rfl (by decide) dX7_nearTold_75 ?_
        refine lv_ishl hx hb dX7_nearTold_76 ?_
        refine lv_ior hx hb dX7_nearTold_77 ?_
        refine wk_iast (wq := (wXM g a0 (up U0 16 (upd (U0 16) (((q15.2 27) ((0 : Int32)).toNatClampNeg)).toNatClampNeg (((U0 16) (((q15.2 27) ((0 : Int32)).toNatClampNeg)).toNatClampNeg) ||| ((1 : Int32) <<< (((q15.2 27) ((1 : Int32)).toNatClampNeg) &&& 31))))) q15.2 M0 R0 kv tv)) hx hb hK hw 6 7 (U0 16) rfl k19 dX7_nearTold_78 rfl (fun H locs hw => ?_)
        refine lv_iconst (v := (1 : Int32)) hx hb dX7_nearTold_79 (by decide) ?_
        obtain rfl := Option.some.inj hM
        exact W.zret hx hb hr (nz (Or.inr rfl)) (fun t ht _ => ⟨rfl, by rw [ht]; exact hw.1, hw.2.2.F ht⟩) hw.2.2.2.2 dX7_nearTold_80
      · replace hM := itp c16 hM
        refine lv_aload_n hx hb dX7_nearTold_52 rfl (lv_at hl 0 rfl) ?_
        obtain ⟨q18, h17, hM⟩ := bd hM
        refine rVWp (wc := (wXM g a0 U0 q15.2 M0 R0 kv tv)) (wq := (wXM g a0 U0 q18.2 M0 R0 kv tv)) (As := []) (rest := []) (q0 := 0) hS (c_X7_wrong l g a0 kv tv U0 q15.2 M0 R0 h17) gX7_nearTold_X7_wrong rfl hd_X7_wrong ⟨Nat.le_of_ble_eq_true rfl, Nat.le_of_ble_eq_true rfl⟩ hK hw hA (pm_1_0 _) rfl (pm_1_0 _) rfl rfl rfl rfl hl.1 rfl (Nat.le_of_ble_eq_true rfl) dX7_nearTold_53 ⟨Nat.zero_le _, Nat.zero_le _⟩ (fun H locs hw => ?_)
        obtain rfl := Option.some.inj hM
        exact W.zret hx hb hr (nz (bz_X7_wrong h17)) (fun t ht _ => ⟨rfl, by rw [ht]; exact hw.1, hw.2.2.F ht⟩) hw.2.2.2.2 dX7_nearTold_56
    · replace hM := itp c4 hM
      refine lv_aload_n hx hb dX7_nearTold_24 rfl (lv_at hl 0 rfl) ?_
      refine wk_get hx hb hts hin_X7 hown hK hw.1 7 0 25 (.int (q2.2 25 0)) rfl rfl (by decide) (mi 3 rfl) rfl rfl dX7_nearTold_25 ?_
      refine lv_aload_n hx hb dX7_nearTold_28 rfl (lv_at hl 0 rfl) ?_
      refine wk_get hx hb hts hin_X7 hown hK hw.1 7 0 27 (.ref (a0 17)) rfl rfl (by decide) (mi 4 rfl) rfl rfl dX7_nearTold_29 ?_
      refine lv_iconst (v := (0 : Int32)) hx hb dX7_nearTold_32 (by decide) ?_
      refine wk_iald hx hb hK hw.1 17 2 (q2.2 27) rfl (by decide) dX7_nearTold_33 ?_
      refine lv_icmp_eq (tgt := 52) hx hb dX7_nearTold_34 (by decide) (fun c5 => ?_) (fun c5 => ?_)
      · replace hM := itp c5 hM
        refine lv_aload_n hx hb dX7_nearTold_52 rfl (lv_at hl 0 rfl) ?_
        obtain ⟨q7, h6, hM⟩ := bd hM
        refine rVWp (wc := (wXM g a0 U0 q2.2 M0 R0 kv tv)) (wq := (wXM g a0 U0 q7.2 M0 R0 kv tv)) (As := []) (rest := []) (q0 := 0) hS (c_X7_wrong l g a0 kv tv U0 q2.2 M0 R0 h6) gX7_nearTold_X7_wrong rfl hd_X7_wrong ⟨Nat.le_of_ble_eq_true rfl, Nat.le_of_ble_eq_true rfl⟩ hK hw hA (pm_1_0 _) rfl (pm_1_0 _) rfl rfl rfl rfl hl.1 rfl (Nat.le_of_ble_eq_true rfl) dX7_nearTold_53 ⟨Nat.zero_le _, Nat.zero_le _⟩ (fun H locs hw => ?_)
        obtain rfl := Option.some.inj hM
        exact W.zret hx hb hr (nz (bz_X7_wrong h6)) (fun t ht _ => ⟨rfl, by rw [ht]; exact hw.1, hw.2.2.F ht⟩) hw.2.2.2.2 dX7_nearTold_56
      · replace hM := itn c5 hM
        refine lv_aload_n hx hb dX7_nearTold_37 rfl (lv_at hl 0 rfl) ?_
        refine lv_iconst (v := (1 : Int32)) hx hb dX7_nearTold_38 (by decide) ?_
        refine lv_iconst (v := (0 : Int32)) hx hb dX7_nearTold_39 (by decide) ?_
        refine lv_aload_n hx hb dX7_nearTold_40 rfl (lv_at hl 0 rfl) ?_
        refine wk_get hx hb hts hin_X7 hown hK hw.1 7 0 10 (.int (U0 10 0)) rfl rfl (by decide) (mi 1 rfl) rfl rfl dX7_nearTold_41 ?_
        refine lv_iconst (v := (1 : Int32)) hx hb dX7_nearTold_44 (by decide) ?_
        refine lv_isub hx hb dX7_nearTold_45 ?_
        obtain ⟨q9, h8, hM⟩ := bd hM
        refine rVWp (wc := (wXM g a0 U0 q2.2 M0 R0 kv tv)) (wq := (wXM g a0 U0 q9.2 M0 R0 kv tv)) (As := [.int (1 : Int32), .int (0 : Int32), .int ((U0 10 0) - (1 : Int32))]) (rest := []) (q0 := 0) hS (c_X7_number l g a0 kv tv U0 q2.2 M0 R0 (1 : Int32) (0 : Int32) ((U0 10 0) - (1 : Int32)) h8) gX7_nearTold_X7_number rfl hd_X7_number ⟨Nat.le_of_ble_eq_true rfl, Nat.le_of_ble_eq_true rfl⟩ hK hw hA (pm_1_0 _) rfl (pm_1_0 _) rfl rfl rfl rfl hl.1 rfl (Nat.le_of_ble_eq_true rfl) dX7_nearTold_46 ⟨Nat.zero_le _, Nat.zero_le _⟩ (fun H locs hw => ?_)
        refine lv_if_ne (tgt := 57) hx hb dX7_nearTold_49 (by decide) (fun c10 => ?_) (fun c10 => ?_)
        · replace hM := itn c10 hM
          refine lv_aload_n hx hb dX7_nearTold_57 rfl (lv_at hl 0 rfl) ?_
          refine wk_get hx hb hts hin_X7 hown hK hw.1 7 0 16 (.ref (a0 6)) rfl rfl (by decide) (mi 5 rfl) rfl rfl dX7_nearTold_58 ?_
          refine lv_aload_n hx hb dX7_nearTold_61 rfl (lv_at hl 0 rfl) ?_
          refine wk_get hx hb hts hin_X7 hown hK hw.1 7 0 27 (.ref (a0 17)) rfl rfl (by decide) (mi 4 rfl) rfl rfl dX7_nearTold_62 ?_
          refine lv_iconst (v := (0 : Int32)) hx hb dX7_nearTold_65 (by decide) ?_
          refine wk_iald hx hb hK hw.1 17 2 (q9.2 27) rfl (by decide) dX7_nearTold_66 ?_
          refine lv_dup2_11 hx hb dX7_nearTold_67 rfl rfl ?_
          obtain ⟨k13, hM⟩ := ck hM
          refine wk_iald hx hb hK hw.1 6 7 (U0 16) rfl k13 dX7_nearTold_68 ?_
          refine lv_iconst (v := (1 : Int32)) hx hb dX7_nearTold_69 (by decide) ?_
          refine lv_aload_n hx hb dX7_nearTold_70 rfl (lv_at hl 0 rfl) ?_
          refine wk_get hx hb hts hin_X7 hown hK hw.1 7 0 27 (.ref (a0 17)) rfl rfl (by decide) (mi 4 rfl) rfl rfl dX7_nearTold_71 ?_
          refine lv_iconst (v := (1 : Int32)) hx hb dX7_nearTold_74 (by decide) ?_
          refine wk_iald hx hb hK hw.1 17 2 (q9.2 27) rfl (by decide) dX7_nearTold_75 ?_
          refine lv_ishl hx hb dX7_nearTold_76 ?_
          refine lv_ior hx hb dX7_nearTold_77 ?_
          refine wk_iast (wq := (wXM g a0 (up U0 16 (upd (U0 16) (((q9.2 27) ((0 : Int32)).toNatClampNeg)).toNatClampNeg (((U0 16) (((q9.2 27) ((0 : Int32)).toNatClampNeg)).toNatClampNeg) ||| ((1 : Int32) <<< (((q9.2 27) ((1 : Int32)).toNatClampNeg) &&& 31))))) q9.2 M0 R0 kv tv)) hx hb hK hw 6 7 (U0 16) rfl k13 dX7_nearTold_78 rfl (fun H locs hw => ?_)
          refine lv_iconst (v := (1 : Int32)) hx hb dX7_nearTold_79 (by decide) ?_
          obtain rfl := Option.some.inj hM
          exact W.zret hx hb hr (nz (Or.inr rfl)) (fun t ht _ => ⟨rfl, by rw [ht]; exact hw.1, hw.2.2.F ht⟩) hw.2.2.2.2 dX7_nearTold_80
        · replace hM := itp c10 hM
          refine lv_aload_n hx hb dX7_nearTold_52 rfl (lv_at hl 0 rfl) ?_
          obtain ⟨q12, h11, hM⟩ := bd hM
          refine rVWp (wc := (wXM g a0 U0 q9.2 M0 R0 kv tv)) (wq := (wXM g a0 U0 q12.2 M0 R0 kv tv)) (As := []) (rest := []) (q0 := 0) hS (c_X7_wrong l g a0 kv tv U0 q9.2 M0 R0 h11) gX7_nearTold_X7_wrong rfl hd_X7_wrong ⟨Nat.le_of_ble_eq_true rfl, Nat.le_of_ble_eq_true rfl⟩ hK hw hA (pm_1_0 _) rfl (pm_1_0 _) rfl rfl rfl rfl hl.1 rfl (Nat.le_of_ble_eq_true rfl) dX7_nearTold_53 ⟨Nat.zero_le _, Nat.zero_le _⟩ (fun H locs hw => ?_)
          obtain rfl := Option.some.inj hM
          exact W.zret hx hb hr (nz (bz_X7_wrong h11)) (fun t ht _ => ⟨rfl, by rw [ht]; exact hw.1, hw.2.2.F ht⟩) hw.2.2.2.2 dX7_nearTold_56
  · replace hM := itp c3 hM
    refine lv_iconst (v := (0 : Int32)) hx hb dX7_nearTold_14 (by decide) ?_
    obtain rfl := Option.some.inj hM
    exact W.zret hx hb hr (nz (Or.inl rfl)) (fun t ht _ => ⟨rfl, by rw [ht]; exact hw.1, hw.2.2.F ht⟩) hw.2.2.2.2 dX7_nearTold_15
theorem hd_X7_never : yX7_never.cls = RX7 ∧ yX7_never.cls ≠ "java/lang/invoke/MethodHandle" ∧ yX7_never.cls ≠ "java/lang/invoke/VarHandle" ∧ (parseMethodDescriptor yX7_never.desc).map (fun d => d.parameters.length) = some 1 := by decide +kernel
set_option maxHeartbeats 4000000 in
set_option maxRecDepth 100000 in
theorem c_X7_never (l : Launch) (g : Gm) (a0 : Nat → Nat) (U0 : TS) (V0 : TS) (M0 : LTS) (R0 : LTS) (kv : Value) (t0 : Tr) (tp0 : Option (Nat → Int32)) (h0 : tpOf t0 = tp0) (p1 : Int32) {q : (Int32 × TS × (Option (Nat → Int32)))} (hM : f_X7_never U0 V0 M0 R0 tp0 p1 = some q) : MB l yX7_never wsX7_never 6 163 g [.ref (a0 0), .int p1] (fun t => (wXM g a0 U0 V0 M0 R0 kv (tvOf t)) ++ wOT g t) t0 (some (.int q.1)) (fun t => (wXM g a0 U0 q.2.1 M0 R0 kv (tvOf t)) ++ wOT g t) q.2.2 := by
  intro sz
  refine Met.ofW (cc := cX7_never) (maxL := 5) (ret := (some .int)) (by decide) rfl ?_
  intro p e s m args below meth c s₁ B hml hv
  obtain ⟨rfl, hsz, hP, hK, hD0⟩ := hv
  have hx := B.exec; have hb := B.bytes; have hr := B.returns
  have hts := atoms_spec (ws := wsX7_never) B.pre
  have hown : s.vm.findClass RX7 = some m.cls := findClass_of_methodNamed B.named
  have hlocks := B.notSynchronized
  have hS : CallFix p m c cX7_never 5 s _ wsX7_never RX7 := ⟨hx, hb, hml, hown, hts⟩
  have hin_X7 : ∀ w ∈ wsX70, w ∈ wsX7_never := fun w h => (List.mem_cons_of_mem _ (List.mem_append_right _ h))
  subst hsz
  have hw := wk_start hP hD0
  have hA : ∀ q : Nat, s.heap.size ≤ q → va_A ((wXM g a0 U0 V0 M0 R0 kv (tvOf t0)) ++ (wOT g t0)) s.heap.size q := fun q h => Or.inr h
  generalize va_A ((wXM g a0 U0 V0 M0 R0 kv (tvOf t0)) ++ (wOT g t0)) s.heap.size = A at hw hA ⊢
  clear hP hD0
  have hl := lv_entry ([.ref (a0 0), .int p1]) (n := 5) (Nat.le_of_ble_eq_true rfl)
  rw [lg_entry_eq]
  generalize (lg_sl ([.ref (a0 0), .int p1]) ++ List.replicate (5 - (lg_sl ([.ref (a0 0), .int p1])).length) Slot.unset).toArray = ls at hl ⊢
  have hl : lv_has ls 5 [(0, .ref (a0 0)), (1, .int p1)] := hl
  refine W_nl t0 ?_
  rw [f_X7_never] at hM
  refine lv_aload_n hx hb dX7_never_0 rfl (lv_at hl 0 rfl) ?_
  refine lv_iload_n hx hb dX7_never_1 rfl (lv_at hl 1 rfl) ?_
  refine rVR (wc := (wXT g a0 (fm a0 V0 kv (tvOf t0)) U0)) (As := [.int p1]) (rest := []) (q0 := 0) hS (c_X7_isSight l g a0 (fm a0 V0 kv (tvOf t0)) U0 p1) gX7_never_X7_isSight rfl hd_X7_isSight ⟨Nat.le_of_ble_eq_true rfl, Nat.le_of_ble_eq_true rfl⟩ hK (va_P.pm hw.1 (pmX2 _ _ _ _ _ _ _ _ _)) rfl rfl rfl rfl hl.1 rfl (Nat.le_of_ble_eq_true rfl) dX7_never_2 ⟨nlc _ _ _, nlc _ _ _⟩ ?_
  refine lv_if_ne (tgt := 15) hx hb dX7_never_5 (by decide) (fun c2 => ?_) (fun c2 => ?_)
  · replace hM := itn c2 hM
    refine lv_aload_n hx hb dX7_never_15 rfl (lv_at hl 0 rfl) ?_
    refine lv_bipush (v := (20 : Int32)) hx hb dX7_never_16 (by decide) ?_
    obtain ⟨q8, h5, hM⟩ := bd hM
    refine rVF (t0 := t0) (As := [.int (20 : Int32)]) (rest := []) (hn := (Nat.le_refl _)) hS (c_X7_after l g a0 U0 V0 M0 R0 kv t0 tp0 h0 (20 : Int32) h5) gX7_never_X7_after rfl hd_X7_after ⟨Nat.le_of_ble_eq_true rfl, Nat.le_of_ble_eq_true rfl⟩ hK hw hA rfl rfl rfl rfl hl.1 rfl (Nat.le_of_ble_eq_true rfl) dX7_never_18 (fun b6 G7 H locs hw => ?_)
    have hw : Wk g A s.heap H locs ((wXM g a0 U0 V0 M0 R0 kv (.ref (b6 0))) ++ (wXT g b6 G7 q8)) := hw
    refine lv_astore_n (lv' := [(2, .ref (b6 0)), (0, .ref (a0 0)), (1, .int p1)]) hx hb dX7_never_21 rfl hl (by decide) rfl (fun ls hl => ?_)
    refine lv_iconst (v := (0 : Int32)) hx hb dX7_never_22 (by decide) ?_
    refine lv_istore_n (lv' := [(3, .int (0 : Int32)), (2, .ref (b6 0)), (0, .ref (a0 0)), (1, .int p1)]) hx hb dX7_never_23 rfl hl (by decide) rfl (fun ls hl => ?_)
    refine lv_iconst (v := (0 : Int32)) hx hb dX7_never_24 (by decide) ?_
    refine lv_istore (lv' := [(4, .int (0 : Int32)), (3, .int (0 : Int32)), (2, .ref (b6 0)), (0, .ref (a0 0)), (1, .int p1)]) hx hb dX7_never_25 hl (by decide) rfl (fun ls hl => ?_)
    obtain ⟨q11, hL27, hM⟩ := bd hM
    have hJ27 : ∀ (H : Heap) (locs : List Loc), Wk g A s.heap H locs ((wXM g a0 U0 V0 M0 R0 kv (.ref (b6 0))) ++ (wXT g b6 G7 q8)) → ∀ (ls : Array Slot), lv_has ls 5 [(3, .int q11)] → W p l e (headSpec wsX7_never ({ frames := 6, cells := 28 * nlOf t0, slots := 759 * nlOf t0, locals := 163 } : Room)).room s m ([.ref (a0 0), .int p1] : List Value).toArray below meth c H locs (28 * nlOf t0) (759 * nlOf t0) (MQ below (QcB g (some (.int q.1)) (fun t => (wXM g a0 U0 q.2.1 M0 R0 kv (tvOf t)) ++ wOT g t) q.2.2 A) ([.ref (a0 0), .int p1] : List Value).toArray s (28 * nlOf t0) (759 * nlOf t0) A) (F0 m 66 ls []) := by
      intro H locs hw ls hl
      refine lv_iload_n hx hb dX7_never_66 rfl (lv_at hl 0 rfl) ?_
      obtain rfl := Option.some.inj hM
      exact W.iret hx hb hr (fun t ht _ => ⟨rfl, ⟨(some (b6, G7, q8)), rfl, by rw [ht]; exact hw.1, hw.2.1⟩, hw.2.2.F ht⟩) hw.2.2.2.2 dX7_never_67
    have hW27 : ∀ (n : Nat) (v4_9 : Int32) (v3_10 : Int32), L_X7_never_27 U0 p1 q8 n v4_9 v3_10 = some q11 → ∀ (H : Heap) (locs : List Loc), Wk g A s.heap H locs ((wXM g a0 U0 V0 M0 R0 kv (.ref (b6 0))) ++ (wXT g b6 G7 q8)) → ∀ (ls : Array Slot), lv_has ls 5 [(4, .int v4_9), (3, .int v3_10), (2, .ref (b6 0)), (0, .ref (a0 0)), (1, .int p1)] → W p l e (headSpec wsX7_never ({ frames := 6, cells := 28 * nlOf t0, slots := 759 * nlOf t0, locals := 163 } : Room)).room s m ([.ref (a0 0), .int p1] : List Value).toArray below meth c H locs (28 * nlOf t0) (759 * nlOf t0) (MQ below (QcB g (some (.int q.1)) (fun t => (wXM g a0 U0 q.2.1 M0 R0 kv (tvOf t)) ++ wOT g t) q.2.2 A) ([.ref (a0 0), .int p1] : List Value).toArray s (28 * nlOf t0) (759 * nlOf t0) A) (F0 m 27 ls []) := by
      intro n
      induction n with
      | zero => intro v4_9 v3_10 hM; rw [L_X7_never_27] at hM; exact nn hM
      | succ n ih27 =>
        intro v4_9 v3_10 hM H locs hw ls hl
        rw [L_X7_never_27] at hM
        refine lv_iload hx hb dX7_never_27 (lv_at hl 0 rfl) ?_
        refine lv_aload_n hx hb dX7_never_29 rfl (lv_at hl 3 rfl) ?_
        refine wk_get hx hb hts hin_X7 hown hK hw.1 7 0 10 (.int (U0 10 0)) rfl rfl (by decide) (mi 1 rfl) rfl rfl dX7_never_30 ?_
        refine lv_icmp_ge (tgt := 66) hx hb dX7_never_33 (by decide) (fun c12 => ?_) (fun c12 => ?_)
        · replace hM := itp c12 hM
          obtain rfl := Option.some.inj hM
          exact hJ27 _ _ hw _ (lv_sub hl [1] rfl)
        · replace hM := itn c12 hM
          refine lv_iload_n hx hb dX7_never_36 rfl (lv_at hl 1 rfl) ?_
          refine lv_aload_n hx hb dX7_never_37 rfl (lv_at hl 2 rfl) ?_
          refine lv_iload hx hb dX7_never_38 (lv_at hl 0 rfl) ?_
          obtain ⟨q14, h13, hM⟩ := bd hM
          refine rVR (wc := (wXT g b6 G7 q8)) (As := [.int v4_9]) (rest := [.int v3_10]) (q0 := 0) hS (c_X7_knows l g b6 G7 q8 v4_9 h13) gX7_never_X7_knows rfl hd_X7_knows ⟨Nat.le_of_ble_eq_true rfl, Nat.le_of_ble_eq_true rfl⟩ hK (va_P.pm hw.1 (pm_2_1 _ _)) rfl rfl rfl rfl hl.1 rfl (Nat.le_of_ble_eq_true rfl) dX7_never_40 ⟨Nat.le_refl _, Nat.le_refl _⟩ ?_
          refine lv_iload_n hx hb dX7_never_43 rfl (lv_at hl 4 rfl) ?_
          refine rSR (wc := ([] : va_W)) (As := [.int q14, .int p1]) (rest := [.int v3_10]) hS (c_X7_has l g q14 p1) gX7_never_X7_has rfl hd_X7_has ⟨Nat.le_of_ble_eq_true rfl, Nat.le_of_ble_eq_true rfl⟩ hK (hP_nil) rfl hl.1 rfl (Nat.le_of_ble_eq_true rfl) dX7_never_44 ⟨Nat.le_refl _, Nat.le_refl _⟩ ?_
          have hJ22 : ∀ (H : Heap) (locs : List Loc) (x21 : Int32) (ls : Array Slot), Wk g A s.heap H locs ((wXM g a0 U0 V0 M0 R0 kv (.ref (b6 0))) ++ (wXT g b6 G7 q8)) → x21 = (if (f_X7_has q14 p1) = 0 then ((1 : Int32) <<< (v4_9 &&& 31)) else (0 : Int32)) → lv_has ls 5 [(4, .int v4_9), (2, .ref (b6 0)), (0, .ref (a0 0)), (1, .int p1)] → W p l e (headSpec wsX7_never ({ frames := 6, cells := 28 * nlOf t0, slots := 759 * nlOf t0, locals := 163 } : Room)).room s m ([.ref (a0 0), .int p1] : List Value).toArray below meth c H locs (28 * nlOf t0) (759 * nlOf t0) (MQ below (QcB g (some (.int q.1)) (fun t => (wXM g a0 U0 q.2.1 M0 R0 kv (tvOf t)) ++ wOT g t) q.2.2 A) ([.ref (a0 0), .int p1] : List Value).toArray s (28 * nlOf t0) (759 * nlOf t0) A) (F0 m 58 ls [.int x21, .int v3_10]) := by
            intro H locs x21 ls hw hxx21 hl
            subst hxx21
            refine lv_ior hx hb dX7_never_58 ?_
            refine lv_istore_n (lv' := [(3, .int (v3_10 ||| (if (f_X7_has q14 p1) = 0 then ((1 : Int32) <<< (v4_9 &&& 31)) else (0 : Int32)))), (4, .int v4_9), (2, .ref (b6 0)), (0, .ref (a0 0)), (1, .int p1)]) hx hb dX7_never_59 rfl hl (by decide) rfl (fun ls hl => ?_)
            refine lv_iinc (v := (v4_9 + (1 : Int32))) (lv' := [(4, .int (v4_9 + (1 : Int32))), (3, .int (v3_10 ||| (if (f_X7_has q14 p1) = 0 then ((1 : Int32) <<< (v4_9 &&& 31)) else (0 : Int32)))), (2, .ref (b6 0)), (0, .ref (a0 0)), (1, .int p1)]) hx hb dX7_never_60 hl (k := 1) rfl rfl (by decide) rfl (fun ls hl => ?_)
            refine lv_goto (tgt := 27) hx hb dX7_never_63 (by decide) ?_
            exact ih27 (v4_9 + (1 : Int32)) (v3_10 ||| (if (f_X7_has q14 p1) = 0 then ((1 : Int32) <<< (v4_9 &&& 31)) else (0 : Int32))) hM _ _ hw _ (lv_sub hl [0, 1, 2, 3, 4] rfl)
          refine lv_if_eq (tgt := 54) hx hb dX7_never_47 (by decide) (fun c16 => ?_) (fun c16 => ?_)
          · refine lv_iconst (v := (1 : Int32)) hx hb dX7_never_54 (by decide) ?_
            refine lv_iload hx hb dX7_never_55 (lv_at hl 0 rfl) ?_
            refine lv_ishl hx hb dX7_never_57 ?_
            exact hJ22 _ _ _ _ hw (by first | with_reducible rfl | (simp only [if_pos c16]) | rfl) (lv_sub hl [0, 2, 3, 4] rfl)
          · refine lv_iconst (v := (0 : Int32)) hx hb dX7_never_50 (by decide) ?_
            refine lv_goto (tgt := 58) hx hb dX7_never_51 (by decide) ?_
            exact hJ22 _ _ _ _ hw (by first | with_reducible rfl | (simp only [if_neg c16]) | rfl) (lv_sub hl [0, 2, 3, 4] rfl)
    exact hW27 300 (0 : Int32) (0 : Int32) hL27 _ _ hw _ (lv_sub hl [0, 1, 2, 3, 4] rfl)
  · replace hM := itp c2 hM
    refine lv_aload_n hx hb dX7_never_8 rfl (lv_at hl 0 rfl) ?_
    refine lv_bipush (v := (-2 : Int32)) hx hb dX7_never_9 (by decide) ?_
    obtain ⟨q4, h3, hM⟩ := bd hM
    refine rVWp (wc := (wXM g a0 U0 V0 M0 R0 kv (tvOf t0))) (wq := ((wXM g a0 U0 q4.2 M0 R0 kv (tvOf t0)) ++ (wOT g t0))) (As := [.int (-2 : Int32)]) (rest := []) (q0 := 0) hS (c_X7_refuse l g a0 kv (tvOf t0) U0 V0 M0 R0 (-2 : Int32) h3) gX7_never_X7_refuse rfl hd_X7_refuse ⟨Nat.le_of_ble_eq_true rfl, Nat.le_of_ble_eq_true rfl⟩ hK hw hA (pm_2_0 _ _) rfl (pm_2_0 _ _) rfl rfl rfl rfl hl.1 rfl (Nat.le_of_ble_eq_true rfl) dX7_never_11 ⟨nlc _ _ _, nlc _ _ _⟩ (fun H locs hw => ?_)
    obtain rfl := Option.some.inj hM
    refine W.widen (k := 28 * nlOf t0) (n := 759 * nlOf t0) (nlc _ _ _) (nlc _ _ _) ?_
    exact W.iret hx hb hr (fun t ht _ => ⟨rfl, ⟨t0, h0, by rw [ht]; exact hw.1, hw.2.1⟩, hw.2.2.F ht⟩) hw.2.2.2.2 dX7_never_14
theorem hd_X7_night : yX7_night.cls = RX7 ∧ yX7_night.cls ≠ "java/lang/invoke/MethodHandle" ∧ yX7_night.cls ≠ "java/lang/invoke/VarHandle" ∧ (parseMethodDescriptor yX7_night.desc).map (fun d => d.parameters.length) = some 0 := by decide +kernel
set_option maxHeartbeats 4000000 in
set_option maxRecDepth 100000 in
theorem c_X7_night (l : Launch) (g : Gm) (a0 : Nat → Nat) (kv : Value) (tv : Value) (U0 : TS) (V0 : TS) (M0 : LTS) (R0 : LTS) {q : (Int32 × TS)} (hM : f_X7_night U0 V0 M0 R0 = some q) : MW l yX7_night wsX7_night 2 42 g [.ref (a0 0)] (wXM g a0 U0 V0 M0 R0 kv tv) (some (.int q.1)) (wXM g a0 q.2 V0 M0 R0 kv tv) := by
  intro sz
  refine Met.ofW (cc := cX7_night) (maxL := 3) (ret := (some .int)) (by decide) rfl ?_
  intro p e s m args below meth c s₁ B hml hv
  obtain ⟨rfl, hsz, hP, hK, hD0⟩ := hv
  have hx := B.exec; have hb := B.bytes; have hr := B.returns
  have hts := atoms_spec (ws := wsX7_night) B.pre
  have hown : s.vm.findClass RX7 = some m.cls := findClass_of_methodNamed B.named
  have hlocks := B.notSynchronized
  have hS : CallFix p m c cX7_night 3 s _ wsX7_night RX7 := ⟨hx, hb, hml, hown, hts⟩
  have hin_X7 : ∀ w ∈ wsX70, w ∈ wsX7_night := fun w h => (List.mem_cons_of_mem _ (List.mem_append_right _ h))
  subst hsz
  have hw := wk_start hP hD0
  have hA : ∀ q : Nat, s.heap.size ≤ q → va_A (wXM g a0 U0 V0 M0 R0 kv tv) s.heap.size q := fun q h => Or.inr h
  generalize va_A (wXM g a0 U0 V0 M0 R0 kv tv) s.heap.size = A at hw hA ⊢
  clear hP hD0
  have hl := lv_entry ([.ref (a0 0)]) (n := 3) (Nat.le_of_ble_eq_true rfl)
  rw [lg_entry_eq]
  generalize (lg_sl ([.ref (a0 0)]) ++ List.replicate (3 - (lg_sl ([.ref (a0 0)])).length) Slot.unset).toArray = ls at hl ⊢
  have hl : lv_has ls 3 [(0, .ref (a0 0))] := hl
  rw [f_X7_night] at hM
  refine lv_iconst (v := (0 : Int32)) hx hb dX7_night_0 (by decide) ?_
  refine lv_istore_n (lv' := [(1, .int (0 : Int32)), (0, .ref (a0 0))]) hx hb dX7_night_1 rfl hl (by decide) rfl (fun ls hl => ?_)
  obtain ⟨q3, hL2, hM⟩ := bd hM
  have hJ2 : ∀ (H : Heap) (locs : List Loc), Wk g A s.heap H locs (wXM g a0 q3 V0 M0 R0 kv tv) → ∀ (ls : Array Slot), lv_has ls 3 [(0, .ref (a0 0))] → W p l e (headSpec wsX7_night ({ frames := 2, cells := 0, slots := 0, locals := 42 } : Room)).room s m ([.ref (a0 0)] : List Value).toArray below meth c H locs 0 0 (MQ below (QcW g (some (.int q.1)) (wXM g a0 q.2 V0 M0 R0 kv tv) A) ([.ref (a0 0)] : List Value).toArray s 0 0 A) (F0 m 71 ls []) := by
    intro H locs hw ls hl
    refine lv_aload_n hx hb dX7_night_71 rfl (lv_at hl 0 rfl) ?_
    refine lv_dup hx hb dX7_night_72 rfl ?_
    refine wk_get hx hb hts hin_X7 hown hK hw.1 7 0 18 (.int (q3 18 0)) rfl rfl (by decide) (mi 5 rfl) rfl rfl dX7_night_73 ?_
    refine lv_iconst (v := (1 : Int32)) hx hb dX7_night_76 (by decide) ?_
    refine lv_iadd hx hb dX7_night_77 ?_
    refine wk_put (wq := (wXM g a0 (up q3 18 (fun _ => ((q3 18 0) + (1 : Int32)))) V0 M0 R0 kv tv)) hx hb hts hin_X7 tyX7 tyX7_ok nmX7 hown hK hw 7 0 18 rfl rfl (by decide) (mi 5 rfl) rfl rfl rfl rfl (Nat.le_of_ble_eq_true rfl) dX7_night_78 rfl (fun H locs hw => ?_)
    refine lv_aload_n hx hb dX7_night_81 rfl (lv_at hl 0 rfl) ?_
    refine wk_get hx hb hts hin_X7 hown hK hw.1 7 0 18 (.int ((q3 18 0) + (1 : Int32))) rfl rfl (by decide) (mi 5 rfl) rfl rfl dX7_night_82 ?_
    obtain rfl := Option.some.inj hM
    exact W.iret hx hb hr (fun t ht _ => ⟨rfl, by rw [ht]; exact hw.1, hw.2.2.F ht⟩) hw.2.2.2.2 dX7_night_85
  have hW2 : ∀ (n : Nat) (v1_1 : Int32) (UL2 : TS), L_X7_night_2 n v1_1 UL2 = some q3 → ∀ (H : Heap) (locs : List Loc), Wk g A s.heap H locs (wXM g a0 UL2 V0 M0 R0 kv tv) → ∀ (ls : Array Slot), lv_has ls 3 [(1, .int v1_1), (0, .ref (a0 0))] → W p l e (headSpec wsX7_night ({ frames := 2, cells := 0, slots := 0, locals := 42 } : Room)).room s m ([.ref (a0 0)] : List Value).toArray below meth c H locs 0 0 (MQ below (QcW g (some (.int q.1)) (wXM g a0 q.2 V0 M0 R0 kv tv) A) ([.ref (a0 0)] : List Value).toArray s 0 0 A) (F0 m 2 ls []) := by
    intro n
    induction n with
    | zero => intro v1_1 UL2 hM; rw [L_X7_night_2] at hM; exact nn hM
    | succ n ih2 =>
      intro v1_1 UL2 hM H locs hw ls hl
      rw [L_X7_night_2] at hM
      refine lv_iload_n hx hb dX7_night_2 rfl (lv_at hl 0 rfl) ?_
      refine lv_aload_n hx hb dX7_night_3 rfl (lv_at hl 1 rfl) ?_
      refine wk_get hx hb hts hin_X7 hown hK hw.1 7 0 10 (.int (UL2 10 0)) rfl rfl (by decide) (mi 1 rfl) rfl rfl dX7_night_4 ?_
      refine lv_icmp_ge (tgt := 71) hx hb dX7_night_7 (by decide) (fun c4 => ?_) (fun c4 => ?_)
      · replace hM := itp c4 hM
        obtain rfl := Option.some.inj hM
        exact hJ2 _ _ hw _ (lv_sub hl [1] rfl)
      · replace hM := itn c4 hM
        refine lv_aload_n hx hb dX7_night_10 rfl (lv_at hl 1 rfl) ?_
        refine wk_get hx hb hts hin_X7 hown hK hw.1 7 0 11 (.ref (a0 1)) rfl rfl (by decide) (mi 2 rfl) rfl rfl dX7_night_11 ?_
        refine lv_iload_n hx hb dX7_night_14 rfl (lv_at hl 0 rfl) ?_
        obtain ⟨k5, hM⟩ := ck hM
        refine wk_iald hx hb hK hw.1 1 7 (UL2 11) rfl k5 dX7_night_15 ?_
        refine lv_iconst (v := (5 : Int32)) hx hb dX7_night_16 (by decide) ?_
        refine lv_icmp_ne (tgt := 32) hx hb dX7_night_17 (by decide) (fun c6 => ?_) (fun c6 => ?_)
        · replace hM := itn c6 hM
          refine lv_iconst (v := (-1 : Int32)) hx hb dX7_night_32 (by decide) ?_
          refine lv_istore_n (lv' := [(2, .int (-1 : Int32)), (1, .int v1_1), (0, .ref (a0 0))]) hx hb dX7_night_33 rfl hl (by decide) rfl (fun ls hl => ?_)
          refine lv_iload_n hx hb dX7_night_34 rfl (lv_at hl 0 rfl) ?_
          refine lv_iconst (v := (-1 : Int32)) hx hb dX7_night_35 (by decide) ?_
          refine lv_icmp_eq (tgt := 65) hx hb dX7_night_36 (by decide) (fun c10 => ?_) (fun c10 => ?_)
          · replace hM := itp c10 hM
            refine lv_iinc (v := (v1_1 + (1 : Int32))) (lv' := [(1, .int (v1_1 + (1 : Int32))), (2, .int (-1 : Int32)), (0, .ref (a0 0))]) hx hb dX7_night_65 hl (k := 1) rfl rfl (by decide) rfl (fun ls hl => ?_)
            refine lv_goto (tgt := 2) hx hb dX7_night_68 (by decide) ?_
            exact ih2 (v1_1 + (1 : Int32)) UL2 hM _ _ hw _ (lv_sub hl [0, 2] rfl)
          · replace hM := itn c10 hM
            refine lv_aload_n hx hb dX7_night_39 rfl (lv_at hl 2 rfl) ?_
            refine wk_get hx hb hts hin_X7 hown hK hw.1 7 0 13 (.ref (a0 3)) rfl rfl (by decide) (mi 3 rfl) rfl rfl dX7_night_40 ?_
            refine lv_iload_n hx hb dX7_night_43 rfl (lv_at hl 1 rfl) ?_
            refine lv_dup2_11 hx hb dX7_night_44 rfl rfl ?_
            refine wk_iald hx hb hK hw.1 3 7 (UL2 13) rfl k5 dX7_night_45 ?_
            refine lv_iconst (v := (1 : Int32)) hx hb dX7_night_46 (by decide) ?_
            refine lv_iload_n hx hb dX7_night_47 rfl (lv_at hl 0 rfl) ?_
            refine lv_ishl hx hb dX7_night_48 ?_
            refine lv_iconst (v := (-1 : Int32)) hx hb dX7_night_49 (by decide) ?_
            refine lv_ixor hx hb dX7_night_50 ?_
            refine lv_iand hx hb dX7_night_51 ?_
            refine wk_iast (wq := (wXM g a0 (up UL2 13 (upd (UL2 13) (v1_1).toNatClampNeg (((UL2 13) (v1_1).toNatClampNeg) &&& (((1 : Int32) <<< ((-1 : Int32) &&& 31)) ^^^ (-1 : Int32))))) V0 M0 R0 kv tv)) hx hb hK hw 3 7 (UL2 13) rfl k5 dX7_night_52 rfl (fun H locs hw => ?_)
            refine lv_aload_n hx hb dX7_night_53 rfl (lv_at hl 2 rfl) ?_
            refine wk_get hx hb hts hin_X7 hown hK hw.1 7 0 15 (.ref (a0 5)) rfl rfl (by decide) (mi 4 rfl) rfl rfl dX7_night_54 ?_
            refine lv_iload_n hx hb dX7_night_57 rfl (lv_at hl 1 rfl) ?_
            refine lv_dup2_11 hx hb dX7_night_58 rfl rfl ?_
            refine wk_iald hx hb hK hw.1 5 7 (UL2 15) rfl k5 dX7_night_59 ?_
            refine lv_iconst (v := (1 : Int32)) hx hb dX7_night_60 (by decide) ?_
            refine lv_iload_n hx hb dX7_night_61 rfl (lv_at hl 0 rfl) ?_
            refine lv_ishl hx hb dX7_night_62 ?_
            refine lv_ior hx hb dX7_night_63 ?_
            refine wk_iast (wq := (wXM g a0 (up (up UL2 13 (upd (UL2 13) (v1_1).toNatClampNeg (((UL2 13) (v1_1).toNatClampNeg) &&& (((1 : Int32) <<< ((-1 : Int32) &&& 31)) ^^^ (-1 : Int32))))) 15 (upd (UL2 15) (v1_1).toNatClampNeg (((UL2 15) (v1_1).toNatClampNeg) ||| ((1 : Int32) <<< ((-1 : Int32) &&& 31))))) V0 M0 R0 kv tv)) hx hb hK hw 5 7 (UL2 15) rfl k5 dX7_night_64 rfl (fun H locs hw => ?_)
            refine lv_iinc (v := (v1_1 + (1 : Int32))) (lv' := [(1, .int (v1_1 + (1 : Int32))), (2, .int (-1 : Int32)), (0, .ref (a0 0))]) hx hb dX7_night_65 hl (k := 1) rfl rfl (by decide) rfl (fun ls hl => ?_)
            refine lv_goto (tgt := 2) hx hb dX7_night_68 (by decide) ?_
            exact ih2 (v1_1 + (1 : Int32)) (up (up UL2 13 (upd (UL2 13) (v1_1).toNatClampNeg (((UL2 13) (v1_1).toNatClampNeg) &&& (((1 : Int32) <<< ((-1 : Int32) &&& 31)) ^^^ (-1 : Int32))))) 15 (upd (UL2 15) (v1_1).toNatClampNeg (((UL2 15) (v1_1).toNatClampNeg) ||| ((1 : Int32) <<< ((-1 : Int32) &&& 31))))) hM _ _ hw _ (lv_sub hl [0, 2] rfl)
        · replace hM := itp c6 hM
          refine lv_aload_n hx hb dX7_night_20 rfl (lv_at hl 1 rfl) ?_
          refine wk_get hx hb hts hin_X7 hown hK hw.1 7 0 13 (.ref (a0 3)) rfl rfl (by decide) (mi 3 rfl) rfl rfl dX7_night_21 ?_
          refine lv_iload_n hx hb dX7_night_24 rfl (lv_at hl 0 rfl) ?_
          refine wk_iald hx hb hK hw.1 3 7 (UL2 13) rfl k5 dX7_night_25 ?_
          obtain ⟨q8, h7, hM⟩ := bd hM
          refine rSR (wc := ([] : va_W)) (As := [.int ((UL2 13) (v1_1).toNatClampNeg)]) (rest := []) hS (c_X7_firstOf l g ((UL2 13) (v1_1).toNatClampNeg) h7) gX7_night_X7_firstOf rfl hd_X7_firstOf ⟨Nat.le_of_ble_eq_true rfl, Nat.le_of_ble_eq_true rfl⟩ hK (hP_nil) rfl hl.1 rfl (Nat.le_of_ble_eq_true rfl) dX7_night_26 ⟨Nat.zero_le _, Nat.zero_le _⟩ ?_
          refine lv_goto (tgt := 33) hx hb dX7_night_29 (by decide) ?_
          refine lv_istore_n (lv' := [(2, .int q8), (1, .int v1_1), (0, .ref (a0 0))]) hx hb dX7_night_33 rfl hl (by decide) rfl (fun ls hl => ?_)
          refine lv_iload_n hx hb dX7_night_34 rfl (lv_at hl 0 rfl) ?_
          refine lv_iconst (v := (-1 : Int32)) hx hb dX7_night_35 (by decide) ?_
          refine lv_icmp_eq (tgt := 65) hx hb dX7_night_36 (by decide) (fun c9 => ?_) (fun c9 => ?_)
          · replace hM := itp c9 hM
            refine lv_iinc (v := (v1_1 + (1 : Int32))) (lv' := [(1, .int (v1_1 + (1 : Int32))), (2, .int q8), (0, .ref (a0 0))]) hx hb dX7_night_65 hl (k := 1) rfl rfl (by decide) rfl (fun ls hl => ?_)
            refine lv_goto (tgt := 2) hx hb dX7_night_68 (by decide) ?_
            exact ih2 (v1_1 + (1 : Int32)) UL2 hM _ _ hw _ (lv_sub hl [0, 2] rfl)
          · replace hM := itn c9 hM
            refine lv_aload_n hx hb dX7_night_39 rfl (lv_at hl 2 rfl) ?_
            refine wk_get hx hb hts hin_X7 hown hK hw.1 7 0 13 (.ref (a0 3)) rfl rfl (by decide) (mi 3 rfl) rfl rfl dX7_night_40 ?_
            refine lv_iload_n hx hb dX7_night_43 rfl (lv_at hl 1 rfl) ?_
            refine lv_dup2_11 hx hb dX7_night_44 rfl rfl ?_
            refine wk_iald hx hb hK hw.1 3 7 (UL2 13) rfl k5 dX7_night_45 ?_
            refine lv_iconst (v := (1 : Int32)) hx hb dX7_night_46 (by decide) ?_
            refine lv_iload_n hx hb dX7_night_47 rfl (lv_at hl 0 rfl) ?_
            refine lv_ishl hx hb dX7_night_48 ?_
            refine lv_iconst (v := (-1 : Int32)) hx hb dX7_night_49 (by decide) ?_
            refine lv_ixor hx hb dX7_night_50 ?_
            refine lv_iand hx hb dX7_night_51 ?_
            refine wk_iast (wq := (wXM g a0 (up UL2 13 (upd (UL2 13) (v1_1).toNatClampNeg (((UL2 13) (v1_1).toNatClampNeg) &&& (((1 : Int32) <<< (q8 &&& 31)) ^^^ (-1 : Int32))))) V0 M0 R0 kv tv)) hx hb hK hw 3 7 (UL2 13) rfl k5 dX7_night_52 rfl (fun H locs hw => ?_)
            refine lv_aload_n hx hb dX7_night_53 rfl (lv_at hl 2 rfl) ?_
            refine wk_get hx hb hts hin_X7 hown hK hw.1 7 0 15 (.ref (a0 5)) rfl rfl (by decide) (mi 4 rfl) rfl rfl dX7_night_54 ?_
            refine lv_iload_n hx hb dX7_night_57 rfl (lv_at hl 1 rfl) ?_
            refine lv_dup2_11 hx hb dX7_night_58 rfl rfl ?_
            refine wk_iald hx hb hK hw.1 5 7 (UL2 15) rfl k5 dX7_night_59 ?_
            refine lv_iconst (v := (1 : Int32)) hx hb dX7_night_60 (by decide) ?_
            refine lv_iload_n hx hb dX7_night_61 rfl (lv_at hl 0 rfl) ?_
            refine lv_ishl hx hb dX7_night_62 ?_
            refine lv_ior hx hb dX7_night_63 ?_
            refine wk_iast (wq := (wXM g a0 (up (up UL2 13 (upd (UL2 13) (v1_1).toNatClampNeg (((UL2 13) (v1_1).toNatClampNeg) &&& (((1 : Int32) <<< (q8 &&& 31)) ^^^ (-1 : Int32))))) 15 (upd (UL2 15) (v1_1).toNatClampNeg (((UL2 15) (v1_1).toNatClampNeg) ||| ((1 : Int32) <<< (q8 &&& 31))))) V0 M0 R0 kv tv)) hx hb hK hw 5 7 (UL2 15) rfl k5 dX7_night_64 rfl (fun H locs hw => ?_)
            refine lv_iinc (v := (v1_1 + (1 : Int32))) (lv' := [(1, .int (v1_1 + (1 : Int32))), (2, .int q8), (0, .ref (a0 0))]) hx hb dX7_night_65 hl (k := 1) rfl rfl (by decide) rfl (fun ls hl => ?_)
            refine lv_goto (tgt := 2) hx hb dX7_night_68 (by decide) ?_
            exact ih2 (v1_1 + (1 : Int32)) (up (up UL2 13 (upd (UL2 13) (v1_1).toNatClampNeg (((UL2 13) (v1_1).toNatClampNeg) &&& (((1 : Int32) <<< (q8 &&& 31)) ^^^ (-1 : Int32))))) 15 (upd (UL2 15) (v1_1).toNatClampNeg (((UL2 15) (v1_1).toNatClampNeg) ||| ((1 : Int32) <<< (q8 &&& 31))))) hM _ _ hw _ (lv_sub hl [0, 2] rfl)
  exact hW2 300 (0 : Int32) U0 hL2 _ _ hw _ (lv_sub hl [0, 1] rfl)
theorem hd_X7_noSets : yX7_noSets.cls = RX7 ∧ yX7_noSets.cls ≠ "java/lang/invoke/MethodHandle" ∧ yX7_noSets.cls ≠ "java/lang/invoke/VarHandle" ∧ (parseMethodDescriptor yX7_noSets.desc).map (fun d => d.parameters.length) = some 2 := by decide +kernel
set_option maxHeartbeats 4000000 in
set_option maxRecDepth 100000 in
theorem c_X7_noSets (l : Launch) (g : Gm) (a0 : Nat → Nat) (kv : Value) (tv : Value) (U0 : TS) (V0 : TS) (M0 : LTS) (R0 : LTS) (p1 : Int32) (p2 : Int32) {q : (Int32 × TS)} (hM : f_X7_noSets U0 V0 M0 R0 p1 p2 = some q) : MW l yX7_noSets wsX7_noSets 2 46 g [.ref (a0 0), .int p1, .int p2] (wXM g a0 U0 V0 M0 R0 kv tv) (some (.int q.1)) (wXM g a0 U0 q.2 M0 R0 kv tv) := by
  intro sz
  refine Met.ofW (cc := cX7_noSets) (maxL := 4) (ret := (some .int)) (by decide) rfl ?_
  intro p e s m args below meth c s₁ B hml hv
  obtain ⟨rfl, hsz, hP, hK, hD0⟩ := hv
  have hx := B.exec; have hb := B.bytes; have hr := B.returns
  have hts := atoms_spec (ws := wsX7_noSets) B.pre
  have hown : s.vm.findClass RX7 = some m.cls := findClass_of_methodNamed B.named
  have hlocks := B.notSynchronized
  have hS : CallFix p m c cX7_noSets 4 s _ wsX7_noSets RX7 := ⟨hx, hb, hml, hown, hts⟩
  have hin_X7 : ∀ w ∈ wsX70, w ∈ wsX7_noSets := fun w h => (List.mem_cons_of_mem _ (List.mem_append_right _ h))
  subst hsz
  have hw := wk_start hP hD0
  have hA : ∀ q : Nat, s.heap.size ≤ q → va_A (wXM g a0 U0 V0 M0 R0 kv tv) s.heap.size q := fun q h => Or.inr h
  generalize va_A (wXM g a0 U0 V0 M0 R0 kv tv) s.heap.size = A at hw hA ⊢
  clear hP hD0
  have hl := lv_entry ([.ref (a0 0), .int p1, .int p2]) (n := 4) (Nat.le_of_ble_eq_true rfl)
  rw [lg_entry_eq]
  generalize (lg_sl ([.ref (a0 0), .int p1, .int p2]) ++ List.replicate (4 - (lg_sl ([.ref (a0 0), .int p1, .int p2])).length) Slot.unset).toArray = ls at hl ⊢
  have hl : lv_has ls 4 [(0, .ref (a0 0)), (1, .int p1), (2, .int p2)] := hl
  rw [f_X7_noSets] at hM
  refine lv_iload_n hx hb dX7_noSets_0 rfl (lv_at hl 1 rfl) ?_
  refine lv_i2l (v := ((p1).toInt64)) hx hb dX7_noSets_1 rfl ?_
  refine lv_lconst (v := (0 : Int64)) hx hb dX7_noSets_2 (by decide) ?_
  refine lv_ldc2 (v := (7 : Int64)) hx hb hown (hts _ (mi 1 rfl)) dX7_noSets_3 ?_
  refine rSR (wc := ([] : va_W)) (As := [.long ((p1).toInt64), .long (0 : Int64), .long (7 : Int64)]) (rest := []) hS (c_X7_in l g ((p1).toInt64) (0 : Int64) (7 : Int64)) gX7_noSets_X7_in rfl hd_X7_in ⟨Nat.le_of_ble_eq_true rfl, Nat.le_of_ble_eq_true rfl⟩ hK (hP_nil) rfl hl.1 rfl (Nat.le_of_ble_eq_true rfl) dX7_noSets_6 ⟨Nat.zero_le _, Nat.zero_le _⟩ ?_
  refine lv_if_eq (tgt := 24) hx hb dX7_noSets_9 (by decide) (fun c2 => ?_) (fun c2 => ?_)
  · replace hM := itp c2 hM
    refine lv_aload_n hx hb dX7_noSets_24 rfl (lv_at hl 0 rfl) ?_
    refine lv_bipush (v := (-2 : Int32)) hx hb dX7_noSets_25 (by decide) ?_
    obtain ⟨q4, h3, hM⟩ := bd hM
    refine rVWp (wc := (wXM g a0 U0 V0 M0 R0 kv tv)) (wq := (wXM g a0 U0 q4.2 M0 R0 kv tv)) (As := [.int (-2 : Int32)]) (rest := []) (q0 := 0) hS (c_X7_refuse l g a0 kv tv U0 V0 M0 R0 (-2 : Int32) h3) gX7_noSets_X7_refuse rfl hd_X7_refuse ⟨Nat.le_of_ble_eq_true rfl, Nat.le_of_ble_eq_true rfl⟩ hK hw hA (pm_1_0 _) rfl (pm_1_0 _) rfl rfl rfl rfl hl.1 rfl (Nat.le_of_ble_eq_true rfl) dX7_noSets_27 ⟨Nat.zero_le _, Nat.zero_le _⟩ (fun H locs hw => ?_)
    obtain rfl := Option.some.inj hM
    exact W.iret hx hb hr (fun t ht _ => ⟨rfl, by rw [ht]; exact hw.1, hw.2.2.F ht⟩) hw.2.2.2.2 dX7_noSets_30
  · replace hM := itn c2 hM
    refine lv_iload_n hx hb dX7_noSets_12 rfl (lv_at hl 2 rfl) ?_
    refine lv_i2l (v := ((p2).toInt64)) hx hb dX7_noSets_13 rfl ?_
    refine lv_lconst (v := (1 : Int64)) hx hb dX7_noSets_14 (by decide) ?_
    refine lv_ldc2 (v := (10 : Int64)) hx hb hown (hts _ (mi 2 rfl)) dX7_noSets_15 ?_
    refine rSR (wc := ([] : va_W)) (As := [.long ((p2).toInt64), .long (1 : Int64), .long (10 : Int64)]) (rest := []) hS (c_X7_in l g ((p2).toInt64) (1 : Int64) (10 : Int64)) gX7_noSets_X7_in rfl hd_X7_in ⟨Nat.le_of_ble_eq_true rfl, Nat.le_of_ble_eq_true rfl⟩ hK (hP_nil) rfl hl.1 rfl (Nat.le_of_ble_eq_true rfl) dX7_noSets_18 ⟨Nat.zero_le _, Nat.zero_le _⟩ ?_
    refine lv_if_ne (tgt := 31) hx hb dX7_noSets_21 (by decide) (fun c6 => ?_) (fun c6 => ?_)
    · replace hM := itn c6 hM
      refine lv_aload_n hx hb dX7_noSets_31 rfl (lv_at hl 0 rfl) ?_
      refine lv_iload_n hx hb dX7_noSets_32 rfl (lv_at hl 1 rfl) ?_
      obtain ⟨q10, h9, hM⟩ := bd hM
      refine rVWp (wc := (wXM g a0 U0 V0 M0 R0 kv tv)) (wq := (wXM g a0 U0 q10.2 M0 R0 kv tv)) (As := [.int p1]) (rest := []) (q0 := 0) hS (c_X7_noRow l g a0 kv tv U0 V0 M0 R0 p1 h9) gX7_noSets_X7_noRow rfl hd_X7_noRow ⟨Nat.le_of_ble_eq_true rfl, Nat.le_of_ble_eq_true rfl⟩ hK hw hA (pm_1_0 _) rfl (pm_1_0 _) rfl rfl rfl rfl hl.1 rfl (Nat.le_of_ble_eq_true rfl) dX7_noSets_33 ⟨Nat.zero_le _, Nat.zero_le _⟩ (fun H locs hw => ?_)
      refine lv_istore_n (lv' := [(3, .int q10.1), (0, .ref (a0 0)), (1, .int p1), (2, .int p2)]) hx hb dX7_noSets_36 rfl hl (by decide) rfl (fun ls hl => ?_)
      refine lv_iload_n hx hb dX7_noSets_37 rfl (lv_at hl 0 rfl) ?_
      refine lv_if_eq (tgt := 43) hx hb dX7_noSets_38 (by decide) (fun c11 => ?_) (fun c11 => ?_)
      · replace hM := itp c11 hM
        refine lv_aload_n hx hb dX7_noSets_43 rfl (lv_at hl 1 rfl) ?_
        refine wk_get hx hb hts hin_X7 hown hK hw.1 7 0 2 (.ref (a0 11)) rfl rfl (by decide) (mi 3 rfl) rfl rfl dX7_noSets_44 ?_
        refine lv_iload_n hx hb dX7_noSets_47 rfl (lv_at hl 2 rfl) ?_
        obtain ⟨k12, hM⟩ := ck hM
        refine wk_iald hx hb hK hw.1 11 8 (q10.2 2) rfl k12 dX7_noSets_48 ?_
        refine lv_iload_n hx hb dX7_noSets_49 rfl (lv_at hl 3 rfl) ?_
        refine lv_icmp_ge (tgt := 62) hx hb dX7_noSets_50 (by decide) (fun c13 => ?_) (fun c13 => ?_)
        · replace hM := itp c13 hM
          refine lv_iconst (v := (0 : Int32)) hx hb dX7_noSets_62 (by decide) ?_
          obtain rfl := Option.some.inj hM
          exact W.iret hx hb hr (fun t ht _ => ⟨rfl, by rw [ht]; exact hw.1, hw.2.2.F ht⟩) hw.2.2.2.2 dX7_noSets_63
        · replace hM := itn c13 hM
          refine lv_aload_n hx hb dX7_noSets_53 rfl (lv_at hl 1 rfl) ?_
          refine lv_bipush (v := (-2 : Int32)) hx hb dX7_noSets_54 (by decide) ?_
          obtain ⟨q15, h14, hM⟩ := bd hM
          refine rVWp (wc := (wXM g a0 U0 q10.2 M0 R0 kv tv)) (wq := (wXM g a0 U0 q15.2 M0 R0 kv tv)) (As := [.int (-2 : Int32)]) (rest := []) (q0 := 0) hS (c_X7_refuse l g a0 kv tv U0 q10.2 M0 R0 (-2 : Int32) h14) gX7_noSets_X7_refuse rfl hd_X7_refuse ⟨Nat.le_of_ble_eq_true rfl, Nat.le_of_ble_eq_true rfl⟩ hK hw hA (pm_1_0 _) rfl (pm_1_0 _) rfl rfl rfl rfl hl.1 rfl (Nat.le_of_ble_eq_true rfl) dX7_noSets_56 ⟨Nat.zero_le _, Nat.zero_le _⟩ (fun H locs hw => ?_)
          refine lv_goto (tgt := 63) hx hb dX7_noSets_59 (by decide) ?_
          obtain rfl := Option.some.inj hM
          exact W.iret hx hb hr (fun t ht _ => ⟨rfl, by rw [ht]; exact hw.1, hw.2.2.F ht⟩) hw.2.2.2.2 dX7_noSets_63
      · replace hM := itn c11 hM
        refine lv_iload_n hx hb dX7_noSets_41 rfl (lv_at hl 0 rfl) ?_
        obtain rfl := Option.some.inj hM
        exact W.iret hx hb hr (fun t ht _ => ⟨rfl, by rw [ht]; exact hw.1, hw.2.2.F ht⟩) hw.2.2.2.2 dX7_noSets_42
    · replace hM := itp c6 hM
      refine lv_aload_n hx hb dX7_noSets_24 rfl (lv_at hl 0 rfl) ?_
      refine lv_bipush (v := (-2 : Int32)) hx hb dX7_noSets_25 (by decide) ?_
      obtain ⟨q8, h7, hM⟩ := bd hM
      refine rVWp (wc := (wXM g a0 U0 V0 M0 R0 kv tv)) (wq := (wXM g a0 U0 q8.2 M0 R0 kv tv)) (As := [.int (-2 : Int32)]) (rest := []) (q0 := 0) hS (c_X7_refuse l g a0 kv tv U0 V0 M0 R0 (-2 : Int32) h7) gX7_noSets_X7_refuse rfl hd_X7_refuse ⟨Nat.le_of_ble_eq_true rfl, Nat.le_of_ble_eq_true rfl⟩ hK hw hA (pm_1_0 _) rfl (pm_1_0 _) rfl rfl rfl rfl hl.1 rfl (Nat.le_of_ble_eq_true rfl) dX7_noSets_27 ⟨Nat.zero_le _, Nat.zero_le _⟩ (fun H locs hw => ?_)
      obtain rfl := Option.some.inj hM
      exact W.iret hx hb hr (fun t ht _ => ⟨rfl, by rw [ht]; exact hw.1, hw.2.2.F ht⟩) hw.2.2.2.2 dX7_noSets_30
theorem hd_X7_seekOrder : yX7_seekOrder.cls = RX7 ∧ yX7_seekOrder.cls ≠ "java/lang/invoke/MethodHandle" ∧ yX7_seekOrder.cls ≠ "java/lang/invoke/VarHandle" ∧ (parseMethodDescriptor yX7_seekOrder.desc).map (fun d => d.parameters.length) = some 2 := by decide +kernel
set_option maxHeartbeats 4000000 in
set_option maxRecDepth 100000 in
theorem c_X7_seekOrder (l : Launch) (g : Gm) (a0 : Nat → Nat) (kv : Value) : ∀ (d : Nat) (U0 : TS) (V0 : TS) (M0 : LTS) (R0 : LTS) (t0 : Tr) (tp0 : Option (Nat → Int32)), tpOf t0 = tp0 → ∀ (p1 : Int32) (p2 : Int32) {q : (TS × (Option (Nat → Int32)))}, f_X7_seekOrder d U0 V0 M0 R0 tp0 p1 p2 = some q → MB l yX7_seekOrder wsX7_seekOrder (d + 5) (d * 25 + 140) g [.ref (a0 0), .int p1, .int p2] (fun t => (wXM g a0 U0 V0 M0 R0 kv (tvOf t)) ++ wOT g t) t0 none (fun t => (wXM g a0 U0 q.1 M0 R0 kv (tvOf t)) ++ wOT g t) q.2 := by
  intro d
  induction d with
  | zero => intro U0 V0 M0 R0 t0 tp0 h0 p1 p2 q hM; rw [f_X7_seekOrder] at hM; exact nn hM
  | succ d ihR =>
  intro U0 V0 M0 R0 t0 tp0 h0 p1 p2 q hM
  intro sz
  refine Met.ofW (cc := cX7_seekOrder) (maxL := 6) (ret := none) (by decide) rfl ?_
  intro p e s m args below meth c s₁ B hml hv
  obtain ⟨rfl, hsz, hP, hK, hD0⟩ := hv
  have hx := B.exec; have hb := B.bytes; have hr := B.returns
  have hts := atoms_spec (ws := wsX7_seekOrder) B.pre
  have hown : s.vm.findClass RX7 = some m.cls := findClass_of_methodNamed B.named
  have hlocks := B.notSynchronized
  have hS : CallFix p m c cX7_seekOrder 6 s _ wsX7_seekOrder RX7 := ⟨hx, hb, hml, hown, hts⟩
  have hin_X7 : ∀ w ∈ wsX70, w ∈ wsX7_seekOrder := fun w h => (List.mem_cons_of_mem _ (List.mem_append_right _ h))
  subst hsz
  have hw := wk_start hP hD0
  have hA : ∀ q : Nat, s.heap.size ≤ q → va_A ((wXM g a0 U0 V0 M0 R0 kv (tvOf t0)) ++ (wOT g t0)) s.heap.size q := fun q h => Or.inr h
  generalize va_A ((wXM g a0 U0 V0 M0 R0 kv (tvOf t0)) ++ (wOT g t0)) s.heap.size = A at hw hA ⊢
  clear hP hD0
  have hl := lv_entry ([.ref (a0 0), .int p1, .int p2]) (n := 6) (Nat.le_of_ble_eq_true rfl)
  rw [lg_entry_eq]
  generalize (lg_sl ([.ref (a0 0), .int p1, .int p2]) ++ List.replicate (6 - (lg_sl ([.ref (a0 0), .int p1, .int p2])).length) Slot.unset).toArray = ls at hl ⊢
  have hl : lv_has ls 6 [(0, .ref (a0 0)), (1, .int p1), (2, .int p2)] := hl
  refine W_nl t0 ?_
  rw [f_X7_seekOrder] at hM
  refine lv_iload_n hx hb dX7_seekOrder_0 rfl (lv_at hl 1 rfl) ?_
  refine lv_aload_n hx hb dX7_seekOrder_1 rfl (lv_at hl 0 rfl) ?_
  refine wk_get hx hb hts hin_X7 hown hK hw.1 7 0 10 (.int (U0 10 0)) rfl rfl (by decide) (mi 1 rfl) rfl rfl dX7_seekOrder_2 ?_
  refine lv_icmp_ne (tgt := 108) hx hb dX7_seekOrder_5 (by decide) (fun c1 => ?_) (fun c1 => ?_)
  · replace hM := itn c1 hM
    refine lv_iconst (v := (0 : Int32)) hx hb dX7_seekOrder_108 (by decide) ?_
    refine lv_istore_n (lv' := [(3, .int (0 : Int32)), (0, .ref (a0 0)), (1, .int p1), (2, .int p2)]) hx hb dX7_seekOrder_109 rfl hl (by decide) rfl (fun ls hl => ?_)
    obtain ⟨q28, hL110, hM⟩ := bd hM
    have hJ110 : ∀ (tX39 : Tr), tpOf tX39 = q28.1 → nlOf tX39 ≤ nlOf t0 → ∀ (H : Heap) (locs : List Loc), Wk g A s.heap H locs ((wXM g a0 U0 q28.2 M0 R0 kv (tvOf tX39)) ++ (wOT g tX39)) → ∀ (ls : Array Slot), lv_has ls 6 [] → W p l e (headSpec wsX7_seekOrder ({ frames := (d + 1 + 5), cells := 28 * nlOf t0, slots := 759 * nlOf t0, locals := ((d + 1) * 25 + 140) } : Room)).room s m ([.ref (a0 0), .int p1, .int p2] : List Value).toArray below meth c H locs (28 * (nlOf t0 - nlOf tX39)) (759 * (nlOf t0 - nlOf tX39)) (MQ below (QcB g none (fun t => (wXM g a0 U0 q.1 M0 R0 kv (tvOf t)) ++ wOT g t) q.2 A) ([.ref (a0 0), .int p1, .int p2] : List Value).toArray s (28 * nlOf t0) (759 * nlOf t0) A) (F0 m 151 ls []) := by
      intro tX39 hX40 hNX41 H locs hw ls hl
      obtain rfl := Option.some.inj hM
      refine W.widen (k := 28 * nlOf t0) (n := 759 * nlOf t0) (nlc _ _ _) (nlc _ _ _) ?_
      exact W.vret hx hb hr (fun t ht _ => ⟨rfl, ⟨tX39, hX40, by rw [ht]; exact hw.1, hw.2.1⟩, hw.2.2.F ht⟩) hw.2.2.2.2 dX7_seekOrder_151
    have hW110 : ∀ (n : Nat) (v3_22 : Int32) (tpL24 : Option (Nat → Int32)) (VL27 : TS), L_X7_seekOrder_110 (f_X7_seekOrder d) U0 M0 R0 p1 p2 n v3_22 tpL24 VL27 = some q28 → ∀ (tL23 : Tr), tpOf tL23 = tpL24 → nlOf tL23 ≤ nlOf t0 → ∀ (H : Heap) (locs : List Loc), Wk g A s.heap H locs ((wXM g a0 U0 VL27 M0 R0 kv (tvOf tL23)) ++ (wOT g tL23)) → ∀ (ls : Array Slot), lv_has ls 6 [(3, .int v3_22), (0, .ref (a0 0)), (1, .int p1), (2, .int p2)] → W p l e (headSpec wsX7_seekOrder ({ frames := (d + 1 + 5), cells := 28 * nlOf t0, slots := 759 * nlOf t0, locals := ((d + 1) * 25 + 140) } : Room)).room s m ([.ref (a0 0), .int p1, .int p2] : List Value).toArray below meth c H locs (28 * (nlOf t0 - nlOf tL23)) (759 * (nlOf t0 - nlOf tL23)) (MQ below (QcB g none (fun t => (wXM g a0 U0 q.1 M0 R0 kv (tvOf t)) ++ wOT g t) q.2 A) ([.ref (a0 0), .int p1, .int p2] : List Value).toArray s (28 * nlOf t0) (759 * nlOf t0) A) (F0 m 110 ls []) := by
      intro n
      induction n with
      | zero => intro v3_22 tpL24 VL27 hM; rw [L_X7_seekOrder_110] at hM; exact nn hM
      | succ n ih110 =>
        intro v3_22 tpL24 VL27 hM tL23 hL25 hN26 H locs hw ls hl
        rw [L_X7_seekOrder_110] at hM
        refine lv_iload_n hx hb dX7_seekOrder_110 rfl (lv_at hl 0 rfl) ?_
        refine lv_aload_n hx hb dX7_seekOrder_111 rfl (lv_at hl 1 rfl) ?_
        refine wk_get hx hb hts hin_X7 hown hK hw.1 7 0 10 (.int (U0 10 0)) rfl rfl (by decide) (mi 1 rfl) rfl rfl dX7_seekOrder_112 ?_
        refine lv_icmp_ge (tgt := 151) hx hb dX7_seekOrder_115 (by decide) (fun c29 => ?_) (fun c29 => ?_)
        · replace hM := itp c29 hM
          obtain rfl := Option.some.inj hM
          exact hJ110 tL23 hL25 hN26 _ _ hw _ (lv_sub hl [] rfl)
        · replace hM := itn c29 hM
          refine lv_iload_n hx hb dX7_seekOrder_118 rfl (lv_at hl 3 rfl) ?_
          refine lv_iload_n hx hb dX7_seekOrder_119 rfl (lv_at hl 0 rfl) ?_
          refine rSR (wc := ([] : va_W)) (As := [.int p2, .int v3_22]) (rest := []) hS (c_X7_has l g p2 v3_22) gX7_seekOrder_X7_has rfl hd_X7_has ⟨by show _ ≤ d + 1 + _; omega, by show _ ≤ (d + 1) * _ + _; omega⟩ hK (hP_nil) rfl hl.1 rfl (Nat.le_of_ble_eq_true rfl) dX7_seekOrder_120 ⟨nlc _ _ _, nlc _ _ _⟩ ?_
          refine lv_if_ne (tgt := 145) hx hb dX7_seekOrder_123 (by decide) (fun c31 => ?_) (fun c31 => ?_)
          · replace hM := itn c31 hM
            refine lv_iinc (v := (v3_22 + (1 : Int32))) (lv' := [(3, .int (v3_22 + (1 : Int32))), (0, .ref (a0 0)), (1, .int p1), (2, .int p2)]) hx hb dX7_seekOrder_145 hl (k := 0) rfl rfl (by decide) rfl (fun ls hl => ?_)
            refine lv_goto (tgt := 110) hx hb dX7_seekOrder_148 (by decide) ?_
            exact ih110 (v3_22 + (1 : Int32)) tpL24 VL27 hM tL23 hL25 hN26 _ _ hw _ (lv_sub hl [0, 1, 2, 3] rfl)
          · replace hM := itp c31 hM
            refine lv_aload_n hx hb dX7_seekOrder_126 rfl (lv_at hl 1 rfl) ?_
            refine wk_get hx hb hts hin_X7 hown hK hw.1 7 0 30 (.ref (a0 18)) rfl rfl (by decide) (mi 2 rfl) rfl rfl dX7_seekOrder_127 ?_
            refine lv_iload_n hx hb dX7_seekOrder_130 rfl (lv_at hl 2 rfl) ?_
            refine lv_iload_n hx hb dX7_seekOrder_131 rfl (lv_at hl 0 rfl) ?_
            obtain ⟨k32, hM⟩ := ck hM
            refine wk_iast (wq := ((wXM g a0 U0 (up VL27 30 (upd (VL27 30) (p1).toNatClampNeg v3_22)) M0 R0 kv (tvOf tL23)) ++ (wOT g tL23))) hx hb hK hw 18 7 (VL27 30) rfl k32 dX7_seekOrder_132 rfl (fun H locs hw => ?_)
            refine lv_aload_n hx hb dX7_seekOrder_133 rfl (lv_at hl 1 rfl) ?_
            refine lv_iload_n hx hb dX7_seekOrder_134 rfl (lv_at hl 2 rfl) ?_
            refine lv_iconst (v := (1 : Int32)) hx hb dX7_seekOrder_135 (by decide) ?_
            refine lv_iadd hx hb dX7_seekOrder_136 ?_
            refine lv_iload_n hx hb dX7_seekOrder_137 rfl (lv_at hl 3 rfl) ?_
            refine lv_iconst (v := (1 : Int32)) hx hb dX7_seekOrder_138 (by decide) ?_
            refine lv_iload_n hx hb dX7_seekOrder_139 rfl (lv_at hl 0 rfl) ?_
            refine lv_ishl hx hb dX7_seekOrder_140 ?_
            refine lv_ior hx hb dX7_seekOrder_141 ?_
            obtain ⟨q34, h33, hM⟩ := bd hM
            obtain ⟨k35, hM⟩ := ck hM
            refine rVB (t0 := t0) (As := [.int (p1 + (1 : Int32)), .int (p2 ||| ((1 : Int32) <<< (v3_22 &&& 31)))]) (rest := []) (hn := hN26) hS (ihR U0 (up VL27 30 (upd (VL27 30) (p1).toNatClampNeg v3_22)) M0 R0 tL23 tpL24 hL25 (p1 + (1 : Int32)) (p2 ||| ((1 : Int32) <<< (v3_22 &&& 31))) h33) k35 gX7_seekOrder_X7_seekOrder rfl hd_X7_seekOrder ⟨by show _ ≤ d + 1 + _; omega, by show _ ≤ (d + 1) * _ + _; omega⟩ hK hw hA rfl rfl rfl rfl hl.1 rfl (Nat.le_of_ble_eq_true rfl) dX7_seekOrder_142 (fun t36 ht37 hn38 H locs hw => ?_)
            have hw : Wk g A s.heap H locs ((wXM g a0 U0 q34.1 M0 R0 kv (tvOf t36)) ++ (wOT g t36)) := hw
            refine lv_iinc (v := (v3_22 + (1 : Int32))) (lv' := [(3, .int (v3_22 + (1 : Int32))), (0, .ref (a0 0)), (1, .int p1), (2, .int p2)]) hx hb dX7_seekOrder_145 hl (k := 0) rfl rfl (by decide) rfl (fun ls hl => ?_)
            refine lv_goto (tgt := 110) hx hb dX7_seekOrder_148 (by decide) ?_
            exact ih110 (v3_22 + (1 : Int32)) q34.2 q34.1 hM t36 ht37 hn38 _ _ hw _ (lv_sub hl [0, 1, 2, 3] rfl)
    exact hW110 300 (0 : Int32) tp0 V0 hL110 t0 h0 (Nat.le_refl _) _ _ hw _ (lv_sub hl [0, 1, 2, 3] rfl)
  · replace hM := itp c1 hM
    refine lv_aload_n hx hb dX7_seekOrder_8 rfl (lv_at hl 0 rfl) ?_
    refine rVF (t0 := t0) (As := []) (rest := []) (hn := (Nat.le_refl _)) hS (c_X7_fresh l g a0 U0 V0 M0 R0 kv t0 tp0 h0) gX7_seekOrder_X7_fresh rfl hd_X7_fresh ⟨by show _ ≤ d + 1 + _; omega, by show _ ≤ (d + 1) * _ + _; omega⟩ hK hw hA rfl rfl rfl rfl hl.1 rfl (Nat.le_of_ble_eq_true rfl) dX7_seekOrder_9 (fun b3 G4 H locs hw => ?_)
    have hw : Wk g A s.heap H locs ((wXM g a0 U0 V0 M0 R0 kv (.ref (b3 0))) ++ (wXT g b3 G4 (fr0 U0 tp0))) := hw
    refine lv_astore_n (lv' := [(3, .ref (b3 0)), (0, .ref (a0 0)), (1, .int p1), (2, .int p2)]) hx hb dX7_seekOrder_12 rfl hl (by decide) rfl (fun ls hl => ?_)
    refine lv_iconst (v := (0 : Int32)) hx hb dX7_seekOrder_13 (by decide) ?_
    refine lv_istore (lv' := [(4, .int (0 : Int32)), (3, .ref (b3 0)), (0, .ref (a0 0)), (1, .int p1), (2, .int p2)]) hx hb dX7_seekOrder_14 hl (by decide) rfl (fun ls hl => ?_)
    obtain ⟨q7, hL16, hM⟩ := bd hM
    have hJ16 : ∀ (H : Heap) (locs : List Loc), Wk g A s.heap H locs ((wXM g a0 U0 V0 M0 R0 kv (.ref (b3 0))) ++ (wXT g b3 G4 q7)) → ∀ (ls : Array Slot), lv_has ls 6 [(3, .ref (b3 0)), (0, .ref (a0 0))] → W p l e (headSpec wsX7_seekOrder ({ frames := (d + 1 + 5), cells := 28 * nlOf t0, slots := 759 * nlOf t0, locals := ((d + 1) * 25 + 140) } : Room)).room s m ([.ref (a0 0), .int p1, .int p2] : List Value).toArray below meth c H locs (28 * nlOf t0) (759 * nlOf t0) (MQ below (QcB g none (fun t => (wXM g a0 U0 q.1 M0 R0 kv (tvOf t)) ++ wOT g t) q.2 A) ([.ref (a0 0), .int p1, .int p2] : List Value).toArray s (28 * nlOf t0) (759 * nlOf t0) A) (F0 m 54 ls []) := by
      intro H locs hw ls hl
      refine lv_aload_n hx hb dX7_seekOrder_54 rfl (lv_at hl 0 rfl) ?_
      obtain ⟨q15, h14, hM⟩ := bd hM
      refine rVR (wc := (wXT g b3 G4 q7)) (As := []) (rest := []) (q0 := 0) hS (c_X7_knownNow l g b3 G4 q7 h14) gX7_seekOrder_X7_knownNow rfl hd_X7_knownNow ⟨by show _ ≤ d + 1 + _; omega, by show _ ≤ (d + 1) * _ + _; omega⟩ hK (va_P.pm hw.1 (pm_2_1 _ _)) rfl rfl rfl rfl hl.1 rfl (Nat.le_of_ble_eq_true rfl) dX7_seekOrder_55 ⟨Nat.le_refl _, Nat.le_refl _⟩ ?_
      refine lv_istore (lv' := [(4, .int q15), (3, .ref (b3 0)), (0, .ref (a0 0))]) hx hb dX7_seekOrder_58 hl (by decide) rfl (fun ls hl => ?_)
      refine lv_iload hx hb dX7_seekOrder_60 (lv_at hl 0 rfl) ?_
      refine lv_aload_n hx hb dX7_seekOrder_62 rfl (lv_at hl 2 rfl) ?_
      refine wk_get hx hb hts hin_X7 hown hK hw.1 7 0 32 (.int (V0 32 0)) rfl rfl (by decide) (mi 3 rfl) rfl rfl dX7_seekOrder_63 ?_
      refine lv_icmp_le (tgt := 107) hx hb dX7_seekOrder_66 (by decide) (fun c16 => ?_) (fun c16 => ?_)
      · replace hM := itp c16 hM
        obtain rfl := Option.some.inj hM
        exact W.vret hx hb hr (fun t ht _ => ⟨rfl, ⟨(some (b3, G4, q7)), rfl, by rw [ht]; exact hw.1, hw.2.1⟩, hw.2.2.F ht⟩) hw.2.2.2.2 dX7_seekOrder_107
      · replace hM := itn c16 hM
        refine lv_aload_n hx hb dX7_seekOrder_69 rfl (lv_at hl 2 rfl) ?_
        refine lv_iload hx hb dX7_seekOrder_70 (lv_at hl 0 rfl) ?_
        refine wk_put (wq := ((wXM g a0 U0 (up V0 32 (fun _ => q15)) M0 R0 kv (.ref (b3 0))) ++ (wXT g b3 G4 q7))) hx hb hts hin_X7 tyX7 tyX7_ok nmX7 hown hK hw 7 0 32 rfl rfl (by decide) (mi 3 rfl) rfl rfl rfl rfl (Nat.le_of_ble_eq_true rfl) dX7_seekOrder_72 rfl (fun H locs hw => ?_)
        refine lv_iconst (v := (0 : Int32)) hx hb dX7_seekOrder_75 (by decide) ?_
        refine lv_istore (lv' := [(5, .int (0 : Int32)), (4, .int q15), (3, .ref (b3 0)), (0, .ref (a0 0))]) hx hb dX7_seekOrder_76 hl (by decide) rfl (fun ls hl => ?_)
        obtain ⟨q19, hL78, hM⟩ := bd hM
        have hJ78 : ∀ (H : Heap) (locs : List Loc), Wk g A s.heap H locs ((wXM g a0 U0 q19 M0 R0 kv (.ref (b3 0))) ++ (wXT g b3 G4 q7)) → ∀ (ls : Array Slot), lv_has ls 6 [] → W p l e (headSpec wsX7_seekOrder ({ frames := (d + 1 + 5), cells := 28 * nlOf t0, slots := 759 * nlOf t0, locals := ((d + 1) * 25 + 140) } : Room)).room s m ([.ref (a0 0), .int p1, .int p2] : List Value).toArray below meth c H locs (28 * nlOf t0) (759 * nlOf t0) (MQ below (QcB g none (fun t => (wXM g a0 U0 q.1 M0 R0 kv (tvOf t)) ++ wOT g t) q.2 A) ([.ref (a0 0), .int p1, .int p2] : List Value).toArray s (28 * nlOf t0) (759 * nlOf t0) A) (F0 m 107 ls []) := by
          intro H locs hw ls hl
          obtain rfl := Option.some.inj hM
          exact W.vret hx hb hr (fun t ht _ => ⟨rfl, ⟨(some (b3, G4, q7)), rfl, by rw [ht]; exact hw.1, hw.2.1⟩, hw.2.2.F ht⟩) hw.2.2.2.2 dX7_seekOrder_107
        have hW78 : ∀ (n : Nat) (v5_17 : Int32) (VL18 : TS), L_X7_seekOrder_78 U0 n v5_17 VL18 = some q19 → ∀ (H : Heap) (locs : List Loc), Wk g A s.heap H locs ((wXM g a0 U0 VL18 M0 R0 kv (.ref (b3 0))) ++ (wXT g b3 G4 q7)) → ∀ (ls : Array Slot), lv_has ls 6 [(5, .int v5_17), (0, .ref (a0 0))] → W p l e (headSpec wsX7_seekOrder ({ frames := (d + 1 + 5), cells := 28 * nlOf t0, slots := 759 * nlOf t0, locals := ((d + 1) * 25 + 140) } : Room)).room s m ([.ref (a0 0), .int p1, .int p2] : List Value).toArray below meth c H locs (28 * nlOf t0) (759 * nlOf t0) (MQ below (QcB g none (fun t => (wXM g a0 U0 q.1 M0 R0 kv (tvOf t)) ++ wOT g t) q.2 A) ([.ref (a0 0), .int p1, .int p2] : List Value).toArray s (28 * nlOf t0) (759 * nlOf t0) A) (F0 m 78 ls []) := by
          intro n
          induction n with
          | zero => intro v5_17 VL18 hM; rw [L_X7_seekOrder_78] at hM; exact nn hM
          | succ n ih78 =>
            intro v5_17 VL18 hM H locs hw ls hl
            rw [L_X7_seekOrder_78] at hM
            refine lv_iload hx hb dX7_seekOrder_78 (lv_at hl 0 rfl) ?_
            refine lv_aload_n hx hb dX7_seekOrder_80 rfl (lv_at hl 1 rfl) ?_
            refine wk_get hx hb hts hin_X7 hown hK hw.1 7 0 10 (.int (U0 10 0)) rfl rfl (by decide) (mi 1 rfl) rfl rfl dX7_seekOrder_81 ?_
            refine lv_icmp_ge (tgt := 107) hx hb dX7_seekOrder_84 (by decide) (fun c20 => ?_) (fun c20 => ?_)
            · replace hM := itp c20 hM
              obtain rfl := Option.some.inj hM
              exact hJ78 _ _ hw _ (lv_sub hl [] rfl)
            · replace hM := itn c20 hM
              refine lv_aload_n hx hb dX7_seekOrder_87 rfl (lv_at hl 1 rfl) ?_
              refine wk_get hx hb hts hin_X7 hown hK hw.1 7 0 31 (.ref (a0 19)) rfl rfl (by decide) (mi 4 rfl) rfl rfl dX7_seekOrder_88 ?_
              refine lv_iload hx hb dX7_seekOrder_91 (lv_at hl 0 rfl) ?_
              refine lv_aload_n hx hb dX7_seekOrder_93 rfl (lv_at hl 1 rfl) ?_
              refine wk_get hx hb hts hin_X7 hown hK hw.1 7 0 30 (.ref (a0 18)) rfl rfl (by decide) (mi 2 rfl) rfl rfl dX7_seekOrder_94 ?_
              refine lv_iload hx hb dX7_seekOrder_97 (lv_at hl 0 rfl) ?_
              obtain ⟨k21, hM⟩ := ck hM
              refine wk_iald hx hb hK hw.1 18 7 (VL18 30) rfl k21 dX7_seekOrder_99 ?_
              refine wk_iast (wq := ((wXM g a0 U0 (up VL18 31 (upd (VL18 31) (v5_17).toNatClampNeg ((VL18 30) (v5_17).toNatClampNeg))) M0 R0 kv (.ref (b3 0))) ++ (wXT g b3 G4 q7))) hx hb hK hw 19 7 (VL18 31) rfl k21 dX7_seekOrder_100 rfl (fun H locs hw => ?_)
              refine lv_iinc (v := (v5_17 + (1 : Int32))) (lv' := [(5, .int (v5_17 + (1 : Int32))), (0, .ref (a0 0))]) hx hb dX7_seekOrder_101 hl (k := 0) rfl rfl (by decide) rfl (fun ls hl => ?_)
              refine lv_goto (tgt := 78) hx hb dX7_seekOrder_104 (by decide) ?_
              exact ih78 (v5_17 + (1 : Int32)) (up VL18 31 (upd (VL18 31) (v5_17).toNatClampNeg ((VL18 30) (v5_17).toNatClampNeg))) hM _ _ hw _ (lv_sub hl [0, 1] rfl)
        exact hW78 300 (0 : Int32) (up V0 32 (fun _ => q15)) hL78 _ _ hw _ (lv_sub hl [0, 3] rfl)
    have hW16 : ∀ (n : Nat) (v4_5 : Int32) (UL6 : TS), L_X7_seekOrder_16 U0 V0 n v4_5 UL6 = some q7 → ∀ (H : Heap) (locs : List Loc), Wk g A s.heap H locs ((wXM g a0 U0 V0 M0 R0 kv (.ref (b3 0))) ++ (wXT g b3 G4 UL6)) → ∀ (ls : Array Slot), lv_has ls 6 [(4, .int v4_5), (3, .ref (b3 0)), (0, .ref (a0 0))] → W p l e (headSpec wsX7_seekOrder ({ frames := (d + 1 + 5), cells := 28 * nlOf t0, slots := 759 * nlOf t0, locals := ((d + 1) * 25 + 140) } : Room)).room s m ([.ref (a0 0), .int p1, .int p2] : List Value).toArray below meth c H locs (28 * nlOf t0) (759 * nlOf t0) (MQ below (QcB g none (fun t => (wXM g a0 U0 q.1 M0 R0 kv (tvOf t)) ++ wOT g t) q.2 A) ([.ref (a0 0), .int p1, .int p2] : List Value).toArray s (28 * nlOf t0) (759 * nlOf t0) A) (F0 m 16 ls []) := by
      intro n
      induction n with
      | zero => intro v4_5 UL6 hM; rw [L_X7_seekOrder_16] at hM; exact nn hM
      | succ n ih16 =>
        intro v4_5 UL6 hM H locs hw ls hl
        rw [L_X7_seekOrder_16] at hM
        refine lv_iload hx hb dX7_seekOrder_16 (lv_at hl 0 rfl) ?_
        refine lv_aload_n hx hb dX7_seekOrder_18 rfl (lv_at hl 2 rfl) ?_
        refine wk_get hx hb hts hin_X7 hown hK hw.1 7 0 10 (.int (U0 10 0)) rfl rfl (by decide) (mi 1 rfl) rfl rfl dX7_seekOrder_19 ?_
        refine lv_icmp_ge (tgt := 54) hx hb dX7_seekOrder_22 (by decide) (fun c8 => ?_) (fun c8 => ?_)
        · replace hM := itp c8 hM
          obtain rfl := Option.some.inj hM
          exact hJ16 _ _ hw _ (lv_sub hl [1, 2] rfl)
        · replace hM := itn c8 hM
          refine lv_aload_n hx hb dX7_seekOrder_25 rfl (lv_at hl 1 rfl) ?_
          refine lv_aload_n hx hb dX7_seekOrder_26 rfl (lv_at hl 2 rfl) ?_
          refine wk_get hx hb hts hin_X7 hown hK hw.1 7 0 30 (.ref (a0 18)) rfl rfl (by decide) (mi 2 rfl) rfl rfl dX7_seekOrder_27 ?_
          refine lv_iload hx hb dX7_seekOrder_30 (lv_at hl 0 rfl) ?_
          obtain ⟨k9, hM⟩ := ck hM
          refine wk_iald hx hb hK hw.1 18 7 (V0 30) rfl k9 dX7_seekOrder_32 ?_
          refine lv_aload_n hx hb dX7_seekOrder_33 rfl (lv_at hl 1 rfl) ?_
          refine lv_aload_n hx hb dX7_seekOrder_34 rfl (lv_at hl 2 rfl) ?_
          refine wk_get hx hb hts hin_X7 hown hK hw.1 7 0 30 (.ref (a0 18)) rfl rfl (by decide) (mi 2 rfl) rfl rfl dX7_seekOrder_35 ?_
          refine lv_iload hx hb dX7_seekOrder_38 (lv_at hl 0 rfl) ?_
          refine wk_iald hx hb hK hw.1 18 7 (V0 30) rfl k9 dX7_seekOrder_40 ?_
          obtain ⟨q11, h10, hM⟩ := bd hM
          refine rVR (wc := (wXT g b3 G4 UL6)) (As := [.int ((V0 30) (v4_5).toNatClampNeg)]) (rest := [.int ((V0 30) (v4_5).toNatClampNeg), .ref (b3 0)]) (q0 := 0) hS (c_X7_mayOf l g b3 G4 UL6 ((V0 30) (v4_5).toNatClampNeg) h10) gX7_seekOrder_X7_mayOf rfl hd_X7_mayOf ⟨by show _ ≤ d + 1 + _; omega, by show _ ≤ (d + 1) * _ + _; omega⟩ hK (va_P.pm hw.1 (pm_2_1 _ _)) rfl rfl rfl rfl hl.1 rfl (Nat.le_of_ble_eq_true rfl) dX7_seekOrder_41 ⟨Nat.le_refl _, Nat.le_refl _⟩ ?_
          obtain ⟨q13, h12, hM⟩ := bd hM
          refine rVWp (wc := (wXT g b3 G4 UL6)) (wq := ((wXM g a0 U0 V0 M0 R0 kv (.ref (b3 0))) ++ (wXT g b3 G4 q13.2))) (As := [.int ((V0 30) (v4_5).toNatClampNeg), .int q11]) (rest := []) (q0 := 0) hS (c_X7_isSaid l g b3 G4 UL6 ((V0 30) (v4_5).toNatClampNeg) q11 h12) gX7_seekOrder_X7_isSaid rfl hd_X7_isSaid ⟨by show _ ≤ d + 1 + _; omega, by show _ ≤ (d + 1) * _ + _; omega⟩ hK hw hA (pm_2_1 _ _) rfl (pm_2_1 _ _) rfl rfl rfl rfl hl.1 rfl (Nat.le_of_ble_eq_true rfl) dX7_seekOrder_44 ⟨Nat.le_refl _, Nat.le_refl _⟩ (fun H locs hw => ?_)
          refine lv_pop hx hb dX7_seekOrder_47 rfl ?_
          refine lv_iinc (v := (v4_5 + (1 : Int32))) (lv' := [(4, .int (v4_5 + (1 : Int32))), (3, .ref (b3 0)), (0, .ref (a0 0))]) hx hb dX7_seekOrder_48 hl (k := 0) rfl rfl (by decide) rfl (fun ls hl => ?_)
          refine lv_goto (tgt := 16) hx hb dX7_seekOrder_51 (by decide) ?_
          exact ih16 (v4_5 + (1 : Int32)) q13.2 hM _ _ hw _ (lv_sub hl [0, 1, 2] rfl)
    exact hW16 300 (0 : Int32) (fr0 U0 tp0) hL16 _ _ hw _ (lv_sub hl [0, 1, 2] rfl)
theorem hd_X7_order : yX7_order.cls = RX7 ∧ yX7_order.cls ≠ "java/lang/invoke/MethodHandle" ∧ yX7_order.cls ≠ "java/lang/invoke/VarHandle" ∧ (parseMethodDescriptor yX7_order.desc).map (fun d => d.parameters.length) = some 1 := by decide +kernel
set_option maxHeartbeats 4000000 in
set_option maxRecDepth 100000 in
theorem c_X7_order (l : Launch) (g : Gm) (a0 : Nat → Nat) (U0 : TS) (V0 : TS) (M0 : LTS) (R0 : LTS) (kv : Value) (t0 : Tr) (tp0 : Option (Nat → Int32)) (h0 : tpOf t0 = tp0) (p1 : Int32) {q : (Int32 × TS × (Option (Nat → Int32)))} (hM : f_X7_order U0 V0 M0 R0 tp0 p1 = some q) : MB l yX7_order wsX7_order 15 390 g [.ref (a0 0), .int p1] (fun t => (wXM g a0 U0 V0 M0 R0 kv (tvOf t)) ++ wOT g t) t0 (some (.int q.1)) (fun t => (wXM g a0 U0 q.2.1 M0 R0 kv (tvOf t)) ++ wOT g t) q.2.2 := by
  intro sz
  refine Met.ofW (cc := cX7_order) (maxL := 2) (ret := (some .int)) (by decide) rfl ?_
  intro p e s m args below meth c s₁ B hml hv
  obtain ⟨rfl, hsz, hP, hK, hD0⟩ := hv
  have hx := B.exec; have hb := B.bytes; have hr := B.returns
  have hts := atoms_spec (ws := wsX7_order) B.pre
  have hown : s.vm.findClass RX7 = some m.cls := findClass_of_methodNamed B.named
  have hlocks := B.notSynchronized
  have hS : CallFix p m c cX7_order 2 s _ wsX7_order RX7 := ⟨hx, hb, hml, hown, hts⟩
  have hin_X7 : ∀ w ∈ wsX70, w ∈ wsX7_order := fun w h => (List.mem_cons_of_mem _ (List.mem_append_right _ h))
  subst hsz
  have hw := wk_start hP hD0
  have hA : ∀ q : Nat, s.heap.size ≤ q → va_A ((wXM g a0 U0 V0 M0 R0 kv (tvOf t0)) ++ (wOT g t0)) s.heap.size q := fun q h => Or.inr h
  generalize va_A ((wXM g a0 U0 V0 M0 R0 kv (tvOf t0)) ++ (wOT g t0)) s.heap.size = A at hw hA ⊢
  clear hP hD0
  have hl := lv_entry ([.ref (a0 0), .int p1]) (n := 2) (Nat.le_of_ble_eq_true rfl)
  rw [lg_entry_eq]
  generalize (lg_sl ([.ref (a0 0), .int p1]) ++ List.replicate (2 - (lg_sl ([.ref (a0 0), .int p1])).length) Slot.unset).toArray = ls at hl ⊢
  have hl : lv_has ls 2 [(0, .ref (a0 0)), (1, .int p1)] := hl
  refine W_nl t0 ?_
  rw [f_X7_order] at hM
  refine lv_iload_n hx hb dX7_order_0 rfl (lv_at hl 1 rfl) ?_
  refine lv_i2l (v := ((p1).toInt64)) hx hb dX7_order_1 rfl ?_
  refine lv_ldc2 (v := (-1 : Int64)) hx hb hown (hts _ (mi 1 rfl)) dX7_order_2 ?_
  refine lv_aload_n hx hb dX7_order_5 rfl (lv_at hl 0 rfl) ?_
  refine wk_get hx hb hts hin_X7 hown hK hw.1 7 0 10 (.int (U0 10 0)) rfl rfl (by decide) (mi 2 rfl) rfl rfl dX7_order_6 ?_
  refine lv_iconst (v := (1 : Int32)) hx hb dX7_order_9 (by decide) ?_
  refine lv_isub hx hb dX7_order_10 ?_
  refine lv_i2l (v := ((((U0 10 0) - (1 : Int32))).toInt64)) hx hb dX7_order_11 rfl ?_
  refine rSR (wc := ([] : va_W)) (As := [.long ((p1).toInt64), .long (-1 : Int64), .long ((((U0 10 0) - (1 : Int32))).toInt64)]) (rest := []) hS (c_X7_in l g ((p1).toInt64) (-1 : Int64) ((((U0 10 0) - (1 : Int32))).toInt64)) gX7_order_X7_in rfl hd_X7_in ⟨Nat.le_of_ble_eq_true rfl, Nat.le_of_ble_eq_true rfl⟩ hK (hP_nil) rfl hl.1 rfl (Nat.le_of_ble_eq_true rfl) dX7_order_12 ⟨nlc _ _ _, nlc _ _ _⟩ ?_
  refine lv_if_ne (tgt := 25) hx hb dX7_order_15 (by decide) (fun c2 => ?_) (fun c2 => ?_)
  · replace hM := itn c2 hM
    refine lv_aload_n hx hb dX7_order_25 rfl (lv_at hl 0 rfl) ?_
    refine lv_iconst (v := (-1 : Int32)) hx hb dX7_order_26 (by decide) ?_
    refine wk_put (wq := ((wXM g a0 U0 (up V0 32 (fun _ => (-1 : Int32))) M0 R0 kv (tvOf t0)) ++ (wOT g t0))) hx hb hts hin_X7 tyX7 tyX7_ok nmX7 hown hK hw 7 0 32 rfl rfl (by decide) (mi 3 rfl) rfl rfl rfl rfl (Nat.le_of_ble_eq_true rfl) dX7_order_27 rfl (fun H locs hw => ?_)
    refine lv_aload_n hx hb dX7_order_30 rfl (lv_at hl 0 rfl) ?_
    refine lv_iconst (v := (0 : Int32)) hx hb dX7_order_31 (by decide) ?_
    refine lv_iconst (v := (0 : Int32)) hx hb dX7_order_32 (by decide) ?_
    obtain ⟨q6, h5, hM⟩ := bd hM
    obtain ⟨k7, hM⟩ := ck hM
    refine rVB (t0 := t0) (As := [.int (0 : Int32), .int (0 : Int32)]) (rest := []) (hn := (Nat.le_refl _)) hS (c_X7_seekOrder l g a0 kv 9 U0 (up V0 32 (fun _ => (-1 : Int32))) M0 R0 t0 tp0 h0 (0 : Int32) (0 : Int32) h5) k7 gX7_order_X7_seekOrder rfl hd_X7_seekOrder ⟨Nat.le_of_ble_eq_true rfl, Nat.le_of_ble_eq_true rfl⟩ hK hw hA rfl rfl rfl rfl hl.1 rfl (Nat.le_of_ble_eq_true rfl) dX7_order_33 (fun t8 ht9 hn10 H locs hw => ?_)
    have hw : Wk g A s.heap H locs ((wXM g a0 U0 q6.1 M0 R0 kv (tvOf t8)) ++ (wOT g t8)) := hw
    refine lv_iload_n hx hb dX7_order_36 rfl (lv_at hl 1 rfl) ?_
    refine lv_iconst (v := (-1 : Int32)) hx hb dX7_order_37 (by decide) ?_
    refine lv_icmp_ne (tgt := 48) hx hb dX7_order_38 (by decide) (fun c11 => ?_) (fun c11 => ?_)
    · replace hM := itn c11 hM
      refine lv_aload_n hx hb dX7_order_48 rfl (lv_at hl 0 rfl) ?_
      refine wk_get hx hb hts hin_X7 hown hK hw.1 7 0 31 (.ref (a0 19)) rfl rfl (by decide) (mi 4 rfl) rfl rfl dX7_order_49 ?_
      refine lv_iload_n hx hb dX7_order_52 rfl (lv_at hl 1 rfl) ?_
      obtain ⟨k12, hM⟩ := ck hM
      refine wk_iald hx hb hK hw.1 19 7 (q6.1 31) rfl k12 dX7_order_53 ?_
      obtain rfl := Option.some.inj hM
      refine W.widen (k := 28 * nlOf t0) (n := 759 * nlOf t0) (nlc _ _ _) (nlc _ _ _) ?_
      exact W.iret hx hb hr (fun t ht _ => ⟨rfl, ⟨t8, ht9, by rw [ht]; exact hw.1, hw.2.1⟩, hw.2.2.F ht⟩) hw.2.2.2.2 dX7_order_54
    · replace hM := itp c11 hM
      refine lv_aload_n hx hb dX7_order_41 rfl (lv_at hl 0 rfl) ?_
      refine wk_get hx hb hts hin_X7 hown hK hw.1 7 0 32 (.int (q6.1 32 0)) rfl rfl (by decide) (mi 3 rfl) rfl rfl dX7_order_42 ?_
      refine lv_goto (tgt := 54) hx hb dX7_order_45 (by decide) ?_
      obtain rfl := Option.some.inj hM
      refine W.widen (k := 28 * nlOf t0) (n := 759 * nlOf t0) (nlc _ _ _) (nlc _ _ _) ?_
      exact W.iret hx hb hr (fun t ht _ => ⟨rfl, ⟨t8, ht9, by rw [ht]; exact hw.1, hw.2.1⟩, hw.2.2.F ht⟩) hw.2.2.2.2 dX7_order_54
  · replace hM := itp c2 hM
    refine lv_aload_n hx hb dX7_order_18 rfl (lv_at hl 0 rfl) ?_
    refine lv_bipush (v := (-2 : Int32)) hx hb dX7_order_19 (by decide) ?_
    obtain ⟨q4, h3, hM⟩ := bd hM
    refine rVWp (wc := (wXM g a0 U0 V0 M0 R0 kv (tvOf t0))) (wq := ((wXM g a0 U0 q4.2 M0 R0 kv (tvOf t0)) ++ (wOT g t0))) (As := [.int (-2 : Int32)]) (rest := []) (q0 := 0) hS (c_X7_refuse l g a0 kv (tvOf t0) U0 V0 M0 R0 (-2 : Int32) h3) gX7_order_X7_refuse rfl hd_X7_refuse ⟨Nat.le_of_ble_eq_true rfl, Nat.le_of_ble_eq_true rfl⟩ hK hw hA (pm_2_0 _ _) rfl (pm_2_0 _ _) rfl rfl rfl rfl hl.1 rfl (Nat.le_of_ble_eq_true rfl) dX7_order_21 ⟨nlc _ _ _, nlc _ _ _⟩ (fun H locs hw => ?_)
    obtain rfl := Option.some.inj hM
    refine W.widen (k := 28 * nlOf t0) (n := 759 * nlOf t0) (nlc _ _ _) (nlc _ _ _) ?_
    exact W.iret hx hb hr (fun t ht _ => ⟨rfl, ⟨t0, h0, by rw [ht]; exact hw.1, hw.2.1⟩, hw.2.2.F ht⟩) hw.2.2.2.2 dX7_order_24
