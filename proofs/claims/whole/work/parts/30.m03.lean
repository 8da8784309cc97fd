theorem hd_X7_copy : yX7_copy.cls = RX7 ∧ yX7_copy.cls ≠ "java/lang/invoke/MethodHandle" ∧ yX7_copy.cls ≠ "java/lang/invoke/VarHandle" ∧ (parseMethodDescriptor yX7_copy.desc).map (fun d => d.parameters.length) = some 5 := by decide +kernel
set_option maxHeartbeats 4000000 in
set_option maxRecDepth 100000 in
theorem c_X7_copy (l : Launch) (g : Gm) (a0 : Nat → Nat) (kv : Value) (tv : Value) (U0 : TS) (V0 : TS) (M0 : LTS) (R0 : LTS) (p1 : Int32) (p2 : Int32) (p3 : Int32) (p4 : Int32) (p5 : Int32) {q : (Int32 × TS × LTS × LTS)} (hM : f_X7_copy U0 V0 M0 R0 p1 p2 p3 p4 p5 = some q) : MW l yX7_copy wsX7_copy 1 25 g [.ref (a0 0), .int p1, .int p2, .int p3, .int p4, .int p5] (wXM g a0 U0 V0 M0 R0 kv tv) (some (.int q.1)) (wXM g a0 U0 q.2.1 q.2.2.1 q.2.2.2 kv tv) := by
  intro sz
  refine Met.ofW (cc := cX7_copy) (maxL := 7) (ret := (some .int)) (by decide) rfl ?_
  intro p e s m args below meth c s₁ B hml hv
  obtain ⟨rfl, hsz, hP, hK, hD0⟩ := hv
  have hx := B.exec; have hb := B.bytes; have hr := B.returns
  have hts := atoms_spec (ws := wsX7_copy) B.pre
  have hown : s.vm.findClass RX7 = some m.cls := findClass_of_methodNamed B.named
  have hlocks := B.notSynchronized
  have hS : CallFix p m c cX7_copy 7 s _ wsX7_copy RX7 := ⟨hx, hb, hml, hown, hts⟩
  have hin_X7 : ∀ w ∈ wsX70, w ∈ wsX7_copy := fun w h => (List.mem_cons_of_mem _ (List.mem_append_right _ h))
  subst hsz
  have hw := wk_start hP hD0
  have hA : ∀ q : Nat, s.heap.size ≤ q → va_A (wXM g a0 U0 V0 M0 R0 kv tv) s.heap.size q := fun q h => Or.inr h
  generalize va_A (wXM g a0 U0 V0 M0 R0 kv tv) s.heap.size = A at hw hA ⊢
  clear hP hD0
  have hl := lv_entry ([.ref (a0 0), .int p1, .int p2, .int p3, .int p4, .int p5]) (n := 7) (Nat.le_of_ble_eq_true rfl)
  rw [lg_entry_eq]
  generalize (lg_sl ([.ref (a0 0), .int p1, .int p2, .int p3, .int p4, .int p5]) ++ List.replicate (7 - (lg_sl ([.ref (a0 0), .int p1, .int p2, .int p3, .int p4, .int p5])).length) Slot.unset).toArray = ls at hl ⊢
  have hl : lv_has ls 7 [(0, .ref (a0 0)), (1, .int p1), (2, .int p2), (3, .int p3), (4, .int p4), (5, .int p5)] := hl
  rw [f_X7_copy] at hM
  refine lv_iload_n hx hb dX7_copy_0 rfl (lv_at hl 1 rfl) ?_
  refine lv_i2l (v := ((p1).toInt64)) hx hb dX7_copy_1 rfl ?_
  refine lv_lconst (v := (0 : Int64)) hx hb dX7_copy_2 (by decide) ?_
  refine lv_ldc2 (v := (7 : Int64)) hx hb hown (hts _ (mi 1 rfl)) dX7_copy_3 ?_
  refine rSR (wc := ([] : va_W)) (As := [.long ((p1).toInt64), .long (0 : Int64), .long (7 : Int64)]) (rest := []) hS (c_X7_in l g ((p1).toInt64) (0 : Int64) (7 : Int64)) gX7_copy_X7_in rfl hd_X7_in ⟨Nat.le_of_ble_eq_true rfl, Nat.le_of_ble_eq_true rfl⟩ hK (hP_nil) rfl hl.1 rfl (Nat.le_of_ble_eq_true rfl) dX7_copy_6 ⟨Nat.zero_le _, Nat.zero_le _⟩ ?_
  refine lv_if_eq (tgt := 24) hx hb dX7_copy_9 (by decide) (fun c2 => ?_) (fun c2 => ?_)
  · replace hM := itp c2 hM
    refine lv_aload_n hx hb dX7_copy_24 rfl (lv_at hl 0 rfl) ?_
    refine lv_bipush (v := (-2 : Int32)) hx hb dX7_copy_25 (by decide) ?_
    obtain ⟨q4, h3, hM⟩ := bd hM
    refine rVWp (wc := (wXM g a0 U0 V0 M0 R0 kv tv)) (wq := (wXM g a0 U0 q4.2 M0 R0 kv tv)) (As := [.int (-2 : Int32)]) (rest := []) (q0 := 0) hS (c_X7_refuse l g a0 kv tv U0 V0 M0 R0 (-2 : Int32) h3) gX7_copy_X7_refuse rfl hd_X7_refuse ⟨Nat.le_of_ble_eq_true rfl, Nat.le_of_ble_eq_true rfl⟩ hK hw hA (pm_1_0 _) rfl (pm_1_0 _) rfl rfl rfl rfl hl.1 rfl (Nat.le_of_ble_eq_true rfl) dX7_copy_27 ⟨Nat.zero_le _, Nat.zero_le _⟩ (fun H locs hw => ?_)
    obtain rfl := Option.some.inj hM
    exact W.iret hx hb hr (fun t ht _ => ⟨rfl, by rw [ht]; exact hw.1, hw.2.2.F ht⟩) hw.2.2.2.2 dX7_copy_30
  · replace hM := itn c2 hM
    refine lv_iload_n hx hb dX7_copy_12 rfl (lv_at hl 2 rfl) ?_
    refine lv_i2l (v := ((p2).toInt64)) hx hb dX7_copy_13 rfl ?_
    refine lv_lconst (v := (0 : Int64)) hx hb dX7_copy_14 (by decide) ?_
    refine lv_ldc2 (v := (7 : Int64)) hx hb hown (hts _ (mi 1 rfl)) dX7_copy_15 ?_
    refine rSR (wc := ([] : va_W)) (As := [.long ((p2).toInt64), .long (0 : Int64), .long (7 : Int64)]) (rest := []) hS (c_X7_in l g ((p2).toInt64) (0 : Int64) (7 : Int64)) gX7_copy_X7_in rfl hd_X7_in ⟨Nat.le_of_ble_eq_true rfl, Nat.le_of_ble_eq_true rfl⟩ hK (hP_nil) rfl hl.1 rfl (Nat.le_of_ble_eq_true rfl) dX7_copy_18 ⟨Nat.zero_le _, Nat.zero_le _⟩ ?_
    refine lv_if_ne (tgt := 31) hx hb dX7_copy_21 (by decide) (fun c6 => ?_) (fun c6 => ?_)
    · replace hM := itn c6 hM
      refine lv_aload_n hx hb dX7_copy_31 rfl (lv_at hl 0 rfl) ?_
      refine wk_get hx hb hts hin_X7 hown hK hw.1 7 0 0 (.ref (a0 9)) rfl rfl (by decide) (mi 2 rfl) rfl rfl dX7_copy_32 ?_
      refine lv_iload_n hx hb dX7_copy_35 rfl (lv_at hl 1 rfl) ?_
      obtain ⟨k9, hM⟩ := ck hM
      refine wk_iald hx hb hK hw.1 9 8 (V0 0) rfl k9 dX7_copy_36 ?_
      refine lv_iconst (v := (2 : Int32)) hx hb dX7_copy_37 (by decide) ?_
      refine lv_icmp_eq (tgt := 86) hx hb dX7_copy_38 (by decide) (fun c10 => ?_) (fun c10 => ?_)
      · replace hM := itp c10 hM
        refine lv_aload_n hx hb dX7_copy_86 rfl (lv_at hl 0 rfl) ?_
        refine lv_bipush (v := (-3 : Int32)) hx hb dX7_copy_87 (by decide) ?_
        obtain ⟨q12, h11, hM⟩ := bd hM
        refine rVWp (wc := (wXM g a0 U0 V0 M0 R0 kv tv)) (wq := (wXM g a0 U0 q12.2 M0 R0 kv tv)) (As := [.int (-3 : Int32)]) (rest := []) (q0 := 0) hS (c_X7_refuse l g a0 kv tv U0 V0 M0 R0 (-3 : Int32) h11) gX7_copy_X7_refuse rfl hd_X7_refuse ⟨Nat.le_of_ble_eq_true rfl, Nat.le_of_ble_eq_true rfl⟩ hK hw hA (pm_1_0 _) rfl (pm_1_0 _) rfl rfl rfl rfl hl.1 rfl (Nat.le_of_ble_eq_true rfl) dX7_copy_89 ⟨Nat.zero_le _, Nat.zero_le _⟩ (fun H locs hw => ?_)
        obtain rfl := Option.some.inj hM
        exact W.iret hx hb hr (fun t ht _ => ⟨rfl, by rw [ht]; exact hw.1, hw.2.2.F ht⟩) hw.2.2.2.2 dX7_copy_92
      · replace hM := itn c10 hM
        refine lv_aload_n hx hb dX7_copy_41 rfl (lv_at hl 0 rfl) ?_
        refine wk_get hx hb hts hin_X7 hown hK hw.1 7 0 0 (.ref (a0 9)) rfl rfl (by decide) (mi 2 rfl) rfl rfl dX7_copy_42 ?_
        refine lv_iload_n hx hb dX7_copy_45 rfl (lv_at hl 2 rfl) ?_
        obtain ⟨k13, hM⟩ := ck hM
        refine wk_iald hx hb hK hw.1 9 8 (V0 0) rfl k13 dX7_copy_46 ?_
        refine lv_iconst (v := (2 : Int32)) hx hb dX7_copy_47 (by decide) ?_
        refine lv_icmp_eq (tgt := 86) hx hb dX7_copy_48 (by decide) (fun c14 => ?_) (fun c14 => ?_)
        · replace hM := itp c14 hM
          refine lv_aload_n hx hb dX7_copy_86 rfl (lv_at hl 0 rfl) ?_
          refine lv_bipush (v := (-3 : Int32)) hx hb dX7_copy_87 (by decide) ?_
          obtain ⟨q16, h15, hM⟩ := bd hM
          refine rVWp (wc := (wXM g a0 U0 V0 M0 R0 kv tv)) (wq := (wXM g a0 U0 q16.2 M0 R0 kv tv)) (As := [.int (-3 : Int32)]) (rest := []) (q0 := 0) hS (c_X7_refuse l g a0 kv tv U0 V0 M0 R0 (-3 : Int32) h15) gX7_copy_X7_refuse rfl hd_X7_refuse ⟨Nat.le_of_ble_eq_true rfl, Nat.le_of_ble_eq_true rfl⟩ hK hw hA (pm_1_0 _) rfl (pm_1_0 _) rfl rfl rfl rfl hl.1 rfl (Nat.le_of_ble_eq_true rfl) dX7_copy_89 ⟨Nat.zero_le _, Nat.zero_le _⟩ (fun H locs hw => ?_)
          obtain rfl := Option.some.inj hM
          exact W.iret hx hb hr (fun t ht _ => ⟨rfl, by rw [ht]; exact hw.1, hw.2.2.F ht⟩) hw.2.2.2.2 dX7_copy_92
        · replace hM := itn c14 hM
          refine lv_aload_n hx hb dX7_copy_51 rfl (lv_at hl 0 rfl) ?_
          refine wk_get hx hb hts hin_X7 hown hK hw.1 7 0 0 (.ref (a0 9)) rfl rfl (by decide) (mi 2 rfl) rfl rfl dX7_copy_52 ?_
          refine lv_iload_n hx hb dX7_copy_55 rfl (lv_at hl 1 rfl) ?_
          refine wk_iald hx hb hK hw.1 9 8 (V0 0) rfl k9 dX7_copy_56 ?_
          refine lv_iconst (v := (1 : Int32)) hx hb dX7_copy_57 (by decide) ?_
          refine lv_icmp_ne (tgt := 93) hx hb dX7_copy_58 (by decide) (fun c17 => ?_) (fun c17 => ?_)
          · replace hM := itn c17 hM
            refine lv_aload_n hx hb dX7_copy_93 rfl (lv_at hl 0 rfl) ?_
            refine wk_get hx hb hts hin_X7 hown hK hw.1 7 0 0 (.ref (a0 9)) rfl rfl (by decide) (mi 2 rfl) rfl rfl dX7_copy_94 ?_
            refine lv_iload_n hx hb dX7_copy_97 rfl (lv_at hl 1 rfl) ?_
            refine wk_iald hx hb hK hw.1 9 8 (V0 0) rfl k9 dX7_copy_98 ?_
            refine lv_if_eq (tgt := 111) hx hb dX7_copy_99 (by decide) (fun c100 => ?_) (fun c100 => ?_)
            · replace hM := itp c100 hM
              refine lv_aload_n hx hb dX7_copy_111 rfl (lv_at hl 0 rfl) ?_
              refine lv_bipush (v := (-4 : Int32)) hx hb dX7_copy_112 (by decide) ?_
              obtain ⟨q102, h101, hM⟩ := bd hM
              refine rVWp (wc := (wXM g a0 U0 V0 M0 R0 kv tv)) (wq := (wXM g a0 U0 q102.2 M0 R0 kv tv)) (As := [.int (-4 : Int32)]) (rest := []) (q0 := 0) hS (c_X7_refuse l g a0 kv tv U0 V0 M0 R0 (-4 : Int32) h101) gX7_copy_X7_refuse rfl hd_X7_refuse ⟨Nat.le_of_ble_eq_true rfl, Nat.le_of_ble_eq_true rfl⟩ hK hw hA (pm_1_0 _) rfl (pm_1_0 _) rfl rfl rfl rfl hl.1 rfl (Nat.le_of_ble_eq_true rfl) dX7_copy_114 ⟨Nat.zero_le _, Nat.zero_le _⟩ (fun H locs hw => ?_)
              obtain rfl := Option.some.inj hM
              exact W.iret hx hb hr (fun t ht _ => ⟨rfl, by rw [ht]; exact hw.1, hw.2.2.F ht⟩) hw.2.2.2.2 dX7_copy_117
            · replace hM := itn c100 hM
              refine lv_aload_n hx hb dX7_copy_102 rfl (lv_at hl 0 rfl) ?_
              refine wk_get hx hb hts hin_X7 hown hK hw.1 7 0 0 (.ref (a0 9)) rfl rfl (by decide) (mi 2 rfl) rfl rfl dX7_copy_103 ?_
              refine lv_iload_n hx hb dX7_copy_106 rfl (lv_at hl 2 rfl) ?_
              refine wk_iald hx hb hK hw.1 9 8 (V0 0) rfl k13 dX7_copy_107 ?_
              refine lv_if_ne (tgt := 118) hx hb dX7_copy_108 (by decide) (fun c103 => ?_) (fun c103 => ?_)
              · replace hM := itn c103 hM
                refine lv_iload hx hb dX7_copy_118 (lv_at hl 5 rfl) ?_
                refine lv_if_lt (tgt := 181) hx hb dX7_copy_120 (by decide) (fun c106 => ?_) (fun c106 => ?_)
                · replace hM := itp c106 hM
                  refine lv_aload_n hx hb dX7_copy_181 rfl (lv_at hl 0 rfl) ?_
                  refine lv_bipush (v := (-2 : Int32)) hx hb dX7_copy_182 (by decide) ?_
                  obtain ⟨q108, h107, hM⟩ := bd hM
                  refine rVWp (wc := (wXM g a0 U0 V0 M0 R0 kv tv)) (wq := (wXM g a0 U0 q108.2 M0 R0 kv tv)) (As := [.int (-2 : Int32)]) (rest := []) (q0 := 0) hS (c_X7_refuse l g a0 kv tv U0 V0 M0 R0 (-2 : Int32) h107) gX7_copy_X7_refuse rfl hd_X7_refuse ⟨Nat.le_of_ble_eq_true rfl, Nat.le_of_ble_eq_true rfl⟩ hK hw hA (pm_1_0 _) rfl (pm_1_0 _) rfl rfl rfl rfl hl.1 rfl (Nat.le_of_ble_eq_true rfl) dX7_copy_184 ⟨Nat.zero_le _, Nat.zero_le _⟩ (fun H locs hw => ?_)
                  obtain rfl := Option.some.inj hM
                  exact W.iret hx hb hr (fun t ht _ => ⟨rfl, by rw [ht]; exact hw.1, hw.2.2.F ht⟩) hw.2.2.2.2 dX7_copy_187
                · replace hM := itn c106 hM
                  refine lv_iload_n hx hb dX7_copy_123 rfl (lv_at hl 3 rfl) ?_
                  refine lv_if_lt (tgt := 181) hx hb dX7_copy_124 (by decide) (fun c109 => ?_) (fun c109 => ?_)
                  · replace hM := itp c109 hM
                    refine lv_aload_n hx hb dX7_copy_181 rfl (lv_at hl 0 rfl) ?_
                    refine lv_bipush (v := (-2 : Int32)) hx hb dX7_copy_182 (by decide) ?_
                    obtain ⟨q111, h110, hM⟩ := bd hM
                    refine rVWp (wc := (wXM g a0 U0 V0 M0 R0 kv tv)) (wq := (wXM g a0 U0 q111.2 M0 R0 kv tv)) (As := [.int (-2 : Int32)]) (rest := []) (q0 := 0) hS (c_X7_refuse l g a0 kv tv U0 V0 M0 R0 (-2 : Int32) h110) gX7_copy_X7_refuse rfl hd_X7_refuse ⟨Nat.le_of_ble_eq_true rfl, Nat.le_of_ble_eq_true rfl⟩ hK hw hA (pm_1_0 _) rfl (pm_1_0 _) rfl rfl rfl rfl hl.1 rfl (Nat.le_of_ble_eq_true rfl) dX7_copy_184 ⟨Nat.zero_le _, Nat.zero_le _⟩ (fun H locs hw => ?_)
                    obtain rfl := Option.some.inj hM
                    exact W.iret hx hb hr (fun t ht _ => ⟨rfl, by rw [ht]; exact hw.1, hw.2.2.F ht⟩) hw.2.2.2.2 dX7_copy_187
                  · replace hM := itn c109 hM
                    refine lv_iload hx hb dX7_copy_127 (lv_at hl 4 rfl) ?_
                    refine lv_if_lt (tgt := 181) hx hb dX7_copy_129 (by decide) (fun c112 => ?_) (fun c112 => ?_)
                    · replace hM := itp c112 hM
                      refine lv_aload_n hx hb dX7_copy_181 rfl (lv_at hl 0 rfl) ?_
                      refine lv_bipush (v := (-2 : Int32)) hx hb dX7_copy_182 (by decide) ?_
                      obtain ⟨q114, h113, hM⟩ := bd hM
                      refine rVWp (wc := (wXM g a0 U0 V0 M0 R0 kv tv)) (wq := (wXM g a0 U0 q114.2 M0 R0 kv tv)) (As := [.int (-2 : Int32)]) (rest := []) (q0 := 0) hS (c_X7_refuse l g a0 kv tv U0 V0 M0 R0 (-2 : Int32) h113) gX7_copy_X7_refuse rfl hd_X7_refuse ⟨Nat.le_of_ble_eq_true rfl, Nat.le_of_ble_eq_true rfl⟩ hK hw hA (pm_1_0 _) rfl (pm_1_0 _) rfl rfl rfl rfl hl.1 rfl (Nat.le_of_ble_eq_true rfl) dX7_copy_184 ⟨Nat.zero_le _, Nat.zero_le _⟩ (fun H locs hw => ?_)
                      obtain rfl := Option.some.inj hM
                      exact W.iret hx hb hr (fun t ht _ => ⟨rfl, by rw [ht]; exact hw.1, hw.2.2.F ht⟩) hw.2.2.2.2 dX7_copy_187
                    · replace hM := itn c112 hM
                      refine lv_iload hx hb dX7_copy_132 (lv_at hl 5 rfl) ?_
                      refine lv_aload_n hx hb dX7_copy_134 rfl (lv_at hl 0 rfl) ?_
                      refine wk_get hx hb hts hin_X7 hown hK hw.1 7 0 2 (.ref (a0 11)) rfl rfl (by decide) (mi 4 rfl) rfl rfl dX7_copy_135 ?_
                      refine lv_iload_n hx hb dX7_copy_138 rfl (lv_at hl 1 rfl) ?_
                      refine wk_iald hx hb hK hw.1 11 8 (V0 2) rfl k9 dX7_copy_139 ?_
                      refine lv_icmp_gt (tgt := 181) hx hb dX7_copy_140 (by decide) (fun c115 => ?_) (fun c115 => ?_)
                      · replace hM := itp c115 hM
                        refine lv_aload_n hx hb dX7_copy_181 rfl (lv_at hl 0 rfl) ?_
                        refine lv_bipush (v := (-2 : Int32)) hx hb dX7_copy_182 (by decide) ?_
                        obtain ⟨q117, h116, hM⟩ := bd hM
                        refine rVWp (wc := (wXM g a0 U0 V0 M0 R0 kv tv)) (wq := (wXM g a0 U0 q117.2 M0 R0 kv tv)) (As := [.int (-2 : Int32)]) (rest := []) (q0 := 0) hS (c_X7_refuse l g a0 kv tv U0 V0 M0 R0 (-2 : Int32) h116) gX7_copy_X7_refuse rfl hd_X7_refuse ⟨Nat.le_of_ble_eq_true rfl, Nat.le_of_ble_eq_true rfl⟩ hK hw hA (pm_1_0 _) rfl (pm_1_0 _) rfl rfl rfl rfl hl.1 rfl (Nat.le_of_ble_eq_true rfl) dX7_copy_184 ⟨Nat.zero_le _, Nat.zero_le _⟩ (fun H locs hw => ?_)
                        obtain rfl := Option.some.inj hM
                        exact W.iret hx hb hr (fun t ht _ => ⟨rfl, by rw [ht]; exact hw.1, hw.2.2.F ht⟩) hw.2.2.2.2 dX7_copy_187
                      · replace hM := itn c115 hM
                        refine lv_iload hx hb dX7_copy_143 (lv_at hl 5 rfl) ?_
                        refine lv_aload_n hx hb dX7_copy_145 rfl (lv_at hl 0 rfl) ?_
                        refine wk_get hx hb hts hin_X7 hown hK hw.1 7 0 2 (.ref (a0 11)) rfl rfl (by decide) (mi 4 rfl) rfl rfl dX7_copy_146 ?_
                        refine lv_iload_n hx hb dX7_copy_149 rfl (lv_at hl 2 rfl) ?_
                        refine wk_iald hx hb hK hw.1 11 8 (V0 2) rfl k13 dX7_copy_150 ?_
                        refine lv_icmp_gt (tgt := 181) hx hb dX7_copy_151 (by decide) (fun c118 => ?_) (fun c118 => ?_)
                        · replace hM := itp c118 hM
                          refine lv_aload_n hx hb dX7_copy_181 rfl (lv_at hl 0 rfl) ?_
                          refine lv_bipush (v := (-2 : Int32)) hx hb dX7_copy_182 (by decide) ?_
                          obtain ⟨q120, h119, hM⟩ := bd hM
                          refine rVWp (wc := (wXM g a0 U0 V0 M0 R0 kv tv)) (wq := (wXM g a0 U0 q120.2 M0 R0 kv tv)) (As := [.int (-2 : Int32)]) (rest := []) (q0 := 0) hS (c_X7_refuse l g a0 kv tv U0 V0 M0 R0 (-2 : Int32) h119) gX7_copy_X7_refuse rfl hd_X7_refuse ⟨Nat.le_of_ble_eq_true rfl, Nat.le_of_ble_eq_true rfl⟩ hK hw hA (pm_1_0 _) rfl (pm_1_0 _) rfl rfl rfl rfl hl.1 rfl (Nat.le_of_ble_eq_true rfl) dX7_copy_184 ⟨Nat.zero_le _, Nat.zero_le _⟩ (fun H locs hw => ?_)
                          obtain rfl := Option.some.inj hM
                          exact W.iret hx hb hr (fun t ht _ => ⟨rfl, by rw [ht]; exact hw.1, hw.2.2.F ht⟩) hw.2.2.2.2 dX7_copy_187
                        · replace hM := itn c118 hM
                          refine lv_iload_n hx hb dX7_copy_154 rfl (lv_at hl 3 rfl) ?_
                          refine lv_aload_n hx hb dX7_copy_155 rfl (lv_at hl 0 rfl) ?_
                          refine wk_get hx hb hts hin_X7 hown hK hw.1 7 0 2 (.ref (a0 11)) rfl rfl (by decide) (mi 4 rfl) rfl rfl dX7_copy_156 ?_
                          refine lv_iload_n hx hb dX7_copy_159 rfl (lv_at hl 1 rfl) ?_
                          refine wk_iald hx hb hK hw.1 11 8 (V0 2) rfl k9 dX7_copy_160 ?_
                          refine lv_iload hx hb dX7_copy_161 (lv_at hl 5 rfl) ?_
                          refine lv_isub hx hb dX7_copy_163 ?_
                          refine lv_icmp_gt (tgt := 181) hx hb dX7_copy_164 (by decide) (fun c121 => ?_) (fun c121 => ?_)
                          · replace hM := itp c121 hM
                            refine lv_aload_n hx hb dX7_copy_181 rfl (lv_at hl 0 rfl) ?_
                            refine lv_bipush (v := (-2 : Int32)) hx hb dX7_copy_182 (by decide) ?_
                            obtain ⟨q123, h122, hM⟩ := bd hM
                            refine rVWp (wc := (wXM g a0 U0 V0 M0 R0 kv tv)) (wq := (wXM g a0 U0 q123.2 M0 R0 kv tv)) (As := [.int (-2 : Int32)]) (rest := []) (q0 := 0) hS (c_X7_refuse l g a0 kv tv U0 V0 M0 R0 (-2 : Int32) h122) gX7_copy_X7_refuse rfl hd_X7_refuse ⟨Nat.le_of_ble_eq_true rfl, Nat.le_of_ble_eq_true rfl⟩ hK hw hA (pm_1_0 _) rfl (pm_1_0 _) rfl rfl rfl rfl hl.1 rfl (Nat.le_of_ble_eq_true rfl) dX7_copy_184 ⟨Nat.zero_le _, Nat.zero_le _⟩ (fun H locs hw => ?_)
                            obtain rfl := Option.some.inj hM
                            exact W.iret hx hb hr (fun t ht _ => ⟨rfl, by rw [ht]; exact hw.1, hw.2.2.F ht⟩) hw.2.2.2.2 dX7_copy_187
                          · replace hM := itn c121 hM
                            refine lv_iload hx hb dX7_copy_167 (lv_at hl 4 rfl) ?_
                            refine lv_aload_n hx hb dX7_copy_169 rfl (lv_at hl 0 rfl) ?_
                            refine wk_get hx hb hts hin_X7 hown hK hw.1 7 0 2 (.ref (a0 11)) rfl rfl (by decide) (mi 4 rfl) rfl rfl dX7_copy_170 ?_
                            refine lv_iload_n hx hb dX7_copy_173 rfl (lv_at hl 2 rfl) ?_
                            refine wk_iald hx hb hK hw.1 11 8 (V0 2) rfl k13 dX7_copy_174 ?_
                            refine lv_iload hx hb dX7_copy_175 (lv_at hl 5 rfl) ?_
                            refine lv_isub hx hb dX7_copy_177 ?_
                            refine lv_icmp_le (tgt := 188) hx hb dX7_copy_178 (by decide) (fun c124 => ?_) (fun c124 => ?_)
                            · replace hM := itp c124 hM
                              refine lv_iconst (v := (0 : Int32)) hx hb dX7_copy_188 (by decide) ?_
                              refine lv_istore (lv' := [(6, .int (0 : Int32)), (0, .ref (a0 0)), (1, .int p1), (2, .int p2), (3, .int p3), (4, .int p4), (5, .int p5)]) hx hb dX7_copy_189 hl (by decide) rfl (fun ls hl => ?_)
                              obtain ⟨q127, hL191, hM⟩ := bd hM
                              have hJ191 : ∀ (H : Heap) (locs : List Loc), Wk g A s.heap H locs (wXM g a0 U0 V0 q127 R0 kv tv) → ∀ (ls : Array Slot), lv_has ls 7 [(0, .ref (a0 0)), (2, .int p2), (4, .int p4), (5, .int p5)] → W p l e (headSpec wsX7_copy ({ frames := 1, cells := 0, slots := 0, locals := 25 } : Room)).room s m ([.ref (a0 0), .int p1, .int p2, .int p3, .int p4, .int p5] : List Value).toArray below meth c H locs 0 0 (MQ below (QcW g (some (.int q.1)) (wXM g a0 U0 q.2.1 q.2.2.1 q.2.2.2 kv tv) A) ([.ref (a0 0), .int p1, .int p2, .int p3, .int p4, .int p5] : List Value).toArray s 0 0 A) (F0 m 222 ls []) := by
                                intro H locs hw ls hl
                                refine lv_iconst (v := (0 : Int32)) hx hb dX7_copy_222 (by decide) ?_
                                refine lv_istore (lv' := [(6, .int (0 : Int32)), (0, .ref (a0 0)), (2, .int p2), (4, .int p4), (5, .int p5)]) hx hb dX7_copy_223 hl (by decide) rfl (fun ls hl => ?_)
                                obtain ⟨q133, hL225, hM⟩ := bd hM
                                have hJ225 : ∀ (H : Heap) (locs : List Loc), Wk g A s.heap H locs (wXM g a0 U0 V0 q127 q133 kv tv) → ∀ (ls : Array Slot), lv_has ls 7 [(5, .int p5)] → W p l e (headSpec wsX7_copy ({ frames := 1, cells := 0, slots := 0, locals := 25 } : Room)).room s m ([.ref (a0 0), .int p1, .int p2, .int p3, .int p4, .int p5] : List Value).toArray below meth c H locs 0 0 (MQ below (QcW g (some (.int q.1)) (wXM g a0 U0 q.2.1 q.2.2.1 q.2.2.2 kv tv) A) ([.ref (a0 0), .int p1, .int p2, .int p3, .int p4, .int p5] : List Value).toArray s 0 0 A) (F0 m 257 ls []) := by
                                  intro H locs hw ls hl
                                  refine lv_iload hx hb dX7_copy_257 (lv_at hl 0 rfl) ?_
                                  obtain rfl := Option.some.inj hM
                                  exact W.iret hx hb hr (fun t ht _ => ⟨rfl, by rw [ht]; exact hw.1, hw.2.2.F ht⟩) hw.2.2.2.2 dX7_copy_259
                                have hW225 : ∀ (n : Nat) (v6_131 : Int32) (RL132 : LTS), L_X7_copy_225 p2 p4 p5 q127 n v6_131 RL132 = some q133 → ∀ (H : Heap) (locs : List Loc), Wk g A s.heap H locs (wXM g a0 U0 V0 q127 RL132 kv tv) → ∀ (ls : Array Slot), lv_has ls 7 [(6, .int v6_131), (0, .ref (a0 0)), (2, .int p2), (4, .int p4), (5, .int p5)] → W p l e (headSpec wsX7_copy ({ frames := 1, cells := 0, slots := 0, locals := 25 } : Room)).room s m ([.ref (a0 0), .int p1, .int p2, .int p3, .int p4, .int p5] : List Value).toArray below meth c H locs 0 0 (MQ below (QcW g (some (.int q.1)) (wXM g a0 U0 q.2.1 q.2.2.1 q.2.2.2 kv tv) A) ([.ref (a0 0), .int p1, .int p2, .int p3, .int p4, .int p5] : List Value).toArray s 0 0 A) (F0 m 225 ls []) := by
                                  intro n
                                  induction n with
                                  | zero => intro v6_131 RL132 hM; rw [L_X7_copy_225] at hM; exact nn hM
                                  | succ n ih225 =>
                                    intro v6_131 RL132 hM H locs hw ls hl
                                    rw [L_X7_copy_225] at hM
                                    refine lv_iload hx hb dX7_copy_225 (lv_at hl 0 rfl) ?_
                                    refine lv_iload hx hb dX7_copy_227 (lv_at hl 4 rfl) ?_
                                    refine lv_icmp_ge (tgt := 257) hx hb dX7_copy_229 (by decide) (fun c134 => ?_) (fun c134 => ?_)
                                    · replace hM := itp c134 hM
                                      obtain rfl := Option.some.inj hM
                                      exact hJ225 _ _ hw _ (lv_sub hl [4] rfl)
                                    · replace hM := itn c134 hM
                                      refine lv_aload_n hx hb dX7_copy_232 rfl (lv_at hl 1 rfl) ?_
                                      refine wk_get hx hb hts hin_X7 hown hK hw.1 7 0 3 (.ref (a0 12)) rfl rfl (by decide) (mi 6 rfl) rfl rfl dX7_copy_233 ?_
                                      refine lv_iload_n hx hb dX7_copy_236 rfl (lv_at hl 2 rfl) ?_
                                      refine wk_aald hx hb hK hw.1 12 8 (fun i => a0 (20 + i)) 3 rfl (k13) rfl rfl dX7_copy_237 ?_
                                      refine lv_iload hx hb dX7_copy_238 (lv_at hl 3 rfl) ?_
                                      refine lv_iload hx hb dX7_copy_240 (lv_at hl 0 rfl) ?_
                                      refine lv_iadd hx hb dX7_copy_242 ?_
                                      refine lv_aload_n hx hb dX7_copy_243 rfl (lv_at hl 1 rfl) ?_
                                      refine wk_get hx hb hts hin_X7 hown hK hw.1 7 0 4 (.ref (a0 13)) rfl rfl (by decide) (mi 5 rfl) rfl rfl dX7_copy_244 ?_
                                      refine lv_iload hx hb dX7_copy_247 (lv_at hl 0 rfl) ?_
                                      obtain ⟨k135, hM⟩ := ck hM
                                      refine wk_lald hx hb hK hw.1 13 40 (q127 4) rfl k135 dX7_copy_249 ?_
                                      obtain ⟨k136, hM⟩ := ck hM
                                      refine wk_last (wq := (wXM g a0 U0 V0 q127 (upL RL132 (p2).toNatClampNeg (vp_updL (RL132 (p2).toNatClampNeg) ((p4 + v6_131)).toNatClampNeg ((q127 4) (v6_131).toNatClampNeg))) kv tv)) hx hb hK hw (20 + (p2).toNatClampNeg) 40 (RL132 (p2).toNatClampNeg) (wXM_row (Nat.lt_of_not_le (fun z => k13 (Or.inr z)))) k136 dX7_copy_250 (wXM_set (Nat.lt_of_not_le (fun z => k13 (Or.inr z)))) (fun H locs hw => ?_)
                                      refine lv_iinc (v := (v6_131 + (1 : Int32))) (lv' := [(6, .int (v6_131 + (1 : Int32))), (0, .ref (a0 0)), (2, .int p2), (4, .int p4), (5, .int p5)]) hx hb dX7_copy_251 hl (k := 0) rfl rfl (by decide) rfl (fun ls hl => ?_)
                                      refine lv_goto (tgt := 225) hx hb dX7_copy_254 (by decide) ?_
                                      exact ih225 (v6_131 + (1 : Int32)) (upL RL132 (p2).toNatClampNeg (vp_updL (RL132 (p2).toNatClampNeg) ((p4 + v6_131)).toNatClampNeg ((q127 4) (v6_131).toNatClampNeg))) hM _ _ hw _ (lv_sub hl [0, 1, 2, 3, 4] rfl)
                                exact hW225 300 (0 : Int32) R0 hL225 _ _ hw _ (lv_sub hl [0, 1, 2, 3, 4] rfl)
                              have hW191 : ∀ (n : Nat) (v6_125 : Int32) (ML126 : LTS), L_X7_copy_191 R0 p1 p3 p5 n v6_125 ML126 = some q127 → ∀ (H : Heap) (locs : List Loc), Wk g A s.heap H locs (wXM g a0 U0 V0 ML126 R0 kv tv) → ∀ (ls : Array Slot), lv_has ls 7 [(6, .int v6_125), (0, .ref (a0 0)), (1, .int p1), (2, .int p2), (3, .int p3), (4, .int p4), (5, .int p5)] → W p l e (headSpec wsX7_copy ({ frames := 1, cells := 0, slots := 0, locals := 25 } : Room)).room s m ([.ref (a0 0), .int p1, .int p2, .int p3, .int p4, .int p5] : List Value).toArray below meth c H locs 0 0 (MQ below (QcW g (some (.int q.1)) (wXM g a0 U0 q.2.1 q.2.2.1 q.2.2.2 kv tv) A) ([.ref (a0 0), .int p1, .int p2, .int p3, .int p4, .int p5] : List Value).toArray s 0 0 A) (F0 m 191 ls []) := by
                                intro n
                                induction n with
                                | zero => intro v6_125 ML126 hM; rw [L_X7_copy_191] at hM; exact nn hM
                                | succ n ih191 =>
                                  intro v6_125 ML126 hM H locs hw ls hl
                                  rw [L_X7_copy_191] at hM
                                  refine lv_iload hx hb dX7_copy_191 (lv_at hl 0 rfl) ?_
                                  refine lv_iload hx hb dX7_copy_193 (lv_at hl 6 rfl) ?_
                                  refine lv_icmp_ge (tgt := 222) hx hb dX7_copy_195 (by decide) (fun c128 => ?_) (fun c128 => ?_)
                                  · replace hM := itp c128 hM
                                    obtain rfl := Option.some.inj hM
                                    exact hJ191 _ _ hw _ (lv_sub hl [1, 3, 5, 6] rfl)
                                  · replace hM := itn c128 hM
                                    refine lv_aload_n hx hb dX7_copy_198 rfl (lv_at hl 1 rfl) ?_
                                    refine wk_get hx hb hts hin_X7 hown hK hw.1 7 0 4 (.ref (a0 13)) rfl rfl (by decide) (mi 5 rfl) rfl rfl dX7_copy_199 ?_
                                    refine lv_iload hx hb dX7_copy_202 (lv_at hl 0 rfl) ?_
                                    refine lv_aload_n hx hb dX7_copy_204 rfl (lv_at hl 1 rfl) ?_
                                    refine wk_get hx hb hts hin_X7 hown hK hw.1 7 0 3 (.ref (a0 12)) rfl rfl (by decide) (mi 6 rfl) rfl rfl dX7_copy_205 ?_
                                    refine lv_iload_n hx hb dX7_copy_208 rfl (lv_at hl 2 rfl) ?_
                                    refine wk_aald hx hb hK hw.1 12 8 (fun i => a0 (20 + i)) 3 rfl (k9) rfl rfl dX7_copy_209 ?_
                                    refine lv_iload_n hx hb dX7_copy_210 rfl (lv_at hl 4 rfl) ?_
                                    refine lv_iload hx hb dX7_copy_211 (lv_at hl 0 rfl) ?_
                                    refine lv_iadd hx hb dX7_copy_213 ?_
                                    obtain ⟨k129, hM⟩ := ck hM
                                    refine wk_lald hx hb hK hw.1 (20 + (p1).toNatClampNeg) 40 (R0 (p1).toNatClampNeg) (wXM_row (Nat.lt_of_not_le (fun z => k9 (Or.inr z)))) k129 dX7_copy_214 ?_
                                    obtain ⟨k130, hM⟩ := ck hM
                                    refine wk_last (wq := (wXM g a0 U0 V0 (upL ML126 4 (vp_updL (ML126 4) (v6_125).toNatClampNeg ((R0 (p1).toNatClampNeg) ((p3 + v6_125)).toNatClampNeg))) R0 kv tv)) hx hb hK hw 13 40 (ML126 4) rfl k130 dX7_copy_215 rfl (fun H locs hw => ?_)
                                    refine lv_iinc (v := (v6_125 + (1 : Int32))) (lv' := [(6, .int (v6_125 + (1 : Int32))), (0, .ref (a0 0)), (1, .int p1), (2, .int p2), (3, .int p3), (4, .int p4), (5, .int p5)]) hx hb dX7_copy_216 hl (k := 0) rfl rfl (by decide) rfl (fun ls hl => ?_)
                                    refine lv_goto (tgt := 191) hx hb dX7_copy_219 (by decide) ?_
                                    exact ih191 (v6_125 + (1 : Int32)) (upL ML126 4 (vp_updL (ML126 4) (v6_125).toNatClampNeg ((R0 (p1).toNatClampNeg) ((p3 + v6_125)).toNatClampNeg))) hM _ _ hw _ (lv_sub hl [0, 1, 2, 3, 4, 5, 6] rfl)
                              exact hW191 300 (0 : Int32) M0 hL191 _ _ hw _ (lv_sub hl [0, 1, 2, 3, 4, 5, 6] rfl)
                            · replace hM := itn c124 hM
                              refine lv_aload_n hx hb dX7_copy_181 rfl (lv_at hl 0 rfl) ?_
                              refine lv_bipush (v := (-2 : Int32)) hx hb dX7_copy_182 (by decide) ?_
                              obtain ⟨q138, h137, hM⟩ := bd hM
                              refine rVWp (wc := (wXM g a0 U0 V0 M0 R0 kv tv)) (wq := (wXM g a0 U0 q138.2 M0 R0 kv tv)) (As := [.int (-2 : Int32)]) (rest := []) (q0 := 0) hS (c_X7_refuse l g a0 kv tv U0 V0 M0 R0 (-2 : Int32) h137) gX7_copy_X7_refuse rfl hd_X7_refuse ⟨Nat.le_of_ble_eq_true rfl, Nat.le_of_ble_eq_true rfl⟩ hK hw hA (pm_1_0 _) rfl (pm_1_0 _) rfl rfl rfl rfl hl.1 rfl (Nat.le_of_ble_eq_true rfl) dX7_copy_184 ⟨Nat.zero_le _, Nat.zero_le _⟩ (fun H locs hw => ?_)
                              obtain rfl := Option.some.inj hM
                              exact W.iret hx hb hr (fun t ht _ => ⟨rfl, by rw [ht]; exact hw.1, hw.2.2.F ht⟩) hw.2.2.2.2 dX7_copy_187
              · replace hM := itp c103 hM
                refine lv_aload_n hx hb dX7_copy_111 rfl (lv_at hl 0 rfl) ?_
                refine lv_bipush (v := (-4 : Int32)) hx hb dX7_copy_112 (by decide) ?_
                obtain ⟨q105, h104, hM⟩ := bd hM
                refine rVWp (wc := (wXM g a0 U0 V0 M0 R0 kv tv)) (wq := (wXM g a0 U0 q105.2 M0 R0 kv tv)) (As := [.int (-4 : Int32)]) (rest := []) (q0 := 0) hS (c_X7_refuse l g a0 kv tv U0 V0 M0 R0 (-4 : Int32) h104) gX7_copy_X7_refuse rfl hd_X7_refuse ⟨Nat.le_of_ble_eq_true rfl, Nat.le_of_ble_eq_true rfl⟩ hK hw hA (pm_1_0 _) rfl (pm_1_0 _) rfl rfl rfl rfl hl.1 rfl (Nat.le_of_ble_eq_true rfl) dX7_copy_114 ⟨Nat.zero_le _, Nat.zero_le _⟩ (fun H locs hw => ?_)
                obtain rfl := Option.some.inj hM
                exact W.iret hx hb hr (fun t ht _ => ⟨rfl, by rw [ht]; exact hw.1, hw.2.2.F ht⟩) hw.2.2.2.2 dX7_copy_117
          · replace hM := itp c17 hM
            refine lv_aload_n hx hb dX7_copy_61 rfl (lv_at hl 0 rfl) ?_
            refine wk_get hx hb hts hin_X7 hown hK hw.1 7 0 0 (.ref (a0 9)) rfl rfl (by decide) (mi 2 rfl) rfl rfl dX7_copy_62 ?_
            refine lv_iload_n hx hb dX7_copy_65 rfl (lv_at hl 2 rfl) ?_
            refine wk_iald hx hb hK hw.1 9 8 (V0 0) rfl k13 dX7_copy_66 ?_
            refine lv_iconst (v := (1 : Int32)) hx hb dX7_copy_67 (by decide) ?_
            refine lv_icmp_ne (tgt := 93) hx hb dX7_copy_68 (by decide) (fun c18 => ?_) (fun c18 => ?_)
            · replace hM := itn c18 hM
              refine lv_aload_n hx hb dX7_copy_93 rfl (lv_at hl 0 rfl) ?_
              refine wk_get hx hb hts hin_X7 hown hK hw.1 7 0 0 (.ref (a0 9)) rfl rfl (by decide) (mi 2 rfl) rfl rfl dX7_copy_94 ?_
              refine lv_iload_n hx hb dX7_copy_97 rfl (lv_at hl 1 rfl) ?_
              refine wk_iald hx hb hK hw.1 9 8 (V0 0) rfl k9 dX7_copy_98 ?_
              refine lv_if_eq (tgt := 111) hx hb dX7_copy_99 (by decide) (fun c61 => ?_) (fun c61 => ?_)
              · replace hM := itp c61 hM
                refine lv_aload_n hx hb dX7_copy_111 rfl (lv_at hl 0 rfl) ?_
                refine lv_bipush (v := (-4 : Int32)) hx hb dX7_copy_112 (by decide) ?_
                obtain ⟨q63, h62, hM⟩ := bd hM
                refine rVWp (wc := (wXM g a0 U0 V0 M0 R0 kv tv)) (wq := (wXM g a0 U0 q63.2 M0 R0 kv tv)) (As := [.int (-4 : Int32)]) (rest := []) (q0 := 0) hS (c_X7_refuse l g a0 kv tv U0 V0 M0 R0 (-4 : Int32) h62) gX7_copy_X7_refuse rfl hd_X7_refuse ⟨Nat.le_of_ble_eq_true rfl, Nat.le_of_ble_eq_true rfl⟩ hK hw hA (pm_1_0 _) rfl (pm_1_0 _) rfl rfl rfl rfl hl.1 rfl (Nat.le_of_ble_eq_true rfl) dX7_copy_114 ⟨Nat.zero_le _, Nat.zero_le _⟩ (fun H locs hw => ?_)
                obtain rfl := Option.some.inj hM
                exact W.iret hx hb hr (fun t ht _ => ⟨rfl, by rw [ht]; exact hw.1, hw.2.2.F ht⟩) hw.2.2.2.2 dX7_copy_117
              · replace hM := itn c61 hM
                refine lv_aload_n hx hb dX7_copy_102 rfl (lv_at hl 0 rfl) ?_
                refine wk_get hx hb hts hin_X7 hown hK hw.1 7 0 0 (.ref (a0 9)) rfl rfl (by decide) (mi 2 rfl) rfl rfl dX7_copy_103 ?_
                refine lv_iload_n hx hb dX7_copy_106 rfl (lv_at hl 2 rfl) ?_
                refine wk_iald hx hb hK hw.1 9 8 (V0 0) rfl k13 dX7_copy_107 ?_
                refine lv_if_ne (tgt := 118) hx hb dX7_copy_108 (by decide) (fun c64 => ?_) (fun c64 => ?_)
                · replace hM := itn c64 hM
                  refine lv_iload hx hb dX7_copy_118 (lv_at hl 5 rfl) ?_
                  refine lv_if_lt (tgt := 181) hx hb dX7_copy_120 (by decide) (fun c67 => ?_) (fun c67 => ?_)
                  · replace hM := itp c67 hM
                    refine lv_aload_n hx hb dX7_copy_181 rfl (lv_at hl 0 rfl) ?_
                    refine lv_bipush (v := (-2 : Int32)) hx hb dX7_copy_182 (by decide) ?_
                    obtain ⟨q69, h68, hM⟩ := bd hM
                    refine rVWp (wc := (wXM g a0 U0 V0 M0 R0 kv tv)) (wq := (wXM g a0 U0 q69.2 M0 R0 kv tv)) (As := [.int (-2 : Int32)]) (rest := []) (q0 := 0) hS (c_X7_refuse l g a0 kv tv U0 V0 M0 R0 (-2 : Int32) h68) gX7_copy_X7_refuse rfl hd_X7_refuse ⟨Nat.le_of_ble_eq_true rfl, Nat.le_of_ble_eq_true rfl⟩ hK hw hA (pm_1_0 _) rfl (pm_1_0 _) rfl rfl rfl rfl hl.1 rfl (Nat.le_of_ble_eq_true rfl) dX7_copy_184 ⟨Nat.zero_le _, Nat.zero_le _⟩ (fun H locs hw => ?_)
                    obtain rfl := Option.some.inj hM
                    exact W.iret hx hb hr (fun t ht _ => ⟨rfl, by rw [ht]; exact hw.1, hw.2.2.F ht⟩) hw.2.2.2.2 dX7_copy_187
                  · replace hM := itn c67 hM
                    refine lv_iload_n hx hb dX7_copy_123 rfl (lv_at hl 3 rfl) ?_
                    refine lv_if_lt (tgt := 181) hx hb dX7_copy_124 (by decide) (fun c70 => ?_) (fun c70 => ?_)
                    · replace hM := itp c70 hM
                      refine lv_aload_n hx hb dX7_copy_181 rfl (lv_at hl 0 rfl) ?_
                      refine lv_bipush (v := (-2 : Int32)) hx hb dX7_copy_182 (by decide) ?_
                      obtain ⟨q72, h71, hM⟩ := bd hM
                      refine rVWp (wc := (wXM g a0 U0 V0 M0 R0 kv tv)) (wq := (wXM g a0 U0 q72.2 M0 R0 kv tv)) (As := [.int (-2 : Int32)]) (rest := []) (q0 := 0) hS (c_X7_refuse l g a0 kv tv U0 V0 M0 R0 (-2 : Int32) h71) gX7_copy_X7_refuse rfl hd_X7_refuse ⟨Nat.le_of_ble_eq_true rfl, Nat.le_of_ble_eq_true rfl⟩ hK hw hA (pm_1_0 _) rfl (pm_1_0 _) rfl rfl rfl rfl hl.1 rfl (Nat.le_of_ble_eq_true rfl) dX7_copy_184 ⟨Nat.zero_le _, Nat.zero_le _⟩ (fun H locs hw => ?_)
                      obtain rfl := Option.some.inj hM
                      exact W.iret hx hb hr (fun t ht _ => ⟨rfl, by rw [ht]; exact hw.1, hw.2.2.F ht⟩) hw.2.2.2.2 dX7_copy_187
                    · replace hM := itn c70 hM
                      refine lv_iload hx hb dX7_copy_127 (lv_at hl 4 rfl) ?_
                      refine lv_if_lt (tgt := 181) hx hb dX7_copy_129 (by decide) (fun c73 => ?_) (fun c73 => ?_)
                      · replace hM := itp c73 hM
                        refine lv_aload_n hx hb dX7_copy_181 rfl (lv_at hl 0 rfl) ?_
                        refine lv_bipush (v := (-2 : Int32)) hx hb dX7_copy_182 (by decide) ?_
                        obtain ⟨q75, h74, hM⟩ := bd hM
                        refine rVWp (wc := (wXM g a0 U0 V0 M0 R0 kv tv)) (wq := (wXM g a0 U0 q75.2 M0 R0 kv tv)) (As := [.int (-2 : Int32)]) (rest := []) (q0 := 0) hS (c_X7_refuse l g a0 kv tv U0 V0 M0 R0 (-2 : Int32) h74) gX7_copy_X7_refuse rfl hd_X7_refuse ⟨Nat.le_of_ble_eq_true rfl, Nat.le_of_ble_eq_true rfl⟩ hK hw hA (pm_1_0 _) rfl (pm_1_0 _) rfl rfl rfl rfl hl.1 rfl (Nat.le_of_ble_eq_true rfl) dX7_copy_184 ⟨Nat.zero_le _, Nat.zero_le _⟩ (fun H locs hw => ?_)
                        obtain rfl := Option.some.inj hM
                        exact W.iret hx hb hr (fun t ht _ => ⟨rfl, by rw [ht]; exact hw.1, hw.2.2.F ht⟩) hw.2.2.2.2 dX7_copy_187
                      · replace hM := itn c73 hM
                        refine lv_iload hx hb dX7_copy_132 (lv_at hl 5 rfl) ?_
                        refine lv_aload_n hx hb dX7_copy_134 rfl (lv_at hl 0 rfl) ?_
                        refine wk_get hx hb hts hin_X7 hown hK hw.1 7 0 2 (.ref (a0 11)) rfl rfl (by decide) (mi 4 rfl) rfl rfl dX7_copy_135 ?_
                        refine lv_iload_n hx hb dX7_copy_138 rfl (lv_at hl 1 rfl) ?_
                        refine wk_iald hx hb hK hw.1 11 8 (V0 2) rfl k9 dX7_copy_139 ?_
                        refine lv_icmp_gt (tgt := 181) hx hb dX7_copy_140 (by decide) (fun c76 => ?_) (fun c76 => ?_)
                        · replace hM := itp c76 hM
                          refine lv_aload_n hx hb dX7_copy_181 rfl (lv_at hl 0 rfl) ?_
                          refine lv_bipush (v := (-2 : Int32)) hx hb dX7_copy_182 (by decide) ?_
                          obtain ⟨q78, h77, hM⟩ := bd hM
                          refine rVWp (wc := (wXM g a0 U0 V0 M0 R0 kv tv)) (wq := (wXM g a0 U0 q78.2 M0 R0 kv tv)) (As := [.int (-2 : Int32)]) (rest := []) (q0 := 0) hS (c_X7_refuse l g a0 kv tv U0 V0 M0 R0 (-2 : Int32) h77) gX7_copy_X7_refuse rfl hd_X7_refuse ⟨Nat.le_of_ble_eq_true rfl, Nat.le_of_ble_eq_true rfl⟩ hK hw hA (pm_1_0 _) rfl (pm_1_0 _) rfl rfl rfl rfl hl.1 rfl (Nat.le_of_ble_eq_true rfl) dX7_copy_184 ⟨Nat.zero_le _, Nat.zero_le _⟩ (fun H locs hw => ?_)
                          obtain rfl := Option.some.inj hM
                          exact W.iret hx hb hr (fun t ht _ => ⟨rfl, by rw [ht]; exact hw.1, hw.2.2.F ht⟩) hw.2.2.2.2 dX7_copy_187
                        · replace hM := itn c76 hM
                          refine lv_iload hx hb dX7_copy_143 (lv_at hl 5 rfl) ?_
                          refine lv_aload_n hx hb dX7_copy_145 rfl (lv_at hl 0 rfl) ?_
                          refine wk_get hx hb hts hin_X7 hown hK hw.1 7 0 2 (.ref (a0 11)) rfl rfl (by decide) (mi 4 rfl) rfl rfl dX7_copy_146 ?_
                          refine lv_iload_n hx hb dX7_copy_149 rfl (lv_at hl 2 rfl) ?_
                          refine wk_iald hx hb hK hw.1 11 8 (V0 2) rfl k13 dX7_copy_150 ?_
                          refine lv_icmp_gt (tgt := 181) hx hb dX7_copy_151 (by decide) (fun c79 => ?_) (fun c79 => ?_)
                          · replace hM := itp c79 hM
                            refine lv_aload_n hx hb dX7_copy_181 rfl (lv_at hl 0 rfl) ?_
                            refine lv_bipush (v := (-2 : Int32)) hx hb dX7_copy_182 (by decide) ?_
                            obtain ⟨q81, h80, hM⟩ := bd hM
                            refine rVWp (wc := (wXM g a0 U0 V0 M0 R0 kv tv)) (wq := (wXM g a0 U0 q81.2 M0 R0 kv tv)) (As := [.int (-2 : Int32)]) (rest := []) (q0 := 0) hS (c_X7_refuse l g a0 kv tv U0 V0 M0 R0 (-2 : Int32) h80) gX7_copy_X7_refuse rfl hd_X7_refuse ⟨Nat.le_of_ble_eq_true rfl, Nat.le_of_ble_eq_true rfl⟩ hK hw hA (pm_1_0 _) rfl (pm_1_0 _) rfl rfl rfl rfl hl.1 rfl (Nat.le_of_ble_eq_true rfl) dX7_copy_184 ⟨Nat.zero_le _, Nat.zero_le _⟩ (fun H locs hw => ?_)
                            obtain rfl := Option.some.inj hM
                            exact W.iret hx hb hr (fun t ht _ => ⟨rfl, by rw [ht]; exact hw.1, hw.2.2.F ht⟩) hw.2.2.2.2 dX7_copy_187
                          · replace hM := itn c79 hM
                            refine lv_iload_n hx hb dX7_copy_154 rfl (lv_at hl 3 rfl) ?_
                            refine lv_aload_n hx hb dX7_copy_155 rfl (lv_at hl 0 rfl) ?_
                            refine wk_get hx hb hts hin_X7 hown hK hw.1 7 0 2 (.ref (a0 11)) rfl rfl (by decide) (mi 4 rfl) rfl rfl dX7_copy_156 ?_
                            refine lv_iload_n hx hb dX7_copy_159 rfl (lv_at hl 1 rfl) ?_
                            refine wk_iald hx hb hK hw.1 11 8 (V0 2) rfl k9 dX7_copy_160 ?_
                            refine lv_iload hx hb dX7_copy_161 (lv_at hl 5 rfl) ?_
                            refine lv_isub hx hb dX7_copy_163 ?_
                            refine lv_icmp_gt (tgt := 181) hx hb dX7_copy_164 (by decide) (fun c82 => ?_) (fun c82 => ?_)
                            · replace hM := itp c82 hM
                              refine lv_aload_n hx hb dX7_copy_181 rfl (lv_at hl 0 rfl) ?_
                              refine lv_bipush (v := (-2 : Int32)) hx hb dX7_copy_182 (by decide) ?_
                              obtain ⟨q84, h83, hM⟩ := bd hM
                              refine rVWp (wc := (wXM g a0 U0 V0 M0 R0 kv tv)) (wq := (wXM g a0 U0 q84.2 M0 R0 kv tv)) (As := [.int (-2 : Int32)]) (rest := []) (q0 := 0) hS (c_X7_refuse l g a0 kv tv U0 V0 M0 R0 (-2 : Int32) h83) gX7_copy_X7_refuse rfl hd_X7_refuse ⟨Nat.le_of_ble_eq_true rfl, Nat.le_of_ble_eq_true rfl⟩ hK hw hA (pm_1_0 _) rfl (pm_1_0 _) rfl rfl rfl rfl hl.1 rfl (Nat.le_of_ble_eq_true rfl) dX7_copy_184 ⟨Nat.zero_le _, Nat.zero_le _⟩ (fun H locs hw => ?_)
                              obtain rfl := Option.some.inj hM
                              exact W.iret hx hb hr (fun t ht _ => ⟨rfl, by rw [ht]; exact hw.1, hw.2.2.F ht⟩) hw.2.2.2.2 dX7_copy_187
                            · replace hM := itn c82 hM
                              refine lv_iload hx hb dX7_copy_167 (lv_at hl 4 rfl) ?_
                              refine lv_aload_n hx hb dX7_copy_169 rfl (lv_at hl 0 rfl) ?_
                              refine wk_get hx hb hts hin_X7 hown hK hw.1 7 0 2 (.ref (a0 11)) rfl rfl (by decide) (mi 4 rfl) rfl rfl dX7_copy_170 ?_
                              refine lv_iload_n hx hb dX7_copy_173 rfl (lv_at hl 2 rfl) ?_
                              refine wk_iald hx hb hK hw.1 11 8 (V0 2) rfl k13 dX7_copy_174 ?_
                              refine lv_iload hx hb dX7_copy_175 (lv_at hl 5 rfl) ?_
                              refine lv_isub hx hb dX7_copy_177 ?_
                              refine lv_icmp_le (tgt := 188) hx hb dX7_copy_178 (by decide) (fun c85 => ?_) (fun c85 => ?_)
                              · replace hM := itp c85 hM
                                refine lv_iconst (v := (0 : Int32)) hx hb dX7_copy_188 (by decide) ?_
                                refine lv_istore (lv' := [(6, .int (0 : Int32)), (0, .ref (a0 0)), (1, .int p1), (2, .int p2), (3, .int p3), (4, .int p4), (5, .int p5)]) hx hb dX7_copy_189 hl (by decide) rfl (fun ls hl => ?_)
                                obtain ⟨q88, hL191, hM⟩ := bd hM
                                have hJ191 : ∀ (H : Heap) (locs : List Loc), Wk g A s.heap H locs (wXM g a0 U0 V0 q88 R0 kv tv) → ∀ (ls : Array Slot), lv_has ls 7 [(0, .ref (a0 0)), (2, .int p2), (4, .int p4), (5, .int p5)] → W p l e (headSpec wsX7_copy ({ frames := 1, cells := 0, slots := 0, locals := 25 } : Room)).room s m ([.ref (a0 0), .int p1, .int p2, .int p3, .int p4, .int p5] : List Value).toArray below meth c H locs 0 0 (MQ below (QcW g (some (.int q.1)) (wXM g a0 U0 q.2.1 q.2.2.1 q.2.2.2 kv tv) A) ([.ref (a0 0), .int p1, .int p2, .int p3, .int p4, .int p5] : List Value).toArray s 0 0 A) (F0 m 222 ls []) := by
                                  intro H locs hw ls hl
                                  refine lv_iconst (v := (0 : Int32)) hx hb dX7_copy_222 (by decide) ?_
                                  refine lv_istore (lv' := [(6, .int (0 : Int32)), (0, .ref (a0 0)), (2, .int p2), (4, .int p4), (5, .int p5)]) hx hb dX7_copy_223 hl (by decide) rfl (fun ls hl => ?_)
                                  obtain ⟨q94, hL225, hM⟩ := bd hM
                                  have hJ225 : ∀ (H : Heap) (locs : List Loc), Wk g A s.heap H locs (wXM g a0 U0 V0 q88 q94 kv tv) → ∀ (ls : Array Slot), lv_has ls 7 [(5, .int p5)] → W p l e (headSpec wsX7_copy ({ frames := 1, cells := 0, slots := 0, locals := 25 } : Room)).room s m ([.ref (a0 0), .int p1, .int p2, .int p3, .int p4, .int p5] : List Value).toArray below meth c H locs 0 0 (MQ below (QcW g (some (.int q.1)) (wXM g a0 U0 q.2.1 q.2.2.1 q.2.2.2 kv tv) A) ([.ref (a0 0), .int p1, .int p2, .int p3, .int p4, .int p5] : List Value).toArray s 0 0 A) (F0 m 257 ls []) := by
                                    intro H locs hw ls hl
                                    refine lv_iload hx hb dX7_copy_257 (lv_at hl 0 rfl) ?_
                                    obtain rfl := Option.some.inj hM
                                    exact W.iret hx hb hr (fun t ht _ => ⟨rfl, by rw [ht]; exact hw.1, hw.2.2.F ht⟩) hw.2.2.2.2 dX7_copy_259
                                  have hW225 : ∀ (n : Nat) (v6_92 : Int32) (RL93 : LTS), L_X7_copy_225 p2 p4 p5 q88 n v6_92 RL93 = some q94 → ∀ (H : Heap) (locs : List Loc), Wk g A s.heap H locs (wXM g a0 U0 V0 q88 RL93 kv tv) → ∀ (ls : Array Slot), lv_has ls 7 [(6, .int v6_92), (0, .ref (a0 0)), (2, .int p2), (4, .int p4), (5, .int p5)] → W p l e (headSpec wsX7_copy ({ frames := 1, cells := 0, slots := 0, locals := 25 } : Room)).room s m ([.ref (a0 0), .int p1, .int p2, .int p3, .int p4, .int p5] : List Value).toArray below meth c H locs 0 0 (MQ below (QcW g (some (.int q.1)) (wXM g a0 U0 q.2.1 q.2.2.1 q.2.2.2 kv tv) A) ([.ref (a0 0), .int p1, .int p2, .int p3, .int p4, .int p5] : List Value).toArray s 0 0 A) (F0 m 225 ls []) := by
                                    intro n
                                    induction n with
                                    | zero => intro v6_92 RL93 hM; rw [L_X7_copy_225] at hM; exact nn hM
                                    | succ n ih225 =>
                                      intro v6_92 RL93 hM H locs hw ls hl
                                      rw [L_X7_copy_225] at hM
                                      refine lv_iload hx hb dX7_copy_225 (lv_at hl 0 rfl) ?_
                                      refine lv_iload hx hb dX7_copy_227 (lv_at hl 4 rfl) ?_
                                      refine lv_icmp_ge (tgt := 257) hx hb dX7_copy_229 (by decide) (fun c95 => ?_) (fun c95 => ?_)
                                      · replace hM := itp c95 hM
                                        obtain rfl := Option.some.inj hM
                                        exact hJ225 _ _ hw _ (lv_sub hl [4] rfl)
                                      · replace hM := itn c95 hM
                                        refine lv_aload_n hx hb dX7_copy_232 rfl (lv_at hl 1 rfl) ?_
                                        refine wk_get hx hb hts hin_X7 hown hK hw.1 7 0 3 (.ref (a0 12)) rfl rfl (by decide) (mi 6 rfl) rfl rfl dX7_copy_233 ?_
                                        refine lv_iload_n hx hb dX7_copy_236 rfl (lv_at hl 2 rfl) ?_
                                        refine wk_aald hx hb hK hw.1 12 8 (fun i => a0 (20 + i)) 3 rfl (k13) rfl rfl dX7_copy_237 ?_
                                        refine lv_iload hx hb dX7_copy_238 (lv_at hl 3 rfl) ?_
                                        refine lv_iload hx hb dX7_copy_240 (lv_at hl 0 rfl) ?_
                                        refine lv_iadd hx hb dX7_copy_242 ?_
                                        refine lv_aload_n hx hb dX7_copy_243 rfl (lv_at hl 1 rfl) ?_
                                        refine wk_get hx hb hts hin_X7 hown hK hw.1 7 0 4 (.ref (a0 13)) rfl rfl (by decide) (mi 5 rfl) rfl rfl dX7_copy_244 ?_
                                        refine lv_iload hx hb dX7_copy_247 (lv_at hl 0 rfl) ?_
                                        obtain ⟨k96, hM⟩ := ck hM
                                        refine wk_lald hx hb hK hw.1 13 40 (q88 4) rfl k96 dX7_copy_249 ?_
                                        obtain ⟨k97, hM⟩ := ck hM
                                        refine wk_last (wq := (wXM g a0 U0 V0 q88 (upL RL93 (p2).toNatClampNeg (vp_updL (RL93 (p2).toNatClampNeg) ((p4 + v6_92)).toNatClampNeg ((q88 4) (v6_92).toNatClampNeg))) kv tv)) hx hb hK hw (20 + (p2).toNatClampNeg) 40 (RL93 (p2).toNatClampNeg) (wXM_row (Nat.lt_of_not_le (fun z => k13 (Or.inr z)))) k97 dX7_copy_250 (wXM_set (Nat.lt_of_not_le (fun z => k13 (Or.inr z)))) (fun H locs hw => ?_)
                                        refine lv_iinc (v := (v6_92 + (1 : Int32))) (lv' := [(6, .int (v6_92 + (1 : Int32))), (0, .ref (a0 0)), (2, .int p2), (4, .int p4), (5, .int p5)]) hx hb dX7_copy_251 hl (k := 0) rfl rfl (by decide) rfl (fun ls hl => ?_)
                                        refine lv_goto (tgt := 225) hx hb dX7_copy_254 (by decide) ?_
                                        exact ih225 (v6_92 + (1 : Int32)) (upL RL93 (p2).toNatClampNeg (vp_updL (RL93 (p2).toNatClampNeg) ((p4 + v6_92)).toNatClampNeg ((q88 4) (v6_92).toNatClampNeg))) hM _ _ hw _ (lv_sub hl [0, 1, 2, 3, 4] rfl)
                                  exact hW225 300 (0 : Int32) R0 hL225 _ _ hw _ (lv_sub hl [0, 1, 2, 3, 4] rfl)
                                have hW191 : ∀ (n : Nat) (v6_86 : Int32) (ML87 : LTS), L_X7_copy_191 R0 p1 p3 p5 n v6_86 ML87 = some q88 → ∀ (H : Heap) (locs : List Loc), Wk g A s.heap H locs (wXM g a0 U0 V0 ML87 R0 kv tv) → ∀ (ls : Array Slot), lv_has ls 7 [(6, .int v6_86), (0, .ref (a0 0)), (1, .int p1), (2, .int p2), (3, .int p3), (4, .int p4), (5, .int p5)] → W p l e (headSpec wsX7_copy ({ frames := 1, cells := 0, slots := 0, locals := 25 } : Room)).room s m ([.ref (a0 0), .int p1, .int p2, .int p3, .int p4, .int p5] : List Value).toArray below meth c H locs 0 0 (MQ below (QcW g (some (.int q.1)) (wXM g a0 U0 q.2.1 q.2.2.1 q.2.2.2 kv tv) A) ([.ref (a0 0), .int p1, .int p2, .int p3, .int p4, .int p5] : List Value).toArray s 0 0 A) (F0 m 191 ls []) := by
                                  intro n
                                  induction n with
                                  | zero => intro v6_86 ML87 hM; rw [L_X7_copy_191] at hM; exact nn hM
                                  | succ n ih191 =>
                                    intro v6_86 ML87 hM H locs hw ls hl
                                    rw [L_X7_copy_191] at hM
                                    refine lv_iload hx hb dX7_copy_191 (lv_at hl 0 rfl) ?_
                                    refine lv_iload hx hb dX7_copy_193 (lv_at hl 6 rfl) ?_
                                    refine lv_icmp_ge (tgt := 222) hx hb dX7_copy_195 (by decide) (fun c89 => ?_) (fun c89 => ?_)
                                    · replace hM := itp c89 hM
                                      obtain rfl := Option.some.inj hM
                                      exact hJ191 _ _ hw _ (lv_sub hl [1, 3, 5, 6] rfl)
                                    · replace hM := itn c89 hM
                                      refine lv_aload_n hx hb dX7_copy_198 rfl (lv_at hl 1 rfl) ?_
                                      refine wk_get hx hb hts hin_X7 hown hK hw.1 7 0 4 (.ref (a0 13)) rfl rfl (by decide) (mi 5 rfl) rfl rfl dX7_copy_199 ?_
                                      refine lv_iload hx hb dX7_copy_202 (lv_at hl 0 rfl) ?_
                                      refine lv_aload_n hx hb dX7_copy_204 rfl (lv_at hl 1 rfl) ?_
                                      refine wk_get hx hb hts hin_X7 hown hK hw.1 7 0 3 (.ref (a0 12)) rfl rfl (by decide) (mi 6 rfl) rfl rfl dX7_copy_205 ?_
                                      refine lv_iload_n hx hb dX7_copy_208 rfl (lv_at hl 2 rfl) ?_
                                      refine wk_aald hx hb hK hw.1 12 8 (fun i => a0 (20 + i)) 3 rfl (k9) rfl rfl dX7_copy_209 ?_
                                      refine lv_iload_n hx hb dX7_copy_210 rfl (lv_at hl 4 rfl) ?_
                                      refine lv_iload hx hb dX7_copy_211 (lv_at hl 0 rfl) ?_
                                      refine lv_iadd hx hb dX7_copy_213 ?_
                                      obtain ⟨k90, hM⟩ := ck hM
                                      refine wk_lald hx hb hK hw.1 (20 + (p1).toNatClampNeg) 40 (R0 (p1).toNatClampNeg) (wXM_row (Nat.lt_of_not_le (fun z => k9 (Or.inr z)))) k90 dX7_copy_214 ?_
                                      obtain ⟨k91, hM⟩ := ck hM
                                      refine wk_last (wq := (wXM g a0 U0 V0 (upL ML87 4 (vp_updL (ML87 4) (v6_86).toNatClampNeg ((R0 (p1).toNatClampNeg) ((p3 + v6_86)).toNatClampNeg))) R0 kv tv)) hx hb hK hw 13 40 (ML87 4) rfl k91 dX7_copy_215 rfl (fun H locs hw => ?_)
                                      refine lv_iinc (v := (v6_86 + (1 : Int32))) (lv' := [(6, .int (v6_86 + (1 : Int32))), (0, .ref (a0 0)), (1, .int p1), (2, .int p2), (3, .int p3), (4, .int p4), (5, .int p5)]) hx hb dX7_copy_216 hl (k := 0) rfl rfl (by decide) rfl (fun ls hl => ?_)
                                      refine lv_goto (tgt := 191) hx hb dX7_copy_219 (by decide) ?_
                                      exact ih191 (v6_86 + (1 : Int32)) (upL ML87 4 (vp_updL (ML87 4) (v6_86).toNatClampNeg ((R0 (p1).toNatClampNeg) ((p3 + v6_86)).toNatClampNeg))) hM _ _ hw _ (lv_sub hl [0, 1, 2, 3, 4, 5, 6] rfl)
                                exact hW191 300 (0 : Int32) M0 hL191 _ _ hw _ (lv_sub hl [0, 1, 2, 3, 4, 5, 6] rfl)
                              · replace hM := itn c85 hM
                                refine lv_aload_n hx hb dX7_copy_181 rfl (lv_at hl 0 rfl) ?_
                                refine lv_bipush (v := (-2 : Int32)) hx hb dX7_copy_182 (by decide) ?_
                                obtain ⟨q99, h98, hM⟩ := bd hM
                                refine rVWp (wc := (wXM g a0 U0 V0 M0 R0 kv tv)) (wq := (wXM g a0 U0 q99.2 M0 R0 kv tv)) (As := [.int (-2 : Int32)]) (rest := []) (q0 := 0) hS (c_X7_refuse l g a0 kv tv U0 V0 M0 R0 (-2 : Int32) h98) gX7_copy_X7_refuse rfl hd_X7_refuse ⟨Nat.le_of_ble_eq_true rfl, Nat.le_of_ble_eq_true rfl⟩ hK hw hA (pm_1_0 _) rfl (pm_1_0 _) rfl rfl rfl rfl hl.1 rfl (Nat.le_of_ble_eq_true rfl) dX7_copy_184 ⟨Nat.zero_le _, Nat.zero_le _⟩ (fun H locs hw => ?_)
                                obtain rfl := Option.some.inj hM
                                exact W.iret hx hb hr (fun t ht _ => ⟨rfl, by rw [ht]; exact hw.1, hw.2.2.F ht⟩) hw.2.2.2.2 dX7_copy_187
                · replace hM := itp c64 hM
                  refine lv_aload_n hx hb dX7_copy_111 rfl (lv_at hl 0 rfl) ?_
                  refine lv_bipush (v := (-4 : Int32)) hx hb dX7_copy_112 (by decide) ?_
                  obtain ⟨q66, h65, hM⟩ := bd hM
                  refine rVWp (wc := (wXM g a0 U0 V0 M0 R0 kv tv)) (wq := (wXM g a0 U0 q66.2 M0 R0 kv tv)) (As := [.int (-4 : Int32)]) (rest := []) (q0 := 0) hS (c_X7_refuse l g a0 kv tv U0 V0 M0 R0 (-4 : Int32) h65) gX7_copy_X7_refuse rfl hd_X7_refuse ⟨Nat.le_of_ble_eq_true rfl, Nat.le_of_ble_eq_true rfl⟩ hK hw hA (pm_1_0 _) rfl (pm_1_0 _) rfl rfl rfl rfl hl.1 rfl (Nat.le_of_ble_eq_true rfl) dX7_copy_114 ⟨Nat.zero_le _, Nat.zero_le _⟩ (fun H locs hw => ?_)
                  obtain rfl := Option.some.inj hM
                  exact W.iret hx hb hr (fun t ht _ => ⟨rfl, by rw [ht]; exact hw.1, hw.2.2.F ht⟩) hw.2.2.2.2 dX7_copy_117
            · replace hM := itp c18 hM
              refine lv_aload_n hx hb dX7_copy_71 rfl (lv_at hl 0 rfl) ?_
              refine wk_get hx hb hts hin_X7 hown hK hw.1 7 0 1 (.ref (a0 10)) rfl rfl (by decide) (mi 3 rfl) rfl rfl dX7_copy_72 ?_
              refine lv_iload_n hx hb dX7_copy_75 rfl (lv_at hl 1 rfl) ?_
              refine wk_iald hx hb hK hw.1 10 8 (V0 1) rfl k9 dX7_copy_76 ?_
              refine lv_aload_n hx hb dX7_copy_77 rfl (lv_at hl 0 rfl) ?_
              refine wk_get hx hb hts hin_X7 hown hK hw.1 7 0 1 (.ref (a0 10)) rfl rfl (by decide) (mi 3 rfl) rfl rfl dX7_copy_78 ?_
              refine lv_iload_n hx hb dX7_copy_81 rfl (lv_at hl 2 rfl) ?_
              refine wk_iald hx hb hK hw.1 10 8 (V0 1) rfl k13 dX7_copy_82 ?_
              refine lv_icmp_eq (tgt := 93) hx hb dX7_copy_83 (by decide) (fun c19 => ?_) (fun c19 => ?_)
              · replace hM := itp c19 hM
                refine lv_aload_n hx hb dX7_copy_93 rfl (lv_at hl 0 rfl) ?_
                refine wk_get hx hb hts hin_X7 hown hK hw.1 7 0 0 (.ref (a0 9)) rfl rfl (by decide) (mi 2 rfl) rfl rfl dX7_copy_94 ?_
                refine lv_iload_n hx hb dX7_copy_97 rfl (lv_at hl 1 rfl) ?_
                refine wk_iald hx hb hK hw.1 9 8 (V0 0) rfl k9 dX7_copy_98 ?_
                refine lv_if_eq (tgt := 111) hx hb dX7_copy_99 (by decide) (fun c20 => ?_) (fun c20 => ?_)
                · replace hM := itp c20 hM
                  refine lv_aload_n hx hb dX7_copy_111 rfl (lv_at hl 0 rfl) ?_
                  refine lv_bipush (v := (-4 : Int32)) hx hb dX7_copy_112 (by decide) ?_
                  obtain ⟨q22, h21, hM⟩ := bd hM
                  refine rVWp (wc := (wXM g a0 U0 V0 M0 R0 kv tv)) (wq := (wXM g a0 U0 q22.2 M0 R0 kv tv)) (As := [.int (-4 : Int32)]) (rest := []) (q0 := 0) hS (c_X7_refuse l g a0 kv tv U0 V0 M0 R0 (-4 : Int32) h21) gX7_copy_X7_refuse rfl hd_X7_refuse ⟨Nat.le_of_ble_eq_true rfl, Nat.le_of_ble_eq_true rfl⟩ hK hw hA (pm_1_0 _) rfl (pm_1_0 _) rfl rfl rfl rfl hl.1 rfl (Nat.le_of_ble_eq_true rfl) dX7_copy_114 ⟨Nat.zero_le _, Nat.zero_le _⟩ (fun H locs hw => ?_)
                  obtain rfl := Option.some.inj hM
                  exact W.iret hx hb hr (fun t ht _ => ⟨rfl, by rw [ht]; exact hw.1, hw.2.2.F ht⟩) hw.2.2.2.2 dX7_copy_117
                · replace hM := itn c20 hM
                  refine lv_aload_n hx hb dX7_copy_102 rfl (lv_at hl 0 rfl) ?_
                  refine wk_get hx hb hts hin_X7 hown hK hw.1 7 0 0 (.ref (a0 9)) rfl rfl (by decide) (mi 2 rfl) rfl rfl dX7_copy_103 ?_
                  refine lv_iload_n hx hb dX7_copy_106 rfl (lv_at hl 2 rfl) ?_
                  refine wk_iald hx hb hK hw.1 9 8 (V0 0) rfl k13 dX7_copy_107 ?_
                  refine lv_if_ne (tgt := 118) hx hb dX7_copy_108 (by decide) (fun c23 => ?_) (fun c23 => ?_)
                  · replace hM := itn c23 hM
                    refine lv_iload hx hb dX7_copy_118 (lv_at hl 5 rfl) ?_
                    refine lv_if_lt (tgt := 181) hx hb dX7_copy_120 (by decide) (fun c26 => ?_) (fun c26 => ?_)
                    · replace hM := itp c26 hM
                      refine lv_aload_n hx hb dX7_copy_181 rfl (lv_at hl 0 rfl) ?_
                      refine lv_bipush (v := (-2 : Int32)) hx hb dX7_copy_182 (by decide) ?_
                      obtain ⟨q28, h27, hM⟩ := bd hM
                      refine rVWp (wc := (wXM g a0 U0 V0 M0 R0 kv tv)) (wq := (wXM g a0 U0 q28.2 M0 R0 kv tv)) (As := [.int (-2 : Int32)]) (rest := []) (q0 := 0) hS (c_X7_refuse l g a0 kv tv U0 V0 M0 R0 (-2 : Int32) h27) gX7_copy_X7_refuse rfl hd_X7_refuse ⟨Nat.le_of_ble_eq_true rfl, Nat.le_of_ble_eq_true rfl⟩ hK hw hA (pm_1_0 _) rfl (pm_1_0 _) rfl rfl rfl rfl hl.1 rfl (Nat.le_of_ble_eq_true rfl) dX7_copy_184 ⟨Nat.zero_le _, Nat.zero_le _⟩ (fun H locs hw => ?_)
                      obtain rfl := Option.some.inj hM
                      exact W.iret hx hb hr (fun t ht _ => ⟨rfl, by rw [ht]; exact hw.1, hw.2.2.F ht⟩) hw.2.2.2.2 dX7_copy_187
                    · replace hM := itn c26 hM
                      refine lv_iload_n hx hb dX7_copy_123 rfl (lv_at hl 3 rfl) ?_
                      refine lv_if_lt (tgt := 181) hx hb dX7_copy_124 (by decide) (fun c29 => ?_) (fun c29 => ?_)
                      · replace hM := itp c29 hM
                        refine lv_aload_n hx hb dX7_copy_181 rfl (lv_at hl 0 rfl) ?_
                        refine lv_bipush (v := (-2 : Int32)) hx hb dX7_copy_182 (by decide) ?_
                        obtain ⟨q31, h30, hM⟩ := bd hM
                        refine rVWp (wc := (wXM g a0 U0 V0 M0 R0 kv tv)) (wq := (wXM g a0 U0 q31.2 M0 R0 kv tv)) (As := [.int (-2 : Int32)]) (rest := []) (q0 := 0) hS (c_X7_refuse l g a0 kv tv U0 V0 M0 R0 (-2 : Int32) h30) gX7_copy_X7_refuse rfl hd_X7_refuse ⟨Nat.le_of_ble_eq_true rfl, Nat.le_of_ble_eq_true rfl⟩ hK hw hA (pm_1_0 _) rfl (pm_1_0 _) rfl rfl rfl rfl hl.1 rfl (Nat.le_of_ble_eq_true rfl) dX7_copy_184 ⟨Nat.zero_le _, Nat.zero_le _⟩ (fun H locs hw => ?_)
                        obtain rfl := Option.some.inj hM
                        exact W.iret hx hb hr (fun t ht _ => ⟨rfl, by rw [ht]; exact hw.1, hw.2.2.F ht⟩) hw.2.2.2.2 dX7_copy_187
                      · replace hM := itn c29 hM
                        refine lv_iload hx hb dX7_copy_127 (lv_at hl 4 rfl) ?_
                        refine lv_if_lt (tgt := 181) hx hb dX7_copy_129 (by decide) (fun c32 => ?_) (fun c32 => ?_)
                        · replace hM := itp c32 hM
                          refine lv_aload_n hx hb dX7_copy_181 rfl (lv_at hl 0 rfl) ?_
                          refine lv_bipush (v := (-2 : Int32)) hx hb dX7_copy_182 (by decide) ?_
                          obtain ⟨q34, h33, hM⟩ := bd hM
                          refine rVWp (wc := (wXM g a0 U0 V0 M0 R0 kv tv)) (wq := (wXM g a0 U0 q34.2 M0 R0 kv tv)) (As := [.int (-2 : Int32)]) (rest := []) (q0 := 0) hS (c_X7_refuse l g a0 kv tv U0 V0 M0 R0 (-2 : Int32) h33) gX7_copy_X7_refuse rfl hd_X7_refuse ⟨Nat.le_of_ble_eq_true rfl, Nat.le_of_ble_eq_true rfl⟩ hK hw hA (pm_1_0 _) rfl (pm_1_0 _) rfl rfl rfl rfl hl.1 rfl (Nat.le_of_ble_eq_true rfl) dX7_copy_184 ⟨Nat.zero_le _, Nat.zero_le _⟩ (fun H locs hw => ?_)
                          obtain rfl := Option.some.inj hM
                          exact W.iret hx hb hr (fun t ht _ => ⟨rfl, by rw [ht]; exact hw.1, hw.2.2.F ht⟩) hw.2.2.2.2 dX7_copy_187
                        · replace hM := itn c32 hM
                          refine lv_iload hx hb dX7_copy_132 (lv_at hl 5 rfl) ?_
                          refine lv_aload_n hx hb dX7_copy_134 rfl (lv_at hl 0 rfl) ?_
                          refine wk_get hx hb hts hin_X7 hown hK hw.1 7 0 2 (.ref (a0 11)) rfl rfl (by decide) (mi 4 rfl) rfl rfl dX7_copy_135 ?_
                          refine lv_iload_n hx hb dX7_copy_138 rfl (lv_at hl 1 rfl) ?_
                          refine wk_iald hx hb hK hw.1 11 8 (V0 2) rfl k9 dX7_copy_139 ?_
                          refine lv_icmp_gt (tgt := 181) hx hb dX7_copy_140 (by decide) (fun c35 => ?_) (fun c35 => ?_)
                          · replace hM := itp c35 hM
                            refine lv_aload_n hx hb dX7_copy_181 rfl (lv_at hl 0 rfl) ?_
                            refine lv_bipush (v := (-2 : Int32)) hx hb dX7_copy_182 (by decide) ?_
                            obtain ⟨q37, h36, hM⟩ := bd hM
                            refine rVWp (wc := (wXM g a0 U0 V0 M0 R0 kv tv)) (wq := (wXM g a0 U0 q37.2 M0 R0 kv tv)) (As := [.int (-2 : Int32)]) (rest := []) (q0 := 0) hS (c_X7_refuse l g a0 kv tv U0 V0 M0 R0 (-2 : Int32) h36) gX7_copy_X7_refuse rfl hd_X7_refuse ⟨Nat.le_of_ble_eq_true rfl, Nat.le_of_ble_eq_true rfl⟩ hK hw hA (pm_1_0 _) rfl (pm_1_0 _) rfl rfl rfl rfl hl.1 rfl (Nat.le_of_ble_eq_true rfl) dX7_copy_184 ⟨Nat.zero_le _, Nat.zero_le _⟩ (fun H locs hw => ?_)
                            obtain rfl := Option.some.inj hM
                            exact W.iret hx hb hr (fun t ht _ => ⟨rfl, by rw [ht]; exact hw.1, hw.2.2.F ht⟩) hw.2.2.2.2 dX7_copy_187
                          · replace hM := itn c35 hM
                            refine lv_iload hx hb dX7_copy_143 (lv_at hl 5 rfl) ?_
                            refine lv_aload_n hx hb dX7_copy_145 rfl (lv_at hl 0 rfl) ?_
                            refine wk_get hx hb hts hin_X7 hown hK hw.1 7 0 2 (.ref (a0 11)) rfl rfl (by decide) (mi 4 rfl) rfl rfl dX7_copy_146 ?_
                            refine lv_iload_n hx hb dX7_copy_149 rfl (lv_at hl 2 rfl) ?_
                            refine wk_iald hx hb hK hw.1 11 8 (V0 2) rfl k13 dX7_copy_150 ?_
                            refine lv_icmp_gt (tgt := 181) hx hb dX7_copy_151 (by decide) (fun c38 => ?_) (fun c38 => ?_)
                            · replace hM := itp c38 hM
                              refine lv_aload_n hx hb dX7_copy_181 rfl (lv_at hl 0 rfl) ?_
                              refine lv_bipush (v := (-2 : Int32)) hx hb dX7_copy_182 (by decide) ?_
                              obtain ⟨q40, h39, hM⟩ := bd hM
                              refine rVWp (wc := (wXM g a0 U0 V0 M0 R0 kv tv)) (wq := (wXM g a0 U0 q40.2 M0 R0 kv tv)) (As := [.int (-2 : Int32)]) (rest := []) (q0 := 0) hS (c_X7_refuse l g a0 kv tv U0 V0 M0 R0 (-2 : Int32) h39) gX7_copy_X7_refuse rfl hd_X7_refuse ⟨Nat.le_of_ble_eq_true rfl, Nat.le_of_ble_eq_true rfl⟩ hK hw hA (pm_1_0 _) rfl (pm_1_0 _) rfl rfl rfl rfl hl.1 rfl (Nat.le_of_ble_eq_true rfl) dX7_copy_184 ⟨Nat.zero_le _, Nat.zero_le _⟩ (fun H locs hw => ?_)
                              obtain rfl := Option.some.inj hM
                              exact W.iret hx hb hr (fun t ht _ => ⟨rfl, by rw [ht]; exact hw.1, hw.2.2.F ht⟩) hw.2.2.2.2 dX7_copy_187
                            · replace hM := itn c38 hM
                              refine lv_iload_n hx hb dX7_copy_154 rfl (lv_at hl 3 rfl) ?_
                              refine lv_aload_n hx hb dX7_copy_155 rfl (lv_at hl 0 rfl) ?_
                              refine wk_get hx hb hts hin_X7 hown hK hw.1 7 0 2 (.ref (a0 11)) rfl rfl (by decide) (mi 4 rfl) rfl rfl dX7_copy_156 ?_
                              refine lv_iload_n hx hb dX7_copy_159 rfl (lv_at hl 1 rfl) ?_
                              refine wk_iald hx hb hK hw.1 11 8 (V0 2) rfl k9 dX7_copy_160 ?_
                              refine lv_iload hx hb dX7_copy_161 (lv_at hl 5 rfl) ?_
                              refine lv_isub hx hb dX7_copy_163 ?_
                              refine lv_icmp_gt (tgt := 181) hx hb dX7_copy_164 (by decide) (fun c41 => ?_) (fun c41 => ?_)
                              · replace hM := itp c41 hM
                                refine lv_aload_n hx hb dX7_copy_181 rfl (lv_at hl 0 rfl) ?_
                                refine lv_bipush (v := (-2 : Int32)) hx hb dX7_copy_182 (by decide) ?_
                                obtain ⟨q43, h42, hM⟩ := bd hM
                                refine rVWp (wc := (wXM g a0 U0 V0 M0 R0 kv tv)) (wq := (wXM g a0 U0 q43.2 M0 R0 kv tv)) (As := [.int (-2 : Int32)]) (rest := []) (q0 := 0) hS (c_X7_refuse l g a0 kv tv U0 V0 M0 R0 (-2 : Int32) h42) gX7_copy_X7_refuse rfl hd_X7_refuse ⟨Nat.le_of_ble_eq_true rfl, Nat.le_of_ble_eq_true rfl⟩ hK hw hA (pm_1_0 _) rfl (pm_1_0 _) rfl rfl rfl rfl hl.1 rfl (Nat.le_of_ble_eq_true rfl) dX7_copy_184 ⟨Nat.zero_le _, Nat.zero_le _⟩ (fun H locs hw => ?_)
                                obtain rfl := Option.some.inj hM
                                exact W.iret hx hb hr (fun t ht _ => ⟨rfl, by rw [ht]; exact hw.1, hw.2.2.F ht⟩) hw.2.2.2.2 dX7_copy_187
                              · replace hM := itn c41 hM
                                refine lv_iload hx hb dX7_copy_167 (lv_at hl 4 rfl) ?_
                                refine lv_aload_n hx hb dX7_copy_169 rfl (lv_at hl 0 rfl) ?_
                                refine wk_get hx hb hts hin_X7 hown hK hw.1 7 0 2 (.ref (a0 11)) rfl rfl (by decide) (mi 4 rfl) rfl rfl dX7_copy_170 ?_
                                refine lv_iload_n hx hb dX7_copy_173 rfl (lv_at hl 2 rfl) ?_
                                refine wk_iald hx hb hK hw.1 11 8 (V0 2) rfl k13 dX7_copy_174 ?_
                                refine lv_iload hx hb dX7_copy_175 (lv_at hl 5 rfl) ?_
                                refine lv_isub hx hb dX7_copy_177 ?_
                                refine lv_icmp_le (tgt := 188) hx hb dX7_copy_178 (by decide) (fun c44 => ?_) (fun c44 => ?_)
                                · replace hM := itp c44 hM
                                  refine lv_iconst (v := (0 : Int32)) hx hb dX7_copy_188 (by decide) ?_
                                  refine lv_istore (lv' := [(6, .int (0 : Int32)), (0, .ref (a0 0)), (1, .int p1), (2, .int p2), (3, .int p3), (4, .int p4), (5, .int p5)]) hx hb dX7_copy_189 hl (by decide) rfl (fun ls hl => ?_)
                                  obtain ⟨q47, hL191, hM⟩ := bd hM
                                  have hJ191 : ∀ (H : Heap) (locs : List Loc), Wk g A s.heap H locs (wXM g a0 U0 V0 q47 R0 kv tv) → ∀ (ls : Array Slot), lv_has ls 7 [(0, .ref (a0 0)), (2, .int p2), (4, .int p4), (5, .int p5)] → W p l e (headSpec wsX7_copy ({ frames := 1, cells := 0, slots := 0, locals := 25 } : Room)).room s m ([.ref (a0 0), .int p1, .int p2, .int p3, .int p4, .int p5] : List Value).toArray below meth c H locs 0 0 (MQ below (QcW g (some (.int q.1)) (wXM g a0 U0 q.2.1 q.2.2.1 q.2.2.2 kv tv) A) ([.ref (a0 0), .int p1, .int p2, .int p3, .int p4, .int p5] : List Value).toArray s 0 0 A) (F0 m 222 ls []) := by
                                    intro H locs hw ls hl
                                    refine lv_iconst (v := (0 : Int32)) hx hb dX7_copy_222 (by decide) ?_
                                    refine lv_istore (lv' := [(6, .int (0 : Int32)), (0, .ref (a0 0)), (2, .int p2), (4, .int p4), (5, .int p5)]) hx hb dX7_copy_223 hl (by decide) rfl (fun ls hl => ?_)
                                    obtain ⟨q53, hL225, hM⟩ := bd hM
                                    have hJ225 : ∀ (H : Heap) (locs : List Loc), Wk g A s.heap H locs (wXM g a0 U0 V0 q47 q53 kv tv) → ∀ (ls : Array Slot), lv_has ls 7 [(5, .int p5)] → W p l e (headSpec wsX7_copy ({ frames := 1, cells := 0, slots := 0, locals := 25 } : Room)).room s m ([.ref (a0 0), .int p1, .int p2, .int p3, .int p4, .int p5] : List Value).toArray below meth c H locs 0 0 (MQ below (QcW g (some (.int q.1)) (wXM g a0 U0 q.2.1 q.2.2.1 q.2.2.2 kv tv) A) ([.ref (a0 0), .int p1, .int p2, .int p3, .int p4, .int p5] : List Value).toArray s 0 0 A) (F0 m 257 ls []) := by
                                      intro H locs hw ls hl
                                      refine lv_iload hx hb dX7_copy_257 (lv_at hl 0 rfl) ?_
                                      obtain rfl := Option.some.inj hM
                                      exact W.iret hx hb hr (fun t ht _ => ⟨rfl, by rw [ht]; exact hw.1, hw.2.2.F ht⟩) hw.2.2.2.2 dX7_copy_259
                                    have hW225 : ∀ (n : Nat) (v6_51 : Int32) (RL52 : LTS), L_X7_copy_225 p2 p4 p5 q47 n v6_51 RL52 = some q53 → ∀ (H : Heap) (locs : List Loc), Wk g A s.heap H locs (wXM g a0 U0 V0 q47 RL52 kv tv) → ∀ (ls : Array Slot), lv_has ls 7 [(6, .int v6_51), (0, .ref (a0 0)), (2, .int p2), (4, .int p4), (5, .int p5)] → W p l e (headSpec wsX7_copy ({ frames := 1, cells := 0, slots := 0, locals := 25 } : Room)).room s m ([.ref (a0 0), .int p1, .int p2, .int p3, .int p4, .int p5] : List Value).toArray below meth c H locs 0 0 (MQ below (QcW g (some (.int q.1)) (wXM g a0 U0 q.2.1 q.2.2.1 q.2.2.2 kv tv) A) ([.ref (a0 0), .int p1, .int p2, .int p3, .int p4, .int p5] : List Value).toArray s 0 0 A) (F0 m 225 ls []) := by
                                      intro n
                                      induction n with
                                      | zero => intro v6_51 RL52 hM; rw [L_X7_copy_225] at hM; exact nn hM
                                      | succ n ih225 =>
                                        intro v6_51 RL52 hM H locs hw ls hl
                                        rw [L_X7_copy_225] at hM
                                        refine lv_iload hx hb dX7_copy_225 (lv_at hl 0 rfl) ?_
                                        refine lv_iload hx hb dX7_copy_227 (lv_at hl 4 rfl) ?_
                                        refine lv_icmp_ge (tgt := 257) hx hb dX7_copy_229 (by decide) (fun c54 => ?_) (fun c54 => ?_)
                                        · replace hM := itp c54 hM
                                          obtain rfl := Option.some.inj hM
                                          exact hJ225 _ _ hw _ (lv_sub hl [4] rfl)
                                        · replace hM := itn c54 hM
                                          refine lv_aload_n hx hb dX7_copy_232 rfl (lv_at hl 1 rfl) ?_
                                          refine wk_get hx hb hts hin_X7 hown hK hw.1 7 0 3 (.ref (a0 12)) rfl rfl (by decide) (mi 6 rfl) rfl rfl dX7_copy_233 ?_
                                          refine lv_iload_n hx hb dX7_copy_236 rfl (lv_at hl 2 rfl) ?_
                                          refine wk_aald hx hb hK hw.1 12 8 (fun i => a0 (20 + i)) 3 rfl (k13) rfl rfl dX7_copy_237 ?_
                                          refine lv_iload hx hb dX7_copy_238 (lv_at hl 3 rfl) ?_
                                          refine lv_iload hx hb dX7_copy_240 (lv_at hl 0 rfl) ?_
                                          refine lv_iadd hx hb dX7_copy_242 ?_
                                          refine lv_aload_n hx hb dX7_copy_243 rfl (lv_at hl 1 rfl) ?_
                                          refine wk_get hx hb hts hin_X7 hown hK hw.1 7 0 4 (.ref (a0 13)) rfl rfl (by decide) (mi 5 rfl) rfl rfl dX7_copy_244 ?_
                                          refine lv_iload hx hb dX7_copy_247 (lv_at hl 0 rfl) ?_
                                          obtain ⟨k55, hM⟩ := ck hM
                                          refine wk_lald hx hb hK hw.1 13 40 (q47 4) rfl k55 dX7_copy_249 ?_
                                          obtain ⟨k56, hM⟩ := ck hM
                                          refine wk_last (wq := (wXM g a0 U0 V0 q47 (upL RL52 (p2).toNatClampNeg (vp_updL (RL52 (p2).toNatClampNeg) ((p4 + v6_51)).toNatClampNeg ((q47 4) (v6_51).toNatClampNeg))) kv tv)) hx hb hK hw (20 + (p2).toNatClampNeg) 40 (RL52 (p2).toNatClampNeg) (wXM_row (Nat.lt_of_not_le (fun z => k13 (Or.inr z)))) k56 dX7_copy_250 (wXM_set (Nat.lt_of_not_le (fun z => k13 (Or.inr z)))) (fun H locs hw => ?_)
                                          refine lv_iinc (v := (v6_51 + (1 : Int32))) (lv' := [(6, .int (v6_51 + (1 : Int32))), (0, .ref (a0 0)), (2, .int p2), (4, .int p4), (5, .int p5)]) hx hb dX7_copy_251 hl (k := 0) rfl rfl (by decide) rfl (fun ls hl => ?_)
                                          refine lv_goto (tgt := 225) hx hb dX7_copy_254 (by decide) ?_
                                          exact ih225 (v6_51 + (1 : Int32)) (upL RL52 (p2).toNatClampNeg (vp_updL (RL52 (p2).toNatClampNeg) ((p4 + v6_51)).toNatClampNeg ((q47 4) (v6_51).toNatClampNeg))) hM _ _ hw _ (lv_sub hl [0, 1, 2, 3, 4] rfl)
                                    exact hW225 300 (0 : Int32) R0 hL225 _ _ hw _ (lv_sub hl [0, 1, 2, 3, 4] rfl)
                                  have hW191 : ∀ (n : Nat) (v6_45 : Int32) (ML46 : LTS), L_X7_copy_191 R0 p1 p3 p5 n v6_45 ML46 = some q47 → ∀ (H : Heap) (locs : List Loc), Wk g A s.heap H locs (wXM g a0 U0 V0 ML46 R0 kv tv) → ∀ (ls : Array Slot), lv_has ls 7 [(6, .int v6_45), (0, .ref (a0 0)), (1, .int p1), (2, .int p2), (3, .int p3), (4, .int p4), (5, .int p5)] → W p l e (headSpec wsX7_copy ({ frames := 1, cells := 0, slots := 0, locals := 25 } : Room)).room s m ([.ref (a0 0), .int p1, .int p2, .int p3, .int p4, .int p5] : List Value).toArray below meth c H locs 0 0 (MQ below (QcW g (some (.int q.1)) (wXM g a0 U0 q.2.1 q.2.2.1 q.2.2.2 kv tv) A) ([.ref (a0 0), .int p1, .int p2, .int p3, .int p4, .int p5] : List Value).toArray s 0 0 A) (F0 m 191 ls []) := by
                                    intro n
                                    induction n with
                                    | zero => intro v6_45 ML46 hM; rw [L_X7_copy_191] at hM; exact nn hM
                                    | succ n ih191 =>
                                      intro v6_45 ML46 hM H locs hw ls hl
                                      rw [L_X7_copy_191] at hM
                                      refine lv_iload hx hb dX7_copy_191 (lv_at hl 0 rfl) ?_
                                      refine lv_iload hx hb dX7_copy_193 (lv_at hl 6 rfl) ?_
                                      refine lv_icmp_ge (tgt := 222) hx hb dX7_copy_195 (by decide) (fun c48 => ?_) (fun c48 => ?_)
                                      · replace hM := itp c48 hM
                                        obtain rfl := Option.some.inj hM
                                        exact hJ191 _ _ hw _ (lv_sub hl [1, 3, 5, 6] rfl)
                                      · replace hM := itn c48 hM
                                        refine lv_aload_n hx hb dX7_copy_198 rfl (lv_at hl 1 rfl) ?_
                                        refine wk_get hx hb hts hin_X7 hown hK hw.1 7 0 4 (.ref (a0 13)) rfl rfl (by decide) (mi 5 rfl) rfl rfl dX7_copy_199 ?_
                                        refine lv_iload hx hb dX7_copy_202 (lv_at hl 0 rfl) ?_
                                        refine lv_aload_n hx hb dX7_copy_204 rfl (lv_at hl 1 rfl) ?_
                                        refine wk_get hx hb hts hin_X7 hown hK hw.1 7 0 3 (.ref (a0 12)) rfl rfl (by decide) (mi 6 rfl) rfl rfl dX7_copy_205 ?_
                                        refine lv_iload_n hx hb dX7_copy_208 rfl (lv_at hl 2 rfl) ?_
                                        refine wk_aald hx hb hK hw.1 12 8 (fun i => a0 (20 + i)) 3 rfl (k9) rfl rfl dX7_copy_209 ?_
                                        refine lv_iload_n hx hb dX7_copy_210 rfl (lv_at hl 4 rfl) ?_
                                        refine lv_iload hx hb dX7_copy_211 (lv_at hl 0 rfl) ?_
                                        refine lv_iadd hx hb dX7_copy_213 ?_
                                        obtain ⟨k49, hM⟩ := ck hM
                                        refine wk_lald hx hb hK hw.1 (20 + (p1).toNatClampNeg) 40 (R0 (p1).toNatClampNeg) (wXM_row (Nat.lt_of_not_le (fun z => k9 (Or.inr z)))) k49 dX7_copy_214 ?_
                                        obtain ⟨k50, hM⟩ := ck hM
                                        refine wk_last (wq := (wXM g a0 U0 V0 (upL ML46 4 (vp_updL (ML46 4) (v6_45).toNatClampNeg ((R0 (p1).toNatClampNeg) ((p3 + v6_45)).toNatClampNeg))) R0 kv tv)) hx hb hK hw 13 40 (ML46 4) rfl k50 dX7_copy_215 rfl (fun H locs hw => ?_)
                                        refine lv_iinc (v := (v6_45 + (1 : Int32))) (lv' := [(6, .int (v6_45 + (1 : Int32))), (0, .ref (a0 0)), (1, .int p1), (2, .int p2), (3, .int p3), (4, .int p4), (5, .int p5)]) hx hb dX7_copy_216 hl (k := 0) rfl rfl (by decide) rfl (fun ls hl => ?_)
                                        refine lv_goto (tgt := 191) hx hb dX7_copy_219 (by decide) ?_
                                        exact ih191 (v6_45 + (1 : Int32)) (upL ML46 4 (vp_updL (ML46 4) (v6_45).toNatClampNeg ((R0 (p1).toNatClampNeg) ((p3 + v6_45)).toNatClampNeg))) hM _ _ hw _ (lv_sub hl [0, 1, 2, 3, 4, 5, 6] rfl)
                                  exact hW191 300 (0 : Int32) M0 hL191 _ _ hw _ (lv_sub hl [0, 1, 2, 3, 4, 5, 6] rfl)
                                · replace hM := itn c44 hM
                                  refine lv_aload_n hx hb dX7_copy_181 rfl (lv_at hl 0 rfl) ?_
                                  refine lv_bipush (v := (-2 : Int32)) hx hb dX7_copy_182 (by decide) ?_
                                  obtain ⟨q58, h57, hM⟩ := bd hM
                                  refine rVWp (wc := (wXM g a0 U0 V0 M0 R0 kv tv)) (wq := (wXM g a0 U0 q58.2 M0 R0 kv tv)) (As := [.int (-2 : Int32)]) (rest := []) (q0 := 0) hS (c_X7_refuse l g a0 kv tv U0 V0 M0 R0 (-2 : Int32) h57) gX7_copy_X7_refuse rfl hd_X7_refuse ⟨Nat.le_of_ble_eq_true rfl, Nat.le_of_ble_eq_true rfl⟩ hK hw hA (pm_1_0 _) rfl (pm_1_0 _) rfl rfl rfl rfl hl.1 rfl (Nat.le_of_ble_eq_true rfl) dX7_copy_184 ⟨Nat.zero_le _, Nat.zero_le _⟩ (fun H locs hw => ?_)
                                  obtain rfl := Option.some.inj hM
                                  exact W.iret hx hb hr (fun t ht _ => ⟨rfl, by rw [ht]; exact hw.1, hw.2.2.F ht⟩) hw.2.2.2.2 dX7_copy_187
                  · replace hM := itp c23 hM
                    refine lv_aload_n hx hb dX7_copy_111 rfl (lv_at hl 0 rfl) ?_
                    refine lv_bipush (v := (-4 : Int32)) hx hb dX7_copy_112 (by decide) ?_
                    obtain ⟨q25, h24, hM⟩ := bd hM
                    refine rVWp (wc := (wXM g a0 U0 V0 M0 R0 kv tv)) (wq := (wXM g a0 U0 q25.2 M0 R0 kv tv)) (As := [.int (-4 : Int32)]) (rest := []) (q0 := 0) hS (c_X7_refuse l g a0 kv tv U0 V0 M0 R0 (-4 : Int32) h24) gX7_copy_X7_refuse rfl hd_X7_refuse ⟨Nat.le_of_ble_eq_true rfl, Nat.le_of_ble_eq_true rfl⟩ hK hw hA (pm_1_0 _) rfl (pm_1_0 _) rfl rfl rfl rfl hl.1 rfl (Nat.le_of_ble_eq_true rfl) dX7_copy_114 ⟨Nat.zero_le _, Nat.zero_le _⟩ (fun H locs hw => ?_)
                    obtain rfl := Option.some.inj hM
                    exact W.iret hx hb hr (fun t ht _ => ⟨rfl, by rw [ht]; exact hw.1, hw.2.2.F ht⟩) hw.2.2.2.2 dX7_copy_117
              · replace hM := itn c19 hM
                refine lv_aload_n hx hb dX7_copy_86 rfl (lv_at hl 0 rfl) ?_
                refine lv_bipush (v := (-3 : Int32)) hx hb dX7_copy_87 (by decide) ?_
                obtain ⟨q60, h59, hM⟩ := bd hM
                refine rVWp (wc := (wXM g a0 U0 V0 M0 R0 kv tv)) (wq := (wXM g a0 U0 q60.2 M0 R0 kv tv)) (As := [.int (-3 : Int32)]) (rest := []) (q0 := 0) hS (c_X7_refuse l g a0 kv tv U0 V0 M0 R0 (-3 : Int32) h59) gX7_copy_X7_refuse rfl hd_X7_refuse ⟨Nat.le_of_ble_eq_true rfl, Nat.le_of_ble_eq_true rfl⟩ hK hw hA (pm_1_0 _) rfl (pm_1_0 _) rfl rfl rfl rfl hl.1 rfl (Nat.le_of_ble_eq_true rfl) dX7_copy_89 ⟨Nat.zero_le _, Nat.zero_le _⟩ (fun H locs hw => ?_)
                obtain rfl := Option.some.inj hM
                exact W.iret hx hb hr (fun t ht _ => ⟨rfl, by rw [ht]; exact hw.1, hw.2.2.F ht⟩) hw.2.2.2.2 dX7_copy_92
    · replace hM := itp c6 hM
      refine lv_aload_n hx hb dX7_copy_24 rfl (lv_at hl 0 rfl) ?_
      refine lv_bipush (v := (-2 : Int32)) hx hb dX7_copy_25 (by decide) ?_
      obtain ⟨q8, h7, hM⟩ := bd hM
      refine rVWp (wc := (wXM g a0 U0 V0 M0 R0 kv tv)) (wq := (wXM g a0 U0 q8.2 M0 R0 kv tv)) (As := [.int (-2 : Int32)]) (rest := []) (q0 := 0) hS (c_X7_refuse l g a0 kv tv U0 V0 M0 R0 (-2 : Int32) h7) gX7_copy_X7_refuse rfl hd_X7_refuse ⟨Nat.le_of_ble_eq_true rfl, Nat.le_of_ble_eq_true rfl⟩ hK hw hA (pm_1_0 _) rfl (pm_1_0 _) rfl rfl rfl rfl hl.1 rfl (Nat.le_of_ble_eq_true rfl) dX7_copy_27 ⟨Nat.zero_le _, Nat.zero_le _⟩ (fun H locs hw => ?_)
      obtain rfl := Option.some.inj hM
      exact W.iret hx hb hr (fun t ht _ => ⟨rfl, by rw [ht]; exact hw.1, hw.2.2.F ht⟩) hw.2.2.2.2 dX7_copy_30
