theorem hd_X7_says : yX7_says.cls = RX7 ∧ yX7_says.cls ≠ "java/lang/invoke/MethodHandle" ∧ yX7_says.cls ≠ "java/lang/invoke/VarHandle" ∧ (parseMethodDescriptor yX7_says.desc).map (fun d => d.parameters.length) = some 2 := by decide +kernel
set_option maxHeartbeats 4000000 in
set_option maxRecDepth 100000 in
theorem c_X7_says (l : Launch) (g : Gm) (a0 : Nat → Nat) (kv : Value) (tv : Value) (U0 : TS) (V0 : TS) (M0 : LTS) (R0 : LTS) (p1 : Int32) (p2 : Int32) {q : (Int32 × TS)} (hM : f_X7_says U0 V0 M0 R0 p1 p2 = some q) : MW l yX7_says wsX7_says 2 46 g [.ref (a0 0), .int p1, .int p2] (wXM g a0 U0 V0 M0 R0 kv tv) (some (.int q.1)) (wXM g a0 U0 q.2 M0 R0 kv tv) := by
  intro sz
  refine Met.ofW (cc := cX7_says) (maxL := 4) (ret := (some .int)) (by decide) rfl ?_
  intro p e s m args below meth c s₁ B hml hv
  obtain ⟨rfl, hsz, hP, hK, hD0⟩ := hv
  have hx := B.exec; have hb := B.bytes; have hr := B.returns
  have hts := atoms_spec (ws := wsX7_says) B.pre
  have hown : s.vm.findClass RX7 = some m.cls := findClass_of_methodNamed B.named
  have hlocks := B.notSynchronized
  have hS : CallFix p m c cX7_says 4 s _ wsX7_says RX7 := ⟨hx, hb, hml, hown, hts⟩
  have hin_X7 : ∀ w ∈ wsX70, w ∈ wsX7_says := fun w h => (List.mem_cons_of_mem _ (List.mem_append_right _ h))
  subst hsz
  have hw := wk_start hP hD0
  have hA : ∀ q : Nat, s.heap.size ≤ q → va_A (wXM g a0 U0 V0 M0 R0 kv tv) s.heap.size q := fun q h => Or.inr h
  generalize va_A (wXM g a0 U0 V0 M0 R0 kv tv) s.heap.size = A at hw hA ⊢
  clear hP hD0
  have hl := lv_entry ([.ref (a0 0), .int p1, .int p2]) (n := 4) (Nat.le_of_ble_eq_true rfl)
  rw [lg_entry_eq]
  generalize (lg_sl ([.ref (a0 0), .int p1, .int p2]) ++ List.replicate (4 - (lg_sl ([.ref (a0 0), .int p1, .int p2])).length) Slot.unset).toArray = ls at hl ⊢
  have hl : lv_has ls 4 [(0, .ref (a0 0)), (1, .int p1), (2, .int p2)] := hl
  rw [f_X7_says] at hM
  refine lv_iload_n hx hb dX7_says_0 rfl (lv_at hl 1 rfl) ?_
  refine lv_i2l (v := ((p1).toInt64)) hx hb dX7_says_1 rfl ?_
  refine lv_lconst (v := (0 : Int64)) hx hb dX7_says_2 (by decide) ?_
  refine lv_ldc2 (v := (7 : Int64)) hx hb hown (hts _ (mi 1 rfl)) dX7_says_3 ?_
  refine rSR (wc := ([] : va_W)) (As := [.long ((p1).toInt64), .long (0 : Int64), .long (7 : Int64)]) (rest := []) hS (c_X7_in l g ((p1).toInt64) (0 : Int64) (7 : Int64)) gX7_says_X7_in rfl hd_X7_in ⟨Nat.le_of_ble_eq_true rfl, Nat.le_of_ble_eq_true rfl⟩ hK (hP_nil) rfl hl.1 rfl (Nat.le_of_ble_eq_true rfl) dX7_says_6 ⟨Nat.zero_le _, Nat.zero_le _⟩ ?_
  refine lv_if_eq (tgt := 24) hx hb dX7_says_9 (by decide) (fun c2 => ?_) (fun c2 => ?_)
  · replace hM := itp c2 hM
    refine lv_aload_n hx hb dX7_says_24 rfl (lv_at hl 0 rfl) ?_
    refine lv_bipush (v := (-2 : Int32)) hx hb dX7_says_25 (by decide) ?_
    obtain ⟨q4, h3, hM⟩ := bd hM
    refine rVWp (wc := (wXM g a0 U0 V0 M0 R0 kv tv)) (wq := (wXM g a0 U0 q4.2 M0 R0 kv tv)) (As := [.int (-2 : Int32)]) (rest := []) (q0 := 0) hS (c_X7_refuse l g a0 kv tv U0 V0 M0 R0 (-2 : Int32) h3) gX7_says_X7_refuse rfl hd_X7_refuse ⟨Nat.le_of_ble_eq_true rfl, Nat.le_of_ble_eq_true rfl⟩ hK hw hA (pm_1_0 _) rfl (pm_1_0 _) rfl rfl rfl rfl hl.1 rfl (Nat.le_of_ble_eq_true rfl) dX7_says_27 ⟨Nat.zero_le _, Nat.zero_le _⟩ (fun H locs hw => ?_)
    obtain rfl := Option.some.inj hM
    exact W.iret hx hb hr (fun t ht _ => ⟨rfl, by rw [ht]; exact hw.1, hw.2.2.F ht⟩) hw.2.2.2.2 dX7_says_30
  · replace hM := itn c2 hM
    refine lv_iload_n hx hb dX7_says_12 rfl (lv_at hl 2 rfl) ?_
    refine lv_i2l (v := ((p2).toInt64)) hx hb dX7_says_13 rfl ?_
    refine lv_lconst (v := (0 : Int64)) hx hb dX7_says_14 (by decide) ?_
    refine lv_ldc2 (v := (5 : Int64)) hx hb hown (hts _ (mi 2 rfl)) dX7_says_15 ?_
    refine rSR (wc := ([] : va_W)) (As := [.long ((p2).toInt64), .long (0 : Int64), .long (5 : Int64)]) (rest := []) hS (c_X7_in l g ((p2).toInt64) (0 : Int64) (5 : Int64)) gX7_says_X7_in rfl hd_X7_in ⟨Nat.le_of_ble_eq_true rfl, Nat.le_of_ble_eq_true rfl⟩ hK (hP_nil) rfl hl.1 rfl (Nat.le_of_ble_eq_true rfl) dX7_says_18 ⟨Nat.zero_le _, Nat.zero_le _⟩ ?_
    refine lv_if_ne (tgt := 31) hx hb dX7_says_21 (by decide) (fun c6 => ?_) (fun c6 => ?_)
    · replace hM := itn c6 hM
      refine lv_aload_n hx hb dX7_says_31 rfl (lv_at hl 0 rfl) ?_
      refine wk_get hx hb hts hin_X7 hown hK hw.1 7 0 0 (.ref (a0 9)) rfl rfl (by decide) (mi 3 rfl) rfl rfl dX7_says_32 ?_
      refine lv_iload_n hx hb dX7_says_35 rfl (lv_at hl 1 rfl) ?_
      obtain ⟨k9, hM⟩ := ck hM
      refine wk_iald hx hb hK hw.1 9 8 (V0 0) rfl k9 dX7_says_36 ?_
      refine lv_iconst (v := (1 : Int32)) hx hb dX7_says_37 (by decide) ?_
      refine lv_icmp_eq (tgt := 69) hx hb dX7_says_38 (by decide) (fun c10 => ?_) (fun c10 => ?_)
      · replace hM := itp c10 hM
        refine lv_aload_n hx hb dX7_says_69 rfl (lv_at hl 0 rfl) ?_
        refine lv_bipush (v := (-3 : Int32)) hx hb dX7_says_70 (by decide) ?_
        obtain ⟨q12, h11, hM⟩ := bd hM
        refine rVWp (wc := (wXM g a0 U0 V0 M0 R0 kv tv)) (wq := (wXM g a0 U0 q12.2 M0 R0 kv tv)) (As := [.int (-3 : Int32)]) (rest := []) (q0 := 0) hS (c_X7_refuse l g a0 kv tv U0 V0 M0 R0 (-3 : Int32) h11) gX7_says_X7_refuse rfl hd_X7_refuse ⟨Nat.le_of_ble_eq_true rfl, Nat.le_of_ble_eq_true rfl⟩ hK hw hA (pm_1_0 _) rfl (pm_1_0 _) rfl rfl rfl rfl hl.1 rfl (Nat.le_of_ble_eq_true rfl) dX7_says_72 ⟨Nat.zero_le _, Nat.zero_le _⟩ (fun H locs hw => ?_)
        obtain rfl := Option.some.inj hM
        exact W.iret hx hb hr (fun t ht _ => ⟨rfl, by rw [ht]; exact hw.1, hw.2.2.F ht⟩) hw.2.2.2.2 dX7_says_75
      · replace hM := itn c10 hM
        refine lv_aload_n hx hb dX7_says_41 rfl (lv_at hl 0 rfl) ?_
        refine wk_get hx hb hts hin_X7 hown hK hw.1 7 0 0 (.ref (a0 9)) rfl rfl (by decide) (mi 3 rfl) rfl rfl dX7_says_42 ?_
        refine lv_iload_n hx hb dX7_says_45 rfl (lv_at hl 1 rfl) ?_
        refine wk_iald hx hb hK hw.1 9 8 (V0 0) rfl k9 dX7_says_46 ?_
        refine lv_iconst (v := (2 : Int32)) hx hb dX7_says_47 (by decide) ?_
        refine lv_icmp_ne (tgt := 76) hx hb dX7_says_48 (by decide) (fun c13 => ?_) (fun c13 => ?_)
        · replace hM := itn c13 hM
          refine lv_aload_n hx hb dX7_says_76 rfl (lv_at hl 0 rfl) ?_
          refine wk_get hx hb hts hin_X7 hown hK hw.1 7 0 0 (.ref (a0 9)) rfl rfl (by decide) (mi 3 rfl) rfl rfl dX7_says_77 ?_
          refine lv_iload_n hx hb dX7_says_80 rfl (lv_at hl 1 rfl) ?_
          refine wk_iald hx hb hK hw.1 9 8 (V0 0) rfl k9 dX7_says_81 ?_
          refine lv_if_ne (tgt := 92) hx hb dX7_says_82 (by decide) (fun c40 => ?_) (fun c40 => ?_)
          · replace hM := itn c40 hM
            refine lv_aload_n hx hb dX7_says_92 rfl (lv_at hl 0 rfl) ?_
            refine wk_get hx hb hts hin_X7 hown hK hw.1 7 0 5 (.ref (a0 14)) rfl rfl (by decide) (mi 5 rfl) rfl rfl dX7_says_93 ?_
            refine lv_iload_n hx hb dX7_says_96 rfl (lv_at hl 1 rfl) ?_
            refine wk_iald hx hb hK hw.1 14 8 (V0 5) rfl k9 dX7_says_97 ?_
            refine lv_istore_n (lv' := [(3, .int ((V0 5) (p1).toNatClampNeg)), (0, .ref (a0 0)), (1, .int p1), (2, .int p2)]) hx hb dX7_says_98 rfl hl (by decide) rfl (fun ls hl => ?_)
            refine lv_iload_n hx hb dX7_says_99 rfl (lv_at hl 3 rfl) ?_
            by_cases c43_0 : p2 = (0 : Int32)
            · replace hM := itp c43_0 hM
              refine lv_tableIn (tgt := 136) hx hb dX7_says_100 (by rw [c43_0]; decide) (by rw [c43_0]; decide) (by rw [c43_0]; first | done | rfl) (by decide) ?_
              refine lv_aload_n hx hb dX7_says_136 rfl (lv_at hl 1 rfl) ?_
              refine lv_iload_n hx hb dX7_says_137 rfl (lv_at hl 0 rfl) ?_
              obtain ⟨q45, h44, hM⟩ := bd hM
              refine rVR (wc := (wXT g a0 (fm a0 V0 kv tv) U0)) (As := [.int ((V0 5) (p1).toNatClampNeg)]) (rest := []) (q0 := 0) hS (c_X7_mayOf l g a0 (fm a0 V0 kv tv) U0 ((V0 5) (p1).toNatClampNeg) h44) gX7_says_X7_mayOf rfl hd_X7_mayOf ⟨Nat.le_of_ble_eq_true rfl, Nat.le_of_ble_eq_true rfl⟩ hK (va_P.pm hw.1 (pmX1 _ _ _ _ _ _ _ _)) rfl rfl rfl rfl hl.1 rfl (Nat.le_of_ble_eq_true rfl) dX7_says_138 ⟨Nat.zero_le _, Nat.zero_le _⟩ ?_
              obtain rfl := Option.some.inj hM
              exact W.iret hx hb hr (fun t ht _ => ⟨rfl, by rw [ht]; exact hw.1, hw.2.2.F ht⟩) hw.2.2.2.2 dX7_says_141
            replace hM := itn c43_0 hM
            by_cases c43_1 : p2 = (1 : Int32)
            · replace hM := itp c43_1 hM
              refine lv_tableIn (tgt := 142) hx hb dX7_says_100 (by rw [c43_1]; decide) (by rw [c43_1]; decide) (by rw [c43_1]; first | done | rfl) (by decide) ?_
              refine lv_aload_n hx hb dX7_says_142 rfl (lv_at hl 1 rfl) ?_
              refine wk_get hx hb hts hin_X7 hown hK hw.1 7 0 16 (.ref (a0 6)) rfl rfl (by decide) (mi 6 rfl) rfl rfl dX7_says_143 ?_
              refine lv_iload_n hx hb dX7_says_146 rfl (lv_at hl 0 rfl) ?_
              obtain ⟨k46, hM⟩ := ck hM
              refine wk_iald hx hb hK hw.1 6 7 (U0 16) rfl k46 dX7_says_147 ?_
              obtain ⟨q48, h47, hM⟩ := bd hM
              refine rSR (wc := ([] : va_W)) (As := [.int ((U0 16) (((V0 5) (p1).toNatClampNeg)).toNatClampNeg)]) (rest := []) hS (c_X7_bits l g ((U0 16) (((V0 5) (p1).toNatClampNeg)).toNatClampNeg) h47) gX7_says_X7_bits rfl hd_X7_bits ⟨Nat.le_of_ble_eq_true rfl, Nat.le_of_ble_eq_true rfl⟩ hK (hP_nil) rfl hl.1 rfl (Nat.le_of_ble_eq_true rfl) dX7_says_148 ⟨Nat.zero_le _, Nat.zero_le _⟩ ?_
              obtain rfl := Option.some.inj hM
              exact W.iret hx hb hr (fun t ht _ => ⟨rfl, by rw [ht]; exact hw.1, hw.2.2.F ht⟩) hw.2.2.2.2 dX7_says_151
            replace hM := itn c43_1 hM
            by_cases c43_2 : p2 = (2 : Int32)
            · replace hM := itp c43_2 hM
              refine lv_tableIn (tgt := 152) hx hb dX7_says_100 (by rw [c43_2]; decide) (by rw [c43_2]; decide) (by rw [c43_2]; first | done | rfl) (by decide) ?_
              refine lv_aload_n hx hb dX7_says_152 rfl (lv_at hl 1 rfl) ?_
              refine rVR (wc := (wXT g a0 (fm a0 V0 kv tv) U0)) (As := []) (rest := []) (q0 := 0) hS (c_X7_allSights l g a0 (fm a0 V0 kv tv) U0) gX7_says_X7_allSights rfl hd_X7_allSights ⟨Nat.le_of_ble_eq_true rfl, Nat.le_of_ble_eq_true rfl⟩ hK (va_P.pm hw.1 (pmX1 _ _ _ _ _ _ _ _)) rfl rfl rfl rfl hl.1 rfl (Nat.le_of_ble_eq_true rfl) dX7_says_153 ⟨Nat.zero_le _, Nat.zero_le _⟩ ?_
              refine lv_aload_n hx hb dX7_says_156 rfl (lv_at hl 1 rfl) ?_
              refine lv_iload_n hx hb dX7_says_157 rfl (lv_at hl 0 rfl) ?_
              obtain ⟨q51, h50, hM⟩ := bd hM
              refine rVR (wc := (wXT g a0 (fm a0 V0 kv tv) U0)) (As := [.int ((V0 5) (p1).toNatClampNeg)]) (rest := [.int (f_X7_allSights U0)]) (q0 := 0) hS (c_X7_barredBy l g a0 (fm a0 V0 kv tv) U0 ((V0 5) (p1).toNatClampNeg) h50) gX7_says_X7_barredBy rfl hd_X7_barredBy ⟨Nat.le_of_ble_eq_true rfl, Nat.le_of_ble_eq_true rfl⟩ hK (va_P.pm hw.1 (pmX1 _ _ _ _ _ _ _ _)) rfl rfl rfl rfl hl.1 rfl (Nat.le_of_ble_eq_true rfl) dX7_says_158 ⟨Nat.zero_le _, Nat.zero_le _⟩ ?_
              refine lv_iconst (v := (-1 : Int32)) hx hb dX7_says_161 (by decide) ?_
              refine lv_ixor hx hb dX7_says_162 ?_
              refine lv_iand hx hb dX7_says_163 ?_
              obtain ⟨q53, h52, hM⟩ := bd hM
              refine rSR (wc := ([] : va_W)) (As := [.int ((f_X7_allSights U0) &&& (q51 ^^^ (-1 : Int32)))]) (rest := []) hS (c_X7_bits l g ((f_X7_allSights U0) &&& (q51 ^^^ (-1 : Int32))) h52) gX7_says_X7_bits rfl hd_X7_bits ⟨Nat.le_of_ble_eq_true rfl, Nat.le_of_ble_eq_true rfl⟩ hK (hP_nil) rfl hl.1 rfl (Nat.le_of_ble_eq_true rfl) dX7_says_164 ⟨Nat.zero_le _, Nat.zero_le _⟩ ?_
              obtain rfl := Option.some.inj hM
              exact W.iret hx hb hr (fun t ht _ => ⟨rfl, by rw [ht]; exact hw.1, hw.2.2.F ht⟩) hw.2.2.2.2 dX7_says_167
            replace hM := itn c43_2 hM
            by_cases c43_3 : p2 = (3 : Int32)
            · replace hM := itp c43_3 hM
              refine lv_tableIn (tgt := 168) hx hb dX7_says_100 (by rw [c43_3]; decide) (by rw [c43_3]; decide) (by rw [c43_3]; first | done | rfl) (by decide) ?_
              refine lv_aload_n hx hb dX7_says_168 rfl (lv_at hl 1 rfl) ?_
              refine lv_iload_n hx hb dX7_says_169 rfl (lv_at hl 0 rfl) ?_
              obtain ⟨q55, h54, hM⟩ := bd hM
              refine rVR (wc := (wXT g a0 (fm a0 V0 kv tv) U0)) (As := [.int ((V0 5) (p1).toNatClampNeg)]) (rest := []) (q0 := 0) hS (c_X7_barredBy l g a0 (fm a0 V0 kv tv) U0 ((V0 5) (p1).toNatClampNeg) h54) gX7_says_X7_barredBy rfl hd_X7_barredBy ⟨Nat.le_of_ble_eq_true rfl, Nat.le_of_ble_eq_true rfl⟩ hK (va_P.pm hw.1 (pmX1 _ _ _ _ _ _ _ _)) rfl rfl rfl rfl hl.1 rfl (Nat.le_of_ble_eq_true rfl) dX7_says_170 ⟨Nat.zero_le _, Nat.zero_le _⟩ ?_
              obtain ⟨q57, h56, hM⟩ := bd hM
              refine rSR (wc := ([] : va_W)) (As := [.int q55]) (rest := []) hS (c_X7_firstOf l g q55 h56) gX7_says_X7_firstOf rfl hd_X7_firstOf ⟨Nat.le_of_ble_eq_true rfl, Nat.le_of_ble_eq_true rfl⟩ hK (hP_nil) rfl hl.1 rfl (Nat.le_of_ble_eq_true rfl) dX7_says_173 ⟨Nat.zero_le _, Nat.zero_le _⟩ ?_
              obtain rfl := Option.some.inj hM
              exact W.iret hx hb hr (fun t ht _ => ⟨rfl, by rw [ht]; exact hw.1, hw.2.2.F ht⟩) hw.2.2.2.2 dX7_says_176
            replace hM := itn c43_3 hM
            by_cases c43_4 : p2 = (4 : Int32)
            · replace hM := itp c43_4 hM
              refine lv_tableIn (tgt := 177) hx hb dX7_says_100 (by rw [c43_4]; decide) (by rw [c43_4]; decide) (by rw [c43_4]; first | done | rfl) (by decide) ?_
              refine lv_aload_n hx hb dX7_says_177 rfl (lv_at hl 1 rfl) ?_
              refine wk_get hx hb hts hin_X7 hown hK hw.1 7 0 15 (.ref (a0 5)) rfl rfl (by decide) (mi 7 rfl) rfl rfl dX7_says_178 ?_
              refine lv_iload_n hx hb dX7_says_181 rfl (lv_at hl 0 rfl) ?_
              obtain ⟨k58, hM⟩ := ck hM
              refine wk_iald hx hb hK hw.1 5 7 (U0 15) rfl k58 dX7_says_182 ?_
              obtain ⟨q60, h59, hM⟩ := bd hM
              refine rSR (wc := ([] : va_W)) (As := [.int ((U0 15) (((V0 5) (p1).toNatClampNeg)).toNatClampNeg)]) (rest := []) hS (c_X7_bits l g ((U0 15) (((V0 5) (p1).toNatClampNeg)).toNatClampNeg) h59) gX7_says_X7_bits rfl hd_X7_bits ⟨Nat.le_of_ble_eq_true rfl, Nat.le_of_ble_eq_true rfl⟩ hK (hP_nil) rfl hl.1 rfl (Nat.le_of_ble_eq_true rfl) dX7_says_183 ⟨Nat.zero_le _, Nat.zero_le _⟩ ?_
              obtain rfl := Option.some.inj hM
              exact W.iret hx hb hr (fun t ht _ => ⟨rfl, by rw [ht]; exact hw.1, hw.2.2.F ht⟩) hw.2.2.2.2 dX7_says_186
            replace hM := itn c43_4 hM
            refine lv_tableOut (tgt := 187) hx hb dX7_says_100 (sw_out (lo := 0) (hi := 4) (by decide) (by decide) (fun k h1 h2 hk => by
            have hs : k = (0 : Int) ∨ k = (1 : Int) ∨ k = (2 : Int) ∨ k = (3 : Int) ∨ k = (4 : Int) := by omega
            rcases hs with hs | hs | hs | hs | hs <;> subst hs <;> first | exact c43_0 (Int32.toInt_inj.mp (hk.trans (by decide))) | exact c43_1 (Int32.toInt_inj.mp (hk.trans (by decide))) | exact c43_2 (Int32.toInt_inj.mp (hk.trans (by decide))) | exact c43_3 (Int32.toInt_inj.mp (hk.trans (by decide))) | exact c43_4 (Int32.toInt_inj.mp (hk.trans (by decide))))) (by decide) ?_
            refine lv_aload_n hx hb dX7_says_187 rfl (lv_at hl 1 rfl) ?_
            refine wk_get hx hb hts hin_X7 hown hK hw.1 7 0 13 (.ref (a0 3)) rfl rfl (by decide) (mi 8 rfl) rfl rfl dX7_says_188 ?_
            refine lv_iload_n hx hb dX7_says_191 rfl (lv_at hl 0 rfl) ?_
            obtain ⟨k61, hM⟩ := ck hM
            refine wk_iald hx hb hK hw.1 3 7 (U0 13) rfl k61 dX7_says_192 ?_
            obtain ⟨q63, h62, hM⟩ := bd hM
            refine rSR (wc := ([] : va_W)) (As := [.int ((U0 13) (((V0 5) (p1).toNatClampNeg)).toNatClampNeg)]) (rest := []) hS (c_X7_firstOf l g ((U0 13) (((V0 5) (p1).toNatClampNeg)).toNatClampNeg) h62) gX7_says_X7_firstOf rfl hd_X7_firstOf ⟨Nat.le_of_ble_eq_true rfl, Nat.le_of_ble_eq_true rfl⟩ hK (hP_nil) rfl hl.1 rfl (Nat.le_of_ble_eq_true rfl) dX7_says_193 ⟨Nat.zero_le _, Nat.zero_le _⟩ ?_
            obtain rfl := Option.some.inj hM
            exact W.iret hx hb hr (fun t ht _ => ⟨rfl, by rw [ht]; exact hw.1, hw.2.2.F ht⟩) hw.2.2.2.2 dX7_says_196
          · replace hM := itp c40 hM
            refine lv_aload_n hx hb dX7_says_85 rfl (lv_at hl 0 rfl) ?_
            refine lv_bipush (v := (-4 : Int32)) hx hb dX7_says_86 (by decide) ?_
            obtain ⟨q42, h41, hM⟩ := bd hM
            refine rVWp (wc := (wXM g a0 U0 V0 M0 R0 kv tv)) (wq := (wXM g a0 U0 q42.2 M0 R0 kv tv)) (As := [.int (-4 : Int32)]) (rest := []) (q0 := 0) hS (c_X7_refuse l g a0 kv tv U0 V0 M0 R0 (-4 : Int32) h41) gX7_says_X7_refuse rfl hd_X7_refuse ⟨Nat.le_of_ble_eq_true rfl, Nat.le_of_ble_eq_true rfl⟩ hK hw hA (pm_1_0 _) rfl (pm_1_0 _) rfl rfl rfl rfl hl.1 rfl (Nat.le_of_ble_eq_true rfl) dX7_says_88 ⟨Nat.zero_le _, Nat.zero_le _⟩ (fun H locs hw => ?_)
            obtain rfl := Option.some.inj hM
            exact W.iret hx hb hr (fun t ht _ => ⟨rfl, by rw [ht]; exact hw.1, hw.2.2.F ht⟩) hw.2.2.2.2 dX7_says_91
        · replace hM := itp c13 hM
          refine lv_aload_n hx hb dX7_says_51 rfl (lv_at hl 0 rfl) ?_
          refine wk_get hx hb hts hin_X7 hown hK hw.1 7 0 11 (.ref (a0 1)) rfl rfl (by decide) (mi 4 rfl) rfl rfl dX7_says_52 ?_
          refine lv_aload_n hx hb dX7_says_55 rfl (lv_at hl 0 rfl) ?_
          refine wk_get hx hb hts hin_X7 hown hK hw.1 7 0 5 (.ref (a0 14)) rfl rfl (by decide) (mi 5 rfl) rfl rfl dX7_says_56 ?_
          refine lv_iload_n hx hb dX7_says_59 rfl (lv_at hl 1 rfl) ?_
          refine wk_iald hx hb hK hw.1 14 8 (V0 5) rfl k9 dX7_says_60 ?_
          obtain ⟨k14, hM⟩ := ck hM
          refine wk_iald hx hb hK hw.1 1 7 (U0 11) rfl k14 dX7_says_61 ?_
          refine lv_iload_n hx hb dX7_says_62 rfl (lv_at hl 2 rfl) ?_
          refine rSR (wc := ([] : va_W)) (As := [.int ((U0 11) (((V0 5) (p1).toNatClampNeg)).toNatClampNeg), .int p2]) (rest := []) hS (c_X7_isUnder l g ((U0 11) (((V0 5) (p1).toNatClampNeg)).toNatClampNeg) p2) gX7_says_X7_isUnder rfl hd_X7_isUnder ⟨Nat.le_of_ble_eq_true rfl, Nat.le_of_ble_eq_true rfl⟩ hK (hP_nil) rfl hl.1 rfl (Nat.le_of_ble_eq_true rfl) dX7_says_63 ⟨Nat.zero_le _, Nat.zero_le _⟩ ?_
          refine lv_if_ne (tgt := 76) hx hb dX7_says_66 (by decide) (fun c16 => ?_) (fun c16 => ?_)
          · replace hM := itn c16 hM
            refine lv_aload_n hx hb dX7_says_76 rfl (lv_at hl 0 rfl) ?_
            refine wk_get hx hb hts hin_X7 hown hK hw.1 7 0 0 (.ref (a0 9)) rfl rfl (by decide) (mi 3 rfl) rfl rfl dX7_says_77 ?_
            refine lv_iload_n hx hb dX7_says_80 rfl (lv_at hl 1 rfl) ?_
            refine wk_iald hx hb hK hw.1 9 8 (V0 0) rfl k9 dX7_says_81 ?_
            refine lv_if_ne (tgt := 92) hx hb dX7_says_82 (by decide) (fun c19 => ?_) (fun c19 => ?_)
            · replace hM := itn c19 hM
              refine lv_aload_n hx hb dX7_says_92 rfl (lv_at hl 0 rfl) ?_
              refine wk_get hx hb hts hin_X7 hown hK hw.1 7 0 5 (.ref (a0 14)) rfl rfl (by decide) (mi 5 rfl) rfl rfl dX7_says_93 ?_
              refine lv_iload_n hx hb dX7_says_96 rfl (lv_at hl 1 rfl) ?_
              refine wk_iald hx hb hK hw.1 14 8 (V0 5) rfl k9 dX7_says_97 ?_
              refine lv_istore_n (lv' := [(3, .int ((V0 5) (p1).toNatClampNeg)), (0, .ref (a0 0)), (1, .int p1), (2, .int p2)]) hx hb dX7_says_98 rfl hl (by decide) rfl (fun ls hl => ?_)
              refine lv_iload_n hx hb dX7_says_99 rfl (lv_at hl 3 rfl) ?_
              by_cases c22_0 : p2 = (0 : Int32)
              · replace hM := itp c22_0 hM
                refine lv_tableIn (tgt := 136) hx hb dX7_says_100 (by rw [c22_0]; decide) (by rw [c22_0]; decide) (by rw [c22_0]; first | done | rfl) (by decide) ?_
                refine lv_aload_n hx hb dX7_says_136 rfl (lv_at hl 1 rfl) ?_
                refine lv_iload_n hx hb dX7_says_137 rfl (lv_at hl 0 rfl) ?_
                obtain ⟨q24, h23, hM⟩ := bd hM
                refine rVR (wc := (wXT g a0 (fm a0 V0 kv tv) U0)) (As := [.int ((V0 5) (p1).toNatClampNeg)]) (rest := []) (q0 := 0) hS (c_X7_mayOf l g a0 (fm a0 V0 kv tv) U0 ((V0 5) (p1).toNatClampNeg) h23) gX7_says_X7_mayOf rfl hd_X7_mayOf ⟨Nat.le_of_ble_eq_true rfl, Nat.le_of_ble_eq_true rfl⟩ hK (va_P.pm hw.1 (pmX1 _ _ _ _ _ _ _ _)) rfl rfl rfl rfl hl.1 rfl (Nat.le_of_ble_eq_true rfl) dX7_says_138 ⟨Nat.zero_le _, Nat.zero_le _⟩ ?_
                obtain rfl := Option.some.inj hM
                exact W.iret hx hb hr (fun t ht _ => ⟨rfl, by rw [ht]; exact hw.1, hw.2.2.F ht⟩) hw.2.2.2.2 dX7_says_141
              replace hM := itn c22_0 hM
              by_cases c22_1 : p2 = (1 : Int32)
              · replace hM := itp c22_1 hM
                refine lv_tableIn (tgt := 142) hx hb dX7_says_100 (by rw [c22_1]; decide) (by rw [c22_1]; decide) (by rw [c22_1]; first | done | rfl) (by decide) ?_
                refine lv_aload_n hx hb dX7_says_142 rfl (lv_at hl 1 rfl) ?_
                refine wk_get hx hb hts hin_X7 hown hK hw.1 7 0 16 (.ref (a0 6)) rfl rfl (by decide) (mi 6 rfl) rfl rfl dX7_says_143 ?_
                refine lv_iload_n hx hb dX7_says_146 rfl (lv_at hl 0 rfl) ?_
                refine wk_iald hx hb hK hw.1 6 7 (U0 16) rfl k14 dX7_says_147 ?_
                obtain ⟨q26, h25, hM⟩ := bd hM
                refine rSR (wc := ([] : va_W)) (As := [.int ((U0 16) (((V0 5) (p1).toNatClampNeg)).toNatClampNeg)]) (rest := []) hS (c_X7_bits l g ((U0 16) (((V0 5) (p1).toNatClampNeg)).toNatClampNeg) h25) gX7_says_X7_bits rfl hd_X7_bits ⟨Nat.le_of_ble_eq_true rfl, Nat.le_of_ble_eq_true rfl⟩ hK (hP_nil) rfl hl.1 rfl (Nat.le_of_ble_eq_true rfl) dX7_says_148 ⟨Nat.zero_le _, Nat.zero_le _⟩ ?_
                obtain rfl := Option.some.inj hM
                exact W.iret hx hb hr (fun t ht _ => ⟨rfl, by rw [ht]; exact hw.1, hw.2.2.F ht⟩) hw.2.2.2.2 dX7_says_151
              replace hM := itn c22_1 hM
              by_cases c22_2 : p2 = (2 : Int32)
              · replace hM := itp c22_2 hM
                refine lv_tableIn (tgt := 152) hx hb dX7_says_100 (by rw [c22_2]; decide) (by rw [c22_2]; decide) (by rw [c22_2]; first | done | rfl) (by decide) ?_
                refine lv_aload_n hx hb dX7_says_152 rfl (lv_at hl 1 rfl) ?_
                refine rVR (wc := (wXT g a0 (fm a0 V0 kv tv) U0)) (As := []) (rest := []) (q0 := 0) hS (c_X7_allSights l g a0 (fm a0 V0 kv tv) U0) gX7_says_X7_allSights rfl hd_X7_allSights ⟨Nat.le_of_ble_eq_true rfl, Nat.le_of_ble_eq_true rfl⟩ hK (va_P.pm hw.1 (pmX1 _ _ _ _ _ _ _ _)) rfl rfl rfl rfl hl.1 rfl (Nat.le_of_ble_eq_true rfl) dX7_says_153 ⟨Nat.zero_le _, Nat.zero_le _⟩ ?_
                refine lv_aload_n hx hb dX7_says_156 rfl (lv_at hl 1 rfl) ?_
                refine lv_iload_n hx hb dX7_says_157 rfl (lv_at hl 0 rfl) ?_
                obtain ⟨q29, h28, hM⟩ := bd hM
                refine rVR (wc := (wXT g a0 (fm a0 V0 kv tv) U0)) (As := [.int ((V0 5) (p1).toNatClampNeg)]) (rest := [.int (f_X7_allSights U0)]) (q0 := 0) hS (c_X7_barredBy l g a0 (fm a0 V0 kv tv) U0 ((V0 5) (p1).toNatClampNeg) h28) gX7_says_X7_barredBy rfl hd_X7_barredBy ⟨Nat.le_of_ble_eq_true rfl, Nat.le_of_ble_eq_true rfl⟩ hK (va_P.pm hw.1 (pmX1 _ _ _ _ _ _ _ _)) rfl rfl rfl rfl hl.1 rfl (Nat.le_of_ble_eq_true rfl) dX7_says_158 ⟨Nat.zero_le _, Nat.zero_le _⟩ ?_
                refine lv_iconst (v := (-1 : Int32)) hx hb dX7_says_161 (by decide) ?_
                refine lv_ixor hx hb dX7_says_162 ?_
                refine lv_iand hx hb dX7_says_163 ?_
                obtain ⟨q31, h30, hM⟩ := bd hM
                refine rSR (wc := ([] : va_W)) (As := [.int ((f_X7_allSights U0) &&& (q29 ^^^ (-1 : Int32)))]) (rest := []) hS (c_X7_bits l g ((f_X7_allSights U0) &&& (q29 ^^^ (-1 : Int32))) h30) gX7_says_X7_bits rfl hd_X7_bits ⟨Nat.le_of_ble_eq_true rfl, Nat.le_of_ble_eq_true rfl⟩ hK (hP_nil) rfl hl.1 rfl (Nat.le_of_ble_eq_true rfl) dX7_says_164 ⟨Nat.zero_le _, Nat.zero_le _⟩ ?_
                obtain rfl := Option.some.inj hM
                exact W.iret hx hb hr (fun t ht _ => ⟨rfl, by rw [ht]; exact hw.1, hw.2.2.F ht⟩) hw.2.2.2.2 dX7_says_167
              replace hM := itn c22_2 hM
              by_cases c22_3 : p2 = (3 : Int32)
              · replace hM := itp c22_3 hM
                refine lv_tableIn (tgt := 168) hx hb dX7_says_100 (by rw [c22_3]; decide) (by rw [c22_3]; decide) (by rw [c22_3]; first | done | rfl) (by decide) ?_
                refine lv_aload_n hx hb dX7_says_168 rfl (lv_at hl 1 rfl) ?_
                refine lv_iload_n hx hb dX7_says_169 rfl (lv_at hl 0 rfl) ?_
                obtain ⟨q33, h32, hM⟩ := bd hM
                refine rVR (wc := (wXT g a0 (fm a0 V0 kv tv) U0)) (As := [.int ((V0 5) (p1).toNatClampNeg)]) (rest := []) (q0 := 0) hS (c_X7_barredBy l g a0 (fm a0 V0 kv tv) U0 ((V0 5) (p1).toNatClampNeg) h32) gX7_says_X7_barredBy rfl hd_X7_barredBy ⟨Nat.le_of_ble_eq_true rfl, Nat.le_of_ble_eq_true rfl⟩ hK (va_P.pm hw.1 (pmX1 _ _ _ _ _ _ _ _)) rfl rfl rfl rfl hl.1 rfl (Nat.le_of_ble_eq_true rfl) dX7_says_170 ⟨Nat.zero_le _, Nat.zero_le _⟩ ?_
                obtain ⟨q35, h34, hM⟩ := bd hM
                refine rSR (wc := ([] : va_W)) (As := [.int q33]) (rest := []) hS (c_X7_firstOf l g q33 h34) gX7_says_X7_firstOf rfl hd_X7_firstOf ⟨Nat.le_of_ble_eq_true rfl, Nat.le_of_ble_eq_true rfl⟩ hK (hP_nil) rfl hl.1 rfl (Nat.le_of_ble_eq_true rfl) dX7_says_173 ⟨Nat.zero_le _, Nat.zero_le _⟩ ?_
                obtain rfl := Option.some.inj hM
                exact W.iret hx hb hr (fun t ht _ => ⟨rfl, by rw [ht]; exact hw.1, hw.2.2.F ht⟩) hw.2.2.2.2 dX7_says_176
              replace hM := itn c22_3 hM
              by_cases c22_4 : p2 = (4 : Int32)
              · replace hM := itp c22_4 hM
                refine lv_tableIn (tgt := 177) hx hb dX7_says_100 (by rw [c22_4]; decide) (by rw [c22_4]; decide) (by rw [c22_4]; first | done | rfl) (by decide) ?_
                refine lv_aload_n hx hb dX7_says_177 rfl (lv_at hl 1 rfl) ?_
                refine wk_get hx hb hts hin_X7 hown hK hw.1 7 0 15 (.ref (a0 5)) rfl rfl (by decide) (mi 7 rfl) rfl rfl dX7_says_178 ?_
                refine lv_iload_n hx hb dX7_says_181 rfl (lv_at hl 0 rfl) ?_
                refine wk_iald hx hb hK hw.1 5 7 (U0 15) rfl k14 dX7_says_182 ?_
                obtain ⟨q37, h36, hM⟩ := bd hM
                refine rSR (wc := ([] : va_W)) (As := [.int ((U0 15) (((V0 5) (p1).toNatClampNeg)).toNatClampNeg)]) (rest := []) hS (c_X7_bits l g ((U0 15) (((V0 5) (p1).toNatClampNeg)).toNatClampNeg) h36) gX7_says_X7_bits rfl hd_X7_bits ⟨Nat.le_of_ble_eq_true rfl, Nat.le_of_ble_eq_true rfl⟩ hK (hP_nil) rfl hl.1 rfl (Nat.le_of_ble_eq_true rfl) dX7_says_183 ⟨Nat.zero_le _, Nat.zero_le _⟩ ?_
                obtain rfl := Option.some.inj hM
                exact W.iret hx hb hr (fun t ht _ => ⟨rfl, by rw [ht]; exact hw.1, hw.2.2.F ht⟩) hw.2.2.2.2 dX7_says_186
              replace hM := itn c22_4 hM
              refine lv_tableOut (tgt := 187) hx hb dX7_says_100 (sw_out (lo := 0) (hi := 4) (by decide) (by decide) (fun k h1 h2 hk => by
            have hs : k = (0 : Int) ∨ k = (1 : Int) ∨ k = (2 : Int) ∨ k = (3 : Int) ∨ k = (4 : Int) := by omega
            rcases hs with hs | hs | hs | hs | hs <;> subst hs <;> first | exact c22_0 (Int32.toInt_inj.mp (hk.trans (by decide))) | exact c22_1 (Int32.toInt_inj.mp (hk.trans (by decide))) | exact c22_2 (Int32.toInt_inj.mp (hk.trans (by decide))) | exact c22_3 (Int32.toInt_inj.mp (hk.trans (by decide))) | exact c22_4 (Int32.toInt_inj.mp (hk.trans (by decide))))) (by decide) ?_
              refine lv_aload_n hx hb dX7_says_187 rfl (lv_at hl 1 rfl) ?_
              refine wk_get hx hb hts hin_X7 hown hK hw.1 7 0 13 (.ref (a0 3)) rfl rfl (by decide) (mi 8 rfl) rfl rfl dX7_says_188 ?_
              refine lv_iload_n hx hb dX7_says_191 rfl (lv_at hl 0 rfl) ?_
              refine wk_iald hx hb hK hw.1 3 7 (U0 13) rfl k14 dX7_says_192 ?_
              obtain ⟨q39, h38, hM⟩ := bd hM
              refine rSR (wc := ([] : va_W)) (As := [.int ((U0 13) (((V0 5) (p1).toNatClampNeg)).toNatClampNeg)]) (rest := []) hS (c_X7_firstOf l g ((U0 13) (((V0 5) (p1).toNatClampNeg)).toNatClampNeg) h38) gX7_says_X7_firstOf rfl hd_X7_firstOf ⟨Nat.le_of_ble_eq_true rfl, Nat.le_of_ble_eq_true rfl⟩ hK (hP_nil) rfl hl.1 rfl (Nat.le_of_ble_eq_true rfl) dX7_says_193 ⟨Nat.zero_le _, Nat.zero_le _⟩ ?_
              obtain rfl := Option.some.inj hM
              exact W.iret hx hb hr (fun t ht _ => ⟨rfl, by rw [ht]; exact hw.1, hw.2.2.F ht⟩) hw.2.2.2.2 dX7_says_196
            · replace hM := itp c19 hM
              refine lv_aload_n hx hb dX7_says_85 rfl (lv_at hl 0 rfl) ?_
              refine lv_bipush (v := (-4 : Int32)) hx hb dX7_says_86 (by decide) ?_
              obtain ⟨q21, h20, hM⟩ := bd hM
              refine rVWp (wc := (wXM g a0 U0 V0 M0 R0 kv tv)) (wq := (wXM g a0 U0 q21.2 M0 R0 kv tv)) (As := [.int (-4 : Int32)]) (rest := []) (q0 := 0) hS (c_X7_refuse l g a0 kv tv U0 V0 M0 R0 (-4 : Int32) h20) gX7_says_X7_refuse rfl hd_X7_refuse ⟨Nat.le_of_ble_eq_true rfl, Nat.le_of_ble_eq_true rfl⟩ hK hw hA (pm_1_0 _) rfl (pm_1_0 _) rfl rfl rfl rfl hl.1 rfl (Nat.le_of_ble_eq_true rfl) dX7_says_88 ⟨Nat.zero_le _, Nat.zero_le _⟩ (fun H locs hw => ?_)
              obtain rfl := Option.some.inj hM
              exact W.iret hx hb hr (fun t ht _ => ⟨rfl, by rw [ht]; exact hw.1, hw.2.2.F ht⟩) hw.2.2.2.2 dX7_says_91
          · replace hM := itp c16 hM
            refine lv_aload_n hx hb dX7_says_69 rfl (lv_at hl 0 rfl) ?_
            refine lv_bipush (v := (-3 : Int32)) hx hb dX7_says_70 (by decide) ?_
            obtain ⟨q18, h17, hM⟩ := bd hM
            refine rVWp (wc := (wXM g a0 U0 V0 M0 R0 kv tv)) (wq := (wXM g a0 U0 q18.2 M0 R0 kv tv)) (As := [.int (-3 : Int32)]) (rest := []) (q0 := 0) hS (c_X7_refuse l g a0 kv tv U0 V0 M0 R0 (-3 : Int32) h17) gX7_says_X7_refuse rfl hd_X7_refuse ⟨Nat.le_of_ble_eq_true rfl, Nat.le_of_ble_eq_true rfl⟩ hK hw hA (pm_1_0 _) rfl (pm_1_0 _) rfl rfl rfl rfl hl.1 rfl (Nat.le_of_ble_eq_true rfl) dX7_says_72 ⟨Nat.zero_le _, Nat.zero_le _⟩ (fun H locs hw => ?_)
            obtain rfl := Option.some.inj hM
            exact W.iret hx hb hr (fun t ht _ => ⟨rfl, by rw [ht]; exact hw.1, hw.2.2.F ht⟩) hw.2.2.2.2 dX7_says_75
    · replace hM := itp c6 hM
      refine lv_aload_n hx hb dX7_says_24 rfl (lv_at hl 0 rfl) ?_
      refine lv_bipush (v := (-2 : Int32)) hx hb dX7_says_25 (by decide) ?_
      obtain ⟨q8, h7, hM⟩ := bd hM
      refine rVWp (wc := (wXM g a0 U0 V0 M0 R0 kv tv)) (wq := (wXM g a0 U0 q8.2 M0 R0 kv tv)) (As := [.int (-2 : Int32)]) (rest := []) (q0 := 0) hS (c_X7_refuse l g a0 kv tv U0 V0 M0 R0 (-2 : Int32) h7) gX7_says_X7_refuse rfl hd_X7_refuse ⟨Nat.le_of_ble_eq_true rfl, Nat.le_of_ble_eq_true rfl⟩ hK hw hA (pm_1_0 _) rfl (pm_1_0 _) rfl rfl rfl rfl hl.1 rfl (Nat.le_of_ble_eq_true rfl) dX7_says_27 ⟨Nat.zero_le _, Nat.zero_le _⟩ (fun H locs hw => ?_)
      obtain rfl := Option.some.inj hM
      exact W.iret hx hb hr (fun t ht _ => ⟨rfl, by rw [ht]; exact hw.1, hw.2.2.F ht⟩) hw.2.2.2.2 dX7_says_30
theorem hd_X7_see : yX7_see.cls = RX7 ∧ yX7_see.cls ≠ "java/lang/invoke/MethodHandle" ∧ yX7_see.cls ≠ "java/lang/invoke/VarHandle" ∧ (parseMethodDescriptor yX7_see.desc).map (fun d => d.parameters.length) = some 3 := by decide +kernel
set_option maxHeartbeats 4000000 in
set_option maxRecDepth 100000 in
theorem c_X7_see (l : Launch) (g : Gm) (a0 : Nat → Nat) (kv : Value) (tv : Value) (U0 : TS) (V0 : TS) (M0 : LTS) (R0 : LTS) (p1 : Int32) (p2 : Int32) (p3 : Int32) {q : (Int32 × TS × TS)} (hM : f_X7_see U0 V0 M0 R0 p1 p2 p3 = some q) : MW l yX7_see wsX7_see 2 46 g [.ref (a0 0), .int p1, .int p2, .int p3] (wXM g a0 U0 V0 M0 R0 kv tv) (some (.int q.1)) (wXM g a0 q.2.1 q.2.2 M0 R0 kv tv) := by
  intro sz
  refine Met.ofW (cc := cX7_see) (maxL := 5) (ret := (some .int)) (by decide) rfl ?_
  intro p e s m args below meth c s₁ B hml hv
  obtain ⟨rfl, hsz, hP, hK, hD0⟩ := hv
  have hx := B.exec; have hb := B.bytes; have hr := B.returns
  have hts := atoms_spec (ws := wsX7_see) B.pre
  have hown : s.vm.findClass RX7 = some m.cls := findClass_of_methodNamed B.named
  have hlocks := B.notSynchronized
  have hS : CallFix p m c cX7_see 5 s _ wsX7_see RX7 := ⟨hx, hb, hml, hown, hts⟩
  have hin_X7 : ∀ w ∈ wsX70, w ∈ wsX7_see := fun w h => (List.mem_cons_of_mem _ (List.mem_append_right _ h))
  subst hsz
  have hw := wk_start hP hD0
  have hA : ∀ q : Nat, s.heap.size ≤ q → va_A (wXM g a0 U0 V0 M0 R0 kv tv) s.heap.size q := fun q h => Or.inr h
  generalize va_A (wXM g a0 U0 V0 M0 R0 kv tv) s.heap.size = A at hw hA ⊢
  clear hP hD0
  have hl := lv_entry ([.ref (a0 0), .int p1, .int p2, .int p3]) (n := 5) (Nat.le_of_ble_eq_true rfl)
  rw [lg_entry_eq]
  generalize (lg_sl ([.ref (a0 0), .int p1, .int p2, .int p3]) ++ List.replicate (5 - (lg_sl ([.ref (a0 0), .int p1, .int p2, .int p3])).length) Slot.unset).toArray = ls at hl ⊢
  have hl : lv_has ls 5 [(0, .ref (a0 0)), (1, .int p1), (2, .int p2), (3, .int p3)] := hl
  rw [f_X7_see] at hM
  refine lv_aload_n hx hb dX7_see_0 rfl (lv_at hl 0 rfl) ?_
  refine lv_iload_n hx hb dX7_see_1 rfl (lv_at hl 1 rfl) ?_
  refine rVR (wc := (wXT g a0 (fm a0 V0 kv tv) U0)) (As := [.int p1]) (rest := []) (q0 := 0) hS (c_X7_isOne l g a0 (fm a0 V0 kv tv) U0 p1) gX7_see_X7_isOne rfl hd_X7_isOne ⟨Nat.le_of_ble_eq_true rfl, Nat.le_of_ble_eq_true rfl⟩ hK (va_P.pm hw.1 (pmX1 _ _ _ _ _ _ _ _)) rfl rfl rfl rfl hl.1 rfl (Nat.le_of_ble_eq_true rfl) dX7_see_2 ⟨Nat.zero_le _, Nat.zero_le _⟩ ?_
  refine lv_if_eq (tgt := 28) hx hb dX7_see_5 (by decide) (fun c2 => ?_) (fun c2 => ?_)
  · replace hM := itp c2 hM
    refine lv_aload_n hx hb dX7_see_28 rfl (lv_at hl 0 rfl) ?_
    refine lv_bipush (v := (-2 : Int32)) hx hb dX7_see_29 (by decide) ?_
    obtain ⟨q4, h3, hM⟩ := bd hM
    refine rVWp (wc := (wXM g a0 U0 V0 M0 R0 kv tv)) (wq := (wXM g a0 U0 q4.2 M0 R0 kv tv)) (As := [.int (-2 : Int32)]) (rest := []) (q0 := 0) hS (c_X7_refuse l g a0 kv tv U0 V0 M0 R0 (-2 : Int32) h3) gX7_see_X7_refuse rfl hd_X7_refuse ⟨Nat.le_of_ble_eq_true rfl, Nat.le_of_ble_eq_true rfl⟩ hK hw hA (pm_1_0 _) rfl (pm_1_0 _) rfl rfl rfl rfl hl.1 rfl (Nat.le_of_ble_eq_true rfl) dX7_see_31 ⟨Nat.zero_le _, Nat.zero_le _⟩ (fun H locs hw => ?_)
    obtain rfl := Option.some.inj hM
    exact W.iret hx hb hr (fun t ht _ => ⟨rfl, by rw [ht]; exact hw.1, hw.2.2.F ht⟩) hw.2.2.2.2 dX7_see_34
  · replace hM := itn c2 hM
    refine lv_aload_n hx hb dX7_see_8 rfl (lv_at hl 0 rfl) ?_
    refine lv_iload_n hx hb dX7_see_9 rfl (lv_at hl 2 rfl) ?_
    refine rVR (wc := (wXT g a0 (fm a0 V0 kv tv) U0)) (As := [.int p2]) (rest := []) (q0 := 0) hS (c_X7_isSight l g a0 (fm a0 V0 kv tv) U0 p2) gX7_see_X7_isSight rfl hd_X7_isSight ⟨Nat.le_of_ble_eq_true rfl, Nat.le_of_ble_eq_true rfl⟩ hK (va_P.pm hw.1 (pmX1 _ _ _ _ _ _ _ _)) rfl rfl rfl rfl hl.1 rfl (Nat.le_of_ble_eq_true rfl) dX7_see_10 ⟨Nat.zero_le _, Nat.zero_le _⟩ ?_
    refine lv_if_eq (tgt := 28) hx hb dX7_see_13 (by decide) (fun c6 => ?_) (fun c6 => ?_)
    · replace hM := itp c6 hM
      refine lv_aload_n hx hb dX7_see_28 rfl (lv_at hl 0 rfl) ?_
      refine lv_bipush (v := (-2 : Int32)) hx hb dX7_see_29 (by decide) ?_
      obtain ⟨q8, h7, hM⟩ := bd hM
      refine rVWp (wc := (wXM g a0 U0 V0 M0 R0 kv tv)) (wq := (wXM g a0 U0 q8.2 M0 R0 kv tv)) (As := [.int (-2 : Int32)]) (rest := []) (q0 := 0) hS (c_X7_refuse l g a0 kv tv U0 V0 M0 R0 (-2 : Int32) h7) gX7_see_X7_refuse rfl hd_X7_refuse ⟨Nat.le_of_ble_eq_true rfl, Nat.le_of_ble_eq_true rfl⟩ hK hw hA (pm_1_0 _) rfl (pm_1_0 _) rfl rfl rfl rfl hl.1 rfl (Nat.le_of_ble_eq_true rfl) dX7_see_31 ⟨Nat.zero_le _, Nat.zero_le _⟩ (fun H locs hw => ?_)
      obtain rfl := Option.some.inj hM
      exact W.iret hx hb hr (fun t ht _ => ⟨rfl, by rw [ht]; exact hw.1, hw.2.2.F ht⟩) hw.2.2.2.2 dX7_see_34
    · replace hM := itn c6 hM
      refine lv_iload_n hx hb dX7_see_16 rfl (lv_at hl 3 rfl) ?_
      refine lv_i2l (v := ((p3).toInt64)) hx hb dX7_see_17 rfl ?_
      refine lv_lconst (v := (0 : Int64)) hx hb dX7_see_18 (by decide) ?_
      refine lv_ldc2 (v := (2 : Int64)) hx hb hown (hts _ (mi 1 rfl)) dX7_see_19 ?_
      refine rSR (wc := ([] : va_W)) (As := [.long ((p3).toInt64), .long (0 : Int64), .long (2 : Int64)]) (rest := []) hS (c_X7_in l g ((p3).toInt64) (0 : Int64) (2 : Int64)) gX7_see_X7_in rfl hd_X7_in ⟨Nat.le_of_ble_eq_true rfl, Nat.le_of_ble_eq_true rfl⟩ hK (hP_nil) rfl hl.1 rfl (Nat.le_of_ble_eq_true rfl) dX7_see_22 ⟨Nat.zero_le _, Nat.zero_le _⟩ ?_
      refine lv_if_ne (tgt := 35) hx hb dX7_see_25 (by decide) (fun c10 => ?_) (fun c10 => ?_)
      · replace hM := itn c10 hM
        refine lv_aload_n hx hb dX7_see_35 rfl (lv_at hl 0 rfl) ?_
        refine wk_get hx hb hts hin_X7 hown hK hw.1 7 0 11 (.ref (a0 1)) rfl rfl (by decide) (mi 2 rfl) rfl rfl dX7_see_36 ?_
        refine lv_iload_n hx hb dX7_see_39 rfl (lv_at hl 1 rfl) ?_
        obtain ⟨k13, hM⟩ := ck hM
        refine wk_iald hx hb hK hw.1 1 7 (U0 11) rfl k13 dX7_see_40 ?_
        refine lv_iconst (v := (4 : Int32)) hx hb dX7_see_41 (by decide) ?_
        refine lv_icmp_ne (tgt := 56) hx hb dX7_see_42 (by decide) (fun c14 => ?_) (fun c14 => ?_)
        · replace hM := itn c14 hM
          refine lv_aload_n hx hb dX7_see_56 rfl (lv_at hl 0 rfl) ?_
          refine wk_get hx hb hts hin_X7 hown hK hw.1 7 0 13 (.ref (a0 3)) rfl rfl (by decide) (mi 3 rfl) rfl rfl dX7_see_57 ?_
          refine lv_iload_n hx hb dX7_see_60 rfl (lv_at hl 1 rfl) ?_
          refine wk_iald hx hb hK hw.1 3 7 (U0 13) rfl k13 dX7_see_61 ?_
          refine lv_iload_n hx hb dX7_see_62 rfl (lv_at hl 2 rfl) ?_
          refine rSR (wc := ([] : va_W)) (As := [.int ((U0 13) (p1).toNatClampNeg), .int p2]) (rest := []) hS (c_X7_has l g ((U0 13) (p1).toNatClampNeg) p2) gX7_see_X7_has rfl hd_X7_has ⟨Nat.le_of_ble_eq_true rfl, Nat.le_of_ble_eq_true rfl⟩ hK (hP_nil) rfl hl.1 rfl (Nat.le_of_ble_eq_true rfl) dX7_see_63 ⟨Nat.zero_le _, Nat.zero_le _⟩ ?_
          have hJ39 : ∀ (H : Heap) (locs : List Loc) (x38 : Int32) (ls : Array Slot), Wk g A s.heap H locs (wXM g a0 U0 V0 M0 R0 kv tv) → x38 = (if (f_X7_has ((U0 13) (p1).toNatClampNeg) p2) = 0 then (if (f_X7_has ((U0 14) (p1).toNatClampNeg) p2) = 0 then (0 : Int32) else (1 : Int32)) else (2 : Int32)) → lv_has ls 5 [(0, .ref (a0 0)), (1, .int p1), (2, .int p2), (3, .int p3)] → W p l e (headSpec wsX7_see ({ frames := 2, cells := 0, slots := 0, locals := 46 } : Room)).room s m ([.ref (a0 0), .int p1, .int p2, .int p3] : List Value).toArray below meth c H locs 0 0 (MQ below (QcW g (some (.int q.1)) (wXM g a0 q.2.1 q.2.2 M0 R0 kv tv) A) ([.ref (a0 0), .int p1, .int p2, .int p3] : List Value).toArray s 0 0 A) (F0 m 91 ls [.int x38]) := by
            intro H locs x38 ls hw hxx38 hl
            subst hxx38
            refine lv_istore (lv' := [(4, .int (if (f_X7_has ((U0 13) (p1).toNatClampNeg) p2) = 0 then (if (f_X7_has ((U0 14) (p1).toNatClampNeg) p2) = 0 then (0 : Int32) else (1 : Int32)) else (2 : Int32))), (0, .ref (a0 0)), (1, .int p1), (2, .int p2), (3, .int p3)]) hx hb dX7_see_91 hl (by decide) rfl (fun ls hl => ?_)
            refine lv_aload_n hx hb dX7_see_93 rfl (lv_at hl 1 rfl) ?_
            refine lv_iload_n hx hb dX7_see_94 rfl (lv_at hl 2 rfl) ?_
            refine lv_iload_n hx hb dX7_see_95 rfl (lv_at hl 3 rfl) ?_
            refine lv_iload_n hx hb dX7_see_96 rfl (lv_at hl 4 rfl) ?_
            obtain ⟨q29, h28, hM⟩ := bd hM
            refine rVWp (wc := (wXT g a0 (fm a0 V0 kv tv) U0)) (wq := (wXM g a0 q29 V0 M0 R0 kv tv)) (As := [.int p1, .int p2, .int p3]) (rest := []) (q0 := 0) hS (c_X7_sees l g a0 (fm a0 V0 kv tv) U0 p1 p2 p3 h28) gX7_see_X7_sees rfl hd_X7_sees ⟨Nat.le_of_ble_eq_true rfl, Nat.le_of_ble_eq_true rfl⟩ hK hw hA (pmX1 _ _ _ _ _ _ _ _) rfl (pmX1 _ _ _ _ _ _ _ _) rfl rfl rfl rfl hl.1 rfl (Nat.le_of_ble_eq_true rfl) dX7_see_97 ⟨Nat.zero_le _, Nat.zero_le _⟩ (fun H locs hw => ?_)
            refine lv_iload hx hb dX7_see_100 (lv_at hl 0 rfl) ?_
            obtain rfl := Option.some.inj hM
            exact W.iret hx hb hr (fun t ht _ => ⟨rfl, by rw [ht]; exact hw.1, hw.2.2.F ht⟩) hw.2.2.2.2 dX7_see_102
          refine lv_if_eq (tgt := 73) hx hb dX7_see_66 (by decide) (fun c25 => ?_) (fun c25 => ?_)
          · refine lv_aload_n hx hb dX7_see_73 rfl (lv_at hl 0 rfl) ?_
            refine wk_get hx hb hts hin_X7 hown hK hw.1 7 0 14 (.ref (a0 4)) rfl rfl (by decide) (mi 4 rfl) rfl rfl dX7_see_74 ?_
            refine lv_iload_n hx hb dX7_see_77 rfl (lv_at hl 1 rfl) ?_
            refine wk_iald hx hb hK hw.1 4 7 (U0 14) rfl k13 dX7_see_78 ?_
            refine lv_iload_n hx hb dX7_see_79 rfl (lv_at hl 2 rfl) ?_
            refine rSR (wc := ([] : va_W)) (As := [.int ((U0 14) (p1).toNatClampNeg), .int p2]) (rest := []) hS (c_X7_has l g ((U0 14) (p1).toNatClampNeg) p2) gX7_see_X7_has rfl hd_X7_has ⟨Nat.le_of_ble_eq_true rfl, Nat.le_of_ble_eq_true rfl⟩ hK (hP_nil) rfl hl.1 rfl (Nat.le_of_ble_eq_true rfl) dX7_see_80 ⟨Nat.zero_le _, Nat.zero_le _⟩ ?_
            refine lv_if_eq (tgt := 90) hx hb dX7_see_83 (by decide) (fun c27 => ?_) (fun c27 => ?_)
            · refine lv_iconst (v := (0 : Int32)) hx hb dX7_see_90 (by decide) ?_
              exact hJ39 _ _ _ _ hw (by first | with_reducible rfl | (simp only [if_pos c25, if_pos c27]) | rfl) (lv_sub hl [0, 1, 2, 3] rfl)
            · refine lv_iconst (v := (1 : Int32)) hx hb dX7_see_86 (by decide) ?_
              refine lv_goto (tgt := 91) hx hb dX7_see_87 (by decide) ?_
              exact hJ39 _ _ _ _ hw (by first | with_reducible rfl | (simp only [if_pos c25, if_neg c27]) | rfl) (lv_sub hl [0, 1, 2, 3] rfl)
          · refine lv_iconst (v := (2 : Int32)) hx hb dX7_see_69 (by decide) ?_
            refine lv_goto (tgt := 91) hx hb dX7_see_70 (by decide) ?_
            exact hJ39 _ _ _ _ hw (by first | with_reducible rfl | (simp only [if_neg c25]) | rfl) (lv_sub hl [0, 1, 2, 3] rfl)
        · replace hM := itp c14 hM
          refine lv_iload_n hx hb dX7_see_45 rfl (lv_at hl 3 rfl) ?_
          refine lv_if_eq (tgt := 56) hx hb dX7_see_46 (by decide) (fun c15 => ?_) (fun c15 => ?_)
          · replace hM := itp c15 hM
            refine lv_aload_n hx hb dX7_see_56 rfl (lv_at hl 0 rfl) ?_
            refine wk_get hx hb hts hin_X7 hown hK hw.1 7 0 13 (.ref (a0 3)) rfl rfl (by decide) (mi 3 rfl) rfl rfl dX7_see_57 ?_
            refine lv_iload_n hx hb dX7_see_60 rfl (lv_at hl 1 rfl) ?_
            refine wk_iald hx hb hK hw.1 3 7 (U0 13) rfl k13 dX7_see_61 ?_
            refine lv_iload_n hx hb dX7_see_62 rfl (lv_at hl 2 rfl) ?_
            refine rSR (wc := ([] : va_W)) (As := [.int ((U0 13) (p1).toNatClampNeg), .int p2]) (rest := []) hS (c_X7_has l g ((U0 13) (p1).toNatClampNeg) p2) gX7_see_X7_has rfl hd_X7_has ⟨Nat.le_of_ble_eq_true rfl, Nat.le_of_ble_eq_true rfl⟩ hK (hP_nil) rfl hl.1 rfl (Nat.le_of_ble_eq_true rfl) dX7_see_63 ⟨Nat.zero_le _, Nat.zero_le _⟩ ?_
            have hJ41 : ∀ (H : Heap) (locs : List Loc) (x40 : Int32) (ls : Array Slot), Wk g A s.heap H locs (wXM g a0 U0 V0 M0 R0 kv tv) → x40 = (if (f_X7_has ((U0 13) (p1).toNatClampNeg) p2) = 0 then (if (f_X7_has ((U0 14) (p1).toNatClampNeg) p2) = 0 then (0 : Int32) else (1 : Int32)) else (2 : Int32)) → lv_has ls 5 [(0, .ref (a0 0)), (1, .int p1), (2, .int p2), (3, .int p3)] → W p l e (headSpec wsX7_see ({ frames := 2, cells := 0, slots := 0, locals := 46 } : Room)).room s m ([.ref (a0 0), .int p1, .int p2, .int p3] : List Value).toArray below meth c H locs 0 0 (MQ below (QcW g (some (.int q.1)) (wXM g a0 q.2.1 q.2.2 M0 R0 kv tv) A) ([.ref (a0 0), .int p1, .int p2, .int p3] : List Value).toArray s 0 0 A) (F0 m 91 ls [.int x40]) := by
              intro H locs x40 ls hw hxx40 hl
              subst hxx40
              refine lv_istore (lv' := [(4, .int (if (f_X7_has ((U0 13) (p1).toNatClampNeg) p2) = 0 then (if (f_X7_has ((U0 14) (p1).toNatClampNeg) p2) = 0 then (0 : Int32) else (1 : Int32)) else (2 : Int32))), (0, .ref (a0 0)), (1, .int p1), (2, .int p2), (3, .int p3)]) hx hb dX7_see_91 hl (by decide) rfl (fun ls hl => ?_)
              refine lv_aload_n hx hb dX7_see_93 rfl (lv_at hl 1 rfl) ?_
              refine lv_iload_n hx hb dX7_see_94 rfl (lv_at hl 2 rfl) ?_
              refine lv_iload_n hx hb dX7_see_95 rfl (lv_at hl 3 rfl) ?_
              refine lv_iload_n hx hb dX7_see_96 rfl (lv_at hl 4 rfl) ?_
              obtain ⟨q21, h20, hM⟩ := bd hM
              refine rVWp (wc := (wXT g a0 (fm a0 V0 kv tv) U0)) (wq := (wXM g a0 q21 V0 M0 R0 kv tv)) (As := [.int p1, .int p2, .int p3]) (rest := []) (q0 := 0) hS (c_X7_sees l g a0 (fm a0 V0 kv tv) U0 p1 p2 p3 h20) gX7_see_X7_sees rfl hd_X7_sees ⟨Nat.le_of_ble_eq_true rfl, Nat.le_of_ble_eq_true rfl⟩ hK hw hA (pmX1 _ _ _ _ _ _ _ _) rfl (pmX1 _ _ _ _ _ _ _ _) rfl rfl rfl rfl hl.1 rfl (Nat.le_of_ble_eq_true rfl) dX7_see_97 ⟨Nat.zero_le _, Nat.zero_le _⟩ (fun H locs hw => ?_)
              refine lv_iload hx hb dX7_see_100 (lv_at hl 0 rfl) ?_
              obtain rfl := Option.some.inj hM
              exact W.iret hx hb hr (fun t ht _ => ⟨rfl, by rw [ht]; exact hw.1, hw.2.2.F ht⟩) hw.2.2.2.2 dX7_see_102
            refine lv_if_eq (tgt := 73) hx hb dX7_see_66 (by decide) (fun c17 => ?_) (fun c17 => ?_)
            · refine lv_aload_n hx hb dX7_see_73 rfl (lv_at hl 0 rfl) ?_
              refine wk_get hx hb hts hin_X7 hown hK hw.1 7 0 14 (.ref (a0 4)) rfl rfl (by decide) (mi 4 rfl) rfl rfl dX7_see_74 ?_
              refine lv_iload_n hx hb dX7_see_77 rfl (lv_at hl 1 rfl) ?_
              refine wk_iald hx hb hK hw.1 4 7 (U0 14) rfl k13 dX7_see_78 ?_
              refine lv_iload_n hx hb dX7_see_79 rfl (lv_at hl 2 rfl) ?_
              refine rSR (wc := ([] : va_W)) (As := [.int ((U0 14) (p1).toNatClampNeg), .int p2]) (rest := []) hS (c_X7_has l g ((U0 14) (p1).toNatClampNeg) p2) gX7_see_X7_has rfl hd_X7_has ⟨Nat.le_of_ble_eq_true rfl, Nat.le_of_ble_eq_true rfl⟩ hK (hP_nil) rfl hl.1 rfl (Nat.le_of_ble_eq_true rfl) dX7_see_80 ⟨Nat.zero_le _, Nat.zero_le _⟩ ?_
              refine lv_if_eq (tgt := 90) hx hb dX7_see_83 (by decide) (fun c19 => ?_) (fun c19 => ?_)
              · refine lv_iconst (v := (0 : Int32)) hx hb dX7_see_90 (by decide) ?_
                exact hJ41 _ _ _ _ hw (by first | with_reducible rfl | (simp only [if_pos c17, if_pos c19]) | rfl) (lv_sub hl [0, 1, 2, 3] rfl)
              · refine lv_iconst (v := (1 : Int32)) hx hb dX7_see_86 (by decide) ?_
                refine lv_goto (tgt := 91) hx hb dX7_see_87 (by decide) ?_
                exact hJ41 _ _ _ _ hw (by first | with_reducible rfl | (simp only [if_pos c17, if_neg c19]) | rfl) (lv_sub hl [0, 1, 2, 3] rfl)
            · refine lv_iconst (v := (2 : Int32)) hx hb dX7_see_69 (by decide) ?_
              refine lv_goto (tgt := 91) hx hb dX7_see_70 (by decide) ?_
              exact hJ41 _ _ _ _ hw (by first | with_reducible rfl | (simp only [if_neg c17]) | rfl) (lv_sub hl [0, 1, 2, 3] rfl)
          · replace hM := itn c15 hM
            refine lv_aload_n hx hb dX7_see_49 rfl (lv_at hl 0 rfl) ?_
            refine lv_bipush (v := (-5 : Int32)) hx hb dX7_see_50 (by decide) ?_
            obtain ⟨q23, h22, hM⟩ := bd hM
            refine rVWp (wc := (wXM g a0 U0 V0 M0 R0 kv tv)) (wq := (wXM g a0 U0 q23.2 M0 R0 kv tv)) (As := [.int (-5 : Int32)]) (rest := []) (q0 := 0) hS (c_X7_refuse l g a0 kv tv U0 V0 M0 R0 (-5 : Int32) h22) gX7_see_X7_refuse rfl hd_X7_refuse ⟨Nat.le_of_ble_eq_true rfl, Nat.le_of_ble_eq_true rfl⟩ hK hw hA (pm_1_0 _) rfl (pm_1_0 _) rfl rfl rfl rfl hl.1 rfl (Nat.le_of_ble_eq_true rfl) dX7_see_52 ⟨Nat.zero_le _, Nat.zero_le _⟩ (fun H locs hw => ?_)
            obtain rfl := Option.some.inj hM
            exact W.iret hx hb hr (fun t ht _ => ⟨rfl, by rw [ht]; exact hw.1, hw.2.2.F ht⟩) hw.2.2.2.2 dX7_see_55
      · replace hM := itp c10 hM
        refine lv_aload_n hx hb dX7_see_28 rfl (lv_at hl 0 rfl) ?_
        refine lv_bipush (v := (-2 : Int32)) hx hb dX7_see_29 (by decide) ?_
        obtain ⟨q12, h11, hM⟩ := bd hM
        refine rVWp (wc := (wXM g a0 U0 V0 M0 R0 kv tv)) (wq := (wXM g a0 U0 q12.2 M0 R0 kv tv)) (As := [.int (-2 : Int32)]) (rest := []) (q0 := 0) hS (c_X7_refuse l g a0 kv tv U0 V0 M0 R0 (-2 : Int32) h11) gX7_see_X7_refuse rfl hd_X7_refuse ⟨Nat.le_of_ble_eq_true rfl, Nat.le_of_ble_eq_true rfl⟩ hK hw hA (pm_1_0 _) rfl (pm_1_0 _) rfl rfl rfl rfl hl.1 rfl (Nat.le_of_ble_eq_true rfl) dX7_see_31 ⟨Nat.zero_le _, Nat.zero_le _⟩ (fun H locs hw => ?_)
        obtain rfl := Option.some.inj hM
        exact W.iret hx hb hr (fun t ht _ => ⟨rfl, by rw [ht]; exact hw.1, hw.2.2.F ht⟩) hw.2.2.2.2 dX7_see_34
theorem hd_X7_seed : yX7_seed.cls = RX7 ∧ yX7_seed.cls ≠ "java/lang/invoke/MethodHandle" ∧ yX7_seed.cls ≠ "java/lang/invoke/VarHandle" ∧ (parseMethodDescriptor yX7_seed.desc).map (fun d => d.parameters.length) = some 1 := by decide +kernel
set_option maxHeartbeats 4000000 in
set_option maxRecDepth 100000 in
theorem c_X7_seed (l : Launch) (g : Gm) (a0 : Nat → Nat) (kv : Value) (tv : Value) (U0 : TS) (V0 : TS) (M0 : LTS) (R0 : LTS) (p1 : Int32) {q : (Int32 × TS)} (hM : f_X7_seed U0 V0 M0 R0 p1 = some q) : MW l yX7_seed wsX7_seed 0 0 g [.ref (a0 0), .int p1] (wXM g a0 U0 V0 M0 R0 kv tv) (some (.int q.1)) (wXM g a0 q.2 V0 M0 R0 kv tv) := by
  intro sz
  refine Met.ofW (cc := cX7_seed) (maxL := 3) (ret := (some .int)) (by decide) rfl ?_
  intro p e s m args below meth c s₁ B hml hv
  obtain ⟨rfl, hsz, hP, hK, hD0⟩ := hv
  have hx := B.exec; have hb := B.bytes; have hr := B.returns
  have hts := atoms_spec (ws := wsX7_seed) B.pre
  have hown : s.vm.findClass RX7 = some m.cls := findClass_of_methodNamed B.named
  have hlocks := B.notSynchronized
  have hS : CallFix p m c cX7_seed 3 s _ wsX7_seed RX7 := ⟨hx, hb, hml, hown, hts⟩
  have hin_X7 : ∀ w ∈ wsX70, w ∈ wsX7_seed := fun w h => (List.mem_cons_of_mem _ (List.mem_append_right _ h))
  subst hsz
  have hw := wk_start hP hD0
  have hA : ∀ q : Nat, s.heap.size ≤ q → va_A (wXM g a0 U0 V0 M0 R0 kv tv) s.heap.size q := fun q h => Or.inr h
  generalize va_A (wXM g a0 U0 V0 M0 R0 kv tv) s.heap.size = A at hw hA ⊢
  clear hP hD0
  have hl := lv_entry ([.ref (a0 0), .int p1]) (n := 3) (Nat.le_of_ble_eq_true rfl)
  rw [lg_entry_eq]
  generalize (lg_sl ([.ref (a0 0), .int p1]) ++ List.replicate (3 - (lg_sl ([.ref (a0 0), .int p1])).length) Slot.unset).toArray = ls at hl ⊢
  have hl : lv_has ls 3 [(0, .ref (a0 0)), (1, .int p1)] := hl
  rw [f_X7_seed] at hM
  refine lv_aload_n hx hb dX7_seed_0 rfl (lv_at hl 0 rfl) ?_
  refine wk_get hx hb hts hin_X7 hown hK hw.1 7 0 19 (.int (U0 19 0)) rfl rfl (by decide) (mi 1 rfl) rfl rfl dX7_seed_1 ?_
  refine lv_istore_n (lv' := [(2, .int (U0 19 0)), (0, .ref (a0 0)), (1, .int p1)]) hx hb dX7_seed_4 rfl hl (by decide) rfl (fun ls hl => ?_)
  refine lv_aload_n hx hb dX7_seed_5 rfl (lv_at hl 1 rfl) ?_
  refine lv_iload_n hx hb dX7_seed_6 rfl (lv_at hl 2 rfl) ?_
  refine wk_put (wq := (wXM g a0 (up U0 19 (fun _ => p1)) V0 M0 R0 kv tv)) hx hb hts hin_X7 tyX7 tyX7_ok nmX7 hown hK hw 7 0 19 rfl rfl (by decide) (mi 1 rfl) rfl rfl rfl rfl (Nat.le_of_ble_eq_true rfl) dX7_seed_7 rfl (fun H locs hw => ?_)
  refine lv_iload_n hx hb dX7_seed_10 rfl (lv_at hl 0 rfl) ?_
  obtain rfl := Option.some.inj hM
  exact W.iret hx hb hr (fun t ht _ => ⟨rfl, by rw [ht]; exact hw.1, hw.2.2.F ht⟩) hw.2.2.2.2 dX7_seed_11
theorem hd_X7_seenTold : yX7_seenTold.cls = RX7 ∧ yX7_seenTold.cls ≠ "java/lang/invoke/MethodHandle" ∧ yX7_seenTold.cls ≠ "java/lang/invoke/VarHandle" ∧ (parseMethodDescriptor yX7_seenTold.desc).map (fun d => d.parameters.length) = some 1 := by decide +kernel
set_option maxHeartbeats 4000000 in
set_option maxRecDepth 100000 in
theorem c_X7_seenTold (l : Launch) (g : Gm) (a0 : Nat → Nat) (kv : Value) (tv : Value) (U0 : TS) (V0 : TS) (M0 : LTS) (R0 : LTS) (p1 : Int32) {q : (Int32 × TS × TS)} (hM : f_X7_seenTold U0 V0 M0 R0 p1 = some q) : MW l yX7_seenTold wsX7_seenTold 3 63 g [.ref (a0 0), .int p1] (wXM g a0 U0 V0 M0 R0 kv tv) (some (.int q.1)) (wXM g a0 q.2.1 q.2.2 M0 R0 kv tv) := by
  intro sz
  refine Met.ofW (cc := cX7_seenTold) (maxL := 2) (ret := (some .boolean)) (by decide) rfl ?_
  intro p e s m args below meth c s₁ B hml hv
  obtain ⟨rfl, hsz, hP, hK, hD0⟩ := hv
  have hx := B.exec; have hb := B.bytes; have hr := B.returns
  have hts := atoms_spec (ws := wsX7_seenTold) B.pre
  have hown : s.vm.findClass RX7 = some m.cls := findClass_of_methodNamed B.named
  have hlocks := B.notSynchronized
  have hS : CallFix p m c cX7_seenTold 2 s _ wsX7_seenTold RX7 := ⟨hx, hb, hml, hown, hts⟩
  have hin_X7 : ∀ w ∈ wsX70, w ∈ wsX7_seenTold := fun w h => (List.mem_cons_of_mem _ (List.mem_append_right _ h))
  subst hsz
  have hw := wk_start hP hD0
  have hA : ∀ q : Nat, s.heap.size ≤ q → va_A (wXM g a0 U0 V0 M0 R0 kv tv) s.heap.size q := fun q h => Or.inr h
  generalize va_A (wXM g a0 U0 V0 M0 R0 kv tv) s.heap.size = A at hw hA ⊢
  clear hP hD0
  have hl := lv_entry ([.ref (a0 0), .int p1]) (n := 2) (Nat.le_of_ble_eq_true rfl)
  rw [lg_entry_eq]
  generalize (lg_sl ([.ref (a0 0), .int p1]) ++ List.replicate (2 - (lg_sl ([.ref (a0 0), .int p1])).length) Slot.unset).toArray = ls at hl ⊢
  have hl : lv_has ls 2 [(0, .ref (a0 0)), (1, .int p1)] := hl
  rw [f_X7_seenTold] at hM
  refine lv_aload_n hx hb dX7_seenTold_0 rfl (lv_at hl 0 rfl) ?_
  obtain ⟨q2, h1, hM⟩ := bd hM
  refine rVWp (wc := (wXM g a0 U0 V0 M0 R0 kv tv)) (wq := (wXM g a0 U0 q2 M0 R0 kv tv)) (As := []) (rest := []) (q0 := 0) hS (c_X7_look l g a0 kv tv U0 V0 M0 R0 h1) gX7_seenTold_X7_look rfl hd_X7_look ⟨Nat.le_of_ble_eq_true rfl, Nat.le_of_ble_eq_true rfl⟩ hK hw hA (pm_1_0 _) rfl (pm_1_0 _) rfl rfl rfl rfl hl.1 rfl (Nat.le_of_ble_eq_true rfl) dX7_seenTold_1 ⟨Nat.zero_le _, Nat.zero_le _⟩ (fun H locs hw => ?_)
  refine lv_aload_n hx hb dX7_seenTold_4 rfl (lv_at hl 0 rfl) ?_
  refine wk_get hx hb hts hin_X7 hown hK hw.1 7 0 23 (.int (q2 23 0)) rfl rfl (by decide) (mi 1 rfl) rfl rfl dX7_seenTold_5 ?_
  refine lv_iconst (v := (2 : Int32)) hx hb dX7_seenTold_8 (by decide) ?_
  refine lv_icmp_ne (tgt := 41) hx hb dX7_seenTold_9 (by decide) (fun c3 => ?_) (fun c3 => ?_)
  · replace hM := itn c3 hM
    refine lv_aload_n hx hb dX7_seenTold_41 rfl (lv_at hl 0 rfl) ?_
    refine lv_iconst (v := (0 : Int32)) hx hb dX7_seenTold_42 (by decide) ?_
    refine lv_iconst (v := (0 : Int32)) hx hb dX7_seenTold_43 (by decide) ?_
    refine lv_aload_n hx hb dX7_seenTold_44 rfl (lv_at hl 0 rfl) ?_
    refine wk_get hx hb hts hin_X7 hown hK hw.1 7 0 10 (.int (U0 10 0)) rfl rfl (by decide) (mi 3 rfl) rfl rfl dX7_seenTold_45 ?_
    refine lv_iconst (v := (1 : Int32)) hx hb dX7_seenTold_48 (by decide) ?_
    refine lv_isub hx hb dX7_seenTold_49 ?_
    obtain ⟨q26, h25, hM⟩ := bd hM
    refine rVWp (wc := (wXM g a0 U0 q2 M0 R0 kv tv)) (wq := (wXM g a0 U0 q26.2 M0 R0 kv tv)) (As := [.int (0 : Int32), .int (0 : Int32), .int ((U0 10 0) - (1 : Int32))]) (rest := []) (q0 := 0) hS (c_X7_number l g a0 kv tv U0 q2 M0 R0 (0 : Int32) (0 : Int32) ((U0 10 0) - (1 : Int32)) h25) gX7_seenTold_X7_number rfl hd_X7_number ⟨Nat.le_of_ble_eq_true rfl, Nat.le_of_ble_eq_true rfl⟩ hK hw hA (pm_1_0 _) rfl (pm_1_0 _) rfl rfl rfl rfl hl.1 rfl (Nat.le_of_ble_eq_true rfl) dX7_seenTold_50 ⟨Nat.zero_le _, Nat.zero_le _⟩ (fun H locs hw => ?_)
    refine lv_if_eq (tgt := 71) hx hb dX7_seenTold_53 (by decide) (fun c27 => ?_) (fun c27 => ?_)
    · replace hM := itp c27 hM
      refine lv_iconst (v := (0 : Int32)) hx hb dX7_seenTold_71 (by decide) ?_
      obtain rfl := Option.some.inj hM
      exact W.zret hx hb hr (nz (Or.inl rfl)) (fun t ht _ => ⟨rfl, by rw [ht]; exact hw.1, hw.2.2.F ht⟩) hw.2.2.2.2 dX7_seenTold_72
    · replace hM := itn c27 hM
      refine lv_aload_n hx hb dX7_seenTold_56 rfl (lv_at hl 0 rfl) ?_
      refine lv_iconst (v := (1 : Int32)) hx hb dX7_seenTold_57 (by decide) ?_
      refine lv_iconst (v := (0 : Int32)) hx hb dX7_seenTold_58 (by decide) ?_
      refine lv_aload_n hx hb dX7_seenTold_59 rfl (lv_at hl 0 rfl) ?_
      refine wk_get hx hb hts hin_X7 hown hK hw.1 7 0 9 (.int (U0 9 0)) rfl rfl (by decide) (mi 5 rfl) rfl rfl dX7_seenTold_60 ?_
      refine lv_iconst (v := (1 : Int32)) hx hb dX7_seenTold_63 (by decide) ?_
      refine lv_isub hx hb dX7_seenTold_64 ?_
      obtain ⟨q29, h28, hM⟩ := bd hM
      refine rVWp (wc := (wXM g a0 U0 q26.2 M0 R0 kv tv)) (wq := (wXM g a0 U0 q29.2 M0 R0 kv tv)) (As := [.int (1 : Int32), .int (0 : Int32), .int ((U0 9 0) - (1 : Int32))]) (rest := []) (q0 := 0) hS (c_X7_number l g a0 kv tv U0 q26.2 M0 R0 (1 : Int32) (0 : Int32) ((U0 9 0) - (1 : Int32)) h28) gX7_seenTold_X7_number rfl hd_X7_number ⟨Nat.le_of_ble_eq_true rfl, Nat.le_of_ble_eq_true rfl⟩ hK hw hA (pm_1_0 _) rfl (pm_1_0 _) rfl rfl rfl rfl hl.1 rfl (Nat.le_of_ble_eq_true rfl) dX7_seenTold_65 ⟨Nat.zero_le _, Nat.zero_le _⟩ (fun H locs hw => ?_)
      refine lv_if_ne (tgt := 73) hx hb dX7_seenTold_68 (by decide) (fun c30 => ?_) (fun c30 => ?_)
      · replace hM := itn c30 hM
        refine lv_aload_n hx hb dX7_seenTold_73 rfl (lv_at hl 0 rfl) ?_
        refine lv_aload_n hx hb dX7_seenTold_74 rfl (lv_at hl 0 rfl) ?_
        refine wk_get hx hb hts hin_X7 hown hK hw.1 7 0 27 (.ref (a0 17)) rfl rfl (by decide) (mi 6 rfl) rfl rfl dX7_seenTold_75 ?_
        refine lv_iconst (v := (0 : Int32)) hx hb dX7_seenTold_78 (by decide) ?_
        refine wk_iald hx hb hK hw.1 17 2 (q29.2 27) rfl (by decide) dX7_seenTold_79 ?_
        refine lv_aload_n hx hb dX7_seenTold_80 rfl (lv_at hl 0 rfl) ?_
        refine wk_get hx hb hts hin_X7 hown hK hw.1 7 0 27 (.ref (a0 17)) rfl rfl (by decide) (mi 6 rfl) rfl rfl dX7_seenTold_81 ?_
        refine lv_iconst (v := (1 : Int32)) hx hb dX7_seenTold_84 (by decide) ?_
        refine wk_iald hx hb hK hw.1 17 2 (q29.2 27) rfl (by decide) dX7_seenTold_85 ?_
        refine lv_iload_n hx hb dX7_seenTold_86 rfl (lv_at hl 1 rfl) ?_
        obtain ⟨q32, h31, hM⟩ := bd hM
        refine rVWp (wc := (wXT g a0 (fm a0 q29.2 kv tv) U0)) (wq := (wXM g a0 q32 q29.2 M0 R0 kv tv)) (As := [.int ((q29.2 27) ((0 : Int32)).toNatClampNeg), .int ((q29.2 27) ((1 : Int32)).toNatClampNeg), .int p1]) (rest := []) (q0 := 0) hS (c_X7_sees l g a0 (fm a0 q29.2 kv tv) U0 ((q29.2 27) ((0 : Int32)).toNatClampNeg) ((q29.2 27) ((1 : Int32)).toNatClampNeg) p1 h31) gX7_seenTold_X7_sees rfl hd_X7_sees ⟨Nat.le_of_ble_eq_true rfl, Nat.le_of_ble_eq_true rfl⟩ hK hw hA (pmX1 _ _ _ _ _ _ _ _) rfl (pmX1 _ _ _ _ _ _ _ _) rfl rfl rfl rfl hl.1 rfl (Nat.le_of_ble_eq_true rfl) dX7_seenTold_87 ⟨Nat.zero_le _, Nat.zero_le _⟩ (fun H locs hw => ?_)
        refine lv_iconst (v := (1 : Int32)) hx hb dX7_seenTold_90 (by decide) ?_
        obtain rfl := Option.some.inj hM
        exact W.zret hx hb hr (nz (Or.inr rfl)) (fun t ht _ => ⟨rfl, by rw [ht]; exact hw.1, hw.2.2.F ht⟩) hw.2.2.2.2 dX7_seenTold_91
      · replace hM := itp c30 hM
        refine lv_iconst (v := (0 : Int32)) hx hb dX7_seenTold_71 (by decide) ?_
        obtain rfl := Option.some.inj hM
        exact W.zret hx hb hr (nz (Or.inl rfl)) (fun t ht _ => ⟨rfl, by rw [ht]; exact hw.1, hw.2.2.F ht⟩) hw.2.2.2.2 dX7_seenTold_72
  · replace hM := itp c3 hM
    refine lv_aload_n hx hb dX7_seenTold_12 rfl (lv_at hl 0 rfl) ?_
    refine wk_get hx hb hts hin_X7 hown hK hw.1 7 0 25 (.int (q2 25 0)) rfl rfl (by decide) (mi 2 rfl) rfl rfl dX7_seenTold_13 ?_
    refine lv_aload_n hx hb dX7_seenTold_16 rfl (lv_at hl 0 rfl) ?_
    refine wk_get hx hb hts hin_X7 hown hK hw.1 7 0 10 (.int (U0 10 0)) rfl rfl (by decide) (mi 3 rfl) rfl rfl dX7_seenTold_17 ?_
    refine lv_icmp_ge (tgt := 41) hx hb dX7_seenTold_20 (by decide) (fun c4 => ?_) (fun c4 => ?_)
    · replace hM := itp c4 hM
      refine lv_aload_n hx hb dX7_seenTold_41 rfl (lv_at hl 0 rfl) ?_
      refine lv_iconst (v := (0 : Int32)) hx hb dX7_seenTold_42 (by decide) ?_
      refine lv_iconst (v := (0 : Int32)) hx hb dX7_seenTold_43 (by decide) ?_
      refine lv_aload_n hx hb dX7_seenTold_44 rfl (lv_at hl 0 rfl) ?_
      refine wk_get hx hb hts hin_X7 hown hK hw.1 7 0 10 (.int (U0 10 0)) rfl rfl (by decide) (mi 3 rfl) rfl rfl dX7_seenTold_45 ?_
      refine lv_iconst (v := (1 : Int32)) hx hb dX7_seenTold_48 (by decide) ?_
      refine lv_isub hx hb dX7_seenTold_49 ?_
      obtain ⟨q6, h5, hM⟩ := bd hM
      refine rVWp (wc := (wXM g a0 U0 q2 M0 R0 kv tv)) (wq := (wXM g a0 U0 q6.2 M0 R0 kv tv)) (As := [.int (0 : Int32), .int (0 : Int32), .int ((U0 10 0) - (1 : Int32))]) (rest := []) (q0 := 0) hS (c_X7_number l g a0 kv tv U0 q2 M0 R0 (0 : Int32) (0 : Int32) ((U0 10 0) - (1 : Int32)) h5) gX7_seenTold_X7_number rfl hd_X7_number ⟨Nat.le_of_ble_eq_true rfl, Nat.le_of_ble_eq_true rfl⟩ hK hw hA (pm_1_0 _) rfl (pm_1_0 _) rfl rfl rfl rfl hl.1 rfl (Nat.le_of_ble_eq_true rfl) dX7_seenTold_50 ⟨Nat.zero_le _, Nat.zero_le _⟩ (fun H locs hw => ?_)
      refine lv_if_eq (tgt := 71) hx hb dX7_seenTold_53 (by decide) (fun c7 => ?_) (fun c7 => ?_)
      · replace hM := itp c7 hM
        refine lv_iconst (v := (0 : Int32)) hx hb dX7_seenTold_71 (by decide) ?_
        obtain rfl := Option.some.inj hM
        exact W.zret hx hb hr (nz (Or.inl rfl)) (fun t ht _ => ⟨rfl, by rw [ht]; exact hw.1, hw.2.2.F ht⟩) hw.2.2.2.2 dX7_seenTold_72
      · replace hM := itn c7 hM
        refine lv_aload_n hx hb dX7_seenTold_56 rfl (lv_at hl 0 rfl) ?_
        refine lv_iconst (v := (1 : Int32)) hx hb dX7_seenTold_57 (by decide) ?_
        refine lv_iconst (v := (0 : Int32)) hx hb dX7_seenTold_58 (by decide) ?_
        refine lv_aload_n hx hb dX7_seenTold_59 rfl (lv_at hl 0 rfl) ?_
        refine wk_get hx hb hts hin_X7 hown hK hw.1 7 0 9 (.int (U0 9 0)) rfl rfl (by decide) (mi 5 rfl) rfl rfl dX7_seenTold_60 ?_
        refine lv_iconst (v := (1 : Int32)) hx hb dX7_seenTold_63 (by decide) ?_
        refine lv_isub hx hb dX7_seenTold_64 ?_
        obtain ⟨q9, h8, hM⟩ := bd hM
        refine rVWp (wc := (wXM g a0 U0 q6.2 M0 R0 kv tv)) (wq := (wXM g a0 U0 q9.2 M0 R0 kv tv)) (As := [.int (1 : Int32), .int (0 : Int32), .int ((U0 9 0) - (1 : Int32))]) (rest := []) (q0 := 0) hS (c_X7_number l g a0 kv tv U0 q6.2 M0 R0 (1 : Int32) (0 : Int32) ((U0 9 0) - (1 : Int32)) h8) gX7_seenTold_X7_number rfl hd_X7_number ⟨Nat.le_of_ble_eq_true rfl, Nat.le_of_ble_eq_true rfl⟩ hK hw hA (pm_1_0 _) rfl (pm_1_0 _) rfl rfl rfl rfl hl.1 rfl (Nat.le_of_ble_eq_true rfl) dX7_seenTold_65 ⟨Nat.zero_le _, Nat.zero_le _⟩ (fun H locs hw => ?_)
        refine lv_if_ne (tgt := 73) hx hb dX7_seenTold_68 (by decide) (fun c10 => ?_) (fun c10 => ?_)
        · replace hM := itn c10 hM
          refine lv_aload_n hx hb dX7_seenTold_73 rfl (lv_at hl 0 rfl) ?_
          refine lv_aload_n hx hb dX7_seenTold_74 rfl (lv_at hl 0 rfl) ?_
          refine wk_get hx hb hts hin_X7 hown hK hw.1 7 0 27 (.ref (a0 17)) rfl rfl (by decide) (mi 6 rfl) rfl rfl dX7_seenTold_75 ?_
          refine lv_iconst (v := (0 : Int32)) hx hb dX7_seenTold_78 (by decide) ?_
          refine wk_iald hx hb hK hw.1 17 2 (q9.2 27) rfl (by decide) dX7_seenTold_79 ?_
          refine lv_aload_n hx hb dX7_seenTold_80 rfl (lv_at hl 0 rfl) ?_
          refine wk_get hx hb hts hin_X7 hown hK hw.1 7 0 27 (.ref (a0 17)) rfl rfl (by decide) (mi 6 rfl) rfl rfl dX7_seenTold_81 ?_
          refine lv_iconst (v := (1 : Int32)) hx hb dX7_seenTold_84 (by decide) ?_
          refine wk_iald hx hb hK hw.1 17 2 (q9.2 27) rfl (by decide) dX7_seenTold_85 ?_
          refine lv_iload_n hx hb dX7_seenTold_86 rfl (lv_at hl 1 rfl) ?_
          obtain ⟨q12, h11, hM⟩ := bd hM
          refine rVWp (wc := (wXT g a0 (fm a0 q9.2 kv tv) U0)) (wq := (wXM g a0 q12 q9.2 M0 R0 kv tv)) (As := [.int ((q9.2 27) ((0 : Int32)).toNatClampNeg), .int ((q9.2 27) ((1 : Int32)).toNatClampNeg), .int p1]) (rest := []) (q0 := 0) hS (c_X7_sees l g a0 (fm a0 q9.2 kv tv) U0 ((q9.2 27) ((0 : Int32)).toNatClampNeg) ((q9.2 27) ((1 : Int32)).toNatClampNeg) p1 h11) gX7_seenTold_X7_sees rfl hd_X7_sees ⟨Nat.le_of_ble_eq_true rfl, Nat.le_of_ble_eq_true rfl⟩ hK hw hA (pmX1 _ _ _ _ _ _ _ _) rfl (pmX1 _ _ _ _ _ _ _ _) rfl rfl rfl rfl hl.1 rfl (Nat.le_of_ble_eq_true rfl) dX7_seenTold_87 ⟨Nat.zero_le _, Nat.zero_le _⟩ (fun H locs hw => ?_)
          refine lv_iconst (v := (1 : Int32)) hx hb dX7_seenTold_90 (by decide) ?_
          obtain rfl := Option.some.inj hM
          exact W.zret hx hb hr (nz (Or.inr rfl)) (fun t ht _ => ⟨rfl, by rw [ht]; exact hw.1, hw.2.2.F ht⟩) hw.2.2.2.2 dX7_seenTold_91
        · replace hM := itp c10 hM
          refine lv_iconst (v := (0 : Int32)) hx hb dX7_seenTold_71 (by decide) ?_
          obtain rfl := Option.some.inj hM
          exact W.zret hx hb hr (nz (Or.inl rfl)) (fun t ht _ => ⟨rfl, by rw [ht]; exact hw.1, hw.2.2.F ht⟩) hw.2.2.2.2 dX7_seenTold_72
    · replace hM := itn c4 hM
      refine lv_aload_n hx hb dX7_seenTold_23 rfl (lv_at hl 0 rfl) ?_
      refine wk_get hx hb hts hin_X7 hown hK hw.1 7 0 11 (.ref (a0 1)) rfl rfl (by decide) (mi 4 rfl) rfl rfl dX7_seenTold_24 ?_
      refine lv_aload_n hx hb dX7_seenTold_27 rfl (lv_at hl 0 rfl) ?_
      refine wk_get hx hb hts hin_X7 hown hK hw.1 7 0 25 (.int (q2 25 0)) rfl rfl (by decide) (mi 2 rfl) rfl rfl dX7_seenTold_28 ?_
      obtain ⟨k13, hM⟩ := ck hM
      refine wk_iald hx hb hK hw.1 1 7 (U0 11) rfl k13 dX7_seenTold_31 ?_
      refine lv_iconst (v := (4 : Int32)) hx hb dX7_seenTold_32 (by decide) ?_
      refine lv_icmp_ne (tgt := 41) hx hb dX7_seenTold_33 (by decide) (fun c14 => ?_) (fun c14 => ?_)
      · replace hM := itn c14 hM
        refine lv_aload_n hx hb dX7_seenTold_41 rfl (lv_at hl 0 rfl) ?_
        refine lv_iconst (v := (0 : Int32)) hx hb dX7_seenTold_42 (by decide) ?_
        refine lv_iconst (v := (0 : Int32)) hx hb dX7_seenTold_43 (by decide) ?_
        refine lv_aload_n hx hb dX7_seenTold_44 rfl (lv_at hl 0 rfl) ?_
        refine wk_get hx hb hts hin_X7 hown hK hw.1 7 0 10 (.int (U0 10 0)) rfl rfl (by decide) (mi 3 rfl) rfl rfl dX7_seenTold_45 ?_
        refine lv_iconst (v := (1 : Int32)) hx hb dX7_seenTold_48 (by decide) ?_
        refine lv_isub hx hb dX7_seenTold_49 ?_
        obtain ⟨q18, h17, hM⟩ := bd hM
        refine rVWp (wc := (wXM g a0 U0 q2 M0 R0 kv tv)) (wq := (wXM g a0 U0 q18.2 M0 R0 kv tv)) (As := [.int (0 : Int32), .int (0 : Int32), .int ((U0 10 0) - (1 : Int32))]) (rest := []) (q0 := 0) hS (c_X7_number l g a0 kv tv U0 q2 M0 R0 (0 : Int32) (0 : Int32) ((U0 10 0) - (1 : Int32)) h17) gX7_seenTold_X7_number rfl hd_X7_number ⟨Nat.le_of_ble_eq_true rfl, Nat.le_of_ble_eq_true rfl⟩ hK hw hA (pm_1_0 _) rfl (pm_1_0 _) rfl rfl rfl rfl hl.1 rfl (Nat.le_of_ble_eq_true rfl) dX7_seenTold_50 ⟨Nat.zero_le _, Nat.zero_le _⟩ (fun H locs hw => ?_)
        refine lv_if_eq (tgt := 71) hx hb dX7_seenTold_53 (by decide) (fun c19 => ?_) (fun c19 => ?_)
        · replace hM := itp c19 hM
          refine lv_iconst (v := (0 : Int32)) hx hb dX7_seenTold_71 (by decide) ?_
          obtain rfl := Option.some.inj hM
          exact W.zret hx hb hr (nz (Or.inl rfl)) (fun t ht _ => ⟨rfl, by rw [ht]; exact hw.1, hw.2.2.F ht⟩) hw.2.2.2.2 dX7_seenTold_72
        · replace hM := itn c19 hM
          refine lv_aload_n hx hb dX7_seenTold_56 rfl (lv_at hl 0 rfl) ?_
          refine lv_iconst (v := (1 : Int32)) hx hb dX7_seenTold_57 (by decide) ?_
          refine lv_iconst (v := (0 : Int32)) hx hb dX7_seenTold_58 (by decide) ?_
          refine lv_aload_n hx hb dX7_seenTold_59 rfl (lv_at hl 0 rfl) ?_
          refine wk_get hx hb hts hin_X7 hown hK hw.1 7 0 9 (.int (U0 9 0)) rfl rfl (by decide) (mi 5 rfl) rfl rfl dX7_seenTold_60 ?_
          refine lv_iconst (v := (1 : Int32)) hx hb dX7_seenTold_63 (by decide) ?_
          refine lv_isub hx hb dX7_seenTold_64 ?_
          obtain ⟨q21, h20, hM⟩ := bd hM
          refine rVWp (wc := (wXM g a0 U0 q18.2 M0 R0 kv tv)) (wq := (wXM g a0 U0 q21.2 M0 R0 kv tv)) (As := [.int (1 : Int32), .int (0 : Int32), .int ((U0 9 0) - (1 : Int32))]) (rest := []) (q0 := 0) hS (c_X7_number l g a0 kv tv U0 q18.2 M0 R0 (1 : Int32) (0 : Int32) ((U0 9 0) - (1 : Int32)) h20) gX7_seenTold_X7_number rfl hd_X7_number ⟨Nat.le_of_ble_eq_true rfl, Nat.le_of_ble_eq_true rfl⟩ hK hw hA (pm_1_0 _) rfl (pm_1_0 _) rfl rfl rfl rfl hl.1 rfl (Nat.le_of_ble_eq_true rfl) dX7_seenTold_65 ⟨Nat.zero_le _, Nat.zero_le _⟩ (fun H locs hw => ?_)
          refine lv_if_ne (tgt := 73) hx hb dX7_seenTold_68 (by decide) (fun c22 => ?_) (fun c22 => ?_)
          · replace hM := itn c22 hM
            refine lv_aload_n hx hb dX7_seenTold_73 rfl (lv_at hl 0 rfl) ?_
            refine lv_aload_n hx hb dX7_seenTold_74 rfl (lv_at hl 0 rfl) ?_
            refine wk_get hx hb hts hin_X7 hown hK hw.1 7 0 27 (.ref (a0 17)) rfl rfl (by decide) (mi 6 rfl) rfl rfl dX7_seenTold_75 ?_
            refine lv_iconst (v := (0 : Int32)) hx hb dX7_seenTold_78 (by decide) ?_
            refine wk_iald hx hb hK hw.1 17 2 (q21.2 27) rfl (by decide) dX7_seenTold_79 ?_
            refine lv_aload_n hx hb dX7_seenTold_80 rfl (lv_at hl 0 rfl) ?_
            refine wk_get hx hb hts hin_X7 hown hK hw.1 7 0 27 (.ref (a0 17)) rfl rfl (by decide) (mi 6 rfl) rfl rfl dX7_seenTold_81 ?_
            refine lv_iconst (v := (1 : Int32)) hx hb dX7_seenTold_84 (by decide) ?_
            refine wk_iald hx hb hK hw.1 17 2 (q21.2 27) rfl (by decide) dX7_seenTold_85 ?_
            refine lv_iload_n hx hb dX7_seenTold_86 rfl (lv_at hl 1 rfl) ?_
            obtain ⟨q24, h23, hM⟩ := bd hM
            refine rVWp (wc := (wXT g a0 (fm a0 q21.2 kv tv) U0)) (wq := (wXM g a0 q24 q21.2 M0 R0 kv tv)) (As := [.int ((q21.2 27) ((0 : Int32)).toNatClampNeg), .int ((q21.2 27) ((1 : Int32)).toNatClampNeg), .int p1]) (rest := []) (q0 := 0) hS (c_X7_sees l g a0 (fm a0 q21.2 kv tv) U0 ((q21.2 27) ((0 : Int32)).toNatClampNeg) ((q21.2 27) ((1 : Int32)).toNatClampNeg) p1 h23) gX7_seenTold_X7_sees rfl hd_X7_sees ⟨Nat.le_of_ble_eq_true rfl, Nat.le_of_ble_eq_true rfl⟩ hK hw hA (pmX1 _ _ _ _ _ _ _ _) rfl (pmX1 _ _ _ _ _ _ _ _) rfl rfl rfl rfl hl.1 rfl (Nat.le_of_ble_eq_true rfl) dX7_seenTold_87 ⟨Nat.zero_le _, Nat.zero_le _⟩ (fun H locs hw => ?_)
            refine lv_iconst (v := (1 : Int32)) hx hb dX7_seenTold_90 (by decide) ?_
            obtain rfl := Option.some.inj hM
            exact W.zret hx hb hr (nz (Or.inr rfl)) (fun t ht _ => ⟨rfl, by rw [ht]; exact hw.1, hw.2.2.F ht⟩) hw.2.2.2.2 dX7_seenTold_91
          · replace hM := itp c22 hM
            refine lv_iconst (v := (0 : Int32)) hx hb dX7_seenTold_71 (by decide) ?_
            obtain rfl := Option.some.inj hM
            exact W.zret hx hb hr (nz (Or.inl rfl)) (fun t ht _ => ⟨rfl, by rw [ht]; exact hw.1, hw.2.2.F ht⟩) hw.2.2.2.2 dX7_seenTold_72
      · replace hM := itp c14 hM
        refine lv_aload_n hx hb dX7_seenTold_36 rfl (lv_at hl 0 rfl) ?_
        obtain ⟨q16, h15, hM⟩ := bd hM
        refine rVWp (wc := (wXM g a0 U0 q2 M0 R0 kv tv)) (wq := (wXM g a0 U0 q16.2 M0 R0 kv tv)) (As := []) (rest := []) (q0 := 0) hS (c_X7_wrong l g a0 kv tv U0 q2 M0 R0 h15) gX7_seenTold_X7_wrong rfl hd_X7_wrong ⟨Nat.le_of_ble_eq_true rfl, Nat.le_of_ble_eq_true rfl⟩ hK hw hA (pm_1_0 _) rfl (pm_1_0 _) rfl rfl rfl rfl hl.1 rfl (Nat.le_of_ble_eq_true rfl) dX7_seenTold_37 ⟨Nat.zero_le _, Nat.zero_le _⟩ (fun H locs hw => ?_)
        obtain rfl := Option.some.inj hM
        exact W.zret hx hb hr (nz (bz_X7_wrong h15)) (fun t ht _ => ⟨rfl, by rw [ht]; exact hw.1, hw.2.2.F ht⟩) hw.2.2.2.2 dX7_seenTold_40
theorem hd_X7_set : yX7_set.cls = RX7 ∧ yX7_set.cls ≠ "java/lang/invoke/MethodHandle" ∧ yX7_set.cls ≠ "java/lang/invoke/VarHandle" ∧ (parseMethodDescriptor yX7_set.desc).map (fun d => d.parameters.length) = some 3 := by decide +kernel
set_option maxHeartbeats 4000000 in
set_option maxRecDepth 100000 in
theorem c_X7_set (l : Launch) (g : Gm) (a0 : Nat → Nat) (kv : Value) (tv : Value) (U0 : TS) (V0 : TS) (M0 : LTS) (R0 : LTS) (p1 : Int32) (p2 : Int32) (p3 : Int64) {q : (Int32 × TS × LTS)} (hM : f_X7_set U0 V0 M0 R0 p1 p2 p3 = some q) : MW l yX7_set wsX7_set 2 46 g [.ref (a0 0), .int p1, .int p2, .long p3] (wXM g a0 U0 V0 M0 R0 kv tv) (some (.int q.1)) (wXM g a0 U0 q.2.1 M0 q.2.2 kv tv) := by
  intro sz
  refine Met.ofW (cc := cX7_set) (maxL := 6) (ret := (some .int)) (by decide) rfl ?_
  intro p e s m args below meth c s₁ B hml hv
  obtain ⟨rfl, hsz, hP, hK, hD0⟩ := hv
  have hx := B.exec; have hb := B.bytes; have hr := B.returns
  have hts := atoms_spec (ws := wsX7_set) B.pre
  have hown : s.vm.findClass RX7 = some m.cls := findClass_of_methodNamed B.named
  have hlocks := B.notSynchronized
  have hS : CallFix p m c cX7_set 6 s _ wsX7_set RX7 := ⟨hx, hb, hml, hown, hts⟩
  have hin_X7 : ∀ w ∈ wsX70, w ∈ wsX7_set := fun w h => (List.mem_cons_of_mem _ (List.mem_append_right _ h))
  subst hsz
  have hw := wk_start hP hD0
  have hA : ∀ q : Nat, s.heap.size ≤ q → va_A (wXM g a0 U0 V0 M0 R0 kv tv) s.heap.size q := fun q h => Or.inr h
  generalize va_A (wXM g a0 U0 V0 M0 R0 kv tv) s.heap.size = A at hw hA ⊢
  clear hP hD0
  have hl := lv_entry ([.ref (a0 0), .int p1, .int p2, .long p3]) (n := 6) (Nat.le_of_ble_eq_true rfl)
  rw [lg_entry_eq]
  generalize (lg_sl ([.ref (a0 0), .int p1, .int p2, .long p3]) ++ List.replicate (6 - (lg_sl ([.ref (a0 0), .int p1, .int p2, .long p3])).length) Slot.unset).toArray = ls at hl ⊢
  have hl : lv_has ls 6 [(0, .ref (a0 0)), (1, .int p1), (2, .int p2), (3, .long p3)] := hl
  rw [f_X7_set] at hM
  refine lv_aload_n hx hb dX7_set_0 rfl (lv_at hl 0 rfl) ?_
  refine lv_iload_n hx hb dX7_set_1 rfl (lv_at hl 1 rfl) ?_
  obtain ⟨q2, h1, hM⟩ := bd hM
  refine rVWp (wc := (wXM g a0 U0 V0 M0 R0 kv tv)) (wq := (wXM g a0 U0 q2.2 M0 R0 kv tv)) (As := [.int p1]) (rest := []) (q0 := 0) hS (c_X7_noRow l g a0 kv tv U0 V0 M0 R0 p1 h1) gX7_set_X7_noRow rfl hd_X7_noRow ⟨Nat.le_of_ble_eq_true rfl, Nat.le_of_ble_eq_true rfl⟩ hK hw hA (pm_1_0 _) rfl (pm_1_0 _) rfl rfl rfl rfl hl.1 rfl (Nat.le_of_ble_eq_true rfl) dX7_set_2 ⟨Nat.zero_le _, Nat.zero_le _⟩ (fun H locs hw => ?_)
  refine lv_istore (lv' := [(5, .int q2.1), (0, .ref (a0 0)), (1, .int p1), (2, .int p2), (3, .long p3)]) hx hb dX7_set_5 hl (by decide) rfl (fun ls hl => ?_)
  refine lv_iload hx hb dX7_set_7 (lv_at hl 0 rfl) ?_
  refine lv_if_eq (tgt := 15) hx hb dX7_set_9 (by decide) (fun c3 => ?_) (fun c3 => ?_)
  · replace hM := itp c3 hM
    refine lv_iload_n hx hb dX7_set_15 rfl (lv_at hl 3 rfl) ?_
    refine lv_i2l (v := ((p2).toInt64)) hx hb dX7_set_16 rfl ?_
    refine lv_lconst (v := (0 : Int64)) hx hb dX7_set_17 (by decide) ?_
    refine lv_aload_n hx hb dX7_set_18 rfl (lv_at hl 1 rfl) ?_
    refine wk_get hx hb hts hin_X7 hown hK hw.1 7 0 2 (.ref (a0 11)) rfl rfl (by decide) (mi 1 rfl) rfl rfl dX7_set_19 ?_
    refine lv_iload_n hx hb dX7_set_22 rfl (lv_at hl 2 rfl) ?_
    obtain ⟨k4, hM⟩ := ck hM
    refine wk_iald hx hb hK hw.1 11 8 (q2.2 2) rfl k4 dX7_set_23 ?_
    refine lv_iconst (v := (1 : Int32)) hx hb dX7_set_24 (by decide) ?_
    refine lv_isub hx hb dX7_set_25 ?_
    refine lv_i2l (v := (((((q2.2 2) (p1).toNatClampNeg) - (1 : Int32))).toInt64)) hx hb dX7_set_26 rfl ?_
    refine rSR (wc := ([] : va_W)) (As := [.long ((p2).toInt64), .long (0 : Int64), .long (((((q2.2 2) (p1).toNatClampNeg) - (1 : Int32))).toInt64)]) (rest := []) hS (c_X7_in l g ((p2).toInt64) (0 : Int64) (((((q2.2 2) (p1).toNatClampNeg) - (1 : Int32))).toInt64)) gX7_set_X7_in rfl hd_X7_in ⟨Nat.le_of_ble_eq_true rfl, Nat.le_of_ble_eq_true rfl⟩ hK (hP_nil) rfl hl.1 rfl (Nat.le_of_ble_eq_true rfl) dX7_set_27 ⟨Nat.zero_le _, Nat.zero_le _⟩ ?_
    refine lv_if_ne (tgt := 40) hx hb dX7_set_30 (by decide) (fun c6 => ?_) (fun c6 => ?_)
    · replace hM := itn c6 hM
      refine lv_aload_n hx hb dX7_set_40 rfl (lv_at hl 1 rfl) ?_
      refine wk_get hx hb hts hin_X7 hown hK hw.1 7 0 3 (.ref (a0 12)) rfl rfl (by decide) (mi 2 rfl) rfl rfl dX7_set_41 ?_
      refine lv_iload_n hx hb dX7_set_44 rfl (lv_at hl 2 rfl) ?_
      refine wk_aald hx hb hK hw.1 12 8 (fun i => a0 (20 + i)) 3 rfl (k4) rfl rfl dX7_set_45 ?_
      refine lv_iload_n hx hb dX7_set_46 rfl (lv_at hl 3 rfl) ?_
      refine lv_aload_n hx hb dX7_set_47 rfl (lv_at hl 1 rfl) ?_
      refine wk_get hx hb hts hin_X7 hown hK hw.1 7 0 1 (.ref (a0 10)) rfl rfl (by decide) (mi 3 rfl) rfl rfl dX7_set_48 ?_
      refine lv_iload_n hx hb dX7_set_51 rfl (lv_at hl 2 rfl) ?_
      refine wk_iald hx hb hK hw.1 10 8 (q2.2 1) rfl k4 dX7_set_52 ?_
      refine lv_lload_n hx hb dX7_set_53 rfl (lv_at hl 4 rfl) ?_
      refine rSR (wc := ([] : va_W)) (As := [.int ((q2.2 1) (p1).toNatClampNeg), .long p3]) (rest := [.int p2, .ref (a0 (20 + (p1).toNatClampNeg))]) hS (c_X7_fit l g ((q2.2 1) (p1).toNatClampNeg) p3) gX7_set_X7_fit rfl hd_X7_fit ⟨Nat.le_of_ble_eq_true rfl, Nat.le_of_ble_eq_true rfl⟩ hK (hP_nil) rfl hl.1 rfl (Nat.le_of_ble_eq_true rfl) dX7_set_54 ⟨Nat.zero_le _, Nat.zero_le _⟩ ?_
      obtain ⟨k10, hM⟩ := ck hM
      refine wk_last (wq := (wXM g a0 U0 q2.2 M0 (upL R0 (p1).toNatClampNeg (vp_updL (R0 (p1).toNatClampNeg) (p2).toNatClampNeg (f_X7_fit ((q2.2 1) (p1).toNatClampNeg) p3))) kv tv)) hx hb hK hw (20 + (p1).toNatClampNeg) 40 (R0 (p1).toNatClampNeg) (wXM_row (Nat.lt_of_not_le (fun z => k4 (Or.inr z)))) k10 dX7_set_57 (wXM_set (Nat.lt_of_not_le (fun z => k4 (Or.inr z)))) (fun H locs hw => ?_)
      refine lv_iconst (v := (1 : Int32)) hx hb dX7_set_58 (by decide) ?_
      obtain rfl := Option.some.inj hM
      exact W.iret hx hb hr (fun t ht _ => ⟨rfl, by rw [ht]; exact hw.1, hw.2.2.F ht⟩) hw.2.2.2.2 dX7_set_59
    · replace hM := itp c6 hM
      refine lv_aload_n hx hb dX7_set_33 rfl (lv_at hl 1 rfl) ?_
      refine lv_bipush (v := (-2 : Int32)) hx hb dX7_set_34 (by decide) ?_
      obtain ⟨q8, h7, hM⟩ := bd hM
      refine rVWp (wc := (wXM g a0 U0 q2.2 M0 R0 kv tv)) (wq := (wXM g a0 U0 q8.2 M0 R0 kv tv)) (As := [.int (-2 : Int32)]) (rest := []) (q0 := 0) hS (c_X7_refuse l g a0 kv tv U0 q2.2 M0 R0 (-2 : Int32) h7) gX7_set_X7_refuse rfl hd_X7_refuse ⟨Nat.le_of_ble_eq_true rfl, Nat.le_of_ble_eq_true rfl⟩ hK hw hA (pm_1_0 _) rfl (pm_1_0 _) rfl rfl rfl rfl hl.1 rfl (Nat.le_of_ble_eq_true rfl) dX7_set_36 ⟨Nat.zero_le _, Nat.zero_le _⟩ (fun H locs hw => ?_)
      obtain rfl := Option.some.inj hM
      exact W.iret hx hb hr (fun t ht _ => ⟨rfl, by rw [ht]; exact hw.1, hw.2.2.F ht⟩) hw.2.2.2.2 dX7_set_39
  · replace hM := itn c3 hM
    refine lv_iload hx hb dX7_set_12 (lv_at hl 0 rfl) ?_
    obtain rfl := Option.some.inj hM
    exact W.iret hx hb hr (fun t ht _ => ⟨rfl, by rw [ht]; exact hw.1, hw.2.2.F ht⟩) hw.2.2.2.2 dX7_set_14
theorem hd_X7_show : yX7_show.cls = RX7 ∧ yX7_show.cls ≠ "java/lang/invoke/MethodHandle" ∧ yX7_show.cls ≠ "java/lang/invoke/VarHandle" ∧ (parseMethodDescriptor yX7_show.desc).map (fun d => d.parameters.length) = some 2 := by decide +kernel
set_option maxHeartbeats 4000000 in
set_option maxRecDepth 100000 in
theorem c_X7_show (l : Launch) (g : Gm) (a0 : Nat → Nat) (kv : Value) (tv : Value) (U0 : TS) (V0 : TS) (M0 : LTS) (R0 : LTS) (p1 : Int32) (p2 : Int32) {q : (Int32 × TS)} (hM : f_X7_show U0 V0 M0 R0 p1 p2 = some q) : MW l yX7_show wsX7_show 2 46 g [.ref (a0 0), .int p1, .int p2] (wXM g a0 U0 V0 M0 R0 kv tv) (some (.int q.1)) (wXM g a0 U0 q.2 M0 R0 kv tv) := by
  intro sz
  refine Met.ofW (cc := cX7_show) (maxL := 3) (ret := (some .int)) (by decide) rfl ?_
  intro p e s m args below meth c s₁ B hml hv
  obtain ⟨rfl, hsz, hP, hK, hD0⟩ := hv
  have hx := B.exec; have hb := B.bytes; have hr := B.returns
  have hts := atoms_spec (ws := wsX7_show) B.pre
  have hown : s.vm.findClass RX7 = some m.cls := findClass_of_methodNamed B.named
  have hlocks := B.notSynchronized
  have hS : CallFix p m c cX7_show 3 s _ wsX7_show RX7 := ⟨hx, hb, hml, hown, hts⟩
  have hin_X7 : ∀ w ∈ wsX70, w ∈ wsX7_show := fun w h => (List.mem_cons_of_mem _ (List.mem_append_right _ h))
  subst hsz
  have hw := wk_start hP hD0
  have hA : ∀ q : Nat, s.heap.size ≤ q → va_A (wXM g a0 U0 V0 M0 R0 kv tv) s.heap.size q := fun q h => Or.inr h
  generalize va_A (wXM g a0 U0 V0 M0 R0 kv tv) s.heap.size = A at hw hA ⊢
  clear hP hD0
  have hl := lv_entry ([.ref (a0 0), .int p1, .int p2]) (n := 3) (Nat.le_of_ble_eq_true rfl)
  rw [lg_entry_eq]
  generalize (lg_sl ([.ref (a0 0), .int p1, .int p2]) ++ List.replicate (3 - (lg_sl ([.ref (a0 0), .int p1, .int p2])).length) Slot.unset).toArray = ls at hl ⊢
  have hl : lv_has ls 3 [(0, .ref (a0 0)), (1, .int p1), (2, .int p2)] := hl
  rw [f_X7_show] at hM
  refine lv_iload_n hx hb dX7_show_0 rfl (lv_at hl 1 rfl) ?_
  refine lv_i2l (v := ((p1).toInt64)) hx hb dX7_show_1 rfl ?_
  refine lv_lconst (v := (0 : Int64)) hx hb dX7_show_2 (by decide) ?_
  refine lv_ldc2 (v := (7 : Int64)) hx hb hown (hts _ (mi 1 rfl)) dX7_show_3 ?_
  refine rSR (wc := ([] : va_W)) (As := [.long ((p1).toInt64), .long (0 : Int64), .long (7 : Int64)]) (rest := []) hS (c_X7_in l g ((p1).toInt64) (0 : Int64) (7 : Int64)) gX7_show_X7_in rfl hd_X7_in ⟨Nat.le_of_ble_eq_true rfl, Nat.le_of_ble_eq_true rfl⟩ hK (hP_nil) rfl hl.1 rfl (Nat.le_of_ble_eq_true rfl) dX7_show_6 ⟨Nat.zero_le _, Nat.zero_le _⟩ ?_
  refine lv_if_eq (tgt := 25) hx hb dX7_show_9 (by decide) (fun c2 => ?_) (fun c2 => ?_)
  · replace hM := itp c2 hM
    refine lv_aload_n hx hb dX7_show_25 rfl (lv_at hl 0 rfl) ?_
    refine lv_bipush (v := (-2 : Int32)) hx hb dX7_show_26 (by decide) ?_
    obtain ⟨q4, h3, hM⟩ := bd hM
    refine rVWp (wc := (wXM g a0 U0 V0 M0 R0 kv tv)) (wq := (wXM g a0 U0 q4.2 M0 R0 kv tv)) (As := [.int (-2 : Int32)]) (rest := []) (q0 := 0) hS (c_X7_refuse l g a0 kv tv U0 V0 M0 R0 (-2 : Int32) h3) gX7_show_X7_refuse rfl hd_X7_refuse ⟨Nat.le_of_ble_eq_true rfl, Nat.le_of_ble_eq_true rfl⟩ hK hw hA (pm_1_0 _) rfl (pm_1_0 _) rfl rfl rfl rfl hl.1 rfl (Nat.le_of_ble_eq_true rfl) dX7_show_28 ⟨Nat.zero_le _, Nat.zero_le _⟩ (fun H locs hw => ?_)
    obtain rfl := Option.some.inj hM
    exact W.iret hx hb hr (fun t ht _ => ⟨rfl, by rw [ht]; exact hw.1, hw.2.2.F ht⟩) hw.2.2.2.2 dX7_show_31
  · replace hM := itn c2 hM
    refine lv_iload_n hx hb dX7_show_12 rfl (lv_at hl 2 rfl) ?_
    refine lv_iconst (v := (-1 : Int32)) hx hb dX7_show_13 (by decide) ?_
    refine lv_icmp_eq (tgt := 32) hx hb dX7_show_14 (by decide) (fun c5 => ?_) (fun c5 => ?_)
    · replace hM := itp c5 hM
      refine lv_aload_n hx hb dX7_show_32 rfl (lv_at hl 0 rfl) ?_
      refine wk_get hx hb hts hin_X7 hown hK hw.1 7 0 0 (.ref (a0 9)) rfl rfl (by decide) (mi 2 rfl) rfl rfl dX7_show_33 ?_
      refine lv_iload_n hx hb dX7_show_36 rfl (lv_at hl 1 rfl) ?_
      refine lv_iload_n hx hb dX7_show_37 rfl (lv_at hl 2 rfl) ?_
      refine lv_iconst (v := (-1 : Int32)) hx hb dX7_show_38 (by decide) ?_
      have hJ23 : ∀ (H : Heap) (locs : List Loc) (x22 : Int32) (ls : Array Slot), Wk g A s.heap H locs (wXM g a0 U0 V0 M0 R0 kv tv) → x22 = (if p2 = (-1 : Int32) then (0 : Int32) else (2 : Int32)) → lv_has ls 3 [(0, .ref (a0 0)), (1, .int p1), (2, .int p2)] → W p l e (headSpec wsX7_show ({ frames := 2, cells := 0, slots := 0, locals := 46 } : Room)).room s m ([.ref (a0 0), .int p1, .int p2] : List Value).toArray below meth c H locs 0 0 (MQ below (QcW g (some (.int q.1)) (wXM g a0 U0 q.2 M0 R0 kv tv) A) ([.ref (a0 0), .int p1, .int p2] : List Value).toArray s 0 0 A) (F0 m 47 ls [.int x22, .int p1, .ref (a0 9)]) := by
        intro H locs x22 ls hw hxx22 hl
        subst hxx22
        obtain ⟨k7, hM⟩ := ck hM
        refine wk_iast (wq := (wXM g a0 U0 (up V0 0 (upd (V0 0) (p1).toNatClampNeg (if p2 = (-1 : Int32) then (0 : Int32) else (2 : Int32)))) M0 R0 kv tv)) hx hb hK hw 9 8 (V0 0) rfl k7 dX7_show_47 rfl (fun H locs hw => ?_)
        refine lv_aload_n hx hb dX7_show_48 rfl (lv_at hl 0 rfl) ?_
        refine wk_get hx hb hts hin_X7 hown hK hw.1 7 0 5 (.ref (a0 14)) rfl rfl (by decide) (mi 3 rfl) rfl rfl dX7_show_49 ?_
        refine lv_iload_n hx hb dX7_show_52 rfl (lv_at hl 1 rfl) ?_
        refine lv_iload_n hx hb dX7_show_53 rfl (lv_at hl 2 rfl) ?_
        refine wk_iast (wq := (wXM g a0 U0 (up (up V0 0 (upd (V0 0) (p1).toNatClampNeg (if p2 = (-1 : Int32) then (0 : Int32) else (2 : Int32)))) 5 (upd (V0 5) (p1).toNatClampNeg p2)) M0 R0 kv tv)) hx hb hK hw 14 8 (V0 5) rfl k7 dX7_show_54 rfl (fun H locs hw => ?_)
        refine lv_iconst (v := (1 : Int32)) hx hb dX7_show_55 (by decide) ?_
        obtain rfl := Option.some.inj hM
        exact W.iret hx hb hr (fun t ht _ => ⟨rfl, by rw [ht]; exact hw.1, hw.2.2.F ht⟩) hw.2.2.2.2 dX7_show_56
      refine lv_icmp_ne (tgt := 46) hx hb dX7_show_39 (by decide) (fun c6 => ?_) (fun c6 => ?_)
      · refine lv_iconst (v := (2 : Int32)) hx hb dX7_show_46 (by decide) ?_
        exact hJ23 _ _ _ _ hw (by first | with_reducible rfl | (simp only [if_neg c6]) | rfl) (lv_sub hl [0, 1, 2] rfl)
      · refine lv_iconst (v := (0 : Int32)) hx hb dX7_show_42 (by decide) ?_
        refine lv_goto (tgt := 47) hx hb dX7_show_43 (by decide) ?_
        exact hJ23 _ _ _ _ hw (by first | with_reducible rfl | (simp only [if_pos c6]) | rfl) (lv_sub hl [0, 1, 2] rfl)
    · replace hM := itn c5 hM
      refine lv_aload_n hx hb dX7_show_17 rfl (lv_at hl 0 rfl) ?_
      refine lv_iload_n hx hb dX7_show_18 rfl (lv_at hl 2 rfl) ?_
      refine rVR (wc := (wXT g a0 (fm a0 V0 kv tv) U0)) (As := [.int p2]) (rest := []) (q0 := 0) hS (c_X7_isOne l g a0 (fm a0 V0 kv tv) U0 p2) gX7_show_X7_isOne rfl hd_X7_isOne ⟨Nat.le_of_ble_eq_true rfl, Nat.le_of_ble_eq_true rfl⟩ hK (va_P.pm hw.1 (pmX1 _ _ _ _ _ _ _ _)) rfl rfl rfl rfl hl.1 rfl (Nat.le_of_ble_eq_true rfl) dX7_show_19 ⟨Nat.zero_le _, Nat.zero_le _⟩ ?_
      refine lv_if_ne (tgt := 32) hx hb dX7_show_22 (by decide) (fun c9 => ?_) (fun c9 => ?_)
      · replace hM := itn c9 hM
        refine lv_aload_n hx hb dX7_show_32 rfl (lv_at hl 0 rfl) ?_
        refine wk_get hx hb hts hin_X7 hown hK hw.1 7 0 0 (.ref (a0 9)) rfl rfl (by decide) (mi 2 rfl) rfl rfl dX7_show_33 ?_
        refine lv_iload_n hx hb dX7_show_36 rfl (lv_at hl 1 rfl) ?_
        refine lv_iload_n hx hb dX7_show_37 rfl (lv_at hl 2 rfl) ?_
        refine lv_iconst (v := (-1 : Int32)) hx hb dX7_show_38 (by decide) ?_
        have hJ25 : ∀ (H : Heap) (locs : List Loc) (x24 : Int32) (ls : Array Slot), Wk g A s.heap H locs (wXM g a0 U0 V0 M0 R0 kv tv) → x24 = (if p2 = (-1 : Int32) then (0 : Int32) else (2 : Int32)) → lv_has ls 3 [(0, .ref (a0 0)), (1, .int p1), (2, .int p2)] → W p l e (headSpec wsX7_show ({ frames := 2, cells := 0, slots := 0, locals := 46 } : Room)).room s m ([.ref (a0 0), .int p1, .int p2] : List Value).toArray below meth c H locs 0 0 (MQ below (QcW g (some (.int q.1)) (wXM g a0 U0 q.2 M0 R0 kv tv) A) ([.ref (a0 0), .int p1, .int p2] : List Value).toArray s 0 0 A) (F0 m 47 ls [.int x24, .int p1, .ref (a0 9)]) := by
          intro H locs x24 ls hw hxx24 hl
          subst hxx24
          obtain ⟨k13, hM⟩ := ck hM
          refine wk_iast (wq := (wXM g a0 U0 (up V0 0 (upd (V0 0) (p1).toNatClampNeg (if p2 = (-1 : Int32) then (0 : Int32) else (2 : Int32)))) M0 R0 kv tv)) hx hb hK hw 9 8 (V0 0) rfl k13 dX7_show_47 rfl (fun H locs hw => ?_)
          refine lv_aload_n hx hb dX7_show_48 rfl (lv_at hl 0 rfl) ?_
          refine wk_get hx hb hts hin_X7 hown hK hw.1 7 0 5 (.ref (a0 14)) rfl rfl (by decide) (mi 3 rfl) rfl rfl dX7_show_49 ?_
          refine lv_iload_n hx hb dX7_show_52 rfl (lv_at hl 1 rfl) ?_
          refine lv_iload_n hx hb dX7_show_53 rfl (lv_at hl 2 rfl) ?_
          refine wk_iast (wq := (wXM g a0 U0 (up (up V0 0 (upd (V0 0) (p1).toNatClampNeg (if p2 = (-1 : Int32) then (0 : Int32) else (2 : Int32)))) 5 (upd (V0 5) (p1).toNatClampNeg p2)) M0 R0 kv tv)) hx hb hK hw 14 8 (V0 5) rfl k13 dX7_show_54 rfl (fun H locs hw => ?_)
          refine lv_iconst (v := (1 : Int32)) hx hb dX7_show_55 (by decide) ?_
          obtain rfl := Option.some.inj hM
          exact W.iret hx hb hr (fun t ht _ => ⟨rfl, by rw [ht]; exact hw.1, hw.2.2.F ht⟩) hw.2.2.2.2 dX7_show_56
        refine lv_icmp_ne (tgt := 46) hx hb dX7_show_39 (by decide) (fun c12 => ?_) (fun c12 => ?_)
        · refine lv_iconst (v := (2 : Int32)) hx hb dX7_show_46 (by decide) ?_
          exact hJ25 _ _ _ _ hw (by first | with_reducible rfl | (simp only [if_neg c12]) | rfl) (lv_sub hl [0, 1, 2] rfl)
        · refine lv_iconst (v := (0 : Int32)) hx hb dX7_show_42 (by decide) ?_
          refine lv_goto (tgt := 47) hx hb dX7_show_43 (by decide) ?_
          exact hJ25 _ _ _ _ hw (by first | with_reducible rfl | (simp only [if_pos c12]) | rfl) (lv_sub hl [0, 1, 2] rfl)
      · replace hM := itp c9 hM
        refine lv_aload_n hx hb dX7_show_25 rfl (lv_at hl 0 rfl) ?_
        refine lv_bipush (v := (-2 : Int32)) hx hb dX7_show_26 (by decide) ?_
        obtain ⟨q11, h10, hM⟩ := bd hM
        refine rVWp (wc := (wXM g a0 U0 V0 M0 R0 kv tv)) (wq := (wXM g a0 U0 q11.2 M0 R0 kv tv)) (As := [.int (-2 : Int32)]) (rest := []) (q0 := 0) hS (c_X7_refuse l g a0 kv tv U0 V0 M0 R0 (-2 : Int32) h10) gX7_show_X7_refuse rfl hd_X7_refuse ⟨Nat.le_of_ble_eq_true rfl, Nat.le_of_ble_eq_true rfl⟩ hK hw hA (pm_1_0 _) rfl (pm_1_0 _) rfl rfl rfl rfl hl.1 rfl (Nat.le_of_ble_eq_true rfl) dX7_show_28 ⟨Nat.zero_le _, Nat.zero_le _⟩ (fun H locs hw => ?_)
        obtain rfl := Option.some.inj hM
        exact W.iret hx hb hr (fun t ht _ => ⟨rfl, by rw [ht]; exact hw.1, hw.2.2.F ht⟩) hw.2.2.2.2 dX7_show_31
