theorem hd_X7_over : yX7_over.cls ≠ "java/lang/invoke/MethodHandle" ∧ yX7_over.cls ≠ "java/lang/invoke/VarHandle" ∧ (parseMethodDescriptor yX7_over.desc).map (fun d => d.parameters.length) = some 2 := by decide +kernel
set_option maxHeartbeats 4000000 in
set_option maxRecDepth 100000 in
theorem c_X7_over (l : Launch) (g : Gm) (a0 : Nat → Nat) (a1 : Nat → Nat) (N0 : Nat) (X0 : TS) (N1 : Nat) (X1 : TS) {q : TS} (hM : f_X7_over N0 X0 N1 X1 = some q) : MW l yX7_over wsX7_over 0 0 g [.ref (a0 0), .ref (a1 0)] ((wAR g a0 N0 X0) ++ (wAR g a1 N1 X1)) none ((wAR g a0 N0 X0) ++ (wAR g a1 N1 q)) := by
  intro sz
  refine Met.ofW (cc := cX7_over) (maxL := 3) (ret := none) (by decide) rfl ?_
  intro p e s m args below meth c s₁ B hml hv
  obtain ⟨rfl, hsz, hP, hK, hD0⟩ := hv
  have hx := B.exec; have hb := B.bytes; have hr := B.returns
  have hts := atoms_spec (ws := wsX7_over) B.pre
  have hown : s.vm.findClass RX7 = some m.cls := findClass_of_methodNamed B.named
  have hlocks := B.notSynchronized
  have hS : CallFix p m c cX7_over 3 s _ wsX7_over RX7 := ⟨hx, hb, hml, hown, hts⟩
  subst hsz
  have hw := wk_start hP hD0
  have hA : ∀ q : Nat, s.heap.size ≤ q → va_A ((wAR g a0 N0 X0) ++ (wAR g a1 N1 X1)) s.heap.size q := fun q h => Or.inr h
  generalize va_A ((wAR g a0 N0 X0) ++ (wAR g a1 N1 X1)) s.heap.size = A at hw hA ⊢
  clear hP hD0
  have hl := lv_entry ([.ref (a0 0), .ref (a1 0)]) (n := 3) (Nat.le_of_ble_eq_true rfl)
  rw [lg_entry_eq]
  generalize (lg_sl ([.ref (a0 0), .ref (a1 0)]) ++ List.replicate (3 - (lg_sl ([.ref (a0 0), .ref (a1 0)])).length) Slot.unset).toArray = ls at hl ⊢
  have hl : lv_has ls 3 [(0, .ref (a0 0)), (1, .ref (a1 0))] := hl
  rw [f_X7_over] at hM
  refine lv_iconst (v := (0 : Int32)) hx hb dX7_over_0 (by decide) ?_
  refine lv_istore_n (lv' := [(2, .int (0 : Int32)), (0, .ref (a0 0)), (1, .ref (a1 0))]) hx hb dX7_over_1 rfl hl (by decide) rfl (fun ls hl => ?_)
  obtain ⟨q3, hL2, hM⟩ := bd hM
  have hJ2 : ∀ (H : Heap) (locs : List Loc), Wk g A s.heap H locs ((wAR g a0 N0 X0) ++ (wAR g a1 N1 q3)) → ∀ (ls : Array Slot), lv_has ls 3 [] → W p l e (headSpec wsX7_over ({ frames := 0, cells := 0, slots := 0, locals := 0 } : Room)).room s m ([.ref (a0 0), .ref (a1 0)] : List Value).toArray below meth c H locs 0 0 (MQ below (QcW g none ((wAR g a0 N0 X0) ++ (wAR g a1 N1 q)) A) ([.ref (a0 0), .ref (a1 0)] : List Value).toArray s 0 0 A) (F0 m 20 ls []) := by
    intro H locs hw ls hl
    obtain rfl := Option.some.inj hM
    exact W.vret hx hb hr (fun t ht _ => ⟨rfl, by rw [ht]; exact hw.1, hw.2.2.F ht⟩) hw.2.2.2.2 dX7_over_20
  have hW2 : ∀ (n : Nat) (v2_1 : Int32) (XL2 : TS), L_X7_over_2 N0 X0 N1 n v2_1 XL2 = some q3 → ∀ (H : Heap) (locs : List Loc), Wk g A s.heap H locs ((wAR g a0 N0 X0) ++ (wAR g a1 N1 XL2)) → ∀ (ls : Array Slot), lv_has ls 3 [(2, .int v2_1), (0, .ref (a0 0)), (1, .ref (a1 0))] → W p l e (headSpec wsX7_over ({ frames := 0, cells := 0, slots := 0, locals := 0 } : Room)).room s m ([.ref (a0 0), .ref (a1 0)] : List Value).toArray below meth c H locs 0 0 (MQ below (QcW g none ((wAR g a0 N0 X0) ++ (wAR g a1 N1 q)) A) ([.ref (a0 0), .ref (a1 0)] : List Value).toArray s 0 0 A) (F0 m 2 ls []) := by
    intro n
    induction n with
    | zero => intro v2_1 XL2 hM; rw [L_X7_over_2] at hM; exact nn hM
    | succ n ih2 =>
      intro v2_1 XL2 hM H locs hw ls hl
      rw [L_X7_over_2] at hM
      refine lv_iload_n hx hb dX7_over_2 rfl (lv_at hl 0 rfl) ?_
      refine lv_aload_n hx hb dX7_over_3 rfl (lv_at hl 1 rfl) ?_
      refine va_alen (v := (Int32.ofNat N0)) hx hb hK.1 hw.1 0 0 rfl rfl rfl dX7_over_4 ?_
      refine lv_icmp_ge (tgt := 20) hx hb dX7_over_5 (by decide) (fun c4 => ?_) (fun c4 => ?_)
      · replace hM := itp c4 hM
        obtain rfl := Option.some.inj hM
        exact hJ2 _ _ hw _ (lv_sub hl [] rfl)
      · replace hM := itn c4 hM
        refine lv_aload_n hx hb dX7_over_8 rfl (lv_at hl 2 rfl) ?_
        refine lv_iload_n hx hb dX7_over_9 rfl (lv_at hl 0 rfl) ?_
        refine lv_aload_n hx hb dX7_over_10 rfl (lv_at hl 1 rfl) ?_
        refine lv_iload_n hx hb dX7_over_11 rfl (lv_at hl 0 rfl) ?_
        obtain ⟨k5, hM⟩ := ck hM
        refine wk_iald hx hb hK hw.1 0 N0 (X0 0) rfl k5 dX7_over_12 ?_
        obtain ⟨k6, hM⟩ := ck hM
        refine wk_iast (wq := ((wAR g a0 N0 X0) ++ (wAR g a1 N1 (up XL2 0 (upd (XL2 0) (v2_1).toNatClampNeg ((X0 0) (v2_1).toNatClampNeg)))))) hx hb hK hw 1 N1 (XL2 0) rfl k6 dX7_over_13 rfl (fun H locs hw => ?_)
        refine lv_iinc (v := (v2_1 + (1 : Int32))) (lv' := [(2, .int (v2_1 + (1 : Int32))), (0, .ref (a0 0)), (1, .ref (a1 0))]) hx hb dX7_over_14 hl (k := 0) rfl rfl (by decide) rfl (fun ls hl => ?_)
        refine lv_goto (tgt := 2) hx hb dX7_over_17 (by decide) ?_
        exact ih2 (v2_1 + (1 : Int32)) (up XL2 0 (upd (XL2 0) (v2_1).toNatClampNeg ((X0 0) (v2_1).toNatClampNeg))) hM _ _ hw _ (lv_sub hl [0, 1, 2] rfl)
  exact hW2 300 (0 : Int32) X1 hL2 _ _ hw _ (lv_sub hl [0, 1, 2] rfl)
theorem hd_X7_takeFrom : yX7_takeFrom.cls = RX7 ∧ yX7_takeFrom.cls ≠ "java/lang/invoke/MethodHandle" ∧ yX7_takeFrom.cls ≠ "java/lang/invoke/VarHandle" ∧ (parseMethodDescriptor yX7_takeFrom.desc).map (fun d => d.parameters.length) = some 1 := by decide +kernel
set_option maxHeartbeats 4000000 in
set_option maxRecDepth 100000 in
theorem c_X7_takeFrom (l : Launch) (g : Gm) (a0 : Nat → Nat) (a1 : Nat → Nat) (Fw0 : Nat → Value) (Fw1 : Nat → Value) (U0 : TS) (U1 : TS) {q : TS} (hM : f_X7_takeFrom U0 U1 = some q) : MW l yX7_takeFrom wsX7_takeFrom 1 22 g [.ref (a0 0), .ref (a1 0)] ((wXT g a0 Fw0 U0) ++ (wXT g a1 Fw1 U1)) none ((wXT g a0 Fw0 q) ++ (wXT g a1 Fw1 U1)) := by
  intro sz
  refine Met.ofW (cc := cX7_takeFrom) (maxL := 2) (ret := none) (by decide) rfl ?_
  intro p e s m args below meth c s₁ B hml hv
  obtain ⟨rfl, hsz, hP, hK, hD0⟩ := hv
  have hx := B.exec; have hb := B.bytes; have hr := B.returns
  have hts := atoms_spec (ws := wsX7_takeFrom) B.pre
  have hown : s.vm.findClass RX7 = some m.cls := findClass_of_methodNamed B.named
  have hlocks := B.notSynchronized
  have hS : CallFix p m c cX7_takeFrom 2 s _ wsX7_takeFrom RX7 := ⟨hx, hb, hml, hown, hts⟩
  have hin_X7 : ∀ w ∈ wsX70, w ∈ wsX7_takeFrom := fun w h => (List.mem_cons_of_mem _ (List.mem_append_right _ h))
  subst hsz
  have hw := wk_start hP hD0
  have hA : ∀ q : Nat, s.heap.size ≤ q → va_A ((wXT g a0 Fw0 U0) ++ (wXT g a1 Fw1 U1)) s.heap.size q := fun q h => Or.inr h
  generalize va_A ((wXT g a0 Fw0 U0) ++ (wXT g a1 Fw1 U1)) s.heap.size = A at hw hA ⊢
  clear hP hD0
  have hl := lv_entry ([.ref (a0 0), .ref (a1 0)]) (n := 2) (Nat.le_of_ble_eq_true rfl)
  rw [lg_entry_eq]
  generalize (lg_sl ([.ref (a0 0), .ref (a1 0)]) ++ List.replicate (2 - (lg_sl ([.ref (a0 0), .ref (a1 0)])).length) Slot.unset).toArray = ls at hl ⊢
  have hl : lv_has ls 2 [(0, .ref (a0 0)), (1, .ref (a1 0))] := hl
  rw [f_X7_takeFrom] at hM
  refine lv_aload_n hx hb dX7_takeFrom_0 rfl (lv_at hl 0 rfl) ?_
  refine lv_aload_n hx hb dX7_takeFrom_1 rfl (lv_at hl 1 rfl) ?_
  refine wk_get hx hb hts hin_X7 hown hK hw.1 7 9 9 (.int (U1 9 0)) rfl rfl (by decide) (mi 1 rfl) rfl rfl dX7_takeFrom_2 ?_
  refine wk_put (wq := ((wXT g a0 Fw0 (up U0 9 (fun _ => (U1 9 0)))) ++ (wXT g a1 Fw1 U1))) hx hb hts hin_X7 tyX7 tyX7_ok nmX7 hown hK hw 7 0 9 rfl rfl (by decide) (mi 1 rfl) rfl rfl rfl rfl (Nat.le_of_ble_eq_true rfl) dX7_takeFrom_5 rfl (fun H locs hw => ?_)
  refine lv_aload_n hx hb dX7_takeFrom_8 rfl (lv_at hl 0 rfl) ?_
  refine lv_aload_n hx hb dX7_takeFrom_9 rfl (lv_at hl 1 rfl) ?_
  refine wk_get hx hb hts hin_X7 hown hK hw.1 7 9 10 (.int (U1 10 0)) rfl rfl (by decide) (mi 2 rfl) rfl rfl dX7_takeFrom_10 ?_
  refine wk_put (wq := ((wXT g a0 Fw0 (up (up U0 9 (fun _ => (U1 9 0))) 10 (fun _ => (U1 10 0)))) ++ (wXT g a1 Fw1 U1))) hx hb hts hin_X7 tyX7 tyX7_ok nmX7 hown hK hw 7 0 10 rfl rfl (by decide) (mi 2 rfl) rfl rfl rfl rfl (Nat.le_of_ble_eq_true rfl) dX7_takeFrom_13 rfl (fun H locs hw => ?_)
  refine lv_aload_n hx hb dX7_takeFrom_16 rfl (lv_at hl 1 rfl) ?_
  refine wk_get hx hb hts hin_X7 hown hK hw.1 7 9 11 (.ref (a1 1)) rfl rfl (by decide) (mi 3 rfl) rfl rfl dX7_takeFrom_17 ?_
  refine lv_aload_n hx hb dX7_takeFrom_20 rfl (lv_at hl 0 rfl) ?_
  refine wk_get hx hb hts hin_X7 hown hK hw.1 7 0 11 (.ref (a0 1)) rfl rfl (by decide) (mi 3 rfl) rfl rfl dX7_takeFrom_21 ?_
  obtain ⟨q2, h1, hM⟩ := bd hM
  refine rSW (wc := ((wAR g (fun _ => a1 1) 7 (fun _ => (U1 11))) ++ (wAR g (fun _ => a0 1) 7 (fun _ => (U0 11))))) (wq := ((wXT g a0 Fw0 (up (up (up U0 9 (fun _ => (U1 9 0))) 10 (fun _ => (U1 10 0))) 11 (q2 0))) ++ (wXT g a1 Fw1 U1))) (As := [.ref (a1 1), .ref (a0 1)]) (rest := []) hS (c_X7_over l g (fun _ => a1 1) (fun _ => a0 1) 7 (fun _ => (U1 11)) 7 (fun _ => (U0 11)) h1) gX7_takeFrom_X7_over rfl hd_X7_over ⟨Nat.le_of_ble_eq_true rfl, Nat.le_of_ble_eq_true rfl⟩ hK hw hA [10, 1] rfl rfl rfl rfl rfl hl.1 rfl (Nat.le_of_ble_eq_true rfl) dX7_takeFrom_24 ⟨Nat.zero_le _, Nat.zero_le _⟩ (fun H locs hw => ?_)
  refine lv_aload_n hx hb dX7_takeFrom_27 rfl (lv_at hl 1 rfl) ?_
  refine wk_get hx hb hts hin_X7 hown hK hw.1 7 9 12 (.ref (a1 2)) rfl rfl (by decide) (mi 4 rfl) rfl rfl dX7_takeFrom_28 ?_
  refine lv_aload_n hx hb dX7_takeFrom_31 rfl (lv_at hl 0 rfl) ?_
  refine wk_get hx hb hts hin_X7 hown hK hw.1 7 0 12 (.ref (a0 2)) rfl rfl (by decide) (mi 4 rfl) rfl rfl dX7_takeFrom_32 ?_
  obtain ⟨q4, h3, hM⟩ := bd hM
  refine rSW (wc := ((wAR g (fun _ => a1 2) 7 (fun _ => (U1 12))) ++ (wAR g (fun _ => a0 2) 7 (fun _ => (U0 12))))) (wq := ((wXT g a0 Fw0 (up (up (up (up U0 9 (fun _ => (U1 9 0))) 10 (fun _ => (U1 10 0))) 11 (q2 0)) 12 (q4 0))) ++ (wXT g a1 Fw1 U1))) (As := [.ref (a1 2), .ref (a0 2)]) (rest := []) hS (c_X7_over l g (fun _ => a1 2) (fun _ => a0 2) 7 (fun _ => (U1 12)) 7 (fun _ => (U0 12)) h3) gX7_takeFrom_X7_over rfl hd_X7_over ⟨Nat.le_of_ble_eq_true rfl, Nat.le_of_ble_eq_true rfl⟩ hK hw hA [11, 2] rfl rfl rfl rfl rfl hl.1 rfl (Nat.le_of_ble_eq_true rfl) dX7_takeFrom_35 ⟨Nat.zero_le _, Nat.zero_le _⟩ (fun H locs hw => ?_)
  refine lv_aload_n hx hb dX7_takeFrom_38 rfl (lv_at hl 1 rfl) ?_
  refine wk_get hx hb hts hin_X7 hown hK hw.1 7 9 13 (.ref (a1 3)) rfl rfl (by decide) (mi 5 rfl) rfl rfl dX7_takeFrom_39 ?_
  refine lv_aload_n hx hb dX7_takeFrom_42 rfl (lv_at hl 0 rfl) ?_
  refine wk_get hx hb hts hin_X7 hown hK hw.1 7 0 13 (.ref (a0 3)) rfl rfl (by decide) (mi 5 rfl) rfl rfl dX7_takeFrom_43 ?_
  obtain ⟨q6, h5, hM⟩ := bd hM
  refine rSW (wc := ((wAR g (fun _ => a1 3) 7 (fun _ => (U1 13))) ++ (wAR g (fun _ => a0 3) 7 (fun _ => (U0 13))))) (wq := ((wXT g a0 Fw0 (up (up (up (up (up U0 9 (fun _ => (U1 9 0))) 10 (fun _ => (U1 10 0))) 11 (q2 0)) 12 (q4 0)) 13 (q6 0))) ++ (wXT g a1 Fw1 U1))) (As := [.ref (a1 3), .ref (a0 3)]) (rest := []) hS (c_X7_over l g (fun _ => a1 3) (fun _ => a0 3) 7 (fun _ => (U1 13)) 7 (fun _ => (U0 13)) h5) gX7_takeFrom_X7_over rfl hd_X7_over ⟨Nat.le_of_ble_eq_true rfl, Nat.le_of_ble_eq_true rfl⟩ hK hw hA [12, 3] rfl rfl rfl rfl rfl hl.1 rfl (Nat.le_of_ble_eq_true rfl) dX7_takeFrom_46 ⟨Nat.zero_le _, Nat.zero_le _⟩ (fun H locs hw => ?_)
  refine lv_aload_n hx hb dX7_takeFrom_49 rfl (lv_at hl 1 rfl) ?_
  refine wk_get hx hb hts hin_X7 hown hK hw.1 7 9 14 (.ref (a1 4)) rfl rfl (by decide) (mi 6 rfl) rfl rfl dX7_takeFrom_50 ?_
  refine lv_aload_n hx hb dX7_takeFrom_53 rfl (lv_at hl 0 rfl) ?_
  refine wk_get hx hb hts hin_X7 hown hK hw.1 7 0 14 (.ref (a0 4)) rfl rfl (by decide) (mi 6 rfl) rfl rfl dX7_takeFrom_54 ?_
  obtain ⟨q8, h7, hM⟩ := bd hM
  refine rSW (wc := ((wAR g (fun _ => a1 4) 7 (fun _ => (U1 14))) ++ (wAR g (fun _ => a0 4) 7 (fun _ => (U0 14))))) (wq := ((wXT g a0 Fw0 (up (up (up (up (up (up U0 9 (fun _ => (U1 9 0))) 10 (fun _ => (U1 10 0))) 11 (q2 0)) 12 (q4 0)) 13 (q6 0)) 14 (q8 0))) ++ (wXT g a1 Fw1 U1))) (As := [.ref (a1 4), .ref (a0 4)]) (rest := []) hS (c_X7_over l g (fun _ => a1 4) (fun _ => a0 4) 7 (fun _ => (U1 14)) 7 (fun _ => (U0 14)) h7) gX7_takeFrom_X7_over rfl hd_X7_over ⟨Nat.le_of_ble_eq_true rfl, Nat.le_of_ble_eq_true rfl⟩ hK hw hA [13, 4] rfl rfl rfl rfl rfl hl.1 rfl (Nat.le_of_ble_eq_true rfl) dX7_takeFrom_57 ⟨Nat.zero_le _, Nat.zero_le _⟩ (fun H locs hw => ?_)
  refine lv_aload_n hx hb dX7_takeFrom_60 rfl (lv_at hl 1 rfl) ?_
  refine wk_get hx hb hts hin_X7 hown hK hw.1 7 9 15 (.ref (a1 5)) rfl rfl (by decide) (mi 7 rfl) rfl rfl dX7_takeFrom_61 ?_
  refine lv_aload_n hx hb dX7_takeFrom_64 rfl (lv_at hl 0 rfl) ?_
  refine wk_get hx hb hts hin_X7 hown hK hw.1 7 0 15 (.ref (a0 5)) rfl rfl (by decide) (mi 7 rfl) rfl rfl dX7_takeFrom_65 ?_
  obtain ⟨q10, h9, hM⟩ := bd hM
  refine rSW (wc := ((wAR g (fun _ => a1 5) 7 (fun _ => (U1 15))) ++ (wAR g (fun _ => a0 5) 7 (fun _ => (U0 15))))) (wq := ((wXT g a0 Fw0 (up (up (up (up (up (up (up U0 9 (fun _ => (U1 9 0))) 10 (fun _ => (U1 10 0))) 11 (q2 0)) 12 (q4 0)) 13 (q6 0)) 14 (q8 0)) 15 (q10 0))) ++ (wXT g a1 Fw1 U1))) (As := [.ref (a1 5), .ref (a0 5)]) (rest := []) hS (c_X7_over l g (fun _ => a1 5) (fun _ => a0 5) 7 (fun _ => (U1 15)) 7 (fun _ => (U0 15)) h9) gX7_takeFrom_X7_over rfl hd_X7_over ⟨Nat.le_of_ble_eq_true rfl, Nat.le_of_ble_eq_true rfl⟩ hK hw hA [14, 5] rfl rfl rfl rfl rfl hl.1 rfl (Nat.le_of_ble_eq_true rfl) dX7_takeFrom_68 ⟨Nat.zero_le _, Nat.zero_le _⟩ (fun H locs hw => ?_)
  refine lv_aload_n hx hb dX7_takeFrom_71 rfl (lv_at hl 1 rfl) ?_
  refine wk_get hx hb hts hin_X7 hown hK hw.1 7 9 16 (.ref (a1 6)) rfl rfl (by decide) (mi 8 rfl) rfl rfl dX7_takeFrom_72 ?_
  refine lv_aload_n hx hb dX7_takeFrom_75 rfl (lv_at hl 0 rfl) ?_
  refine wk_get hx hb hts hin_X7 hown hK hw.1 7 0 16 (.ref (a0 6)) rfl rfl (by decide) (mi 8 rfl) rfl rfl dX7_takeFrom_76 ?_
  obtain ⟨q12, h11, hM⟩ := bd hM
  refine rSW (wc := ((wAR g (fun _ => a1 6) 7 (fun _ => (U1 16))) ++ (wAR g (fun _ => a0 6) 7 (fun _ => (U0 16))))) (wq := ((wXT g a0 Fw0 (up (up (up (up (up (up (up (up U0 9 (fun _ => (U1 9 0))) 10 (fun _ => (U1 10 0))) 11 (q2 0)) 12 (q4 0)) 13 (q6 0)) 14 (q8 0)) 15 (q10 0)) 16 (q12 0))) ++ (wXT g a1 Fw1 U1))) (As := [.ref (a1 6), .ref (a0 6)]) (rest := []) hS (c_X7_over l g (fun _ => a1 6) (fun _ => a0 6) 7 (fun _ => (U1 16)) 7 (fun _ => (U0 16)) h11) gX7_takeFrom_X7_over rfl hd_X7_over ⟨Nat.le_of_ble_eq_true rfl, Nat.le_of_ble_eq_true rfl⟩ hK hw hA [15, 6] rfl rfl rfl rfl rfl hl.1 rfl (Nat.le_of_ble_eq_true rfl) dX7_takeFrom_79 ⟨Nat.zero_le _, Nat.zero_le _⟩ (fun H locs hw => ?_)
  refine lv_aload_n hx hb dX7_takeFrom_82 rfl (lv_at hl 1 rfl) ?_
  refine wk_get hx hb hts hin_X7 hown hK hw.1 7 9 17 (.ref (a1 7)) rfl rfl (by decide) (mi 9 rfl) rfl rfl dX7_takeFrom_83 ?_
  refine lv_aload_n hx hb dX7_takeFrom_86 rfl (lv_at hl 0 rfl) ?_
  refine wk_get hx hb hts hin_X7 hown hK hw.1 7 0 17 (.ref (a0 7)) rfl rfl (by decide) (mi 9 rfl) rfl rfl dX7_takeFrom_87 ?_
  obtain ⟨q14, h13, hM⟩ := bd hM
  refine rSW (wc := ((wAR g (fun _ => a1 7) 3 (fun _ => (U1 17))) ++ (wAR g (fun _ => a0 7) 3 (fun _ => (U0 17))))) (wq := ((wXT g a0 Fw0 (up (up (up (up (up (up (up (up (up U0 9 (fun _ => (U1 9 0))) 10 (fun _ => (U1 10 0))) 11 (q2 0)) 12 (q4 0)) 13 (q6 0)) 14 (q8 0)) 15 (q10 0)) 16 (q12 0)) 17 (q14 0))) ++ (wXT g a1 Fw1 U1))) (As := [.ref (a1 7), .ref (a0 7)]) (rest := []) hS (c_X7_over l g (fun _ => a1 7) (fun _ => a0 7) 3 (fun _ => (U1 17)) 3 (fun _ => (U0 17)) h13) gX7_takeFrom_X7_over rfl hd_X7_over ⟨Nat.le_of_ble_eq_true rfl, Nat.le_of_ble_eq_true rfl⟩ hK hw hA [16, 7] rfl rfl rfl rfl rfl hl.1 rfl (Nat.le_of_ble_eq_true rfl) dX7_takeFrom_90 ⟨Nat.zero_le _, Nat.zero_le _⟩ (fun H locs hw => ?_)
  refine lv_aload_n hx hb dX7_takeFrom_93 rfl (lv_at hl 0 rfl) ?_
  refine lv_aload_n hx hb dX7_takeFrom_94 rfl (lv_at hl 1 rfl) ?_
  refine wk_get hx hb hts hin_X7 hown hK hw.1 7 9 18 (.int (U1 18 0)) rfl rfl (by decide) (mi 10 rfl) rfl rfl dX7_takeFrom_95 ?_
  refine wk_put (wq := ((wXT g a0 Fw0 (up (up (up (up (up (up (up (up (up (up U0 9 (fun _ => (U1 9 0))) 10 (fun _ => (U1 10 0))) 11 (q2 0)) 12 (q4 0)) 13 (q6 0)) 14 (q8 0)) 15 (q10 0)) 16 (q12 0)) 17 (q14 0)) 18 (fun _ => (U1 18 0)))) ++ (wXT g a1 Fw1 U1))) hx hb hts hin_X7 tyX7 tyX7_ok nmX7 hown hK hw 7 0 18 rfl rfl (by decide) (mi 10 rfl) rfl rfl rfl rfl (Nat.le_of_ble_eq_true rfl) dX7_takeFrom_98 rfl (fun H locs hw => ?_)
  refine lv_aload_n hx hb dX7_takeFrom_101 rfl (lv_at hl 0 rfl) ?_
  refine lv_aload_n hx hb dX7_takeFrom_102 rfl (lv_at hl 1 rfl) ?_
  refine wk_get hx hb hts hin_X7 hown hK hw.1 7 9 19 (.int (U1 19 0)) rfl rfl (by decide) (mi 11 rfl) rfl rfl dX7_takeFrom_103 ?_
  refine wk_put (wq := ((wXT g a0 Fw0 (up (up (up (up (up (up (up (up (up (up (up U0 9 (fun _ => (U1 9 0))) 10 (fun _ => (U1 10 0))) 11 (q2 0)) 12 (q4 0)) 13 (q6 0)) 14 (q8 0)) 15 (q10 0)) 16 (q12 0)) 17 (q14 0)) 18 (fun _ => (U1 18 0))) 19 (fun _ => (U1 19 0)))) ++ (wXT g a1 Fw1 U1))) hx hb hts hin_X7 tyX7 tyX7_ok nmX7 hown hK hw 7 0 19 rfl rfl (by decide) (mi 11 rfl) rfl rfl rfl rfl (Nat.le_of_ble_eq_true rfl) dX7_takeFrom_106 rfl (fun H locs hw => ?_)
  obtain rfl := Option.some.inj hM
  exact W.vret hx hb hr (fun t ht _ => ⟨rfl, by rw [ht]; exact hw.1, hw.2.2.F ht⟩) hw.2.2.2.2 dX7_takeFrom_109
