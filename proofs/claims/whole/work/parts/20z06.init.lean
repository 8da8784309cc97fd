theorem mk_X1_init (h0 q0 q1 q2 : Nat) (r_0 : Nat → Nat) : ∃ a : Nat → Nat, h0 = a 0 ∧ q0 = a 1 ∧ q1 = a 2 ∧ q2 = a 3 ∧ r_0 = (fun i => a (4 + i)) := ⟨fun k => match k with | 0 => h0 | 1 => q0 | 2 => q1 | 3 => q2 | k + 4 => r_0 k, rfl, rfl, rfl, rfl, funext fun i => by rw [Nat.add_comm]⟩
theorem hd_X1_init : yX1_init.cls ≠ "java/lang/invoke/MethodHandle" ∧ yX1_init.cls ≠ "java/lang/invoke/VarHandle" ∧ (parseMethodDescriptor yX1_init.desc).map (fun d => d.parameters.length) = some 2 := by decide +kernel
set_option maxHeartbeats 4000000 in
set_option maxRecDepth 100000 in
theorem c_X1_init (l : Launch) (g : Gm) (h0 r1 r2 : Nat) : MI l yX1_init wsX1_init 1 31 10 70 g [.ref h0, .ref r1, .ref r2] [(h0, .inr (1, [.null, .null, .null, .null, .null, .int 0, .int 0]))] h0 (fun a => (wX1 g (a 0) r1 r2 iO1 iB1)) := by
  intro sz
  refine Met.ofW (cc := cX1_init) (maxL := 3) (ret := none) (by decide) rfl ?_
  intro p e s m args below meth c s₁ B hml hv
  obtain ⟨rfl, hsz, hP, hK, hD0⟩ := hv
  have hx := B.exec; have hb := B.bytes; have hr := B.returns
  have hts := atoms_spec (ws := wsX1_init) B.pre
  have hown : s.vm.findClass RX1 = some m.cls := findClass_of_methodNamed B.named
  have hlocks := B.notSynchronized
  have hname : meth.name = "<init>" := (name_of_methodNamed B.named B.method).1
  have hS : CallFix p m c cX1_init 3 s _ wsX1_init RX1 := ⟨hx, hb, hml, hown, hts⟩
  have hin_X1 : ∀ w ∈ wsX10, w ∈ wsX1_init := fun w h => (List.mem_cons_of_mem _ (List.mem_append_right _ h))
  subst hsz
  have hw := wk_start hP hD0
  have hA : ∀ q : Nat, s.heap.size ≤ q → va_A [(h0, .inr (1, [.null, .null, .null, .null, .null, .int 0, .int 0]))] s.heap.size q := fun q h => Or.inr h
  generalize va_A [(h0, .inr (1, [.null, .null, .null, .null, .null, .int 0, .int 0]))] s.heap.size = A at hw hA ⊢
  clear hP hD0
  obtain ⟨locs, hlc⟩ : ∃ locs : List Loc, locs = [] := ⟨_, rfl⟩
  rw [← hlc] at hw ⊢
  have hl := lv_entry ([.ref h0, .ref r1, .ref r2]) (n := 3) (Nat.le_of_ble_eq_true rfl)
  rw [lg_entry_eq]
  generalize (lg_sl ([.ref h0, .ref r1, .ref r2]) ++ List.replicate (3 - (lg_sl ([.ref h0, .ref r1, .ref r2])).length) Slot.unset).toArray = ls at hl ⊢
  have hl : lv_has ls 3 [(0, .ref h0), (1, .ref r1), (2, .ref r2)] := hl
  refine lv_aload_n hx hb dX1_init_0 rfl (lv_at hl 0 rfl) ?_
  refine W.objInit hx hb hown (hts _ (mi 1 rfl)) (hts _ (mi 2 rfl)) (hts _ (mi 3 rfl)) rfl (by rw [hml]; exact hl.1) rfl dX1_init_1 (Nat.le_of_ble_eq_true rfl) (Nat.le_of_ble_eq_true rfl) ?_
  refine W.eq (g2 := F0 m 4 ls []) rfl ?_
  refine lv_aload_n hx hb dX1_init_4 rfl (lv_at hl 0 rfl) ?_
  refine lv_bipush (v := (7 : Int32)) hx hb dX1_init_5 (by decide) ?_
  refine lv_bipush (v := (7 : Int32)) hx hb dX1_init_7 (by decide) ?_
  refine wk_mni hx hb hts hown (mi 4 rfl) (mi 5 rfl) hK hw hA 7 7 (by decide) (by decide) (by decide) (by decide) (by decide) (by decide) (by decide) (Nat.le_of_ble_eq_true rfl) (Nat.le_of_ble_eq_true rfl) dX1_init_9 (fun q0 r_0 H hw => ?_)
  have hw : Wk g A s.heap H locs ([(h0, .inr (1, [.null, .null, .null, .null, .null, .int 0, .int 0])), (q0, .inl (g.2 2, 7, .inr (.inr (.inr (.inr (fun i => some (r_0 i)))))))] ++ (List.range 7).map (fun i => (r_0 i, .inl (g.2 0, 7, .inl (fun _ => 0))))) := hw
  refine wk_putF (wq := ([(h0, .inr (1, [.null, .null, .ref q0, .null, .null, .int 0, .int 0])), (q0, .inl (g.2 2, 7, .inr (.inr (.inr (.inr (fun i => some (r_0 i)))))))] ++ (List.range 7).map (fun i => (r_0 i, .inl (g.2 0, 7, .inl (fun _ => 0)))))) hx hb hts hin_X1 tyX1 tyX1_ok nmX1 hown hK hw hname 1 0 2 rfl rfl (by decide) (mi 6 rfl) rfl rfl rfl rfl rfl (Nat.le_of_ble_eq_true rfl) dX1_init_13 rfl (fun H locs hw => ?_)
  refine lv_aload_n hx hb dX1_init_16 rfl (lv_at hl 0 rfl) ?_
  refine lv_bipush (v := (7 : Int32)) hx hb dX1_init_17 (by decide) ?_
  refine wk_newi hx hb hts (mi 5 rfl) hK hw hA 7 (by decide) (by decide) (by decide) (Nat.le_of_ble_eq_true rfl) (Nat.le_of_ble_eq_true rfl) dX1_init_19 (fun q1 H hw => ?_)
  have hw : Wk g A s.heap H locs (([(h0, .inr (1, [.null, .null, .ref q0, .null, .null, .int 0, .int 0])), (q0, .inl (g.2 2, 7, .inr (.inr (.inr (.inr (fun i => some (r_0 i)))))))] ++ (List.range 7).map (fun i => (r_0 i, .inl (g.2 0, 7, .inl (fun _ => 0))))) ++ [(q1, .inl (g.2 0, 7, .inl (fun _ => 0)))]) := hw
  refine wk_putF (wq := (([(h0, .inr (1, [.null, .null, .ref q0, .ref q1, .null, .int 0, .int 0])), (q0, .inl (g.2 2, 7, .inr (.inr (.inr (.inr (fun i => some (r_0 i)))))))] ++ (List.range 7).map (fun i => (r_0 i, .inl (g.2 0, 7, .inl (fun _ => 0))))) ++ [(q1, .inl (g.2 0, 7, .inl (fun _ => 0)))])) hx hb hts hin_X1 tyX1 tyX1_ok nmX1 hown hK hw hname 1 0 3 rfl rfl (by decide) (mi 7 rfl) rfl rfl rfl rfl rfl (Nat.le_of_ble_eq_true rfl) dX1_init_21 rfl (fun H locs hw => ?_)
  refine lv_aload_n hx hb dX1_init_24 rfl (lv_at hl 0 rfl) ?_
  refine lv_bipush (v := (7 : Int32)) hx hb dX1_init_25 (by decide) ?_
  refine wk_newi hx hb hts (mi 5 rfl) hK hw hA 7 (by decide) (by decide) (by decide) (Nat.le_of_ble_eq_true rfl) (Nat.le_of_ble_eq_true rfl) dX1_init_27 (fun q2 H hw => ?_)
  have hw : Wk g A s.heap H locs (([(h0, .inr (1, [.null, .null, .ref q0, .ref q1, .null, .int 0, .int 0])), (q0, .inl (g.2 2, 7, .inr (.inr (.inr (.inr (fun i => some (r_0 i)))))))] ++ (List.range 7).map (fun i => (r_0 i, .inl (g.2 0, 7, .inl (fun _ => 0))))) ++ [(q1, .inl (g.2 0, 7, .inl (fun _ => 0))), (q2, .inl (g.2 0, 7, .inl (fun _ => 0)))]) := hw
  refine wk_putF (wq := (([(h0, .inr (1, [.null, .null, .ref q0, .ref q1, .ref q2, .int 0, .int 0])), (q0, .inl (g.2 2, 7, .inr (.inr (.inr (.inr (fun i => some (r_0 i)))))))] ++ (List.range 7).map (fun i => (r_0 i, .inl (g.2 0, 7, .inl (fun _ => 0))))) ++ [(q1, .inl (g.2 0, 7, .inl (fun _ => 0))), (q2, .inl (g.2 0, 7, .inl (fun _ => 0)))])) hx hb hts hin_X1 tyX1 tyX1_ok nmX1 hown hK hw hname 1 0 4 rfl rfl (by decide) (mi 8 rfl) rfl rfl rfl rfl rfl (Nat.le_of_ble_eq_true rfl) dX1_init_29 rfl (fun H locs hw => ?_)
  refine lv_aload_n hx hb dX1_init_32 rfl (lv_at hl 0 rfl) ?_
  refine lv_iconst (v := (-1 : Int32)) hx hb dX1_init_33 (by decide) ?_
  refine wk_put (wq := (([(h0, .inr (1, [.null, .null, .ref q0, .ref q1, .ref q2, .int (-1 : Int32), .int 0])), (q0, .inl (g.2 2, 7, .inr (.inr (.inr (.inr (fun i => some (r_0 i)))))))] ++ (List.range 7).map (fun i => (r_0 i, .inl (g.2 0, 7, .inl (fun _ => 0))))) ++ [(q1, .inl (g.2 0, 7, .inl (fun _ => 0))), (q2, .inl (g.2 0, 7, .inl (fun _ => 0)))])) hx hb hts hin_X1 tyX1 tyX1_ok nmX1 hown hK hw 1 0 5 rfl rfl (by decide) (mi 9 rfl) rfl rfl rfl rfl (Nat.le_of_ble_eq_true rfl) dX1_init_34 rfl (fun H locs hw => ?_)
  refine lv_aload_n hx hb dX1_init_37 rfl (lv_at hl 0 rfl) ?_
  refine lv_iconst (v := (0 : Int32)) hx hb dX1_init_38 (by decide) ?_
  refine wk_put (wq := (([(h0, .inr (1, [.null, .null, .ref q0, .ref q1, .ref q2, .int (-1 : Int32), .int (0 : Int32)])), (q0, .inl (g.2 2, 7, .inr (.inr (.inr (.inr (fun i => some (r_0 i)))))))] ++ (List.range 7).map (fun i => (r_0 i, .inl (g.2 0, 7, .inl (fun _ => 0))))) ++ [(q1, .inl (g.2 0, 7, .inl (fun _ => 0))), (q2, .inl (g.2 0, 7, .inl (fun _ => 0)))])) hx hb hts hin_X1 tyX1 tyX1_ok nmX1 hown hK hw 1 0 6 rfl rfl (by decide) (mi 10 rfl) rfl rfl rfl rfl (Nat.le_of_ble_eq_true rfl) dX1_init_39 rfl (fun H locs hw => ?_)
  refine lv_aload_n hx hb dX1_init_42 rfl (lv_at hl 0 rfl) ?_
  refine lv_aload_n hx hb dX1_init_43 rfl (lv_at hl 1 rfl) ?_
  refine wk_putF (wq := (([(h0, .inr (1, [.ref r1, .null, .ref q0, .ref q1, .ref q2, .int (-1 : Int32), .int (0 : Int32)])), (q0, .inl (g.2 2, 7, .inr (.inr (.inr (.inr (fun i => some (r_0 i)))))))] ++ (List.range 7).map (fun i => (r_0 i, .inl (g.2 0, 7, .inl (fun _ => 0))))) ++ [(q1, .inl (g.2 0, 7, .inl (fun _ => 0))), (q2, .inl (g.2 0, 7, .inl (fun _ => 0)))])) hx hb hts hin_X1 tyX1 tyX1_ok nmX1 hown hK hw hname 1 0 0 rfl rfl (by decide) (mi 11 rfl) rfl rfl rfl rfl rfl (Nat.le_of_ble_eq_true rfl) dX1_init_44 rfl (fun H locs hw => ?_)
  refine lv_aload_n hx hb dX1_init_47 rfl (lv_at hl 0 rfl) ?_
  refine lv_aload_n hx hb dX1_init_48 rfl (lv_at hl 2 rfl) ?_
  refine wk_putF (wq := (([(h0, .inr (1, [.ref r1, .ref r2, .ref q0, .ref q1, .ref q2, .int (-1 : Int32), .int (0 : Int32)])), (q0, .inl (g.2 2, 7, .inr (.inr (.inr (.inr (fun i => some (r_0 i)))))))] ++ (List.range 7).map (fun i => (r_0 i, .inl (g.2 0, 7, .inl (fun _ => 0))))) ++ [(q1, .inl (g.2 0, 7, .inl (fun _ => 0))), (q2, .inl (g.2 0, 7, .inl (fun _ => 0)))])) hx hb hts hin_X1 tyX1 tyX1_ok nmX1 hown hK hw hname 1 0 1 rfl rfl (by decide) (mi 12 rfl) rfl rfl rfl rfl rfl (Nat.le_of_ble_eq_true rfl) dX1_init_49 rfl (fun H locs hw => ?_)
  obtain ⟨a, rfl, rfl, rfl, rfl, rfl⟩ := mk_X1_init h0 q0 q1 q2 r_0
  refine W.widen (k := 10) (n := 70) (Nat.le_of_ble_eq_true rfl) (Nat.le_of_ble_eq_true rfl) ?_
  have hw2 : Wk g A s.heap H locs ((wX1 g ((fun _ => a) 0) r1 r2 iO1 iB1)) := ⟨hP_sub hw.1 [0, 1, 9, 10, 2, 3, 4, 5, 6, 7, 8] rfl, hw.2.1.sub [0, 1, 9, 10, 2, 3, 4, 5, 6, 7, 8] (by decide +kernel) rfl, hw.2.2⟩
  exact W.vret hx hb hr (fun t ht _ => ⟨rfl, ⟨(fun _ => a), rfl, by rw [ht]; exact hw2.1, hw2.2.1⟩, hw2.2.2.F ht⟩) hw2.2.2.2.2 dX1_init_52
