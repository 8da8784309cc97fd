theorem mk_X3_init (h0 q0 q1 q2 : Nat) (r_2 : Nat → Nat) : ∃ a : Nat → Nat, h0 = a 0 ∧ q0 = a 1 ∧ q1 = a 2 ∧ q2 = a 3 ∧ r_2 = (fun i => a (4 + i)) := ⟨fun k => match k with | 0 => h0 | 1 => q0 | 2 => q1 | 3 => q2 | k + 4 => r_2 k, rfl, rfl, rfl, rfl, funext fun i => by rw [Nat.add_comm]⟩
theorem hd_X3_init : yX3_init.cls ≠ "java/lang/invoke/MethodHandle" ∧ yX3_init.cls ≠ "java/lang/invoke/VarHandle" ∧ (parseMethodDescriptor yX3_init.desc).map (fun d => d.parameters.length) = some 0 := by decide +kernel
set_option maxHeartbeats 4000000 in
set_option maxRecDepth 100000 in
theorem c_X3_init (l : Launch) (g : Gm) (h0 : Nat) : MI l yX3_init wsX3_init 1 31 11 344 g [.ref h0] [(h0, .inr (3, [.null, .null, .null]))] h0 (fun a => (wX3 g (a 0) iG3 iR3)) := by
  intro sz
  refine Met.ofW (cc := cX3_init) (maxL := 1) (ret := none) (by decide) rfl ?_
  intro p e s m args below meth c s₁ B hml hv
  obtain ⟨rfl, hsz, hP, hK, hD0⟩ := hv
  have hx := B.exec; have hb := B.bytes; have hr := B.returns
  have hts := atoms_spec (ws := wsX3_init) B.pre
  have hown : s.vm.findClass RX3 = some m.cls := findClass_of_methodNamed B.named
  have hlocks := B.notSynchronized
  have hname : meth.name = "<init>" := (name_of_methodNamed B.named B.method).1
  have hS : CallFix p m c cX3_init 1 s _ wsX3_init RX3 := ⟨hx, hb, hml, hown, hts⟩
  have hin_X3 : ∀ w ∈ wsX30, w ∈ wsX3_init := fun w h => (List.mem_cons_of_mem _ (List.mem_append_right _ h))
  subst hsz
  have hw := wk_start hP hD0
  have hA : ∀ q : Nat, s.heap.size ≤ q → va_A [(h0, .inr (3, [.null, .null, .null]))] s.heap.size q := fun q h => Or.inr h
  generalize va_A [(h0, .inr (3, [.null, .null, .null]))] s.heap.size = A at hw hA ⊢
  clear hP hD0
  obtain ⟨locs, hlc⟩ : ∃ locs : List Loc, locs = [] := ⟨_, rfl⟩
  rw [← hlc] at hw ⊢
  have hl := lv_entry ([.ref h0]) (n := 1) (Nat.le_of_ble_eq_true rfl)
  rw [lg_entry_eq]
  generalize (lg_sl ([.ref h0]) ++ List.replicate (1 - (lg_sl ([.ref h0])).length) Slot.unset).toArray = ls at hl ⊢
  have hl : lv_has ls 1 [(0, .ref h0)] := hl
  refine lv_aload_n hx hb dX3_init_0 rfl (lv_at hl 0 rfl) ?_
  refine W.objInit hx hb hown (hts _ (mi 1 rfl)) (hts _ (mi 2 rfl)) (hts _ (mi 3 rfl)) rfl (by rw [hml]; exact hl.1) rfl dX3_init_1 (Nat.le_of_ble_eq_true rfl) (Nat.le_of_ble_eq_true rfl) ?_
  refine W.eq (g2 := F0 m 4 ls []) rfl ?_
  refine lv_aload_n hx hb dX3_init_4 rfl (lv_at hl 0 rfl) ?_
  refine lv_bipush (v := (8 : Int32)) hx hb dX3_init_5 (by decide) ?_
  refine wk_newi hx hb hts (mi 4 rfl) hK hw hA 8 (by decide) (by decide) (by decide) (Nat.le_of_ble_eq_true rfl) (Nat.le_of_ble_eq_true rfl) dX3_init_7 (fun q0 H hw => ?_)
  have hw : Wk g A s.heap H locs [(h0, .inr (3, [.null, .null, .null])), (q0, .inl (g.2 0, 8, .inl (fun _ => 0)))] := hw
  refine lv_dup hx hb dX3_init_9 rfl ?_
  refine lv_iconst (v := (0 : Int32)) hx hb dX3_init_10 (by decide) ?_
  refine lv_iconst (v := (-1 : Int32)) hx hb dX3_init_11 (by decide) ?_
  refine wk_iast (wq := [(h0, .inr (3, [.null, .null, .null])), (q0, .inl (g.2 0, 8, .inl (upd (fun _ => 0) (0 : Int32).toNatClampNeg (-1 : Int32))))]) hx hb hK hw 1 8 (fun _ => 0) rfl (by decide) dX3_init_12 rfl (fun H locs hw => ?_)
  refine lv_dup hx hb dX3_init_13 rfl ?_
  refine lv_iconst (v := (1 : Int32)) hx hb dX3_init_14 (by decide) ?_
  refine lv_iconst (v := (-1 : Int32)) hx hb dX3_init_15 (by decide) ?_
  refine wk_iast (wq := [(h0, .inr (3, [.null, .null, .null])), (q0, .inl (g.2 0, 8, .inl (upd (upd (fun _ => 0) (0 : Int32).toNatClampNeg (-1 : Int32)) (1 : Int32).toNatClampNeg (-1 : Int32))))]) hx hb hK hw 1 8 (upd (fun _ => 0) (0 : Int32).toNatClampNeg (-1 : Int32)) rfl (by decide) dX3_init_16 rfl (fun H locs hw => ?_)
  refine lv_dup hx hb dX3_init_17 rfl ?_
  refine lv_iconst (v := (2 : Int32)) hx hb dX3_init_18 (by decide) ?_
  refine lv_iconst (v := (-1 : Int32)) hx hb dX3_init_19 (by decide) ?_
  refine wk_iast (wq := [(h0, .inr (3, [.null, .null, .null])), (q0, .inl (g.2 0, 8, .inl (upd (upd (upd (fun _ => 0) (0 : Int32).toNatClampNeg (-1 : Int32)) (1 : Int32).toNatClampNeg (-1 : Int32)) (2 : Int32).toNatClampNeg (-1 : Int32))))]) hx hb hK hw 1 8 (upd (upd (fun _ => 0) (0 : Int32).toNatClampNeg (-1 : Int32)) (1 : Int32).toNatClampNeg (-1 : Int32)) rfl (by decide) dX3_init_20 rfl (fun H locs hw => ?_)
  refine lv_dup hx hb dX3_init_21 rfl ?_
  refine lv_iconst (v := (3 : Int32)) hx hb dX3_init_22 (by decide) ?_
  refine lv_iconst (v := (-1 : Int32)) hx hb dX3_init_23 (by decide) ?_
  refine wk_iast (wq := [(h0, .inr (3, [.null, .null, .null])), (q0, .inl (g.2 0, 8, .inl (upd (upd (upd (upd (fun _ => 0) (0 : Int32).toNatClampNeg (-1 : Int32)) (1 : Int32).toNatClampNeg (-1 : Int32)) (2 : Int32).toNatClampNeg (-1 : Int32)) (3 : Int32).toNatClampNeg (-1 : Int32))))]) hx hb hK hw 1 8 (upd (upd (upd (fun _ => 0) (0 : Int32).toNatClampNeg (-1 : Int32)) (1 : Int32).toNatClampNeg (-1 : Int32)) (2 : Int32).toNatClampNeg (-1 : Int32)) rfl (by decide) dX3_init_24 rfl (fun H locs hw => ?_)
  refine lv_dup hx hb dX3_init_25 rfl ?_
  refine lv_iconst (v := (4 : Int32)) hx hb dX3_init_26 (by decide) ?_
  refine lv_iconst (v := (-1 : Int32)) hx hb dX3_init_27 (by decide) ?_
  refine wk_iast (wq := [(h0, .inr (3, [.null, .null, .null])), (q0, .inl (g.2 0, 8, .inl (upd (upd (upd (upd (upd (fun _ => 0) (0 : Int32).toNatClampNeg (-1 : Int32)) (1 : Int32).toNatClampNeg (-1 : Int32)) (2 : Int32).toNatClampNeg (-1 : Int32)) (3 : Int32).toNatClampNeg (-1 : Int32)) (4 : Int32).toNatClampNeg (-1 : Int32))))]) hx hb hK hw 1 8 (upd (upd (upd (upd (fun _ => 0) (0 : Int32).toNatClampNeg (-1 : Int32)) (1 : Int32).toNatClampNeg (-1 : Int32)) (2 : Int32).toNatClampNeg (-1 : Int32)) (3 : Int32).toNatClampNeg (-1 : Int32)) rfl (by decide) dX3_init_28 rfl (fun H locs hw => ?_)
  refine lv_dup hx hb dX3_init_29 rfl ?_
  refine lv_iconst (v := (5 : Int32)) hx hb dX3_init_30 (by decide) ?_
  refine lv_iconst (v := (-1 : Int32)) hx hb dX3_init_31 (by decide) ?_
  refine wk_iast (wq := [(h0, .inr (3, [.null, .null, .null])), (q0, .inl (g.2 0, 8, .inl (upd (upd (upd (upd (upd (upd (fun _ => 0) (0 : Int32).toNatClampNeg (-1 : Int32)) (1 : Int32).toNatClampNeg (-1 : Int32)) (2 : Int32).toNatClampNeg (-1 : Int32)) (3 : Int32).toNatClampNeg (-1 : Int32)) (4 : Int32).toNatClampNeg (-1 : Int32)) (5 : Int32).toNatClampNeg (-1 : Int32))))]) hx hb hK hw 1 8 (upd (upd (upd (upd (upd (fun _ => 0) (0 : Int32).toNatClampNeg (-1 : Int32)) (1 : Int32).toNatClampNeg (-1 : Int32)) (2 : Int32).toNatClampNeg (-1 : Int32)) (3 : Int32).toNatClampNeg (-1 : Int32)) (4 : Int32).toNatClampNeg (-1 : Int32)) rfl (by decide) dX3_init_32 rfl (fun H locs hw => ?_)
  refine lv_dup hx hb dX3_init_33 rfl ?_
  refine lv_bipush (v := (6 : Int32)) hx hb dX3_init_34 (by decide) ?_
  refine lv_iconst (v := (-1 : Int32)) hx hb dX3_init_36 (by decide) ?_
  refine wk_iast (wq := [(h0, .inr (3, [.null, .null, .null])), (q0, .inl (g.2 0, 8, .inl (upd (upd (upd (upd (upd (upd (upd (fun _ => 0) (0 : Int32).toNatClampNeg (-1 : Int32)) (1 : Int32).toNatClampNeg (-1 : Int32)) (2 : Int32).toNatClampNeg (-1 : Int32)) (3 : Int32).toNatClampNeg (-1 : Int32)) (4 : Int32).toNatClampNeg (-1 : Int32)) (5 : Int32).toNatClampNeg (-1 : Int32)) (6 : Int32).toNatClampNeg (-1 : Int32))))]) hx hb hK hw 1 8 (upd (upd (upd (upd (upd (upd (fun _ => 0) (0 : Int32).toNatClampNeg (-1 : Int32)) (1 : Int32).toNatClampNeg (-1 : Int32)) (2 : Int32).toNatClampNeg (-1 : Int32)) (3 : Int32).toNatClampNeg (-1 : Int32)) (4 : Int32).toNatClampNeg (-1 : Int32)) (5 : Int32).toNatClampNeg (-1 : Int32)) rfl (by decide) dX3_init_37 rfl (fun H locs hw => ?_)
  refine lv_dup hx hb dX3_init_38 rfl ?_
  refine lv_bipush (v := (7 : Int32)) hx hb dX3_init_39 (by decide) ?_
  refine lv_iconst (v := (-1 : Int32)) hx hb dX3_init_41 (by decide) ?_
  refine wk_iast (wq := [(h0, .inr (3, [.null, .null, .null])), (q0, .inl (g.2 0, 8, .inl (upd (upd (upd (upd (upd (upd (upd (upd (fun _ => 0) (0 : Int32).toNatClampNeg (-1 : Int32)) (1 : Int32).toNatClampNeg (-1 : Int32)) (2 : Int32).toNatClampNeg (-1 : Int32)) (3 : Int32).toNatClampNeg (-1 : Int32)) (4 : Int32).toNatClampNeg (-1 : Int32)) (5 : Int32).toNatClampNeg (-1 : Int32)) (6 : Int32).toNatClampNeg (-1 : Int32)) (7 : Int32).toNatClampNeg (-1 : Int32))))]) hx hb hK hw 1 8 (upd (upd (upd (upd (upd (upd (upd (fun _ => 0) (0 : Int32).toNatClampNeg (-1 : Int32)) (1 : Int32).toNatClampNeg (-1 : Int32)) (2 : Int32).toNatClampNeg (-1 : Int32)) (3 : Int32).toNatClampNeg (-1 : Int32)) (4 : Int32).toNatClampNeg (-1 : Int32)) (5 : Int32).toNatClampNeg (-1 : Int32)) (6 : Int32).toNatClampNeg (-1 : Int32)) rfl (by decide) dX3_init_42 rfl (fun H locs hw => ?_)
  refine wk_putF (wq := [(h0, .inr (3, [.ref q0, .null, .null])), (q0, .inl (g.2 0, 8, .inl (upd (upd (upd (upd (upd (upd (upd (upd (fun _ => 0) (0 : Int32).toNatClampNeg (-1 : Int32)) (1 : Int32).toNatClampNeg (-1 : Int32)) (2 : Int32).toNatClampNeg (-1 : Int32)) (3 : Int32).toNatClampNeg (-1 : Int32)) (4 : Int32).toNatClampNeg (-1 : Int32)) (5 : Int32).toNatClampNeg (-1 : Int32)) (6 : Int32).toNatClampNeg (-1 : Int32)) (7 : Int32).toNatClampNeg (-1 : Int32))))]) hx hb hts hin_X3 tyX3 tyX3_ok nmX3 hown hK hw hname 3 0 0 rfl rfl (by decide) (mi 5 rfl) rfl rfl rfl rfl rfl (Nat.le_of_ble_eq_true rfl) dX3_init_43 rfl (fun H locs hw => ?_)
  refine lv_aload_n hx hb dX3_init_46 rfl (lv_at hl 0 rfl) ?_
  refine lv_bipush (v := (8 : Int32)) hx hb dX3_init_47 (by decide) ?_
  refine wk_newi hx hb hts (mi 4 rfl) hK hw hA 8 (by decide) (by decide) (by decide) (Nat.le_of_ble_eq_true rfl) (Nat.le_of_ble_eq_true rfl) dX3_init_49 (fun q1 H hw => ?_)
  have hw : Wk g A s.heap H locs [(h0, .inr (3, [.ref q0, .null, .null])), (q0, .inl (g.2 0, 8, .inl (upd (upd (upd (upd (upd (upd (upd (upd (fun _ => 0) (0 : Int32).toNatClampNeg (-1 : Int32)) (1 : Int32).toNatClampNeg (-1 : Int32)) (2 : Int32).toNatClampNeg (-1 : Int32)) (3 : Int32).toNatClampNeg (-1 : Int32)) (4 : Int32).toNatClampNeg (-1 : Int32)) (5 : Int32).toNatClampNeg (-1 : Int32)) (6 : Int32).toNatClampNeg (-1 : Int32)) (7 : Int32).toNatClampNeg (-1 : Int32)))), (q1, .inl (g.2 0, 8, .inl (fun _ => 0)))] := hw
  refine wk_putF (wq := [(h0, .inr (3, [.ref q0, .ref q1, .null])), (q0, .inl (g.2 0, 8, .inl (upd (upd (upd (upd (upd (upd (upd (upd (fun _ => 0) (0 : Int32).toNatClampNeg (-1 : Int32)) (1 : Int32).toNatClampNeg (-1 : Int32)) (2 : Int32).toNatClampNeg (-1 : Int32)) (3 : Int32).toNatClampNeg (-1 : Int32)) (4 : Int32).toNatClampNeg (-1 : Int32)) (5 : Int32).toNatClampNeg (-1 : Int32)) (6 : Int32).toNatClampNeg (-1 : Int32)) (7 : Int32).toNatClampNeg (-1 : Int32)))), (q1, .inl (g.2 0, 8, .inl (fun _ => 0)))]) hx hb hts hin_X3 tyX3 tyX3_ok nmX3 hown hK hw hname 3 0 1 rfl rfl (by decide) (mi 6 rfl) rfl rfl rfl rfl rfl (Nat.le_of_ble_eq_true rfl) dX3_init_51 rfl (fun H locs hw => ?_)
  refine lv_aload_n hx hb dX3_init_54 rfl (lv_at hl 0 rfl) ?_
  refine lv_bipush (v := (8 : Int32)) hx hb dX3_init_55 (by decide) ?_
  refine lv_bipush (v := (40 : Int32)) hx hb dX3_init_57 (by decide) ?_
  refine wk_mnl hx hb hts hown (mi 7 rfl) (mi 8 rfl) hK hw hA 8 40 (by decide) (by decide) (by decide) (by decide) (by decide) (by decide) (by decide) (Nat.le_of_ble_eq_true rfl) (Nat.le_of_ble_eq_true rfl) dX3_init_59 (fun q2 r_2 H hw => ?_)
  have hw : Wk g A s.heap H locs ([(h0, .inr (3, [.ref q0, .ref q1, .null])), (q0, .inl (g.2 0, 8, .inl (upd (upd (upd (upd (upd (upd (upd (upd (fun _ => 0) (0 : Int32).toNatClampNeg (-1 : Int32)) (1 : Int32).toNatClampNeg (-1 : Int32)) (2 : Int32).toNatClampNeg (-1 : Int32)) (3 : Int32).toNatClampNeg (-1 : Int32)) (4 : Int32).toNatClampNeg (-1 : Int32)) (5 : Int32).toNatClampNeg (-1 : Int32)) (6 : Int32).toNatClampNeg (-1 : Int32)) (7 : Int32).toNatClampNeg (-1 : Int32)))), (q1, .inl (g.2 0, 8, .inl (fun _ => 0))), (q2, .inl (g.2 3, 8, .inr (.inr (.inr (.inr (fun i => some (r_2 i)))))))] ++ (List.range 8).map (fun i => (r_2 i, .inl (g.2 1, 40, .inr (.inl (fun _ => 0)))))) := hw
  refine wk_putF (wq := ([(h0, .inr (3, [.ref q0, .ref q1, .ref q2])), (q0, .inl (g.2 0, 8, .inl (upd (upd (upd (upd (upd (upd (upd (upd (fun _ => 0) (0 : Int32).toNatClampNeg (-1 : Int32)) (1 : Int32).toNatClampNeg (-1 : Int32)) (2 : Int32).toNatClampNeg (-1 : Int32)) (3 : Int32).toNatClampNeg (-1 : Int32)) (4 : Int32).toNatClampNeg (-1 : Int32)) (5 : Int32).toNatClampNeg (-1 : Int32)) (6 : Int32).toNatClampNeg (-1 : Int32)) (7 : Int32).toNatClampNeg (-1 : Int32)))), (q1, .inl (g.2 0, 8, .inl (fun _ => 0))), (q2, .inl (g.2 3, 8, .inr (.inr (.inr (.inr (fun i => some (r_2 i)))))))] ++ (List.range 8).map (fun i => (r_2 i, .inl (g.2 1, 40, .inr (.inl (fun _ => 0))))))) hx hb hts hin_X3 tyX3 tyX3_ok nmX3 hown hK hw hname 3 0 2 rfl rfl (by decide) (mi 9 rfl) rfl rfl rfl rfl rfl (Nat.le_of_ble_eq_true rfl) dX3_init_63 rfl (fun H locs hw => ?_)
  obtain ⟨a, rfl, rfl, rfl, rfl, rfl⟩ := mk_X3_init h0 q0 q1 q2 r_2
  refine W.widen (k := 11) (n := 344) (Nat.le_of_ble_eq_true rfl) (Nat.le_of_ble_eq_true rfl) ?_
  have hw2 : Wk g A s.heap H locs ((wX3 g ((fun _ => a) 0) iG3 iR3)) := ⟨hP_sub hw.1 [0, 1, 2, 3, 4, 5, 6, 7, 8, 9, 10, 11] rfl, hw.2.1.sub [0, 1, 2, 3, 4, 5, 6, 7, 8, 9, 10, 11] (by decide +kernel) rfl, hw.2.2⟩
  exact W.vret hx hb hr (fun t ht _ => ⟨rfl, ⟨(fun _ => a), rfl, by rw [ht]; exact hw2.1, hw2.2.1⟩, hw2.2.2.F ht⟩) hw2.2.2.2.2 dX3_init_66
