theorem mk_X4_init (h0 q0 : Nat) : ∃ a : Nat → Nat, h0 = a 0 ∧ q0 = a 1 := ⟨fun k => match k with | 0 => h0 | 1 => q0 | _ => 0, rfl, rfl⟩
theorem hd_X4_init : yX4_init.cls ≠ "java/lang/invoke/MethodHandle" ∧ yX4_init.cls ≠ "java/lang/invoke/VarHandle" ∧ (parseMethodDescriptor yX4_init.desc).map (fun d => d.parameters.length) = some 0 := by decide +kernel
set_option maxHeartbeats 4000000 in
set_option maxRecDepth 100000 in
theorem c_X4_init (l : Launch) (g : Gm) (h0 : Nat) : MI l yX4_init wsX4_init 1 31 1 250 g [.ref h0] [(h0, .inr (4, [.int 0, .int 0, .null, .int 0, .int 0, .int 0]))] h0 (fun a => (wX4 g (a 0) iP4)) := by
  intro sz
  refine Met.ofW (cc := cX4_init) (maxL := 1) (ret := none) (by decide) rfl ?_
  intro p e s m args below meth c s₁ B hml hv
  obtain ⟨rfl, hsz, hP, hK, hD0⟩ := hv
  have hx := B.exec; have hb := B.bytes; have hr := B.returns
  have hts := atoms_spec (ws := wsX4_init) B.pre
  have hown : s.vm.findClass RX4 = some m.cls := findClass_of_methodNamed B.named
  have hlocks := B.notSynchronized
  have hname : meth.name = "<init>" := (name_of_methodNamed B.named B.method).1
  have hS : CallFix p m c cX4_init 1 s _ wsX4_init RX4 := ⟨hx, hb, hml, hown, hts⟩
  have hin_X4 : ∀ w ∈ wsX40, w ∈ wsX4_init := fun w h => (List.mem_cons_of_mem _ (List.mem_append_right _ h))
  subst hsz
  have hw := wk_start hP hD0
  have hA : ∀ q : Nat, s.heap.size ≤ q → va_A [(h0, .inr (4, [.int 0, .int 0, .null, .int 0, .int 0, .int 0]))] s.heap.size q := fun q h => Or.inr h
  generalize va_A [(h0, .inr (4, [.int 0, .int 0, .null, .int 0, .int 0, .int 0]))] s.heap.size = A at hw hA ⊢
  clear hP hD0
  obtain ⟨locs, hlc⟩ : ∃ locs : List Loc, locs = [] := ⟨_, rfl⟩
  rw [← hlc] at hw ⊢
  have hl := lv_entry ([.ref h0]) (n := 1) (Nat.le_of_ble_eq_true rfl)
  rw [lg_entry_eq]
  generalize (lg_sl ([.ref h0]) ++ List.replicate (1 - (lg_sl ([.ref h0])).length) Slot.unset).toArray = ls at hl ⊢
  have hl : lv_has ls 1 [(0, .ref h0)] := hl
  refine lv_aload_n hx hb dX4_init_0 rfl (lv_at hl 0 rfl) ?_
  refine W.objInit hx hb hown (hts _ (mi 1 rfl)) (hts _ (mi 2 rfl)) (hts _ (mi 3 rfl)) rfl (by rw [hml]; exact hl.1) rfl dX4_init_1 (Nat.le_of_ble_eq_true rfl) (Nat.le_of_ble_eq_true rfl) ?_
  refine W.eq (g2 := F0 m 4 ls []) rfl ?_
  refine lv_aload_n hx hb dX4_init_4 rfl (lv_at hl 0 rfl) ?_
  refine lv_iconst (v := (0 : Int32)) hx hb dX4_init_5 (by decide) ?_
  refine wk_put (wq := [(h0, .inr (4, [.int (0 : Int32), .int 0, .null, .int 0, .int 0, .int 0]))]) hx hb hts hin_X4 tyX4 tyX4_ok nmX4 hown hK hw 4 0 0 rfl rfl (by decide) (mi 4 rfl) rfl rfl rfl rfl (Nat.le_of_ble_eq_true rfl) dX4_init_6 rfl (fun H locs hw => ?_)
  refine lv_aload_n hx hb dX4_init_9 rfl (lv_at hl 0 rfl) ?_
  refine lv_iconst (v := (0 : Int32)) hx hb dX4_init_10 (by decide) ?_
  refine wk_put (wq := [(h0, .inr (4, [.int (0 : Int32), .int (0 : Int32), .null, .int 0, .int 0, .int 0]))]) hx hb hts hin_X4 tyX4 tyX4_ok nmX4 hown hK hw 4 0 1 rfl rfl (by decide) (mi 5 rfl) rfl rfl rfl rfl (Nat.le_of_ble_eq_true rfl) dX4_init_11 rfl (fun H locs hw => ?_)
  refine lv_aload_n hx hb dX4_init_14 rfl (lv_at hl 0 rfl) ?_
  refine lv_sipush (v := (250 : Int32)) hx hb dX4_init_15 (by decide) ?_
  refine wk_newi hx hb hts (mi 6 rfl) hK hw hA 250 (by decide) (by decide) (by decide) (Nat.le_of_ble_eq_true rfl) (Nat.le_of_ble_eq_true rfl) dX4_init_18 (fun q0 H hw => ?_)
  have hw : Wk g A s.heap H locs [(h0, .inr (4, [.int (0 : Int32), .int (0 : Int32), .null, .int 0, .int 0, .int 0])), (q0, .inl (g.2 0, 250, .inl (fun _ => 0)))] := hw
  refine wk_putF (wq := [(h0, .inr (4, [.int (0 : Int32), .int (0 : Int32), .ref q0, .int 0, .int 0, .int 0])), (q0, .inl (g.2 0, 250, .inl (fun _ => 0)))]) hx hb hts hin_X4 tyX4 tyX4_ok nmX4 hown hK hw hname 4 0 2 rfl rfl (by decide) (mi 7 rfl) rfl rfl rfl rfl rfl (Nat.le_of_ble_eq_true rfl) dX4_init_20 rfl (fun H locs hw => ?_)
  refine lv_aload_n hx hb dX4_init_23 rfl (lv_at hl 0 rfl) ?_
  refine lv_iconst (v := (0 : Int32)) hx hb dX4_init_24 (by decide) ?_
  refine wk_put (wq := [(h0, .inr (4, [.int (0 : Int32), .int (0 : Int32), .ref q0, .int (0 : Int32), .int 0, .int 0])), (q0, .inl (g.2 0, 250, .inl (fun _ => 0)))]) hx hb hts hin_X4 tyX4 tyX4_ok nmX4 hown hK hw 4 0 3 rfl rfl (by decide) (mi 8 rfl) rfl rfl rfl rfl (Nat.le_of_ble_eq_true rfl) dX4_init_25 rfl (fun H locs hw => ?_)
  refine lv_aload_n hx hb dX4_init_28 rfl (lv_at hl 0 rfl) ?_
  refine lv_iconst (v := (0 : Int32)) hx hb dX4_init_29 (by decide) ?_
  refine wk_put (wq := [(h0, .inr (4, [.int (0 : Int32), .int (0 : Int32), .ref q0, .int (0 : Int32), .int (0 : Int32), .int 0])), (q0, .inl (g.2 0, 250, .inl (fun _ => 0)))]) hx hb hts hin_X4 tyX4 tyX4_ok nmX4 hown hK hw 4 0 4 rfl rfl (by decide) (mi 9 rfl) rfl rfl rfl rfl (Nat.le_of_ble_eq_true rfl) dX4_init_30 rfl (fun H locs hw => ?_)
  refine lv_aload_n hx hb dX4_init_33 rfl (lv_at hl 0 rfl) ?_
  refine lv_iconst (v := (0 : Int32)) hx hb dX4_init_34 (by decide) ?_
  refine wk_put (wq := [(h0, .inr (4, [.int (0 : Int32), .int (0 : Int32), .ref q0, .int (0 : Int32), .int (0 : Int32), .int (0 : Int32)])), (q0, .inl (g.2 0, 250, .inl (fun _ => 0)))]) hx hb hts hin_X4 tyX4 tyX4_ok nmX4 hown hK hw 4 0 5 rfl rfl (by decide) (mi 10 rfl) rfl rfl rfl rfl (Nat.le_of_ble_eq_true rfl) dX4_init_35 rfl (fun H locs hw => ?_)
  obtain ⟨a, rfl, rfl⟩ := mk_X4_init h0 q0
  refine W.widen (k := 1) (n := 250) (Nat.le_of_ble_eq_true rfl) (Nat.le_of_ble_eq_true rfl) ?_
  have hw2 : Wk g A s.heap H locs ((wX4 g ((fun _ => a) 0) iP4)) := ⟨hP_sub hw.1 [0, 1] rfl, hw.2.1.sub [0, 1] (by decide +kernel) rfl, hw.2.2⟩
  exact W.vret hx hb hr (fun t ht _ => ⟨rfl, ⟨(fun _ => a), rfl, by rw [ht]; exact hw2.1, hw2.2.1⟩, hw2.2.2.F ht⟩) hw2.2.2.2.2 dX4_init_38
