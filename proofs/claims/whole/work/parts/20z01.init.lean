theorem mk_X5_init (h0 q0 q1 q2 q3 q4 q5 q6 : Nat) : ∃ a : Nat → Nat, h0 = a 0 ∧ q0 = a 1 ∧ q1 = a 2 ∧ q2 = a 3 ∧ q3 = a 4 ∧ q4 = a 5 ∧ q5 = a 6 ∧ q6 = a 7 := ⟨fun k => match k with | 0 => h0 | 1 => q0 | 2 => q1 | 3 => q2 | 4 => q3 | 5 => q4 | 6 => q5 | 7 => q6 | _ => 0, rfl, rfl, rfl, rfl, rfl, rfl, rfl, rfl⟩
theorem hd_X5_init : yX5_init.cls ≠ "java/lang/invoke/MethodHandle" ∧ yX5_init.cls ≠ "java/lang/invoke/VarHandle" ∧ (parseMethodDescriptor yX5_init.desc).map (fun d => d.parameters.length) = some 0 := by decide +kernel
set_option maxHeartbeats 4000000 in
set_option maxRecDepth 100000 in
theorem c_X5_init (l : Launch) (g : Gm) (h0 : Nat) : MI l yX5_init wsX5_init 1 31 7 49 g [.ref h0] [(h0, .inr (5, [.int 0, .int 0, .int 0, .int 0, .int 0, .int 0, .int 0, .null, .null, .null, .null, .null, .null, .null]))] h0 (fun a => (wX5 g (a 0) iT5)) := by
  intro sz
  refine Met.ofW (cc := cX5_init) (maxL := 1) (ret := none) (by decide) rfl ?_
  intro p e s m args below meth c s₁ B hml hv
  obtain ⟨rfl, hsz, hP, hK, hD0⟩ := hv
  have hx := B.exec; have hb := B.bytes; have hr := B.returns
  have hts := atoms_spec (ws := wsX5_init) B.pre
  have hown : s.vm.findClass RX5 = some m.cls := findClass_of_methodNamed B.named
  have hlocks := B.notSynchronized
  have hname : meth.name = "<init>" := (name_of_methodNamed B.named B.method).1
  have hS : CallFix p m c cX5_init 1 s _ wsX5_init RX5 := ⟨hx, hb, hml, hown, hts⟩
  have hin_X5 : ∀ w ∈ wsX50, w ∈ wsX5_init := fun w h => (List.mem_cons_of_mem _ (List.mem_append_right _ h))
  subst hsz
  have hw := wk_start hP hD0
  have hA : ∀ q : Nat, s.heap.size ≤ q → va_A [(h0, .inr (5, [.int 0, .int 0, .int 0, .int 0, .int 0, .int 0, .int 0, .null, .null, .null, .null, .null, .null, .null]))] s.heap.size q := fun q h => Or.inr h
  generalize va_A [(h0, .inr (5, [.int 0, .int 0, .int 0, .int 0, .int 0, .int 0, .int 0, .null, .null, .null, .null, .null, .null, .null]))] s.heap.size = A at hw hA ⊢
  clear hP hD0
  obtain ⟨locs, hlc⟩ : ∃ locs : List Loc, locs = [] := ⟨_, rfl⟩
  rw [← hlc] at hw ⊢
  have hl := lv_entry ([.ref h0]) (n := 1) (Nat.le_of_ble_eq_true rfl)
  rw [lg_entry_eq]
  generalize (lg_sl ([.ref h0]) ++ List.replicate (1 - (lg_sl ([.ref h0])).length) Slot.unset).toArray = ls at hl ⊢
  have hl : lv_has ls 1 [(0, .ref h0)] := hl
  refine lv_aload_n hx hb dX5_init_0 rfl (lv_at hl 0 rfl) ?_
  refine W.objInit hx hb hown (hts _ (mi 1 rfl)) (hts _ (mi 2 rfl)) (hts _ (mi 3 rfl)) rfl (by rw [hml]; exact hl.1) rfl dX5_init_1 (Nat.le_of_ble_eq_true rfl) (Nat.le_of_ble_eq_true rfl) ?_
  refine W.eq (g2 := F0 m 4 ls []) rfl ?_
  refine lv_aload_n hx hb dX5_init_4 rfl (lv_at hl 0 rfl) ?_
  refine lv_iconst (v := (4 : Int32)) hx hb dX5_init_5 (by decide) ?_
  refine wk_put (wq := [(h0, .inr (5, [.int (4 : Int32), .int 0, .int 0, .int 0, .int 0, .int 0, .int 0, .null, .null, .null, .null, .null, .null, .null]))]) hx hb hts hin_X5 tyX5 tyX5_ok nmX5 hown hK hw 5 0 0 rfl rfl (by decide) (mi 4 rfl) rfl rfl rfl rfl (Nat.le_of_ble_eq_true rfl) dX5_init_6 rfl (fun H locs hw => ?_)
  refine lv_aload_n hx hb dX5_init_9 rfl (lv_at hl 0 rfl) ?_
  refine lv_iconst (v := (0 : Int32)) hx hb dX5_init_10 (by decide) ?_
  refine wk_put (wq := [(h0, .inr (5, [.int (4 : Int32), .int (0 : Int32), .int 0, .int 0, .int 0, .int 0, .int 0, .null, .null, .null, .null, .null, .null, .null]))]) hx hb hts hin_X5 tyX5 tyX5_ok nmX5 hown hK hw 5 0 1 rfl rfl (by decide) (mi 5 rfl) rfl rfl rfl rfl (Nat.le_of_ble_eq_true rfl) dX5_init_11 rfl (fun H locs hw => ?_)
  refine lv_aload_n hx hb dX5_init_14 rfl (lv_at hl 0 rfl) ?_
  refine lv_iconst (v := (0 : Int32)) hx hb dX5_init_15 (by decide) ?_
  refine wk_put (wq := [(h0, .inr (5, [.int (4 : Int32), .int (0 : Int32), .int (0 : Int32), .int 0, .int 0, .int 0, .int 0, .null, .null, .null, .null, .null, .null, .null]))]) hx hb hts hin_X5 tyX5 tyX5_ok nmX5 hown hK hw 5 0 2 rfl rfl (by decide) (mi 6 rfl) rfl rfl rfl rfl (Nat.le_of_ble_eq_true rfl) dX5_init_16 rfl (fun H locs hw => ?_)
  refine lv_aload_n hx hb dX5_init_19 rfl (lv_at hl 0 rfl) ?_
  refine lv_iconst (v := (0 : Int32)) hx hb dX5_init_20 (by decide) ?_
  refine wk_put (wq := [(h0, .inr (5, [.int (4 : Int32), .int (0 : Int32), .int (0 : Int32), .int (0 : Int32), .int 0, .int 0, .int 0, .null, .null, .null, .null, .null, .null, .null]))]) hx hb hts hin_X5 tyX5 tyX5_ok nmX5 hown hK hw 5 0 3 rfl rfl (by decide) (mi 7 rfl) rfl rfl rfl rfl (Nat.le_of_ble_eq_true rfl) dX5_init_21 rfl (fun H locs hw => ?_)
  refine lv_aload_n hx hb dX5_init_24 rfl (lv_at hl 0 rfl) ?_
  refine lv_iconst (v := (0 : Int32)) hx hb dX5_init_25 (by decide) ?_
  refine wk_put (wq := [(h0, .inr (5, [.int (4 : Int32), .int (0 : Int32), .int (0 : Int32), .int (0 : Int32), .int (0 : Int32), .int 0, .int 0, .null, .null, .null, .null, .null, .null, .null]))]) hx hb hts hin_X5 tyX5 tyX5_ok nmX5 hown hK hw 5 0 4 rfl rfl (by decide) (mi 8 rfl) rfl rfl rfl rfl (Nat.le_of_ble_eq_true rfl) dX5_init_26 rfl (fun H locs hw => ?_)
  refine lv_aload_n hx hb dX5_init_29 rfl (lv_at hl 0 rfl) ?_
  refine lv_iconst (v := (0 : Int32)) hx hb dX5_init_30 (by decide) ?_
  refine wk_put (wq := [(h0, .inr (5, [.int (4 : Int32), .int (0 : Int32), .int (0 : Int32), .int (0 : Int32), .int (0 : Int32), .int (0 : Int32), .int 0, .null, .null, .null, .null, .null, .null, .null]))]) hx hb hts hin_X5 tyX5 tyX5_ok nmX5 hown hK hw 5 0 5 rfl rfl (by decide) (mi 9 rfl) rfl rfl rfl rfl (Nat.le_of_ble_eq_true rfl) dX5_init_31 rfl (fun H locs hw => ?_)
  refine lv_aload_n hx hb dX5_init_34 rfl (lv_at hl 0 rfl) ?_
  refine lv_iconst (v := (1 : Int32)) hx hb dX5_init_35 (by decide) ?_
  refine wk_put (wq := [(h0, .inr (5, [.int (4 : Int32), .int (0 : Int32), .int (0 : Int32), .int (0 : Int32), .int (0 : Int32), .int (0 : Int32), .int (1 : Int32), .null, .null, .null, .null, .null, .null, .null]))]) hx hb hts hin_X5 tyX5 tyX5_ok nmX5 hown hK hw 5 0 6 rfl rfl (by decide) (mi 10 rfl) rfl rfl rfl rfl (Nat.le_of_ble_eq_true rfl) dX5_init_36 rfl (fun H locs hw => ?_)
  refine lv_aload_n hx hb dX5_init_39 rfl (lv_at hl 0 rfl) ?_
  refine lv_bipush (v := (7 : Int32)) hx hb dX5_init_40 (by decide) ?_
  refine wk_newi hx hb hts (mi 11 rfl) hK hw hA 7 (by decide) (by decide) (by decide) (Nat.le_of_ble_eq_true rfl) (Nat.le_of_ble_eq_true rfl) dX5_init_42 (fun q0 H hw => ?_)
  have hw : Wk g A s.heap H locs [(h0, .inr (5, [.int (4 : Int32), .int (0 : Int32), .int (0 : Int32), .int (0 : Int32), .int (0 : Int32), .int (0 : Int32), .int (1 : Int32), .null, .null, .null, .null, .null, .null, .null])), (q0, .inl (g.2 0, 7, .inl (fun _ => 0)))] := hw
  refine wk_putF (wq := [(h0, .inr (5, [.int (4 : Int32), .int (0 : Int32), .int (0 : Int32), .int (0 : Int32), .int (0 : Int32), .int (0 : Int32), .int (1 : Int32), .ref q0, .null, .null, .null, .null, .null, .null])), (q0, .inl (g.2 0, 7, .inl (fun _ => 0)))]) hx hb hts hin_X5 tyX5 tyX5_ok nmX5 hown hK hw hname 5 0 7 rfl rfl (by decide) (mi 12 rfl) rfl rfl rfl rfl rfl (Nat.le_of_ble_eq_true rfl) dX5_init_44 rfl (fun H locs hw => ?_)
  refine lv_aload_n hx hb dX5_init_47 rfl (lv_at hl 0 rfl) ?_
  refine lv_bipush (v := (7 : Int32)) hx hb dX5_init_48 (by decide) ?_
  refine wk_newi hx hb hts (mi 11 rfl) hK hw hA 7 (by decide) (by decide) (by decide) (Nat.le_of_ble_eq_true rfl) (Nat.le_of_ble_eq_true rfl) dX5_init_50 (fun q1 H hw => ?_)
  have hw : Wk g A s.heap H locs [(h0, .inr (5, [.int (4 : Int32), .int (0 : Int32), .int (0 : Int32), .int (0 : Int32), .int (0 : Int32), .int (0 : Int32), .int (1 : Int32), .ref q0, .null, .null, .null, .null, .null, .null])), (q0, .inl (g.2 0, 7, .inl (fun _ => 0))), (q1, .inl (g.2 0, 7, .inl (fun _ => 0)))] := hw
  refine wk_putF (wq := [(h0, .inr (5, [.int (4 : Int32), .int (0 : Int32), .int (0 : Int32), .int (0 : Int32), .int (0 : Int32), .int (0 : Int32), .int (1 : Int32), .ref q0, .ref q1, .null, .null, .null, .null, .null])), (q0, .inl (g.2 0, 7, .inl (fun _ => 0))), (q1, .inl (g.2 0, 7, .inl (fun _ => 0)))]) hx hb hts hin_X5 tyX5 tyX5_ok nmX5 hown hK hw hname 5 0 8 rfl rfl (by decide) (mi 13 rfl) rfl rfl rfl rfl rfl (Nat.le_of_ble_eq_true rfl) dX5_init_52 rfl (fun H locs hw => ?_)
  refine lv_aload_n hx hb dX5_init_55 rfl (lv_at hl 0 rfl) ?_
  refine lv_bipush (v := (7 : Int32)) hx hb dX5_init_56 (by decide) ?_
  refine wk_newi hx hb hts (mi 11 rfl) hK hw hA 7 (by decide) (by decide) (by decide) (Nat.le_of_ble_eq_true rfl) (Nat.le_of_ble_eq_true rfl) dX5_init_58 (fun q2 H hw => ?_)
  have hw : Wk g A s.heap H locs [(h0, .inr (5, [.int (4 : Int32), .int (0 : Int32), .int (0 : Int32), .int (0 : Int32), .int (0 : Int32), .int (0 : Int32), .int (1 : Int32), .ref q0, .ref q1, .null, .null, .null, .null, .null])), (q0, .inl (g.2 0, 7, .inl (fun _ => 0))), (q1, .inl (g.2 0, 7, .inl (fun _ => 0))), (q2, .inl (g.2 0, 7, .inl (fun _ => 0)))] := hw
  refine wk_putF (wq := [(h0, .inr (5, [.int (4 : Int32), .int (0 : Int32), .int (0 : Int32), .int (0 : Int32), .int (0 : Int32), .int (0 : Int32), .int (1 : Int32), .ref q0, .ref q1, .ref q2, .null, .null, .null, .null])), (q0, .inl (g.2 0, 7, .inl (fun _ => 0))), (q1, .inl (g.2 0, 7, .inl (fun _ => 0))), (q2, .inl (g.2 0, 7, .inl (fun _ => 0)))]) hx hb hts hin_X5 tyX5 tyX5_ok nmX5 hown hK hw hname 5 0 9 rfl rfl (by decide) (mi 14 rfl) rfl rfl rfl rfl rfl (Nat.le_of_ble_eq_true rfl) dX5_init_60 rfl (fun H locs hw => ?_)
  refine lv_aload_n hx hb dX5_init_63 rfl (lv_at hl 0 rfl) ?_
  refine lv_bipush (v := (7 : Int32)) hx hb dX5_init_64 (by decide) ?_
  refine wk_newi hx hb hts (mi 11 rfl) hK hw hA 7 (by decide) (by decide) (by decide) (Nat.le_of_ble_eq_true rfl) (Nat.le_of_ble_eq_true rfl) dX5_init_66 (fun q3 H hw => ?_)
  have hw : Wk g A s.heap H locs [(h0, .inr (5, [.int (4 : Int32), .int (0 : Int32), .int (0 : Int32), .int (0 : Int32), .int (0 : Int32), .int (0 : Int32), .int (1 : Int32), .ref q0, .ref q1, .ref q2, .null, .null, .null, .null])), (q0, .inl (g.2 0, 7, .inl (fun _ => 0))), (q1, .inl (g.2 0, 7, .inl (fun _ => 0))), (q2, .inl (g.2 0, 7, .inl (fun _ => 0))), (q3, .inl (g.2 0, 7, .inl (fun _ => 0)))] := hw
  refine wk_putF (wq := [(h0, .inr (5, [.int (4 : Int32), .int (0 : Int32), .int (0 : Int32), .int (0 : Int32), .int (0 : Int32), .int (0 : Int32), .int (1 : Int32), .ref q0, .ref q1, .ref q2, .ref q3, .null, .null, .null])), (q0, .inl (g.2 0, 7, .inl (fun _ => 0))), (q1, .inl (g.2 0, 7, .inl (fun _ => 0))), (q2, .inl (g.2 0, 7, .inl (fun _ => 0))), (q3, .inl (g.2 0, 7, .inl (fun _ => 0)))]) hx hb hts hin_X5 tyX5 tyX5_ok nmX5 hown hK hw hname 5 0 10 rfl rfl (by decide) (mi 15 rfl) rfl rfl rfl rfl rfl (Nat.le_of_ble_eq_true rfl) dX5_init_68 rfl (fun H locs hw => ?_)
  refine lv_aload_n hx hb dX5_init_71 rfl (lv_at hl 0 rfl) ?_
  refine lv_bipush (v := (7 : Int32)) hx hb dX5_init_72 (by decide) ?_
  refine wk_newi hx hb hts (mi 11 rfl) hK hw hA 7 (by decide) (by decide) (by decide) (Nat.le_of_ble_eq_true rfl) (Nat.le_of_ble_eq_true rfl) dX5_init_74 (fun q4 H hw => ?_)
  have hw : Wk g A s.heap H locs [(h0, .inr (5, [.int (4 : Int32), .int (0 : Int32), .int (0 : Int32), .int (0 : Int32), .int (0 : Int32), .int (0 : Int32), .int (1 : Int32), .ref q0, .ref q1, .ref q2, .ref q3, .null, .null, .null])), (q0, .inl (g.2 0, 7, .inl (fun _ => 0))), (q1, .inl (g.2 0, 7, .inl (fun _ => 0))), (q2, .inl (g.2 0, 7, .inl (fun _ => 0))), (q3, .inl (g.2 0, 7, .inl (fun _ => 0))), (q4, .inl (g.2 0, 7, .inl (fun _ => 0)))] := hw
  refine wk_putF (wq := [(h0, .inr (5, [.int (4 : Int32), .int (0 : Int32), .int (0 : Int32), .int (0 : Int32), .int (0 : Int32), .int (0 : Int32), .int (1 : Int32), .ref q0, .ref q1, .ref q2, .ref q3, .ref q4, .null, .null])), (q0, .inl (g.2 0, 7, .inl (fun _ => 0))), (q1, .inl (g.2 0, 7, .inl (fun _ => 0))), (q2, .inl (g.2 0, 7, .inl (fun _ => 0))), (q3, .inl (g.2 0, 7, .inl (fun _ => 0))), (q4, .inl (g.2 0, 7, .inl (fun _ => 0)))]) hx hb hts hin_X5 tyX5 tyX5_ok nmX5 hown hK hw hname 5 0 11 rfl rfl (by decide) (mi 16 rfl) rfl rfl rfl rfl rfl (Nat.le_of_ble_eq_true rfl) dX5_init_76 rfl (fun H locs hw => ?_)
  refine lv_aload_n hx hb dX5_init_79 rfl (lv_at hl 0 rfl) ?_
  refine lv_bipush (v := (7 : Int32)) hx hb dX5_init_80 (by decide) ?_
  refine wk_newi hx hb hts (mi 11 rfl) hK hw hA 7 (by decide) (by decide) (by decide) (Nat.le_of_ble_eq_true rfl) (Nat.le_of_ble_eq_true rfl) dX5_init_82 (fun q5 H hw => ?_)
  have hw : Wk g A s.heap H locs [(h0, .inr (5, [.int (4 : Int32), .int (0 : Int32), .int (0 : Int32), .int (0 : Int32), .int (0 : Int32), .int (0 : Int32), .int (1 : Int32), .ref q0, .ref q1, .ref q2, .ref q3, .ref q4, .null, .null])), (q0, .inl (g.2 0, 7, .inl (fun _ => 0))), (q1, .inl (g.2 0, 7, .inl (fun _ => 0))), (q2, .inl (g.2 0, 7, .inl (fun _ => 0))), (q3, .inl (g.2 0, 7, .inl (fun _ => 0))), (q4, .inl (g.2 0, 7, .inl (fun _ => 0))), (q5, .inl (g.2 0, 7, .inl (fun _ => 0)))] := hw
  refine wk_putF (wq := [(h0, .inr (5, [.int (4 : Int32), .int (0 : Int32), .int (0 : Int32), .int (0 : Int32), .int (0 : Int32), .int (0 : Int32), .int (1 : Int32), .ref q0, .ref q1, .ref q2, .ref q3, .ref q4, .ref q5, .null])), (q0, .inl (g.2 0, 7, .inl (fun _ => 0))), (q1, .inl (g.2 0, 7, .inl (fun _ => 0))), (q2, .inl (g.2 0, 7, .inl (fun _ => 0))), (q3, .inl (g.2 0, 7, .inl (fun _ => 0))), (q4, .inl (g.2 0, 7, .inl (fun _ => 0))), (q5, .inl (g.2 0, 7, .inl (fun _ => 0)))]) hx hb hts hin_X5 tyX5 tyX5_ok nmX5 hown hK hw hname 5 0 12 rfl rfl (by decide) (mi 17 rfl) rfl rfl rfl rfl rfl (Nat.le_of_ble_eq_true rfl) dX5_init_84 rfl (fun H locs hw => ?_)
  refine lv_aload_n hx hb dX5_init_87 rfl (lv_at hl 0 rfl) ?_
  refine lv_bipush (v := (7 : Int32)) hx hb dX5_init_88 (by decide) ?_
  refine wk_newi hx hb hts (mi 11 rfl) hK hw hA 7 (by decide) (by decide) (by decide) (Nat.le_of_ble_eq_true rfl) (Nat.le_of_ble_eq_true rfl) dX5_init_90 (fun q6 H hw => ?_)
  have hw : Wk g A s.heap H locs [(h0, .inr (5, [.int (4 : Int32), .int (0 : Int32), .int (0 : Int32), .int (0 : Int32), .int (0 : Int32), .int (0 : Int32), .int (1 : Int32), .ref q0, .ref q1, .ref q2, .ref q3, .ref q4, .ref q5, .null])), (q0, .inl (g.2 0, 7, .inl (fun _ => 0))), (q1, .inl (g.2 0, 7, .inl (fun _ => 0))), (q2, .inl (g.2 0, 7, .inl (fun _ => 0))), (q3, .inl (g.2 0, 7, .inl (fun _ => 0))), (q4, .inl (g.2 0, 7, .inl (fun _ => 0))), (q5, .inl (g.2 0, 7, .inl (fun _ => 0))), (q6, .inl (g.2 0, 7, .inl (fun _ => 0)))] := hw
  refine wk_putF (wq := [(h0, .inr (5, [.int (4 : Int32), .int (0 : Int32), .int (0 : Int32), .int (0 : Int32), .int (0 : Int32), .int (0 : Int32), .int (1 : Int32), .ref q0, .ref q1, .ref q2, .ref q3, .ref q4, .ref q5, .ref q6])), (q0, .inl (g.2 0, 7, .inl (fun _ => 0))), (q1, .inl (g.2 0, 7, .inl (fun _ => 0))), (q2, .inl (g.2 0, 7, .inl (fun _ => 0))), (q3, .inl (g.2 0, 7, .inl (fun _ => 0))), (q4, .inl (g.2 0, 7, .inl (fun _ => 0))), (q5, .inl (g.2 0, 7, .inl (fun _ => 0))), (q6, .inl (g.2 0, 7, .inl (fun _ => 0)))]) hx hb hts hin_X5 tyX5 tyX5_ok nmX5 hown hK hw hname 5 0 13 rfl rfl (by decide) (mi 18 rfl) rfl rfl rfl rfl rfl (Nat.le_of_ble_eq_true rfl) dX5_init_92 rfl (fun H locs hw => ?_)
  obtain ⟨a, rfl, rfl, rfl, rfl, rfl, rfl, rfl, rfl⟩ := mk_X5_init h0 q0 q1 q2 q3 q4 q5 q6
  refine W.widen (k := 7) (n := 49) (Nat.le_of_ble_eq_true rfl) (Nat.le_of_ble_eq_true rfl) ?_
  have hw2 : Wk g A s.heap H locs ((wX5 g ((fun _ => a) 0) iT5)) := ⟨hP_sub hw.1 [0, 1, 2, 3, 4, 5, 6, 7] rfl, hw.2.1.sub [0, 1, 2, 3, 4, 5, 6, 7] (by decide +kernel) rfl, hw.2.2⟩
  exact W.vret hx hb hr (fun t ht _ => ⟨rfl, ⟨(fun _ => a), rfl, by rw [ht]; exact hw2.1, hw2.2.1⟩, hw2.2.2.F ht⟩) hw2.2.2.2.2 dX5_init_95
