theorem hd_X2_init : yX2_init.cls ≠ "java/lang/invoke/MethodHandle" ∧ yX2_init.cls ≠ "java/lang/invoke/VarHandle" ∧ (parseMethodDescriptor yX2_init.desc).map (fun d => d.parameters.length) = some 2 := by decide +kernel
set_option maxHeartbeats 4000000 in
set_option maxRecDepth 100000 in
theorem c_X2_init (l : Launch) (g : Gm) (h0 r1 r2 : Nat) : MI l yX2_init wsX2_init 1 31 0 0 g [.ref h0, .ref r1, .ref r2] [(h0, .inr (2, [.null, .null]))] h0 (fun a => (wX2 g (a 0) r1 r2)) := by
  intro sz
  refine Met.ofW (cc := cX2_init) (maxL := 3) (ret := none) (by decide) rfl ?_
  intro p e s m args below meth c s₁ B hml hv
  obtain ⟨rfl, hsz, hP, hK, hD0⟩ := hv
  have hx := B.exec; have hb := B.bytes; have hr := B.returns
  have hts := atoms_spec (ws := wsX2_init) B.pre
  have hown : s.vm.findClass RX2 = some m.cls := findClass_of_methodNamed B.named
  have hlocks := B.notSynchronized
  have hname : meth.name = "<init>" := (name_of_methodNamed B.named B.method).1
  have hS : CallFix p m c cX2_init 3 s _ wsX2_init RX2 := ⟨hx, hb, hml, hown, hts⟩
  have hin_X2 : ∀ w ∈ wsX20, w ∈ wsX2_init := fun w h => (List.mem_cons_of_mem _ (List.mem_append_right _ h))
  subst hsz
  have hw := wk_start hP hD0
  have hA : ∀ q : Nat, s.heap.size ≤ q → va_A [(h0, .inr (2, [.null, .null]))] s.heap.size q := fun q h => Or.inr h
  generalize va_A [(h0, .inr (2, [.null, .null]))] s.heap.size = A at hw hA ⊢
  clear hP hD0
  obtain ⟨locs, hlc⟩ : ∃ locs : List Loc, locs = [] := ⟨_, rfl⟩
  rw [← hlc] at hw ⊢
  have hl := lv_entry ([.ref h0, .ref r1, .ref r2]) (n := 3) (Nat.le_of_ble_eq_true rfl)
  rw [lg_entry_eq]
  generalize (lg_sl ([.ref h0, .ref r1, .ref r2]) ++ List.replicate (3 - (lg_sl ([.ref h0, .ref r1, .ref r2])).length) Slot.unset).toArray = ls at hl ⊢
  have hl : lv_has ls 3 [(0, .ref h0), (1, .ref r1), (2, .ref r2)] := hl
  refine lv_aload_n hx hb dX2_init_0 rfl (lv_at hl 0 rfl) ?_
  refine W.objInit hx hb hown (hts _ (mi 1 rfl)) (hts _ (mi 2 rfl)) (hts _ (mi 3 rfl)) rfl (by rw [hml]; exact hl.1) rfl dX2_init_1 (Nat.le_of_ble_eq_true rfl) (Nat.le_of_ble_eq_true rfl) ?_
  refine W.eq (g2 := F0 m 4 ls []) rfl ?_
  refine lv_aload_n hx hb dX2_init_4 rfl (lv_at hl 0 rfl) ?_
  refine lv_aload_n hx hb dX2_init_5 rfl (lv_at hl 1 rfl) ?_
  refine wk_putF (wq := [(h0, .inr (2, [.ref r1, .null]))]) hx hb hts hin_X2 tyX2 tyX2_ok nmX2 hown hK hw hname 2 0 0 rfl rfl (by decide) (mi 4 rfl) rfl rfl rfl rfl rfl (Nat.le_of_ble_eq_true rfl) dX2_init_6 rfl (fun H locs hw => ?_)
  refine lv_aload_n hx hb dX2_init_9 rfl (lv_at hl 0 rfl) ?_
  refine lv_aload_n hx hb dX2_init_10 rfl (lv_at hl 2 rfl) ?_
  refine wk_putF (wq := [(h0, .inr (2, [.ref r1, .ref r2]))]) hx hb hts hin_X2 tyX2 tyX2_ok nmX2 hown hK hw hname 2 0 1 rfl rfl (by decide) (mi 5 rfl) rfl rfl rfl rfl rfl (Nat.le_of_ble_eq_true rfl) dX2_init_11 rfl (fun H locs hw => ?_)
  obtain ⟨a, rfl⟩ := mk_X2_init h0
  refine W.widen (k := 0) (n := 0) (Nat.le_of_ble_eq_true rfl) (Nat.le_of_ble_eq_true rfl) ?_
  have hw2 : Wk g A s.heap H locs ((wX2 g ((fun _ => a) 0) r1 r2)) := ⟨hP_sub hw.1 [0] rfl, hw.2.1.sub [0] (by decide +kernel) rfl, hw.2.2⟩
  exact W.vret hx hb hr (fun t ht _ => ⟨rfl, ⟨(fun _ => a), rfl, by rw [ht]; exact hw2.1, hw2.2.1⟩, hw2.2.2.F ht⟩) hw2.2.2.2.2 dX2_init_14
