set_option maxHeartbeats 4000000 in
set_option maxRecDepth 100000 in
theorem law_entry {p : Program} {e : Env} {s : State} {m : MethodId} {below : List Frame} {meth : Method} {c : Code} {Q : State → Prop} (l : Launch) {bS L : Nat} {xs : Nat → Int32} (hL : L ≤ 3072) (hx : p.tables.exec = Jvm.exec) (hb : c.code = cL_law) (hml : c.maxLocals = 4) (hown : s.vm.findClass RL = some m.cls) (ht0 : ∀ w ∈ lw_tbl, w.before #[Value.ref bS] s = true) (hX : va_X bS L xs s s.heap) (hbl : bS < s.heap.size) (hgv : (Jvm.Cond.and given_1 narrow_1).before #[Value.ref bS] s = true)
    (hend : ∀ (g : Gm) (k : SgT) (a : Nat → Nat → Nat) (b : Nat → Nat) (i cells slots : Nat), LC p s m c bS L xs g (fun q => s.heap.size ≤ q) k → cells ≤ 600000 → slots ≤ 7302249 → LGo p l e s m below meth c bS Q g (fun q => s.heap.size ≤ q) a b 1915 i cells slots) : W p l e room_1 s m #[Value.ref bS] below meth c s.heap [] 0 0 Q (entryFrame m ([Value.ref bS] : List Value).toArray 4) := by
  obtain ⟨g, hK⟩ := lw_Kn ht0
  obtain ⟨k, hSg⟩ := lw_Sg (A := fun q => s.heap.size ≤ q) ht0 hgv (fun a h => Nat.not_le.mpr h)
  have hts : ∀ w ∈ wsL_law, w.before #[Value.ref bS] s = true := fun w h => ht0 w (wsL_law_in w h)
  have hbA : ¬ (fun q : Nat => s.heap.size ≤ q) bS := Nat.not_le.mpr hbl
  have hA : ∀ q : Nat, s.heap.size ≤ q → (fun q : Nat => s.heap.size ≤ q) q := fun _ h => h
  have cx : LC p s m c bS L xs g (fun q => s.heap.size ≤ q) k := ⟨⟨hx, hb, hml, hown, hts⟩, ⟨hX, hbl, hbA, hL⟩, hK, hA, hSg⟩
  have hend := fun a b i cells slots => hend g k a b i cells slots cx
  have hS : CallFix p m c cL_law 4 s #[.ref bS] wsL_law RL := ⟨hx, hb, hml, hown, hts⟩
  generalize (fun q : Nat => s.heap.size ≤ q) = A at hSg hbA hA cx hend
  have hw : Wk g A s.heap s.heap [] [] := ⟨fun k q h => by simp at h, ⟨fun i j p q h => by simp at h, fun k q h => by simp at h⟩, va_S.rf⟩
  have hl := lv_entry ([.ref bS]) (n := 4) (Nat.le_of_ble_eq_true rfl)
  rw [lg_entry_eq]
  generalize (lg_sl ([.ref bS]) ++ List.replicate (4 - (lg_sl ([.ref bS])).length) Slot.unset).toArray = ls at hl ⊢
  have hl : lv_has ls 4 [(0, .ref bS)] := hl
  refine wk_newo (ci := 6) hx hb hts inlX6 tyX6 tyX6_ok hown (mi 0 rfl) (mi 1 rfl) (mi 2 rfl) hK hw hA rfl [.null, .null, .null, .null, .null, .null, .null, .null, .null, .int 0] (fun j hj => by rcases (show j = 0 ∨ j = 1 ∨ j = 2 ∨ j = 3 ∨ j = 4 ∨ j = 5 ∨ j = 6 ∨ j = 7 ∨ j = 8 ∨ j = 9 by omega) with rfl | rfl | rfl | rfl | rfl | rfl | rfl | rfl | rfl | rfl <;> rfl) (Nat.le_of_ble_eq_true rfl) (Nat.le_of_ble_eq_true rfl) dL_law_0 (fun q0 H hw => ?_)
  refine lv_dup hx hb dL_law_3 rfl ?_
  refine rIp (As := []) (rest := [.ref q0]) (wc := [(q0, .inr (6, [.null, .null, .null, .null, .null, .null, .null, .null, .null, .int 0]))]) (wr := []) hS (c_X6_init l g q0) gL_law_X6_init rfl (mi 2 rfl) (mi 7 rfl) (mi 8 rfl) rfl hd_X6_init ⟨Nat.le_of_ble_eq_true rfl, Nat.le_of_ble_eq_true rfl⟩ hK hw hA (List.Perm.refl _) rfl hl.1 rfl (Nat.le_of_ble_eq_true rfl) dL_law_4 ⟨Nat.le_of_ble_eq_true rfl, Nat.le_of_ble_eq_true rfl⟩ (fun a H locs ea hwN => ?_)
  subst ea
  have hw : Wk g A s.heap H locs (wC g a iZ6 iT5 iT5 iT5 iG3 iR3 iP4 iO1 iB1) := hwN
  refine lv_astore_n (lv' := [(1, .ref (a 0 0)), (0, .ref bS)]) hx hb dL_law_7 rfl hl (by decide) rfl (fun ls hl => ?_)
  refine wk_newo (ci := 7) hx hb hts inlX7 tyX7 tyX7_ok hown (mi 3 rfl) (mi 4 rfl) (mi 5 rfl) hK hw hA rfl [.null, .null, .null, .null, .null, .null, .null, .int 0, .null, .int 0, .int 0, .null, .null, .null, .null, .null, .null, .null, .int 0, .int 0, .null, .null, .int 0, .int 0, .int 0, .int 0, .int 0, .null, .int 0, .null, .null, .null, .int 0] (fun j hj => by rcases (show j = 0 ∨ j = 1 ∨ j = 2 ∨ j = 3 ∨ j = 4 ∨ j = 5 ∨ j = 6 ∨ j = 7 ∨ j = 8 ∨ j = 9 ∨ j = 10 ∨ j = 11 ∨ j = 12 ∨ j = 13 ∨ j = 14 ∨ j = 15 ∨ j = 16 ∨ j = 17 ∨ j = 18 ∨ j = 19 ∨ j = 20 ∨ j = 21 ∨ j = 22 ∨ j = 23 ∨ j = 24 ∨ j = 25 ∨ j = 26 ∨ j = 27 ∨ j = 28 ∨ j = 29 ∨ j = 30 ∨ j = 31 ∨ j = 32 by omega) with rfl | rfl | rfl | rfl | rfl | rfl | rfl | rfl | rfl | rfl | rfl | rfl | rfl | rfl | rfl | rfl | rfl | rfl | rfl | rfl | rfl | rfl | rfl | rfl | rfl | rfl | rfl | rfl | rfl | rfl | rfl | rfl | rfl <;> rfl) (Nat.le_of_ble_eq_true rfl) (Nat.le_of_ble_eq_true rfl) dL_law_8 (fun q1 H hw => ?_)
  refine lv_dup hx hb dL_law_11 rfl ?_
  refine rIp (As := []) (rest := [.ref q1]) (wc := [(q1, .inr (7, [.null, .null, .null, .null, .null, .null, .null, .int 0, .null, .int 0, .int 0, .null, .null, .null, .null, .null, .null, .null, .int 0, .int 0, .null, .null, .int 0, .int 0, .int 0, .int 0, .int 0, .null, .int 0, .null, .null, .null, .int 0]))]) (wr := wC g a iZ6 iT5 iT5 iT5 iG3 iR3 iP4 iO1 iB1) hS (c_X7_init l g q1) gL_law_X7_init rfl (mi 5 rfl) (mi 101 rfl) (mi 102 rfl) rfl hd_X7_init ⟨Nat.le_of_ble_eq_true rfl, Nat.le_of_ble_eq_true rfl⟩ hK hw hA List.perm_append_comm rfl hl.1 rfl (Nat.le_of_ble_eq_true rfl) dL_law_12 ⟨Nat.le_of_ble_eq_true rfl, Nat.le_of_ble_eq_true rfl⟩ (fun b1 H locs eb hwN => ?_)
  subst eb
  have hw : Wk g A s.heap H locs (wC g a iZ6 iT5 iT5 iT5 iG3 iR3 iP4 iO1 iB1 ++ wRf g (b1 0) iU7 iV7 iM7 iR7 none none) := by
    show Wk g A s.heap H locs (wC g a iZ6 iT5 iT5 iT5 iG3 iR3 iP4 iO1 iB1 ++ (wXM g (b1 0) iU7 iV7 iM7 iR7 .null .null ++ ([] ++ [])))
    rw [List.append_nil, List.append_nil]
    exact hwN
  refine lv_astore_n (lv' := [(2, .ref (b1 0 0)), (1, .ref (a 0 0)), (0, .ref bS)]) hx hb dL_law_15 rfl hl (by decide) rfl (fun ls hl => ?_)
  refine lv_iconst (v := (0 : Int32)) hx hb dL_law_16 (by decide) ?_
  refine lv_istore_n (lv' := [(3, .int 0), (2, .ref (b1 0 0)), (1, .ref (a 0 0)), (0, .ref bS)]) hx hb dL_law_17 rfl hl (by decide) rfl (fun ls hl => ?_)
  refine W.widen (k := 1000) (n := 2000) (by decide) (by decide) ?_
  exact law_loop cx (hend a (b1 0)) 512 0 1000 2000 (Nat.zero_le L) (by omega) (by decide) (by decide) iZ6 iT5 iT5 iT5 iG3 iR3 iP4 iO1 iB1 iU7 iV7 iM7 iR7 none none H locs ls Rl_start hw (lv_sub hl [0, 3, 2, 1] rfl)
