/-! ===== calls by blocks of a world ===== -/
def wXR (g : Gm) (a : Nat → Nat) (V : TS) (M R : LTS) : va_W := [(a 9, .inl (g.2 0, 8, .inl (V 0))), (a 10, .inl (g.2 0, 8, .inl (V 1))), (a 11, .inl (g.2 0, 8, .inl (V 2))), (a 12, .inl (g.2 3, 8, .inr (.inr (.inr (.inr (fun i => some (a (20 + i)))))))), (a 13, .inl (g.2 1, 40, .inr (.inl (M 4)))), (a 14, .inl (g.2 0, 8, .inl (V 5))), (a 15, .inl (g.2 0, 250, .inl (V 6))), (a 16, .inl (g.2 0, 8, .inl (V 8))), (a 17, .inl (g.2 0, 2, .inl (V 27))), (a 18, .inl (g.2 0, 7, .inl (V 30))), (a 19, .inl (g.2 0, 7, .inl (V 31)))] ++ (List.range 8).map (fun i => (a (20 + i), .inl (g.2 1, 40, .inr (.inl (R i)))))
theorem wXM_eq (g : Gm) (a : Nat → Nat) (U V : TS) (M R : LTS) (kv tv : Value) : wXM g a U V M R kv tv = wXT g a (fm a V kv tv) U ++ wXR g a V M R := List.append_assoc _ _ _
theorem pmX1 (g : Gm) (a : Nat → Nat) (U V : TS) (M R : LTS) (kv tv : Value) : List.Perm (wXM g a U V M R kv tv) (wXT g a (fm a V kv tv) U ++ wXR g a V M R) := by rw [wXM_eq]
theorem pmX2 (g : Gm) (a : Nat → Nat) (U V : TS) (M R : LTS) (kv tv : Value) (Y : va_W) : List.Perm (wXM g a U V M R kv tv ++ Y) (wXT g a (fm a V kv tv) U ++ (wXR g a V M R ++ Y)) := by rw [wXM_eq, List.append_assoc]
theorem va_P.mem {D : va_G} {cl : List vw_C} {ws wc : va_W} {H : Heap} (h : va_P D cl ws H) (p : ∀ q, q ∈ wc → q ∈ ws) : va_P D cl wc H := fun k q hk => by
  obtain ⟨j, hj⟩ := List.mem_iff_getElem?.mp (p q (List.mem_of_getElem? hk))
  exact h j q hj
theorem va_P.pm {D : va_G} {cl : List vw_C} {ws wc rs : va_W} {H : Heap} (h : va_P D cl ws H) (p : List.Perm ws (wc ++ rs)) : va_P D cl wc H := h.mem (fun q hq => p.mem_iff.mpr (List.mem_append_left _ hq))
def va_D2 (A : Nat → Prop) (ws : va_W) : Prop := List.Pairwise (fun x y : Nat => x ≠ y) (ws.map (·.1)) ∧ ∀ x, x ∈ ws.map (·.1) → A x
theorem va_D_iff {A : Nat → Prop} {ws : va_W} : va_D A ws ↔ va_D2 A ws := by
  constructor
  · intro h
    refine ⟨List.pairwise_map.mpr (List.pairwise_iff_getElem.mpr (fun i j hi hj hij e => ?_)), fun x hx => ?_⟩
    · have := h.1 i j ws[i] ws[j] (List.getElem?_eq_getElem hi) (List.getElem?_eq_getElem hj) e
      omega
    · obtain ⟨q, hq, rfl⟩ := List.mem_map.mp hx
      obtain ⟨j, hj⟩ := List.mem_iff_getElem?.mp hq
      exact h.2 j q hj
  · intro h
    have h1 := List.pairwise_iff_getElem.mp (List.pairwise_map.mp h.1)
    refine ⟨fun i j x y hx hy e => ?_, fun k q hk => h.2 q.1 (List.mem_map.mpr ⟨q, List.mem_of_getElem? hk, rfl⟩)⟩
    obtain ⟨hi, rfl⟩ := List.getElem?_eq_some_iff.mp hx
    obtain ⟨hj, rfl⟩ := List.getElem?_eq_some_iff.mp hy
    rcases Nat.lt_trichotomy i j with h2 | h2 | h2
    · exact absurd e (h1 i j hi hj h2)
    · exact h2
    · exact absurd e.symm (h1 j i hj hi h2)
theorem va_D.pm {A : Nat → Prop} {ws ws' : va_W} (h : va_D A ws) (p : List.Perm ws ws') : va_D A ws' := by
  rw [va_D_iff] at h ⊢
  have p2 := p.map (·.1)
  exact ⟨(p2.pairwise_iff (fun {x y} (h : x ≠ y) => Ne.symm h)).mp h.1, fun x hx => h.2 x (p2.mem_iff.mpr hx)⟩
theorem va_D.left {A : Nat → Prop} {wc rs : va_W} (h : va_D A (wc ++ rs)) : va_D A wc := by
  rw [va_D_iff] at h ⊢
  have h1 := h.1
  rw [List.map_append] at h1
  exact ⟨(List.pairwise_append.mp h1).1, fun x hx => h.2 x (by rw [List.map_append]; exact List.mem_append_left _ hx)⟩
theorem va_D.swp {A : Nat → Prop} {wc w1 rs : va_W} (h : va_D A (wc ++ rs)) (ha : w1.map (·.1) = wc.map (·.1)) : va_D A (w1 ++ rs) := by
  rw [va_D_iff] at h ⊢
  have e : (w1 ++ rs).map (·.1) = (wc ++ rs).map (·.1) := by rw [List.map_append, List.map_append, ha]
  exact ⟨by rw [e]; exact h.1, fun x hx => h.2 x (by rw [← e]; exact hx)⟩
section PBASE
variable {p : Program} {l : Launch} {e : Env} {R : Room} {s : State} {m : MethodId} {args : Array Value} {below : List Frame} {meth : Method} {c : Code} {H : Heap} {locs : List Loc} {cells slots : Nat} {Q : State → Prop}
variable {y : MethodName} {bytes cc : ByteArray} {maxL nL n index fr lo : Nat} {ret : Option FieldType} {ws : List Cond} {Ts : List Cond} {own C : String} {b : Addr} {As rest st0 : List Value} {g : Gm} {pc : Nat} {ls : Array Slot} {wc w1 wq ws0 rs : va_W} {v : Option Value} {A : Nat → Prop} {H0 : Heap} {a0 : Array Value}
theorem va_join2 {H1 : Heap} (hP : va_P g.1 vwCl ws0 H) (hD : va_D A ws0) (hp : List.Perm ws0 (wc ++ rs)) (ha : w1.map (·.1) = wc.map (·.1)) (hq : List.Perm wq (w1 ++ rs)) (hk : ∀ q : Nat, q < H.size → ¬ va_A wc H.size q → H1[q]? = H[q]?) (hP1 : va_P g.1 vwCl w1 H1) : va_P g.1 vwCl wq H1 ∧ va_D A wq := by
  have hD1 : va_D A (wc ++ rs) := hD.pm hp
  refine ⟨fun k q hkq => ?_, (hD1.swp ha).pm hq.symm⟩
  rcases List.mem_append.mp (hq.mem_iff.mp (List.mem_of_getElem? hkq)) with h | h
  · obtain ⟨j, hj⟩ := List.mem_iff_getElem?.mp h
    exact hP1 j q hj
  · obtain ⟨j, hj⟩ := List.mem_iff_getElem?.mp (hp.mem_iff.mpr (List.mem_append_right wc h))
    have h3 := hP j q hj
    refine h3.kept (hk q.1 h3.lt ?_)
    rintro (⟨j2, e2, h4⟩ | h4)
    · have h5 := (va_D_iff.mp hD1).1
      rw [List.map_append] at h5
      exact (List.pairwise_append.mp h5).2.2 q.1 (List.mem_map.mpr ⟨(q.1, e2), List.mem_of_getElem? h4, rfl⟩) q.1 (List.mem_map.mpr ⟨q, h, rfl⟩) rfl
    · have := h3.lt
      omega
theorem va_free2 (hD : va_D A ws0) (hS : va_S A H0 H locs) (hA : ∀ q, H0.size ≤ q → A q) (hp : List.Perm ws0 (wc ++ rs)) : ∀ q, va_A wc H.size q → A q := by
  rintro q (⟨k, e, h⟩ | h)
  · exact (va_D_iff.mp (hD.pm hp)).2 q (List.mem_map.mpr ⟨(q, e), List.mem_append_left _ (List.mem_of_getElem? h), rfl⟩)
  · exact hA q (Nat.le_trans hS.1 h)
theorem cWp (hr : va_Run p l e R s m args below meth c H locs cells slots 0 0 (F0 m pc ls st0) rest (QcW g v w1 (va_A wc H.size) a0) (va_A wc H.size)) (hw : Wk g A H0 H locs ws0) (hA : ∀ q, H0.size ≤ q → A q) (hp : List.Perm ws0 (wc ++ rs)) (ha : w1.map (·.1) = wc.map (·.1)) (hq : List.Perm wq (w1 ++ rs))
    (kk : ∀ (H1 : Heap) (locs1 : List Loc), Wk g A H0 H1 locs1 wq → W p l e R s m args below meth c H1 locs1 cells slots Q (F0 m (pc + 3) ls (v.toList ++ rest))) : W p l e R s m args below meth c H locs cells slots Q (F0 m pc ls st0) := by
  intro T hT X
  obtain ⟨v', st₀, t, T', L, h0, X', hL, e1, e2, ⟨hv, hP1, hz, hk⟩, st⟩ := hr T hT X
  cases hv
  obtain ⟨hP, hD, hS⟩ := hw
  rw [h0] at hz hk
  rw [← e1] at hP1 hz hk
  have hF := va_free2 hD hS hA hp
  obtain ⟨j1, j2⟩ := va_join2 hP hD hp ha hq hk hP1
  obtain ⟨t2, a1, b1⟩ := kk T'.heap (locs ++ L) ⟨j1, j2, Nat.le_trans hS.1 hz, fun q h1 h2 => by rw [hk q (Nat.lt_of_lt_of_le h1 hS.1) (fun z => h2 (hF q z))]; exact hS.2.1 q h1 h2, fun q hq => by
      rcases List.mem_append.mp hq with h | h
      · exact hS.2.2 q h
      · exact hF _ (hL q h)⟩ T' rfl X'
  exact ⟨t2, st t2 a1, b1⟩
theorem rVWp {q0 ci : Nat} {cq : vw_C} {fs : List Value} (S : CallFix p m c cc nL s args Ts own) (hM : MW l y ws fr lo g (.ref b :: As) wc v w1) (hT : GoodIn Ts (wsV own index C y ws)) {ws' : List Cond} (hw : ws = Cond.code y bytes maxL ret :: ws') (hd : y.cls = C ∧ y.cls ≠ "java/lang/invoke/MethodHandle" ∧ y.cls ≠ "java/lang/invoke/VarHandle" ∧ (parseMethodDescriptor y.desc).map (fun d => d.parameters.length) = some n)
    (hR : fr + 1 ≤ R.frames ∧ 8 + (maxL + 11) + lo ≤ R.locals) (hK : Kn g s) (hwk : Wk g A H0 H locs ws0) (hA : ∀ q, H0.size ≤ q → A q) (hp : List.Perm ws0 (wc ++ rs)) (ha : w1.map (·.1) = wc.map (·.1)) (hq : List.Perm wq (w1 ++ rs)) (hc : vwCl[ci]? = some cq) (he : wc[q0]? = some (b, .inr (ci, fs))) (hC : cq.1 = C) (hn : As.length = n) (hsize : ls.size = nL) (hstk : st0 = As.reverse ++ .ref b :: rest) (hW : (rest.map fun v => v.category).sum ≤ 8) (hdg : decode cc pc = .ok (.invokevirtual index, 3)) (hcs : cells ≤ R.cells ∧ slots ≤ R.slots)
    (kk : ∀ (H1 : Heap) (locs1 : List Loc), Wk g A H0 H1 locs1 wq → W p l e R s m args below meth c H1 locs1 cells slots Q (F0 m (pc + 3) ls (v.toList ++ rest))) : W p l e R s m args below meth c H locs cells slots Q (F0 m pc ls st0) := by
  subst hC
  have hPc : va_P g.1 vwCl wc H := hwk.1.pm hp
  refine cWp (va_runV S (hM H.size) (cwV n S.2.2.2.2 hT hw rfl rfl hd hR) ⟨PcW.blind, recv hK hPc q0 hc he, fun U hU hW => preW hK hPc (hwk.2.1.pm hp).left U hU hW⟩ rfl hn hsize hstk (lv_room hW) hdg ⟨hcs.1, hcs.2⟩) hwk hA hp ha hq kk
theorem rSWp (S : CallFix p m c cc nL s args Ts own) (hM : MW l y ws fr lo g As wc v w1) (hT : GoodIn Ts (va_wsS own index y ws)) {ws' : List Cond} (hw : ws = Cond.code y bytes maxL ret :: ws') (hd : y.cls ≠ "java/lang/invoke/MethodHandle" ∧ y.cls ≠ "java/lang/invoke/VarHandle" ∧ (parseMethodDescriptor y.desc).map (fun d => d.parameters.length) = some n)
    (hR : fr + 1 ≤ R.frames ∧ 8 + (maxL + 11) + lo ≤ R.locals) (hK : Kn g s) (hwk : Wk g A H0 H locs ws0) (hA : ∀ q, H0.size ≤ q → A q) (hp : List.Perm ws0 (wc ++ rs)) (ha : w1.map (·.1) = wc.map (·.1)) (hq : List.Perm wq (w1 ++ rs)) (hn : As.length = n) (hsize : ls.size = nL) (hstk : st0 = As.reverse ++ rest) (hW : (rest.map fun v => v.category).sum ≤ 8) (hdg : decode cc pc = .ok (.invokestatic index, 3)) (hcs : cells ≤ R.cells ∧ slots ≤ R.slots)
    (kk : ∀ (H1 : Heap) (locs1 : List Loc), Wk g A H0 H1 locs1 wq → W p l e R s m args below meth c H1 locs1 cells slots Q (F0 m (pc + 3) ls (v.toList ++ rest))) : W p l e R s m args below meth c H locs cells slots Q (F0 m pc ls st0) :=
  cWp (va_runS S (hM H.size) (va_cwS n S.2.2.2.2 hT hw rfl rfl hd hR) ⟨PcW.blind, fun U hU hW => preW hK (hwk.1.pm hp) (hwk.2.1.pm hp).left U hU hW⟩ rfl hn hsize hstk (lv_room hW) hdg ⟨hcs.1, hcs.2⟩) hwk hA hp ha hq kk
end PBASE
theorem pm_1_0 {α : Type} (b0 : List α) : List.Perm b0 (b0 ++ ([] : List α)) := by
  classical
  exact List.perm_iff_count.mpr (fun x => by simp only [List.count_append, List.count_nil] <;> omega)
theorem pm_2_0 {α : Type} (b0 b1 : List α) : List.Perm (b0 ++ b1) (b0 ++ b1) := by
  classical
  exact List.perm_iff_count.mpr (fun x => by simp only [List.count_append, List.count_nil] <;> omega)
theorem pm_2_0_1 {α : Type} (b0 b1 : List α) : List.Perm (b0 ++ b1) ((b0 ++ b1) ++ ([] : List α)) := by
  classical
  exact List.perm_iff_count.mpr (fun x => by simp only [List.count_append, List.count_nil] <;> omega)
theorem pm_2_1 {α : Type} (b0 b1 : List α) : List.Perm (b0 ++ b1) (b1 ++ b0) := by
  classical
  exact List.perm_iff_count.mpr (fun x => by simp only [List.count_append, List.count_nil] <;> omega)
theorem pm_3_0_1_2 {α : Type} (b0 b1 b2 : List α) : List.Perm (b0 ++ (b1 ++ b2)) ((b0 ++ (b1 ++ b2)) ++ ([] : List α)) := by
  classical
  exact List.perm_iff_count.mpr (fun x => by simp only [List.count_append, List.count_nil] <;> omega)
theorem pm_3_1 {α : Type} (b0 b1 b2 : List α) : List.Perm (b0 ++ (b1 ++ b2)) (b1 ++ (b0 ++ b2)) := by
  classical
  exact List.perm_iff_count.mpr (fun x => by simp only [List.count_append, List.count_nil] <;> omega)
theorem pm_3_2 {α : Type} (b0 b1 b2 : List α) : List.Perm (b0 ++ (b1 ++ b2)) (b2 ++ (b0 ++ b1)) := by
  classical
  exact List.perm_iff_count.mpr (fun x => by simp only [List.count_append, List.count_nil] <;> omega)
theorem pm_3_2_1 {α : Type} (b0 b1 b2 : List α) : List.Perm (b0 ++ (b1 ++ b2)) ((b2 ++ b1) ++ b0) := by
  classical
  exact List.perm_iff_count.mpr (fun x => by simp only [List.count_append, List.count_nil] <;> omega)
theorem pm_4_0_1_2_3 {α : Type} (b0 b1 b2 b3 : List α) : List.Perm (b0 ++ (b1 ++ (b2 ++ b3))) ((b0 ++ (b1 ++ (b2 ++ b3))) ++ ([] : List α)) := by
  classical
  exact List.perm_iff_count.mpr (fun x => by simp only [List.count_append, List.count_nil] <;> omega)
theorem pm_4_1 {α : Type} (b0 b1 b2 b3 : List α) : List.Perm (b0 ++ (b1 ++ (b2 ++ b3))) (b1 ++ (b0 ++ (b2 ++ b3))) := by
  classical
  exact List.perm_iff_count.mpr (fun x => by simp only [List.count_append, List.count_nil] <;> omega)
theorem pm_4_2 {α : Type} (b0 b1 b2 b3 : List α) : List.Perm (b0 ++ (b1 ++ (b2 ++ b3))) (b2 ++ (b0 ++ (b1 ++ b3))) := by
  classical
  exact List.perm_iff_count.mpr (fun x => by simp only [List.count_append, List.count_nil] <;> omega)
theorem pm_4_2_1 {α : Type} (b0 b1 b2 b3 : List α) : List.Perm (b0 ++ (b1 ++ (b2 ++ b3))) ((b2 ++ b1) ++ (b0 ++ b3)) := by
  classical
  exact List.perm_iff_count.mpr (fun x => by simp only [List.count_append, List.count_nil] <;> omega)
theorem pm_4_3 {α : Type} (b0 b1 b2 b3 : List α) : List.Perm (b0 ++ (b1 ++ (b2 ++ b3))) (b3 ++ (b0 ++ (b1 ++ b2))) := by
  classical
  exact List.perm_iff_count.mpr (fun x => by simp only [List.count_append, List.count_nil] <;> omega)
theorem pm_9_0_1_2_3_4_5_6_7_8 {α : Type} (b0 b1 b2 b3 b4 b5 b6 b7 b8 : List α) : List.Perm (b0 ++ (b1 ++ (b2 ++ (b3 ++ (b4 ++ (b5 ++ (b6 ++ (b7 ++ b8)))))))) ((b0 ++ (b1 ++ (b2 ++ (b3 ++ (b4 ++ (b5 ++ (b6 ++ (b7 ++ b8)))))))) ++ ([] : List α)) := by
  classical
  exact List.perm_iff_count.mpr (fun x => by simp only [List.count_append, List.count_nil] <;> omega)
theorem pm_9_1 {α : Type} (b0 b1 b2 b3 b4 b5 b6 b7 b8 : List α) : List.Perm (b0 ++ (b1 ++ (b2 ++ (b3 ++ (b4 ++ (b5 ++ (b6 ++ (b7 ++ b8)))))))) (b1 ++ (b0 ++ (b2 ++ (b3 ++ (b4 ++ (b5 ++ (b6 ++ (b7 ++ b8)))))))) := by
  classical
  exact List.perm_iff_count.mpr (fun x => by simp only [List.count_append, List.count_nil] <;> omega)
theorem pm_9_1_2 {α : Type} (b0 b1 b2 b3 b4 b5 b6 b7 b8 : List α) : List.Perm (b0 ++ (b1 ++ (b2 ++ (b3 ++ (b4 ++ (b5 ++ (b6 ++ (b7 ++ b8)))))))) ((b1 ++ b2) ++ (b0 ++ (b3 ++ (b4 ++ (b5 ++ (b6 ++ (b7 ++ b8))))))) := by
  classical
  exact List.perm_iff_count.mpr (fun x => by simp only [List.count_append, List.count_nil] <;> omega)
theorem pm_9_1_3 {α : Type} (b0 b1 b2 b3 b4 b5 b6 b7 b8 : List α) : List.Perm (b0 ++ (b1 ++ (b2 ++ (b3 ++ (b4 ++ (b5 ++ (b6 ++ (b7 ++ b8)))))))) ((b1 ++ b3) ++ (b0 ++ (b2 ++ (b4 ++ (b5 ++ (b6 ++ (b7 ++ b8))))))) := by
  classical
  exact List.perm_iff_count.mpr (fun x => by simp only [List.count_append, List.count_nil] <;> omega)
theorem pm_9_2_1 {α : Type} (b0 b1 b2 b3 b4 b5 b6 b7 b8 : List α) : List.Perm (b0 ++ (b1 ++ (b2 ++ (b3 ++ (b4 ++ (b5 ++ (b6 ++ (b7 ++ b8)))))))) ((b2 ++ b1) ++ (b0 ++ (b3 ++ (b4 ++ (b5 ++ (b6 ++ (b7 ++ b8))))))) := by
  classical
  exact List.perm_iff_count.mpr (fun x => by simp only [List.count_append, List.count_nil] <;> omega)
theorem pm_9_3 {α : Type} (b0 b1 b2 b3 b4 b5 b6 b7 b8 : List α) : List.Perm (b0 ++ (b1 ++ (b2 ++ (b3 ++ (b4 ++ (b5 ++ (b6 ++ (b7 ++ b8)))))))) (b3 ++ (b0 ++ (b1 ++ (b2 ++ (b4 ++ (b5 ++ (b6 ++ (b7 ++ b8)))))))) := by
  classical
  exact List.perm_iff_count.mpr (fun x => by simp only [List.count_append, List.count_nil] <;> omega)
theorem pm_9_3_1 {α : Type} (b0 b1 b2 b3 b4 b5 b6 b7 b8 : List α) : List.Perm (b0 ++ (b1 ++ (b2 ++ (b3 ++ (b4 ++ (b5 ++ (b6 ++ (b7 ++ b8)))))))) ((b3 ++ b1) ++ (b0 ++ (b2 ++ (b4 ++ (b5 ++ (b6 ++ (b7 ++ b8))))))) := by
  classical
  exact List.perm_iff_count.mpr (fun x => by simp only [List.count_append, List.count_nil] <;> omega)
theorem pm_9_4 {α : Type} (b0 b1 b2 b3 b4 b5 b6 b7 b8 : List α) : List.Perm (b0 ++ (b1 ++ (b2 ++ (b3 ++ (b4 ++ (b5 ++ (b6 ++ (b7 ++ b8)))))))) (b4 ++ (b0 ++ (b1 ++ (b2 ++ (b3 ++ (b5 ++ (b6 ++ (b7 ++ b8)))))))) := by
  classical
  exact List.perm_iff_count.mpr (fun x => by simp only [List.count_append, List.count_nil] <;> omega)
theorem pm_9_5 {α : Type} (b0 b1 b2 b3 b4 b5 b6 b7 b8 : List α) : List.Perm (b0 ++ (b1 ++ (b2 ++ (b3 ++ (b4 ++ (b5 ++ (b6 ++ (b7 ++ b8)))))))) (b5 ++ (b0 ++ (b1 ++ (b2 ++ (b3 ++ (b4 ++ (b6 ++ (b7 ++ b8)))))))) := by
  classical
  exact List.perm_iff_count.mpr (fun x => by simp only [List.count_append, List.count_nil] <;> omega)
theorem pm_9_6_1_3 {α : Type} (b0 b1 b2 b3 b4 b5 b6 b7 b8 : List α) : List.Perm (b0 ++ (b1 ++ (b2 ++ (b3 ++ (b4 ++ (b5 ++ (b6 ++ (b7 ++ b8)))))))) ((b6 ++ (b1 ++ b3)) ++ (b0 ++ (b2 ++ (b4 ++ (b5 ++ (b7 ++ b8)))))) := by
  classical
  exact List.perm_iff_count.mpr (fun x => by simp only [List.count_append, List.count_nil] <;> omega)
theorem pm_9_7_1_3 {α : Type} (b0 b1 b2 b3 b4 b5 b6 b7 b8 : List α) : List.Perm (b0 ++ (b1 ++ (b2 ++ (b3 ++ (b4 ++ (b5 ++ (b6 ++ (b7 ++ b8)))))))) ((b7 ++ (b1 ++ b3)) ++ (b0 ++ (b2 ++ (b4 ++ (b5 ++ (b6 ++ b8)))))) := by
  classical
  exact List.perm_iff_count.mpr (fun x => by simp only [List.count_append, List.count_nil] <;> omega)
theorem pm_9_8_1_3_4 {α : Type} (b0 b1 b2 b3 b4 b5 b6 b7 b8 : List α) : List.Perm (b0 ++ (b1 ++ (b2 ++ (b3 ++ (b4 ++ (b5 ++ (b6 ++ (b7 ++ b8)))))))) ((b8 ++ (b1 ++ (b3 ++ b4))) ++ (b0 ++ (b2 ++ (b5 ++ (b6 ++ b7))))) := by
  classical
  exact List.perm_iff_count.mpr (fun x => by simp only [List.count_append, List.count_nil] <;> omega)
