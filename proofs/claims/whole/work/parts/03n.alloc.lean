/-! ===== making: arrays, objects, constructors ===== -/
def QcI (g : Gm) (h0 : Nat) (w1 : (Nat → Nat → Nat) → va_W) (A : Nat → Prop) : Array Value → State → Outcome → State → Prop := fun _ st oc t => oc = .returned none ∧ (∃ a : Nat → Nat → Nat, a 0 0 = h0 ∧ va_P g.1 vwCl (w1 a) t.heap ∧ va_D A (w1 a)) ∧ va_F A st t
def MI (l : Launch) (y : MethodName) (ws : List Cond) (fr lo mc ms : Nat) (g : Gm) (av : List Value) (w0 : va_W) (h0 : Nat) (w1 : (Nat → Nat → Nat) → va_W) : Prop :=
  ∀ sz : Nat, Met l y ws ({ frames := fr, cells := mc, slots := ms, locals := lo }) (PcW g av w0 sz) (QcI g h0 w1 (va_A w0 sz)) mc ms (va_A w0 sz)
section ALC
variable {p : Program} {l : Launch} {e : Env} {R : Room} {s : State} {m : MethodId} {args : Array Value} {below : List Frame} {meth : Method} {c : Code} {H : Heap} {locs : List Loc} {cells slots : Nat} {Q : State → Prop}
variable {y : MethodName} {bytes cc : ByteArray} {maxL nL n index fr lo mc ms : Nat} {ret : Option FieldType} {ws Ts : List Cond} {own : String} {b a h0 : Addr} {As rest st0 : List Value} {g : Gm} {pc : Nat} {ls : Array Slot} {ws0 wq : va_W} {A : Nat → Prop}
theorem cls_int {cA : ClassId} (hK : Kn g s) (h : va_RA s cA .int) : cA = g.2 0 := Option.some.inj ((va_nm_int h).symm.trans (va_nm_int ((hK.1.2 0 _ rfl).2)))
theorem cls_long {cA : ClassId} (hK : Kn g s) (h : va_RA s cA .long) : cA = g.2 1 := Option.some.inj ((va_nm_long h).symm.trans (va_nm_long ((hK.1.2 1 _ rfl).2)))
theorem cls_aint {cA : ClassId} (hK : Kn g s) (h : va_RA s cA (.array .int)) : cA = g.2 2 := Option.some.inj (Eq.trans (Eq.symm (show s.vm.findClass ("[" ++ (FieldType.array .int).toString) = some cA from h)) (show s.vm.findClass ("[" ++ (FieldType.array .int).toString) = some (g.2 2) from (hK.1.2 2 _ rfl).2))
theorem cls_along {cA : ClassId} (hK : Kn g s) (h : va_RA s cA (.array .long)) : cA = g.2 3 := Option.some.inj (Eq.trans (Eq.symm (show s.vm.findClass ("[" ++ (FieldType.array .long).toString) = some cA from h)) (show s.vm.findClass ("[" ++ (FieldType.array .long).toString) = some (g.2 3) from (hK.1.2 3 _ rfl).2))
theorem wk_newi (hx : p.tables.exec = Jvm.exec) (hb : c.code = cc) (hts : ∀ w ∈ Ts, w.before args s = true) (harr : Cond.arrayClass .int ∈ Ts) (hK : Kn g s) (hw : Wk g A s.heap H locs ws0) (hA : ∀ q, s.heap.size ≤ q → A q) {k : Int32} (N : Nat) (hn : ¬ k < 0) (hN : k.toNatClampNeg = N) (hbytes : N * 4 ≤ 536870912) (hcells : cells + 1 ≤ R.cells) (hslots : slots + N ≤ R.slots) (hdg : decode cc pc = .ok (.newarray .int, 2))
    (kk : ∀ (q : Nat) (H1 : Heap), Wk g A s.heap H1 locs (ws0 ++ [(q, .inl (g.2 0, N, .inl (fun _ => 0)))]) → W p l e R s m args below meth c H1 locs (cells + 1) (slots + N) Q (F0 m (pc + 2) ls (.ref q :: rest))) : W p l e R s m args below meth c H locs cells slots Q (F0 m pc ls (.int k :: rest)) := by
  refine va_newa (atype := .int) (ty := .int) (N' := N) (a0 := (N, .inl (fun _ => 0))) hx hb (hts _ harr) rfl hK.1 hw.1 hw.2.1 hw.2.2 hA (fun cA => rfl) hn hN hbytes hcells hslots hdg (fun q cA H1 hK2 h1 h2 h3 => ?_)
  have e : cA = g.2 0 := cls_int hK ((hK2.2 4 (cA, .int) rfl).2)
  subst e
  exact kk q H1 ⟨h1, h2, h3⟩
theorem wk_newl (hx : p.tables.exec = Jvm.exec) (hb : c.code = cc) (hts : ∀ w ∈ Ts, w.before args s = true) (harr : Cond.arrayClass .long ∈ Ts) (hK : Kn g s) (hw : Wk g A s.heap H locs ws0) (hA : ∀ q, s.heap.size ≤ q → A q) {k : Int32} (N : Nat) (hn : ¬ k < 0) (hN : k.toNatClampNeg = N) (hbytes : N * 8 ≤ 536870912) (hcells : cells + 1 ≤ R.cells) (hslots : slots + N ≤ R.slots) (hdg : decode cc pc = .ok (.newarray .long, 2))
    (kk : ∀ (q : Nat) (H1 : Heap), Wk g A s.heap H1 locs (ws0 ++ [(q, .inl (g.2 1, N, .inr (.inl (fun _ => 0))))]) → W p l e R s m args below meth c H1 locs (cells + 1) (slots + N) Q (F0 m (pc + 2) ls (.ref q :: rest))) : W p l e R s m args below meth c H locs cells slots Q (F0 m pc ls (.int k :: rest)) := by
  refine va_newa (atype := .long) (ty := .long) (N' := N) (a0 := (N, .inr (.inl (fun _ => 0)))) hx hb (hts _ harr) rfl hK.1 hw.1 hw.2.1 hw.2.2 hA (fun cA => rfl) hn hN hbytes hcells hslots hdg (fun q cA H1 hK2 h1 h2 h3 => ?_)
  have e : cA = g.2 1 := cls_long hK ((hK2.2 4 (cA, .long) rfl).2)
  subst e
  exact kk q H1 ⟨h1, h2, h3⟩
theorem wk_newo {C : String} {T : u_T} {N ci : Nat} (hx : p.tables.exec = Jvm.exec) (hb : c.code = cc) (hts : ∀ w ∈ Ts, w.before args s = true) (hin : ∀ w ∈ u_ws C T N, w ∈ Ts) (ty : Nat → FieldType) (hty : ∀ k, k < N → parseFieldDescriptor (T k).2.2.1 = some (ty k)) (hown : s.vm.findClass own = some m.cls) (hcl : Cond.classLink own index C ∈ Ts) (hinst : Cond.instantiable C N ∈ Ts) (hini : Cond.initialized C ∈ Ts) (hK : Kn g s) (hw : Wk g A s.heap H locs ws0) (hA : ∀ q, s.heap.size ≤ q → A q) (hc : vwCl[ci]? = some (C, T, N)) (fs : List Value) (hfs : ∀ j, j < N → defaultValue (ty j) = vp_V fs j) (hcells : cells + 1 ≤ R.cells) (hslots : slots + N ≤ R.slots) (hdg : decode cc pc = .ok (.new index, 3))
    (kk : ∀ (q : Nat) (H1 : Heap), Wk g A s.heap H1 locs (ws0 ++ [(q, .inr (ci, fs))]) → W p l e R s m args below meth c H1 locs (cells + 1) (slots + N) Q (F0 m (pc + 3) ls (.ref q :: rest))) : W p l e R s m args below meth c H locs cells slots Q (F0 m pc ls rest) :=
  va_new hx hb hts hin ty hty hown (hts _ hcl) (hts _ hinst) (hts _ hini) hK.1 hw.1 hw.2.1 hw.2.2 hA hc hfs hcells hslots hdg (fun q H1 h1 h2 h3 => kk q H1 ⟨h1, h2, h3⟩)
theorem wk_putF {ref C : String} {T : u_T} {N : Nat} (hx : p.tables.exec = Jvm.exec) (hb : c.code = cc) (hts : ∀ w ∈ Ts, w.before args s = true) (hin : ∀ w ∈ u_ws C T N, w ∈ Ts) (ty0 : Nat → FieldType) (hty : ∀ k, k < N → parseFieldDescriptor (T k).2.2.1 = some (ty0 k)) (hnm : ∀ a, a < N → ∀ b, b < N → a ≠ b → (T a).2.1 ≠ (T b).2.1) (hown : s.vm.findClass own = some m.cls) (hK : Kn g s) (hw : Wk g A s.heap H locs ws0) (hname : meth.name = "<init>") (ci q0 k : Nat) {fs : List Value} {vv : Value} (he : ws0[q0]? = some (a, .inr (ci, fs))) (hc : vwCl[ci]? = some (C, T, N)) (hk : k < N) (hlink : Cond.fieldLink own index ref (T k).2.1 (T k).2.2.1 ∈ Ts) (hr : (T k).1 = ref) (hr2 : (T k).1 = own) (hfin : (T k).2.2.2 = true) (hn : narrow (ty0 k) vv = vv) (hfit : fits (ty0 k) vv = true) (hl : k < fs.length) (hdg : decode cc pc = .ok (.putfield index, 3)) (hq : ws0.set q0 (a, .inr (ci, fs.set k vv)) = wq)
    (kk : ∀ (H1 : Heap) (locs1 : List Loc), Wk g A s.heap H1 locs1 wq → W p l e R s m args below meth c H1 locs1 cells slots Q (F0 m (pc + 3) ls rest)) : W p l e R s m args below meth c H locs cells slots Q (F0 m pc ls (vv :: .ref a :: rest)) := by
  subst hr
  subst hq
  exact va_putF hx hb hts hin ty0 hty hnm hown hK.1 hw.1 hw.2.1 hw.2.2 q0 he hc k hk (hts _ hlink) (fun _ h9 => h9) hfin hname hr2 (hty k hk) hn hfit hl hdg (fun H1 locs1 h1 h2 h3 => kk H1 locs1 ⟨h1, h2, h3⟩)
theorem cell_some (c0 : ClassId) (n : Nat) (r : Nat → Nat) : vp_cell c0 (n, .inr (.inr (.inr (.inr (fun i => if i < n then some (r i) else none))))) = vp_cell c0 (n, .inr (.inr (.inr (.inr (fun i => some (r i)))))) := by
  rw [vp_cell_q, vp_cell_q]
  unfold arrV
  congr 2
  funext j
  show va_rf (if j.val < n then some (r j.val) else none) = va_rf (some (r j.val))
  rw [if_pos j.isLt]
theorem mn_world {X : va_W} {q : Nat} {r : Nat → Nat} {c0 c1 : ClassId} {N : Nat} {z : vp_A} {H1 : Heap} {f : Nat → va_E} (hP : va_P g.1 vwCl ((X ++ [(q, .inl (c0, N, .inr (.inr (.inr (.inr (fun i => if i < N then some (r i) else none))))))]) ++ va_pl (([] : List Nat) ++ (List.range N).map r) (vr_up f ((List.range N).map r) (.inl (c1, z)))) H1) : va_P g.1 vwCl ((X ++ [(q, .inl (c0, N, .inr (.inr (.inr (.inr (fun i => some (r i)))))))]) ++ (List.range N).map (fun i => (r i, .inl (c1, z)))) H1 := by
  have e : va_pl (([] : List Nat) ++ (List.range N).map r) (vr_up f ((List.range N).map r) (.inl (c1, z))) = (List.range N).map (fun i => ((r i, .inl (c1, z)) : Nat × va_E)) := by
    unfold va_pl
    rw [List.nil_append, List.map_map]
    apply List.map_congr_left
    intro i hi
    show (r i, vr_up f ((List.range N).map r) (.inl (c1, z)) (r i)) = _
    rw [vr_up_in (List.mem_map.mpr ⟨i, hi, rfl⟩)]
  rw [e] at hP
  intro k x hk
  by_cases h1 : k < X.length
  · refine hP k x ?_
    rw [List.getElem?_append_left (by simp; omega), List.getElem?_append_left h1] at hk
    rw [List.getElem?_append_left (by simp; omega), List.getElem?_append_left h1]
    exact hk
  · by_cases h2 : k = X.length
    · subst h2
      have h3 := hP X.length (q, .inl (c0, N, .inr (.inr (.inr (.inr (fun i => if i < N then some (r i) else none)))))) (by rw [List.getElem?_append_left (by simp), List.getElem?_append_right (by omega), Nat.sub_self]; rfl)
      rw [List.getElem?_append_left (by simp), List.getElem?_append_right (by omega), Nat.sub_self] at hk
      cases hk
      show H1[q]? = some (vp_cell _ _)
      rw [← cell_some]
      exact h3
    · refine hP k x ?_
      rw [List.getElem?_append_right (by simp; omega)] at hk ⊢
      simpa using hk
theorem mn_worldD {X : va_W} {q : Nat} {r : Nat → Nat} {c0 c1 : ClassId} {N : Nat} {z : vp_A} {f : Nat → va_E} (hD : va_D A ((X ++ [(q, .inl (c0, N, .inr (.inr (.inr (.inr (fun i => if i < N then some (r i) else none))))))]) ++ va_pl (([] : List Nat) ++ (List.range N).map r) (vr_up f ((List.range N).map r) (.inl (c1, z))))) : va_D A ((X ++ [(q, .inl (c0, N, .inr (.inr (.inr (.inr (fun i => some (r i)))))))]) ++ (List.range N).map (fun i => (r i, .inl (c1, z)))) := by
  have key : ∀ (k : Nat) (x : Nat × va_E), ((X ++ [(q, .inl (c0, N, .inr (.inr (.inr (.inr (fun i => some (r i)))))))]) ++ (List.range N).map (fun i => ((r i, .inl (c1, z)) : Nat × va_E)))[k]? = some x → ∃ x0, ((X ++ [(q, .inl (c0, N, .inr (.inr (.inr (.inr (fun i => if i < N then some (r i) else none))))))]) ++ va_pl (([] : List Nat) ++ (List.range N).map r) (vr_up f ((List.range N).map r) (.inl (c1, z))))[k]? = some x0 ∧ x0.1 = x.1 := by
    intro k x hk
    by_cases h1 : k < X.length
    · rw [List.getElem?_append_left (by simp; omega), List.getElem?_append_left h1] at hk
      exact ⟨x, by rw [List.getElem?_append_left (by simp; omega), List.getElem?_append_left h1]; exact hk, rfl⟩
    · by_cases h2 : k = X.length
      · subst h2
        rw [List.getElem?_append_left (by simp), List.getElem?_append_right (by omega), Nat.sub_self] at hk
        cases hk
        exact ⟨(q, .inl (c0, N, .inr (.inr (.inr (.inr (fun i => if i < N then some (r i) else none)))))), by rw [List.getElem?_append_left (by simp), List.getElem?_append_right (by omega), Nat.sub_self]; rfl, rfl⟩
      · rw [List.getElem?_append_right (by simp; omega)] at hk ⊢
        simp only [List.length_append, List.length_cons, List.length_nil] at hk ⊢
        unfold va_pl
        rw [List.nil_append, List.getElem?_map, List.getElem?_map]
        rw [List.getElem?_map] at hk
        cases hr : (List.range N)[k - (X.length + (0 + 1))]? with
        | none => rw [hr] at hk; cases hk
        | some i => rw [hr] at hk; cases hk; exact ⟨_, rfl, rfl⟩
  refine ⟨fun i j x x2 hx hy hxy => ?_, fun k x hk => ?_⟩
  · obtain ⟨x0, h1, h2⟩ := key i x hx
    obtain ⟨y0, h3, h4⟩ := key j x2 hy
    exact hD.1 i j x0 y0 h1 h3 (h2.trans (hxy.trans h4.symm))
  · obtain ⟨x0, h1, h2⟩ := key k x hk
    rw [← h2]
    exact hD.2 k x0 h1
theorem wk_mnl (hx : p.tables.exec = Jvm.exec) (hb : c.code = cc) (hts : ∀ w ∈ Ts, w.before args s = true) (hown : s.vm.findClass own = some m.cls) (hcl : Cond.classLink own index "[[J" ∈ Ts) (harr : Cond.arrayClass .long ∈ Ts) (hK : Kn g s) (hw : Wk g A s.heap H locs ws0) (hA : ∀ q, s.heap.size ≤ q → A q) {n k : Int32} (N K : Nat) (hn : ¬ n < 0) (hk : ¬ k < 0) (hN : n.toNatClampNeg = N) (hM : k.toNatClampNeg = K) (hb1 : N * 4 ≤ 536870912) (hb2 : K * 8 ≤ 536870912) (hb3 : K ≤ 536870912) (hcells : cells + (1 + N) ≤ R.cells) (hslots : slots + (N + N * K) ≤ R.slots) (hdg : decode cc pc = .ok (.multianewarray index 2, 4))
    (kk : ∀ (q : Nat) (r : Nat → Nat) (H1 : Heap), Wk g A s.heap H1 locs ((ws0 ++ [(q, .inl (g.2 3, N, .inr (.inr (.inr (.inr (fun i => some (r i)))))))]) ++ (List.range N).map (fun i => (r i, .inl (g.2 1, K, .inr (.inl (fun _ => 0)))))) → W p l e R s m args below meth c H1 locs (cells + 1 + N) (slots + N + N * K) Q (F0 m (pc + 4) ls (.ref q :: rest))) : W p l e R s m args below meth c H locs cells slots Q (F0 m pc ls (.int k :: .int n :: rest)) := by
  refine va_mna (X := ws0) (L := []) (f := fun _ => .inr (0, [])) (ty := .long) (cy := g.2 1) (z := (K, .inr (.inl (fun _ => 0)))) hx hb hown (hts _ hcl) hK.2.2.2 (hts _ harr) (va_nm_long ((hK.1.2 1 _ rfl).2)) hK.1 (by rw [show ws0 ++ va_pl [] (fun _ => .inr (0, [])) = ws0 from List.append_nil _]; exact hw.1) (by rw [show ws0 ++ va_pl [] (fun _ => .inr (0, [])) = ws0 from List.append_nil _]; exact hw.2.1) hw.2.2 hA hn hk hN hM hb1 hb2 hb3 rfl rfl hcells hslots (fun cA => ?_) hdg (fun q r cA H1 hr1 hr2 hK2 h1 h2 h3 => ?_)
  · show ({ cls := cA, slots := Array.replicate K (.long 0), vm := .none } : Cell) = arrV cA K (fun _ => .long 0)
    exact arrV_new _ _ _
  · have e : cA = g.2 3 := cls_along hK ((hK2.2 4 (cA, .array .long) rfl).2)
    subst e
    exact kk q r H1 ⟨mn_world h1, mn_worldD h2, h3⟩
theorem wk_mni (hx : p.tables.exec = Jvm.exec) (hb : c.code = cc) (hts : ∀ w ∈ Ts, w.before args s = true) (hown : s.vm.findClass own = some m.cls) (hcl : Cond.classLink own index "[[I" ∈ Ts) (harr : Cond.arrayClass .int ∈ Ts) (hK : Kn g s) (hw : Wk g A s.heap H locs ws0) (hA : ∀ q, s.heap.size ≤ q → A q) {n k : Int32} (N K : Nat) (hn : ¬ n < 0) (hk : ¬ k < 0) (hN : n.toNatClampNeg = N) (hM : k.toNatClampNeg = K) (hb1 : N * 4 ≤ 536870912) (hb2 : K * 4 ≤ 536870912) (hb3 : K ≤ 536870912) (hcells : cells + (1 + N) ≤ R.cells) (hslots : slots + (N + N * K) ≤ R.slots) (hdg : decode cc pc = .ok (.multianewarray index 2, 4))
    (kk : ∀ (q : Nat) (r : Nat → Nat) (H1 : Heap), Wk g A s.heap H1 locs ((ws0 ++ [(q, .inl (g.2 2, N, .inr (.inr (.inr (.inr (fun i => some (r i)))))))]) ++ (List.range N).map (fun i => (r i, .inl (g.2 0, K, .inl (fun _ => 0))))) → W p l e R s m args below meth c H1 locs (cells + 1 + N) (slots + N + N * K) Q (F0 m (pc + 4) ls (.ref q :: rest))) : W p l e R s m args below meth c H locs cells slots Q (F0 m pc ls (.int k :: .int n :: rest)) := by
  refine va_mna (X := ws0) (L := []) (f := fun _ => .inr (0, [])) (ty := .int) (cy := g.2 0) (z := (K, .inl (fun _ => 0))) hx hb hown (hts _ hcl) hK.2.2.1 (hts _ harr) (va_nm_int ((hK.1.2 0 _ rfl).2)) hK.1 (by rw [show ws0 ++ va_pl [] (fun _ => .inr (0, [])) = ws0 from List.append_nil _]; exact hw.1) (by rw [show ws0 ++ va_pl [] (fun _ => .inr (0, [])) = ws0 from List.append_nil _]; exact hw.2.1) hw.2.2 hA hn hk hN hM hb1 hb2 hb3 rfl rfl hcells hslots (fun cA => ?_) hdg (fun q r cA H1 hr1 hr2 hK2 h1 h2 h3 => ?_)
  · show ({ cls := cA, slots := Array.replicate K (.int 0), vm := .none } : Cell) = arrV cA K (fun _ => .int 0)
    exact arrV_new _ _ _
  · have e : cA = g.2 2 := cls_aint hK ((hK2.2 4 (cA, .array .int) rfl).2)
    subst e
    exact kk q r H1 ⟨mn_world h1, mn_worldD h2, h3⟩
/-- a constructor's call: the object's cell goes in, its whole shape comes back behind the rest -/
theorem cI {a0 : Array Value} {w1 : (Nat → Nat → Nat) → va_W} {wc wr : va_W} (hr : va_Run p l e R s m args below meth c H locs cells slots mc ms (F0 m pc ls st0) rest (QcI g b w1 (va_A wc H.size) a0) (va_A wc H.size)) (hw : Wk g A s.heap H locs ws0) (hA : ∀ q, s.heap.size ≤ q → A q) (isC isR : List Nat) (hC : isC.map (fun i => ws0[i]?) = wc.map some) (hR : isR.map (fun i => ws0[i]?) = wr.map some) (hn : va_nd isR = true) (hdis : ∀ i ∈ isR, i ∉ isC)
    (kk : ∀ (a : Nat → Nat → Nat) (H1 : Heap) (locs1 : List Loc), a 0 0 = b → Wk g A s.heap H1 locs1 (wr ++ w1 a) → W p l e R s m args below meth c H1 locs1 (cells + mc) (slots + ms) Q (F0 m (pc + 3) ls rest)) : W p l e R s m args below meth c H locs cells slots Q (F0 m pc ls st0) := by
  intro T hT X
  obtain ⟨v', st₀, t, T', L, h0, X', hL, e1, e2, ⟨hv, ⟨a1, ha, hP1, hD1⟩, hz, hk⟩, st⟩ := hr T hT X
  cases hv
  obtain ⟨hP, hD, hS⟩ := hw
  rw [h0] at hz hk
  rw [← e1] at hP1 hz hk
  have hF := va_free (wc := wc) hD hS hA isC hC
  obtain ⟨j1, j2⟩ := va_join hP hD isC isR hC hR hn hdis hk hF hP1 hD1
  obtain ⟨t2, a1', b1⟩ := kk a1 T'.heap (locs ++ L) ha ⟨j1, j2, Nat.le_trans hS.1 hz, fun q h1 h2 => by rw [hk q (Nat.lt_of_lt_of_le h1 hS.1) (fun z => h2 (hF q z))]; exact hS.2.1 q h1 h2, fun q hq => by
      rcases List.mem_append.mp hq with h | h
      · exact hS.2.2 q h
      · exact hF _ (hL q h)⟩ T' rfl X'
  exact ⟨t2, st t2 a1', b1⟩
theorem rI {w1 : (Nat → Nat → Nat) → va_W} {wc wr : va_W} (S : CallFix p m c cc nL s args Ts own) (hM : MI l y ws fr lo mc ms g (.ref b :: As) wc b w1) (hG : GoodIn Ts ws) {ws' : List Cond} (hww : ws = Cond.code y bytes maxL none :: ws') (hini : Cond.initialized y.cls ∈ Ts) (hl : Cond.methodLink own index y ∈ Ts) (hin : Cond.instanceMethod y ∈ Ts) (hy1 : y.name = "<init>") (hd : y.cls ≠ "java/lang/invoke/MethodHandle" ∧ y.cls ≠ "java/lang/invoke/VarHandle" ∧ (parseMethodDescriptor y.desc).map (fun d => d.parameters.length) = some n) (hRm : fr + 1 ≤ R.frames ∧ 8 + (maxL + 11) + lo ≤ R.locals)
    (hK : Kn g s) (hw : Wk g A s.heap H locs ws0) (hA : ∀ q, s.heap.size ≤ q → A q) (isC isR : List Nat) (hnc : va_nd isC = true) (hC : isC.map (fun i => ws0[i]?) = wc.map some) (hR : isR.map (fun i => ws0[i]?) = wr.map some) (hnd : va_nd isR = true) (hdis : ∀ i ∈ isR, i ∉ isC) (hn : As.length = n) (hsize : ls.size = nL) (hstk : st0 = As.reverse ++ .ref b :: rest) (hW : (rest.map fun v => v.category).sum ≤ 8) (hdg : decode cc pc = .ok (.invokespecial index, 3)) (hcs : cells + mc ≤ R.cells ∧ slots + ms ≤ R.slots)
    (kk : ∀ (a : Nat → Nat → Nat) (H1 : Heap) (locs1 : List Loc), a 0 0 = b → Wk g A s.heap H1 locs1 (wr ++ w1 a) → W p l e R s m args below meth c H1 locs1 (cells + mc) (slots + ms) Q (F0 m (pc + 3) ls rest)) : W p l e R s m args below meth c H locs cells slots Q (F0 m pc ls st0) :=
  cI (va_runI S (hM H.size) (cwI n S.2.2.2.2 hG hww rfl rfl (S.2.2.2.2 _ hini) (S.2.2.2.2 _ hl) (S.2.2.2.2 _ hin) hy1 hd hRm) ⟨PcW.blind, fun U hU hWm => preW hK (hP_sub hw.1 isC hC) (hw.2.1.sub isC hnc hC) U hU hWm⟩ rfl hn hsize hstk (lv_room hW) hdg hcs) hw hA isC isR hC hR hnd hdis kk
theorem rIN {w1 : (Nat → Nat → Nat) → va_W} {wc wr : va_W} (S : CallFix p m c cc nL s args Ts own) (hM : MI l y ws fr lo mc ms g (.ref b :: As) wc b w1) (hG : GoodIn Ts ws) {ws' : List Cond} (hww : ws = Cond.code y bytes maxL none :: ws') (hini : Cond.initialized y.cls ∈ Ts) (kn : Nat) (hkn : nestL[kn]? = some (own, index, y)) (hin : Cond.instanceMethod y ∈ Ts) (hy1 : y.name = "<init>") (hd : y.cls ≠ "java/lang/invoke/MethodHandle" ∧ y.cls ≠ "java/lang/invoke/VarHandle" ∧ (parseMethodDescriptor y.desc).map (fun d => d.parameters.length) = some n) (hRm : fr + 1 ≤ R.frames ∧ 8 + (maxL + 11) + lo ≤ R.locals)
    (hK : Kn g s) (hw : Wk g A s.heap H locs ws0) (hA : ∀ q, s.heap.size ≤ q → A q) (isC isR : List Nat) (hnc : va_nd isC = true) (hC : isC.map (fun i => ws0[i]?) = wc.map some) (hR : isR.map (fun i => ws0[i]?) = wr.map some) (hnd : va_nd isR = true) (hdis : ∀ i ∈ isR, i ∉ isC) (hn : As.length = n) (hsize : ls.size = nL) (hstk : st0 = As.reverse ++ .ref b :: rest) (hW : (rest.map fun v => v.category).sum ≤ 8) (hdg : decode cc pc = .ok (.invokespecial index, 3)) (hcs : cells + mc ≤ R.cells ∧ slots + ms ≤ R.slots)
    (kk : ∀ (a : Nat → Nat → Nat) (H1 : Heap) (locs1 : List Loc), a 0 0 = b → Wk g A s.heap H1 locs1 (wr ++ w1 a) → W p l e R s m args below meth c H1 locs1 (cells + mc) (slots + ms) Q (F0 m (pc + 3) ls rest)) : W p l e R s m args below meth c H locs cells slots Q (F0 m pc ls st0) :=
  cI (va_runIN S (hM H.size) ⟨va_cnB n S.2.2.2.2 hG hww rfl rfl (hK.2.1 _ (List.mem_of_getElem? hkn)) (S.2.2.2.2 _ hini) hd hRm, hy1, S.2.2.2.2 _ hin⟩ ⟨PcW.blind, fun U hU hWm => preW hK (hP_sub hw.1 isC hC) (hw.2.1.sub isC hnc hC) U hU hWm⟩ rfl hn hsize hstk (lv_room hW) hdg hcs) hw hA isC isR hC hR hnd hdis kk
end ALC
