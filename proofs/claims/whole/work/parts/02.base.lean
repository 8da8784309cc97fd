/-! ===== base: states as functions, worlds, the two forms of a contract, calls by one row ===== -/
abbrev TS : Type := Nat → Nat → Int32
abbrev LTS : Type := Nat → Nat → Int64
def up (T : TS) (k : Nat) (f : Nat → Int32) : TS := fun i => if i = k then f else T i
def upL (T : LTS) (k : Nat) (f : Nat → Int64) : LTS := fun i => if i = k then f else T i
theorem up_same (T : TS) (k : Nat) (f : Nat → Int32) : up T k f k = f := if_pos rfl
theorem up_ne (T : TS) {k j : Nat} (f : Nat → Int32) (h : j ≠ k) : up T k f j = T j := if_neg h
theorem upL_same (T : LTS) (k : Nat) (f : Nat → Int64) : upL T k f k = f := if_pos rfl
theorem upL_ne (T : LTS) {k j : Nat} (f : Nat → Int64) (h : j ≠ k) : upL T k f j = T j := if_neg h
abbrev Gm : Type := va_G × (Nat → ClassId)
abbrev tysG (g : Gm) : List (ClassId × FieldType) := [(g.2 0, .int), (g.2 1, .long), (g.2 2, .array .int), (g.2 3, .array .long)]
def nestL : List (String × Nat × MethodName) := [(RX6, 9, yX5_init), (RX6, 24, yX3_init), (RX6, 31, yX4_init), (RX3, 33, yX6_isShelf), (RX5, 81, yX6_firstOf), (RX5, 94, yX6_firstBits), (RX5, 65, yX6_has), (RX5, 61, yX6_with), (RX4, 55, yX6_isWithin), (RX4, 59, yX6_has), (RX2, 36, yX6_has), (RX1, 79, yX6_has), (RX1, 91, yX6_with), (RX0, 58, yX6_has), (RX0, 72, yX6_with)]
def Nst (U : State) : Prop := ∀ q ∈ nestL, va_Nw (.methodLinkNest q.1 q.2.1 q.2.2 RX6) U
theorem Nst.warm {s U : State} (hW : s.WarmedH U.vm) (h : Nst s) : Nst U := fun q hq => va_Nw.warmM hW (h q hq)
theorem Nst.same {u U : State} (hv : u.vm = U.vm) (h : Nst u) : Nst U := fun q hq => va_Nw.same rfl hv (h q hq)
theorem va_AOA.vm {ty : FieldType} {u U : State} (h : u.vm = U.vm) (hb : va_AOA ty u) : va_AOA ty U := by
  unfold va_AOA Cond.before Cond.holds at hb ⊢
  simp only [Cond.value] at hb ⊢
  rw [← h]
  exact hb
theorem va_AOA.moved {ty : FieldType} {u U : State} (hvm : u.vm.Alike U.vm) (h : va_AOA ty u) : va_AOA ty U := va_AOA.vm (u := u.setVm U.vm) rfl (by show (Cond.arrayOver (.array ty)).before #[] (u.setVm U.vm) = true; rw [Cond.arrayOver_setVmC hvm]; exact h)
def Kn (g : Gm) (U : State) : Prop := va_K g.1 vwCl (tysG g) U ∧ Nst U ∧ va_AOA .int U ∧ va_AOA .long U
theorem Kn.warm {g : Gm} {s U : State} (hW : s.WarmedH U.vm) (h : Kn g s) : Kn g U := ⟨va_K.moved hW.alike h.1, h.2.1.warm hW, h.2.2.1.moved hW.alike, h.2.2.2.moved hW.alike⟩
theorem Kn.call {g : Gm} {U : State} {fr : JFrame} {mk : MethodId} {a : Array Value} (h : Kn g U) : Kn g (U.calling fr mk a) := ⟨va_K.moved (u := U) (U := U.calling fr mk a) (Vm.Alike.refl U.vm) h.1, Nst.same (u := U) rfl h.2.1, va_AOA.moved (u := U) (U := U.calling fr mk a) (Vm.Alike.refl U.vm) h.2.2.1, va_AOA.moved (u := U) (U := U.calling fr mk a) (Vm.Alike.refl U.vm) h.2.2.2⟩
def Wk (g : Gm) (A : Nat → Prop) (H0 H : Heap) (locs : List Loc) (ws : va_W) : Prop := va_P g.1 vwCl ws H ∧ va_D A ws ∧ va_S A H0 H locs
/-- a writing method's start and end -/
def PcW (g : Gm) (av : List Value) (ws : va_W) (sz : Nat) : Array Value → State → Prop := fun v U => v = av.toArray ∧ U.heap.size = sz ∧ va_P g.1 vwCl ws U.heap ∧ Kn g U ∧ va_D (fun _ => True) ws
def QcW (g : Gm) (v : Option Value) (w1 : va_W) (A : Nat → Prop) : Array Value → State → Outcome → State → Prop := fun _ st oc t => oc = .returned v ∧ va_P g.1 vwCl w1 t.heap ∧ va_F A st t
/-- a reading one's -/
def PcR (g : Gm) (av : List Value) (ws : va_W) : Array Value → State → Prop := fun v U => v = av.toArray ∧ va_P g.1 vwCl ws U.heap ∧ Kn g U
def QcR (v : Option Value) : Array Value → State → Outcome → State → Prop := fun _ st oc t => oc = .returned v ∧ t.heap = st.heap
theorem PcW.blind {g : Gm} {av : List Value} {ws : va_W} {sz : Nat} : FrameBlind (PcW g av ws sz) := fun _ _ _ _ q => ⟨q.1, q.2.1, q.2.2.1, q.2.2.2.1.call, q.2.2.2.2⟩
theorem PcR.blind {g : Gm} {av : List Value} {ws : va_W} : FrameBlind (PcR g av ws) := fun _ _ _ _ q => ⟨q.1, q.2.1, q.2.2.call⟩
def MW (l : Launch) (y : MethodName) (ws : List Cond) (fr lo : Nat) (g : Gm) (av : List Value) (wc : va_W) (v : Option Value) (w1 : va_W) : Prop :=
  ∀ sz : Nat, Met l y ws ({ frames := fr, cells := 0, slots := 0, locals := lo }) (PcW g av wc sz) (QcW g v w1 (va_A wc sz)) 0 0 (va_A wc sz)
def MR (l : Launch) (y : MethodName) (ws : List Cond) (fr lo : Nat) (g : Gm) (av : List Value) (wc : va_W) (v : Option Value) : Prop :=
  Met l y ws ({ frames := fr, cells := 0, slots := 0, locals := lo }) (PcR g av wc) (QcR v) 0 0 (fun _ => False)
/-- cells of a world changed, at their places -/
def stAll : va_W → List Nat → va_W → va_W
  | ws, i :: is, x :: xs => stAll (ws.set i x) is xs
  | ws, _, _ => ws
theorem stAll_len : ∀ (is : List Nat) (ws w1 : va_W), (stAll ws is w1).length = ws.length
  | [], ws, w1 => by cases w1 <;> rfl
  | i :: is, ws, [] => rfl
  | i :: is, ws, x :: xs => by show (stAll (ws.set i x) is xs).length = _; rw [stAll_len is, List.length_set]
theorem stAll_get : ∀ (is : List Nat) (ws w1 : va_W) (k : Nat) (q : Nat × va_E), (stAll ws is w1)[k]? = some q → (∃ j : Nat, is[j]? = some k ∧ w1[j]? = some q) ∨ (ws[k]? = some q ∧ ∀ j : Nat, j < w1.length → is[j]? ≠ some k)
  | [], ws, w1, k, q, h => Or.inr ⟨by cases w1 <;> exact h, fun j _ e => by simp at e⟩
  | i :: is, ws, [], k, q, h => Or.inr ⟨h, fun j hj => absurd hj (Nat.not_lt_zero j)⟩
  | i :: is, ws, x :: xs, k, q, h => by
    rcases stAll_get is (ws.set i x) xs k q h with ⟨j, h1, h2⟩ | ⟨h1, h2⟩
    · exact Or.inl ⟨j + 1, by rw [List.getElem?_cons_succ]; exact h1, by rw [List.getElem?_cons_succ]; exact h2⟩
    · by_cases hk : k = i
      · subst hk
        have hl : k < ws.length := by
          have := (List.getElem?_eq_some_iff.mp h1).1
          rwa [List.length_set] at this
        rw [List.getElem?_set_self hl] at h1
        exact Or.inl ⟨0, rfl, h1⟩
      · rw [List.getElem?_set_ne (Ne.symm hk)] at h1
        refine Or.inr ⟨h1, fun j hj => ?_⟩
        cases j with
        | zero => intro e; exact hk (Option.some.inj e).symm
        | succ j => rw [List.getElem?_cons_succ]; exact h2 j (by simpa using hj)
theorem stAll_join {g : Gm} {A0 : Nat → Prop} {ws wc w1 : va_W} {H H1 : Heap} (hP : va_P g.1 vwCl ws H) (hD : va_D A0 ws) (is : List Nat) (hC : is.map (fun i => ws[i]?) = wc.map some) (ha : w1.map (·.1) = wc.map (·.1)) (hk : ∀ q : Nat, q < H.size → ¬ va_A wc H.size q → H1[q]? = H[q]?) (hP1 : va_P g.1 vwCl w1 H1) : va_P g.1 vwCl (stAll ws is w1) H1 ∧ va_D A0 (stAll ws is w1) := by
  have len : is.length = wc.length := by have := congrArg List.length hC; simpa using this
  have len1 : w1.length = wc.length := by have := congrArg List.length ha; simpa using this
  have atC : ∀ (j : Nat) (k : Nat) (q : Nat × va_E), is[j]? = some k → w1[j]? = some q → ∃ q0, ws[k]? = some q0 ∧ q0.1 = q.1 := by
    intro j k q h1 h2
    have hj : j < wc.length := by have := (List.getElem?_eq_some_iff.mp h2).1; omega
    have e1 : (is.map (fun i => ws[i]?))[j]? = some (ws[k]?) := by rw [List.getElem?_map, h1]; rfl
    rw [hC, List.getElem?_map, List.getElem?_eq_getElem hj] at e1
    have e2 : ws[k]? = some wc[j] := (Option.some.inj e1).symm
    refine ⟨wc[j], e2, ?_⟩
    have e3 : (w1.map (·.1))[j]? = some q.1 := by rw [List.getElem?_map, h2]; rfl
    rw [ha, List.getElem?_map, List.getElem?_eq_getElem hj] at e3
    exact Option.some.inj e3
  have key : ∀ (k : Nat) (q : Nat × va_E), (stAll ws is w1)[k]? = some q → ∃ q0, ws[k]? = some q0 ∧ q0.1 = q.1 := by
    intro k q h
    rcases stAll_get is ws w1 k q h with ⟨j, h1, h2⟩ | ⟨h1, -⟩
    · exact atC j k q h1 h2
    · exact ⟨q, h1, rfl⟩
  refine ⟨fun k q h => ?_, fun i j x y hx hy hxy => ?_, fun k q h => ?_⟩
  · rcases stAll_get is ws w1 k q h with ⟨j, h1, h2⟩ | ⟨h1, h2⟩
    · exact hP1 j q h2
    · have hl := (hP k q h1).lt
      refine (hP k q h1).kept (hk q.1 hl ?_)
      rintro (⟨j, e, h3⟩ | h3)
      · have hj : j < wc.length := (List.getElem?_eq_some_iff.mp h3).1
        have hi : j < is.length := by omega
        have e1 : (is.map (fun i => ws[i]?))[j]? = some (ws[is[j]]?) := by rw [List.getElem?_map, List.getElem?_eq_getElem hi]; rfl
        rw [hC, List.getElem?_map, h3] at e1
        have e2 : ws[is[j]]? = some (q.1, e) := (Option.some.inj e1).symm
        have e3 := hD.1 k is[j] q (q.1, e) h1 e2 rfl
        exact h2 j (by omega) (by rw [List.getElem?_eq_getElem hi, e3])
      · omega
  · obtain ⟨x0, h1, h2⟩ := key i x hx
    obtain ⟨y0, h3, h4⟩ := key j y hy
    exact hD.1 i j x0 y0 h1 h3 (h2.trans (hxy.trans h4.symm))
  · obtain ⟨q0, h1, h2⟩ := key k q h
    rw [← h2]
    exact hD.2 k q0 h1
/-- options, one step at a time -/
theorem ck {α : Type} {b : Prop} [Decidable b] {x : Option α} {r : α} (h : (if b then none else x) = some r) : ¬ b ∧ x = some r := by
  by_cases hb : b
  · rw [if_pos hb] at h; cases h
  · rw [if_neg hb] at h; exact ⟨hb, h⟩
theorem itp {α : Type} {b : Prop} [Decidable b] {x y : α} {r : α} (hb : b) (h : (if b then x else y) = r) : x = r := by rw [if_pos hb] at h; exact h
theorem itn {α : Type} {b : Prop} [Decidable b] {x y : α} {r : α} (hb : ¬ b) (h : (if b then x else y) = r) : y = r := by rw [if_neg hb] at h; exact h
theorem bd {α β : Type} {o : Option α} {f : α → Option β} {r : β} (h : o.bind f = some r) : ∃ q, o = some q ∧ f q = some r := Option.bind_eq_some_iff.mp h
theorem nn {α : Type} {P : Prop} {r : α} (h : (none : Option α) = some r) : P := by cases h
/-- behind a loop that may return: out of a method, out of a loop -/
def eo {R X : Type} (f : X → Option R) : R ⊕ X → Option R
  | .inl r => some r
  | .inr x => f x
def eoS {R X Y : Type} (f : Y → Option (R ⊕ X)) : R ⊕ Y → Option (R ⊕ X)
  | .inl r => some (.inl r)
  | .inr x => f x
section BASE
variable {p : Program} {l : Launch} {e : Env} {R : Room} {s : State} {m : MethodId} {args : Array Value} {below : List Frame} {meth : Method} {c : Code} {H : Heap} {locs : List Loc} {cells slots : Nat} {Q : State → Prop}
variable {y : MethodName} {bytes cc : ByteArray} {maxL nL n index fr lo : Nat} {ret : Option FieldType} {ws : List Cond} {Ts : List Cond} {own C : String} {b : Addr} {As rest st0 : List Value} {g : Gm} {pc : Nat} {ls : Array Slot} {wc w1 wq ws0 : va_W} {v : Option Value} {A : Nat → Prop} {H0 : Heap} {a0 : Array Value}
/-- behind a reading call -/
theorem cR (hr : va_Run p l e R s m args below meth c H locs cells slots 0 0 (F0 m pc ls st0) rest (QcR v a0) (fun _ => False)) (kk : W p l e R s m args below meth c H locs cells slots Q (F0 m (pc + 3) ls (v.toList ++ rest))) : W p l e R s m args below meth c H locs cells slots Q (F0 m pc ls st0) := by
  intro T hT X
  obtain ⟨v', st₀, t, T', L, h0, X', hL, e1, e2, ⟨hv, hh⟩, st⟩ := hr T hT X
  cases hv
  obtain ⟨t2, a1, b1⟩ := kk T' (by rw [e1, hh, h0]) (Stand.forget X' (fun q h => (hL q h).elim))
  exact ⟨t2, st t2 a1, b1⟩
/-- behind a writing call -/
theorem cW (hr : va_Run p l e R s m args below meth c H locs cells slots 0 0 (F0 m pc ls st0) rest (QcW g v w1 (va_A wc H.size) a0) (va_A wc H.size)) (hw : Wk g A H0 H locs ws0) (hA : ∀ q, H0.size ≤ q → A q) (is : List Nat) (hC : is.map (fun i => ws0[i]?) = wc.map some) (ha : w1.map (·.1) = wc.map (·.1)) (hq : stAll ws0 is w1 = wq)
    (kk : ∀ (H1 : Heap) (locs1 : List Loc), Wk g A H0 H1 locs1 wq → W p l e R s m args below meth c H1 locs1 cells slots Q (F0 m (pc + 3) ls (v.toList ++ rest))) : W p l e R s m args below meth c H locs cells slots Q (F0 m pc ls st0) := by
  subst hq
  intro T hT X
  obtain ⟨v', st₀, t, T', L, h0, X', hL, e1, e2, ⟨hv, hP1, hz, hk⟩, st⟩ := hr T hT X
  cases hv
  obtain ⟨hP, hD, hS⟩ := hw
  rw [h0] at hz hk
  rw [← e1] at hP1 hz hk
  have hF := va_free (wc := wc) hD hS hA is hC
  obtain ⟨j1, j2⟩ := stAll_join hP hD is hC ha hk hP1
  obtain ⟨t2, a1, b1⟩ := kk T'.heap (locs ++ L) ⟨j1, j2, Nat.le_trans hS.1 hz, fun q h1 h2 => by rw [hk q (Nat.lt_of_lt_of_le h1 hS.1) (fun z => h2 (hF q z))]; exact hS.2.1 q h1 h2, fun q hq => by
      rcases List.mem_append.mp hq with h | h
      · exact hS.2.2 q h
      · exact hF _ (hL q h)⟩ T' rfl X'
  exact ⟨t2, st t2 a1, b1⟩
theorem preR (hK : Kn g s) (hP : va_P g.1 vwCl wc H) {av : List Value} (U : State) (hU : U.heap = H) (hW : s.WarmedH U.vm) : PcR g av wc av.toArray U := ⟨rfl, by rw [hU]; exact hP, hK.warm hW⟩
theorem preW (hK : Kn g s) (hP : va_P g.1 vwCl wc H) (hD : va_D A wc) {av : List Value} (U : State) (hU : U.heap = H) (hW : s.WarmedH U.vm) : PcW g av wc H.size av.toArray U := ⟨rfl, by rw [hU], by rw [hU]; exact hP, hK.warm hW, hD.weaken (fun _ _ _ _ => trivial)⟩
theorem recv {ci : Nat} {q : vw_C} {fs : List Value} (hK : Kn g s) (hP : va_P g.1 vwCl wc H) (q0 : Nat) (hc : vwCl[ci]? = some q) (he : wc[q0]? = some (b, .inr (ci, fs))) : ∃ cell : Cell, H[b]? = some cell ∧ cell.vm.isStatics = false ∧ s.vm.findClass q.1 = some cell.cls := va_recv hK.1 hP hc he
/-- calls by one row: V virtual, S static, N of a nest mate's private static; R reading, W writing -/
theorem rVR {q0 ci : Nat} {cq : vw_C} {fs : List Value} (S : CallFix p m c cc nL s args Ts own) (hM : MR l y ws fr lo g (.ref b :: As) wc v) (hT : GoodIn Ts (wsV own index C y ws)) {ws' : List Cond} (hw : ws = Cond.code y bytes maxL ret :: ws') (hd : y.cls = C ∧ y.cls ≠ "java/lang/invoke/MethodHandle" ∧ y.cls ≠ "java/lang/invoke/VarHandle" ∧ (parseMethodDescriptor y.desc).map (fun d => d.parameters.length) = some n)
    (hR : fr + 1 ≤ R.frames ∧ 8 + (maxL + 11) + lo ≤ R.locals) (hK : Kn g s) (hP : va_P g.1 vwCl wc H) (hc : vwCl[ci]? = some cq) (he : wc[q0]? = some (b, .inr (ci, fs))) (hC : cq.1 = C) (hn : As.length = n) (hsize : ls.size = nL) (hstk : st0 = As.reverse ++ .ref b :: rest) (hW : (rest.map fun v => v.category).sum ≤ 8) (hdg : decode cc pc = .ok (.invokevirtual index, 3)) (hcs : cells ≤ R.cells ∧ slots ≤ R.slots)
    (kk : W p l e R s m args below meth c H locs cells slots Q (F0 m (pc + 3) ls (v.toList ++ rest))) : W p l e R s m args below meth c H locs cells slots Q (F0 m pc ls st0) := by
  subst hC
  refine cR (va_runV S hM (cwV n S.2.2.2.2 hT hw rfl rfl hd hR) ⟨PcR.blind, recv hK hP q0 hc he, fun U hU hW => preR hK hP U hU hW⟩ rfl hn hsize hstk (lv_room hW) hdg ⟨hcs.1, hcs.2⟩) kk
theorem rVW {q0 ci : Nat} {cq : vw_C} {fs : List Value} (S : CallFix p m c cc nL s args Ts own) (hM : MW l y ws fr lo g (.ref b :: As) wc v w1) (hT : GoodIn Ts (wsV own index C y ws)) {ws' : List Cond} (hw : ws = Cond.code y bytes maxL ret :: ws') (hd : y.cls = C ∧ y.cls ≠ "java/lang/invoke/MethodHandle" ∧ y.cls ≠ "java/lang/invoke/VarHandle" ∧ (parseMethodDescriptor y.desc).map (fun d => d.parameters.length) = some n)
    (hR : fr + 1 ≤ R.frames ∧ 8 + (maxL + 11) + lo ≤ R.locals) (hK : Kn g s) (hwk : Wk g A H0 H locs ws0) (hA : ∀ q, H0.size ≤ q → A q) (is : List Nat) (hnd : va_nd is = true) (hC2 : is.map (fun i => ws0[i]?) = wc.map some) (ha : w1.map (·.1) = wc.map (·.1)) (hq : stAll ws0 is w1 = wq) (hc : vwCl[ci]? = some cq) (he : wc[q0]? = some (b, .inr (ci, fs))) (hC : cq.1 = C) (hn : As.length = n) (hsize : ls.size = nL) (hstk : st0 = As.reverse ++ .ref b :: rest) (hW : (rest.map fun v => v.category).sum ≤ 8) (hdg : decode cc pc = .ok (.invokevirtual index, 3)) (hcs : cells ≤ R.cells ∧ slots ≤ R.slots)
    (kk : ∀ (H1 : Heap) (locs1 : List Loc), Wk g A H0 H1 locs1 wq → W p l e R s m args below meth c H1 locs1 cells slots Q (F0 m (pc + 3) ls (v.toList ++ rest))) : W p l e R s m args below meth c H locs cells slots Q (F0 m pc ls st0) := by
  subst hC
  have hPc : va_P g.1 vwCl wc H := fun k q hk => by
    obtain ⟨i, -, hi⟩ := va_in_of is hC2 hk
    exact hwk.1 i q hi
  refine cW (va_runV S (hM H.size) (cwV n S.2.2.2.2 hT hw rfl rfl hd hR) ⟨PcW.blind, recv hK hPc q0 hc he, fun U hU hW => preW hK hPc (hwk.2.1.sub is hnd hC2) U hU hW⟩ rfl hn hsize hstk (lv_room hW) hdg ⟨hcs.1, hcs.2⟩) hwk hA is hC2 ha hq kk
theorem rSR (S : CallFix p m c cc nL s args Ts own) (hM : MR l y ws fr lo g As wc v) (hT : GoodIn Ts (va_wsS own index y ws)) {ws' : List Cond} (hw : ws = Cond.code y bytes maxL ret :: ws') (hd : y.cls ≠ "java/lang/invoke/MethodHandle" ∧ y.cls ≠ "java/lang/invoke/VarHandle" ∧ (parseMethodDescriptor y.desc).map (fun d => d.parameters.length) = some n)
    (hR : fr + 1 ≤ R.frames ∧ 8 + (maxL + 11) + lo ≤ R.locals) (hK : Kn g s) (hP : va_P g.1 vwCl wc H) (hn : As.length = n) (hsize : ls.size = nL) (hstk : st0 = As.reverse ++ rest) (hW : (rest.map fun v => v.category).sum ≤ 8) (hdg : decode cc pc = .ok (.invokestatic index, 3)) (hcs : cells ≤ R.cells ∧ slots ≤ R.slots)
    (kk : W p l e R s m args below meth c H locs cells slots Q (F0 m (pc + 3) ls (v.toList ++ rest))) : W p l e R s m args below meth c H locs cells slots Q (F0 m pc ls st0) :=
  cR (va_runS S hM (va_cwS n S.2.2.2.2 hT hw rfl rfl hd hR) ⟨PcR.blind, fun U hU hW => preR hK hP U hU hW⟩ rfl hn hsize hstk (lv_room hW) hdg ⟨hcs.1, hcs.2⟩) kk
theorem rSW (S : CallFix p m c cc nL s args Ts own) (hM : MW l y ws fr lo g As wc v w1) (hT : GoodIn Ts (va_wsS own index y ws)) {ws' : List Cond} (hw : ws = Cond.code y bytes maxL ret :: ws') (hd : y.cls ≠ "java/lang/invoke/MethodHandle" ∧ y.cls ≠ "java/lang/invoke/VarHandle" ∧ (parseMethodDescriptor y.desc).map (fun d => d.parameters.length) = some n)
    (hR : fr + 1 ≤ R.frames ∧ 8 + (maxL + 11) + lo ≤ R.locals) (hK : Kn g s) (hwk : Wk g A H0 H locs ws0) (hA : ∀ q, H0.size ≤ q → A q) (is : List Nat) (hnd : va_nd is = true) (hC2 : is.map (fun i => ws0[i]?) = wc.map some) (ha : w1.map (·.1) = wc.map (·.1)) (hq : stAll ws0 is w1 = wq) (hn : As.length = n) (hsize : ls.size = nL) (hstk : st0 = As.reverse ++ rest) (hW : (rest.map fun v => v.category).sum ≤ 8) (hdg : decode cc pc = .ok (.invokestatic index, 3)) (hcs : cells ≤ R.cells ∧ slots ≤ R.slots)
    (kk : ∀ (H1 : Heap) (locs1 : List Loc), Wk g A H0 H1 locs1 wq → W p l e R s m args below meth c H1 locs1 cells slots Q (F0 m (pc + 3) ls (v.toList ++ rest))) : W p l e R s m args below meth c H locs cells slots Q (F0 m pc ls st0) := by
  have hPc : va_P g.1 vwCl wc H := fun k q hk => by
    obtain ⟨i, -, hi⟩ := va_in_of is hC2 hk
    exact hwk.1 i q hi
  refine cW (va_runS S (hM H.size) (va_cwS n S.2.2.2.2 hT hw rfl rfl hd hR) ⟨PcW.blind, fun U hU hW => preW hK hPc (hwk.2.1.sub is hnd hC2) U hU hW⟩ rfl hn hsize hstk (lv_room hW) hdg ⟨hcs.1, hcs.2⟩) hwk hA is hC2 ha hq kk
theorem rNR (S : CallFix p m c cc nL s args Ts own) (hM : MR l y ws fr lo g As wc v) (hT : GoodIn Ts ws) {ws' : List Cond} (hw : ws = Cond.code y bytes maxL ret :: ws') (hst : Cond.static y ∈ Ts) (hini : Cond.initialized y.cls ∈ Ts) (k : Nat) (hk : nestL[k]? = some (own, index, y)) (hd : y.cls ≠ "java/lang/invoke/MethodHandle" ∧ y.cls ≠ "java/lang/invoke/VarHandle" ∧ (parseMethodDescriptor y.desc).map (fun d => d.parameters.length) = some n)
    (hR : fr + 1 ≤ R.frames ∧ 8 + (maxL + 11) + lo ≤ R.locals) (hK : Kn g s) (hP : va_P g.1 vwCl wc H) (hn : As.length = n) (hsize : ls.size = nL) (hstk : st0 = As.reverse ++ rest) (hW : (rest.map fun v => v.category).sum ≤ 8) (hdg : decode cc pc = .ok (.invokestatic index, 3)) (hcs : cells ≤ R.cells ∧ slots ≤ R.slots)
    (kk : W p l e R s m args below meth c H locs cells slots Q (F0 m (pc + 3) ls (v.toList ++ rest))) : W p l e R s m args below meth c H locs cells slots Q (F0 m pc ls st0) :=
  cR (va_runSN S hM ⟨va_cnB n S.2.2.2.2 hT hw rfl rfl (hK.2.1 _ (List.mem_of_getElem? hk)) (S.2.2.2.2 _ hini) hd hR, S.2.2.2.2 _ hst, trivial⟩ ⟨PcR.blind, fun U hU hW => preR hK hP U hU hW⟩ rfl hn hsize hstk (lv_room hW) hdg ⟨hcs.1, hcs.2⟩) kk
variable {D : va_G} {a : Nat}
theorem wk_iald (hx : p.tables.exec = Jvm.exec) (hb : c.code = cc) (hK : Kn g s) (hP : va_P g.1 vwCl ws0 H) (q0 : Nat) (n : Nat) (f : Nat → Int32) (ha : ws0[q0]? = some (a, .inl (g.2 0, n, .inl f))) {i : Int32} (hin : ¬ (i < 0 ∨ n ≤ i.toNatClampNeg)) (hdg : decode cc pc = .ok (.iaload, 1)) (kk : W p l e R s m args below meth c H locs cells slots Q (F0 m (pc + 1) ls (.int (f i.toNatClampNeg) :: rest))) : W p l e R s m args below meth c H locs cells slots Q (F0 m pc ls (.int i :: .ref a :: rest)) :=
  va_iald hx hb hK.1 hP q0 0 ha rfl hin hdg kk
theorem wk_lald (hx : p.tables.exec = Jvm.exec) (hb : c.code = cc) (hK : Kn g s) (hP : va_P g.1 vwCl ws0 H) (q0 : Nat) (n : Nat) (f : Nat → Int64) (ha : ws0[q0]? = some (a, .inl (g.2 1, n, .inr (.inl f)))) {i : Int32} (hin : ¬ (i < 0 ∨ n ≤ i.toNatClampNeg)) (hdg : decode cc pc = .ok (.laload, 1)) (kk : W p l e R s m args below meth c H locs cells slots Q (F0 m (pc + 1) ls (.long (f i.toNatClampNeg) :: rest))) : W p l e R s m args below meth c H locs cells slots Q (F0 m pc ls (.int i :: .ref a :: rest)) :=
  va_lald hx hb hK.1 hP q0 1 ha rfl hin hdg kk
theorem wk_iast (hx : p.tables.exec = Jvm.exec) (hb : c.code = cc) (hK : Kn g s) (hw : Wk g A H0 H locs ws0) (q0 : Nat) (n : Nat) (f : Nat → Int32) (ha : ws0[q0]? = some (a, .inl (g.2 0, n, .inl f))) {i x : Int32} (hin : ¬ (i < 0 ∨ n ≤ i.toNatClampNeg)) (hdg : decode cc pc = .ok (.iastore, 1)) (hq : ws0.set q0 (a, .inl (g.2 0, n, .inl (upd f i.toNatClampNeg x))) = wq)
    (kk : ∀ (H1 : Heap) (locs1 : List Loc), Wk g A H0 H1 locs1 wq → W p l e R s m args below meth c H1 locs1 cells slots Q (F0 m (pc + 1) ls rest)) : W p l e R s m args below meth c H locs cells slots Q (F0 m pc ls (.int x :: .int i :: .ref a :: rest)) := by
  subst hq
  exact va_iast hx hb hK.1 hw.1 hw.2.1 hw.2.2 q0 0 ha rfl hin hdg (fun H1 locs1 h1 h2 h3 => kk H1 locs1 ⟨h1, h2, h3⟩)
theorem wk_last (hx : p.tables.exec = Jvm.exec) (hb : c.code = cc) (hK : Kn g s) (hw : Wk g A H0 H locs ws0) (q0 : Nat) (n : Nat) (f : Nat → Int64) (ha : ws0[q0]? = some (a, .inl (g.2 1, n, .inr (.inl f)))) {i : Int32} {x : Int64} (hin : ¬ (i < 0 ∨ n ≤ i.toNatClampNeg)) (hdg : decode cc pc = .ok (.lastore, 1)) (hq : ws0.set q0 (a, .inl (g.2 1, n, .inr (.inl (vp_updL f i.toNatClampNeg x)))) = wq)
    (kk : ∀ (H1 : Heap) (locs1 : List Loc), Wk g A H0 H1 locs1 wq → W p l e R s m args below meth c H1 locs1 cells slots Q (F0 m (pc + 1) ls rest)) : W p l e R s m args below meth c H locs cells slots Q (F0 m pc ls (.long x :: .int i :: .ref a :: rest)) := by
  subst hq
  exact va_last hx hb hK.1 hw.1 hw.2.1 hw.2.2 q0 1 ha rfl hin hdg (fun H1 locs1 h1 h2 h3 => kk H1 locs1 ⟨h1, h2, h3⟩)
theorem wk_get {own ref C : String} {T : u_T} {N : Nat} (hx : p.tables.exec = Jvm.exec) (hb : c.code = cc) (hts : ∀ w ∈ Ts, w.before args s = true) (hin : ∀ w ∈ u_ws C T N, w ∈ Ts) (hown : s.vm.findClass own = some m.cls) (hK : Kn g s) (hP : va_P g.1 vwCl ws0 H) (ci q0 k : Nat) {fs : List Value} (vv : Value) (he : ws0[q0]? = some (a, .inr (ci, fs))) (hc : vwCl[ci]? = some (C, T, N)) (hk : k < N) (hlink : Cond.fieldLink own index ref (T k).2.1 (T k).2.2.1 ∈ Ts) (hr : (T k).1 = ref) (hv : fs[k]? = some vv) (hdg : decode cc pc = .ok (.getfield index, 3))
    (kk : W p l e R s m args below meth c H locs cells slots Q (F0 m (pc + 3) ls (vv :: rest))) : W p l e R s m args below meth c H locs cells slots Q (F0 m pc ls (.ref a :: rest)) := by
  subst hr
  exact va_get hx hb hts hin hown hK.1 hP q0 he hc k hk (hts _ hlink) (fun _ h9 => h9) hv hdg kk
theorem wk_put {own ref C : String} {T : u_T} {N : Nat} (hx : p.tables.exec = Jvm.exec) (hb : c.code = cc) (hts : ∀ w ∈ Ts, w.before args s = true) (hin : ∀ w ∈ u_ws C T N, w ∈ Ts) (ty0 : Nat → FieldType) (hty : ∀ k, k < N → parseFieldDescriptor (T k).2.2.1 = some (ty0 k)) (hnm : ∀ a, a < N → ∀ b, b < N → a ≠ b → (T a).2.1 ≠ (T b).2.1) (hown : s.vm.findClass own = some m.cls) (hK : Kn g s) (hw : Wk g A H0 H locs ws0) (ci q0 k : Nat) {fs : List Value} {vv : Value} (he : ws0[q0]? = some (a, .inr (ci, fs))) (hc : vwCl[ci]? = some (C, T, N)) (hk : k < N) (hlink : Cond.fieldLink own index ref (T k).2.1 (T k).2.2.1 ∈ Ts) (hr : (T k).1 = ref) (hfin : (T k).2.2.2 = false) (hn : narrow (ty0 k) vv = vv) (hfit : fits (ty0 k) vv = true) (hl : k < fs.length) (hdg : decode cc pc = .ok (.putfield index, 3)) (hq : ws0.set q0 (a, .inr (ci, fs.set k vv)) = wq)
    (kk : ∀ (H1 : Heap) (locs1 : List Loc), Wk g A H0 H1 locs1 wq → W p l e R s m args below meth c H1 locs1 cells slots Q (F0 m (pc + 3) ls rest)) : W p l e R s m args below meth c H locs cells slots Q (F0 m pc ls (vv :: .ref a :: rest)) := by
  subst hr
  subst hq
  exact va_put hx hb hts hin ty0 hty hnm hown hK.1 hw.1 hw.2.1 hw.2.2 q0 he hc k hk (hts _ hlink) (fun _ h9 => h9) hfin (hty k hk) hn hfit hl hdg (fun H1 locs1 h1 h2 h3 => kk H1 locs1 ⟨h1, h2, h3⟩)
theorem mi {l : List Cond} {w : Cond} (i : Nat) (h : l[i]? = some w) : w ∈ l := List.mem_of_getElem? h
end BASE
/-- a method's head -/
theorem wk_start {g : Gm} {ws0 : va_W} {s : State} (hP : va_P g.1 vwCl ws0 s.heap) (hD : va_D (fun _ => True) ws0) : Wk g (va_A ws0 s.heap.size) s.heap s.heap [] ws0 := ⟨hP, hD.self, va_S.rf⟩
