/-! ===== the reference's shapes: its town's part, the whole of it, an object that may be wanting ===== -/
def wXT (g : Gm) (a : Nat → Nat) (F : Nat → Value) (U : TS) : va_W := [(a 0, .inr (7, [F 0, F 1, F 2, F 3, F 4, F 5, F 6, F 7, F 8, .int (U 9 0), .int (U 10 0), .ref (a 1), .ref (a 2), .ref (a 3), .ref (a 4), .ref (a 5), .ref (a 6), .ref (a 7), .int (U 18 0), .int (U 19 0), F 20, F 21, F 22, F 23, F 24, F 25, F 26, F 27, F 28, .ref (a 8), F 30, F 31, F 32])), (a 1, .inl (g.2 0, 7, .inl (U 11))), (a 2, .inl (g.2 0, 7, .inl (U 12))), (a 3, .inl (g.2 0, 7, .inl (U 13))), (a 4, .inl (g.2 0, 7, .inl (U 14))), (a 5, .inl (g.2 0, 7, .inl (U 15))), (a 6, .inl (g.2 0, 7, .inl (U 16))), (a 7, .inl (g.2 0, 3, .inl (U 17))), (a 8, .inl (g.2 0, 7, .inl (U 29)))]
def fm (a : Nat → Nat) (V : TS) (kv tv : Value) : Nat → Value := vp_V [.ref (a 9), .ref (a 10), .ref (a 11), .ref (a 12), .ref (a 13), .ref (a 14), .ref (a 15), .int (V 7 0), .ref (a 16), .null, .null, .null, .null, .null, .null, .null, .null, .null, .null, .null, kv, tv, .int (V 22 0), .int (V 23 0), .int (V 24 0), .int (V 25 0), .int (V 26 0), .ref (a 17), .int (V 28 0), .null, .ref (a 18), .ref (a 19), .int (V 32 0)]
def wXM (g : Gm) (a : Nat → Nat) (U V : TS) (M R : LTS) (kv tv : Value) : va_W := (wXT g a (fm a V kv tv) U ++ [(a 9, .inl (g.2 0, 8, .inl (V 0))), (a 10, .inl (g.2 0, 8, .inl (V 1))), (a 11, .inl (g.2 0, 8, .inl (V 2))), (a 12, .inl (g.2 3, 8, .inr (.inr (.inr (.inr (fun i => some (a (20 + i)))))))), (a 13, .inl (g.2 1, 40, .inr (.inl (M 4)))), (a 14, .inl (g.2 0, 8, .inl (V 5))), (a 15, .inl (g.2 0, 250, .inl (V 6))), (a 16, .inl (g.2 0, 8, .inl (V 8))), (a 17, .inl (g.2 0, 2, .inl (V 27))), (a 18, .inl (g.2 0, 7, .inl (V 30))), (a 19, .inl (g.2 0, 7, .inl (V 31)))]) ++ (List.range 8).map (fun i => (a (20 + i), .inl (g.2 1, 40, .inr (.inl (R i)))))
def wAR (g : Gm) (a : Nat → Nat) (N : Nat) (X : TS) : va_W := [(a 0, .inl (g.2 0, N, .inl (X 0)))]
def wAL (g : Gm) (a : Nat → Nat) (Y : LTS) : va_W := [(a 0, .inl (g.2 1, 40, .inr (.inl (Y 0))))]
abbrev Tr : Type := Option ((Nat → Nat) × (Nat → Value) × TS)
def tvOf : Tr → Value
  | none => .null
  | some t => .ref (t.1 0)
def wOT (g : Gm) : Tr → va_W
  | none => []
  | some t => wXT g t.1 t.2.1 t.2.2
def tpOf : Tr → Option (Nat → Int32)
  | none => none
  | some t => some (t.2.2 29)
def nlOf : Tr → Nat
  | none => 1
  | some _ => 0
def fr0 (U : TS) (tp : Option (Nat → Int32)) : TS := up U 29 (tp.getD (fun _ => 0))
theorem nlc (k a b : Nat) : k * (a - b) ≤ k * a := Nat.mul_le_mul_left k (Nat.sub_le a b)
theorem nl_ne {t : Tr} {tp : Option (Nat → Int32)} (h : tpOf t = tp) (hn : ¬ tp = none) : nlOf t = 0 := by
  cases t with
  | none => exact absurd h.symm hn
  | some t => rfl
theorem wXM_get {g : Gm} {a : Nat → Nat} {U V : TS} {M R : LTS} {kv tv : Value} {i : Nat} {Y : va_W} (h : i < 8) : (wXM g a U V M R kv tv ++ Y)[20 + i]? = some (a (20 + i), .inl (g.2 1, 40, .inr (.inl (R i)))) :=
  rows_get (fun i => ((a (20 + i), .inl (g.2 1, 40, .inr (.inl (R i)))) : Nat × va_E)) (wXT g a (fm a V kv tv) U ++ [(a 9, .inl (g.2 0, 8, .inl (V 0))), (a 10, .inl (g.2 0, 8, .inl (V 1))), (a 11, .inl (g.2 0, 8, .inl (V 2))), (a 12, .inl (g.2 3, 8, .inr (.inr (.inr (.inr (fun i => some (a (20 + i)))))))), (a 13, .inl (g.2 1, 40, .inr (.inl (M 4)))), (a 14, .inl (g.2 0, 8, .inl (V 5))), (a 15, .inl (g.2 0, 250, .inl (V 6))), (a 16, .inl (g.2 0, 8, .inl (V 8))), (a 17, .inl (g.2 0, 2, .inl (V 27))), (a 18, .inl (g.2 0, 7, .inl (V 30))), (a 19, .inl (g.2 0, 7, .inl (V 31)))]) Y h
theorem wXM_put {g : Gm} {a : Nat → Nat} {U V : TS} {M R : LTS} {kv tv : Value} {i : Nat} {Y : va_W} {f : Nat → Int64} (h : i < 8) : (wXM g a U V M R kv tv ++ Y).set (20 + i) (a (20 + i), .inl (g.2 1, 40, .inr (.inl f))) = wXM g a U V M (upL R i f) kv tv ++ Y :=
  rows_set (fun i => ((a (20 + i), .inl (g.2 1, 40, .inr (.inl (R i)))) : Nat × va_E)) (fun j => (a (20 + j), .inl (g.2 1, 40, .inr (.inl (upL R i f j))))) (wXT g a (fm a V kv tv) U ++ [(a 9, .inl (g.2 0, 8, .inl (V 0))), (a 10, .inl (g.2 0, 8, .inl (V 1))), (a 11, .inl (g.2 0, 8, .inl (V 2))), (a 12, .inl (g.2 3, 8, .inr (.inr (.inr (.inr (fun i => some (a (20 + i)))))))), (a 13, .inl (g.2 1, 40, .inr (.inl (M 4)))), (a 14, .inl (g.2 0, 8, .inl (V 5))), (a 15, .inl (g.2 0, 250, .inl (V 6))), (a 16, .inl (g.2 0, 8, .inl (V 8))), (a 17, .inl (g.2 0, 2, .inl (V 27))), (a 18, .inl (g.2 0, 7, .inl (V 30))), (a 19, .inl (g.2 0, 7, .inl (V 31)))]) Y h (q := (a (20 + i), .inl (g.2 1, 40, .inr (.inl f)))) (by simp only [upL_same]) (fun j hj => by simp only [upL_ne R f hj])
theorem wXM_row {g : Gm} {a : Nat → Nat} {U V : TS} {M R : LTS} {kv tv : Value} {i : Nat} (h : i < 8) : (wXM g a U V M R kv tv)[20 + i]? = some (a (20 + i), .inl (g.2 1, 40, .inr (.inl (R i)))) := by
  have := wXM_get (g := g) (a := a) (U := U) (V := V) (M := M) (R := R) (kv := kv) (tv := tv) (Y := []) h
  rwa [List.append_nil] at this
theorem wXM_set {g : Gm} {a : Nat → Nat} {U V : TS} {M R : LTS} {kv tv : Value} {i : Nat} {f : Nat → Int64} (h : i < 8) : (wXM g a U V M R kv tv).set (20 + i) (a (20 + i), .inl (g.2 1, 40, .inr (.inl f))) = wXM g a U V M (upL R i f) kv tv := by
  have := wXM_put (g := g) (a := a) (U := U) (V := V) (M := M) (R := R) (kv := kv) (tv := tv) (Y := []) (f := f) h
  rwa [List.append_nil, List.append_nil] at this
theorem wXM_rowA {g : Gm} {a : Nat → Nat} {U V : TS} {M R : LTS} {kv tv : Value} {i : Nat} {Y : va_W} (h : i < 8) : (wXM g a U V M R kv tv ++ Y)[20 + i]? = some (a (20 + i), .inl (g.2 1, 40, .inr (.inl (R i)))) := wXM_get h
theorem wXM_setA {g : Gm} {a : Nat → Nat} {U V : TS} {M R : LTS} {kv tv : Value} {i : Nat} {Y : va_W} {f : Nat → Int64} (h : i < 8) : (wXM g a U V M R kv tv ++ Y).set (20 + i) (a (20 + i), .inl (g.2 1, 40, .inr (.inl f))) = wXM g a U V M (upL R i f) kv tv ++ Y := wXM_put h
def QcB (g : Gm) (v : Option Value) (w1 : Tr → va_W) (tp : Option (Nat → Int32)) (A : Nat → Prop) : Array Value → State → Outcome → State → Prop := fun _ st oc t => oc = .returned v ∧ (∃ t' : Tr, tpOf t' = tp ∧ va_P g.1 vwCl (w1 t') t.heap ∧ va_D A (w1 t')) ∧ va_F A st t
def QcF (g : Gm) (w1 : Tr → va_W) (U1 : TS) (A : Nat → Prop) : Array Value → State → Outcome → State → Prop := fun _ st oc t => (∃ (b : Nat → Nat) (F : Nat → Value), oc = .returned (some (.ref (b 0))) ∧ va_P g.1 vwCl (w1 (some (b, F, U1))) t.heap ∧ va_D A (w1 (some (b, F, U1)))) ∧ va_F A st t
def MB (l : Launch) (y : MethodName) (ws : List Cond) (fr lo : Nat) (g : Gm) (av : List Value) (w0 : Tr → va_W) (t : Tr) (v : Option Value) (w1 : Tr → va_W) (tp : Option (Nat → Int32)) : Prop :=
  ∀ sz : Nat, Met l y ws ({ frames := fr, cells := 28 * nlOf t, slots := 759 * nlOf t, locals := lo }) (PcW g av (w0 t) sz) (QcB g v w1 tp (va_A (w0 t) sz)) (28 * nlOf t) (759 * nlOf t) (va_A (w0 t) sz)
def MF (l : Launch) (y : MethodName) (ws : List Cond) (fr lo : Nat) (g : Gm) (av : List Value) (w0 : Tr → va_W) (t : Tr) (w1 : Tr → va_W) (U1 : TS) : Prop :=
  ∀ sz : Nat, Met l y ws ({ frames := fr, cells := 28 * nlOf t, slots := 759 * nlOf t, locals := lo }) (PcW g av (w0 t) sz) (QcF g w1 U1 (va_A (w0 t) sz)) (28 * nlOf t) (759 * nlOf t) (va_A (w0 t) sz)
section MBASE
variable {p : Program} {l : Launch} {e : Env} {R : Room} {s : State} {m : MethodId} {args : Array Value} {below : List Frame} {meth : Method} {c : Code} {H : Heap} {locs : List Loc} {Q : State → Prop}
variable {y : MethodName} {bytes cc : ByteArray} {maxL nL n index fr lo : Nat} {ret : Option FieldType} {ws : List Cond} {Ts : List Cond} {own : String} {b : Addr} {As rest st0 : List Value} {g : Gm} {pc : Nat} {ls : Array Slot} {v : Option Value} {A : Nat → Prop} {H0 : Heap} {w0 w1 : Tr → va_W} {t t0 : Tr} {tp : Option (Nat → Int32)} {U1 : TS}
theorem va_A_weak {ws0 : va_W} (hD : va_D A ws0) (hS : va_S A H0 H locs) (hA : ∀ q, H0.size ≤ q → A q) : ∀ q, va_A ws0 H.size q → A q := by
  rintro q (⟨k, e, h⟩ | h)
  · exact hD.2 k (q, e) h
  · exact hA q (Nat.le_trans hS.1 h)
theorem ch_eq {k a b : Nat} (h : b ≤ a) : k * (a - b) + k * b = k * a := by rw [← Nat.mul_add, Nat.sub_add_cancel h]
theorem rVB (hn : nlOf t ≤ nlOf t0) {fs : List Value} (S : CallFix p m c cc nL s args Ts own) (hM : MB l y ws fr lo g (.ref b :: As) w0 t v w1 tp) (hne : ¬ tp = none) (hT : GoodIn Ts (wsV own index RX7 y ws)) {ws' : List Cond} (hw : ws = Cond.code y bytes maxL ret :: ws') (hd : y.cls = RX7 ∧ y.cls ≠ "java/lang/invoke/MethodHandle" ∧ y.cls ≠ "java/lang/invoke/VarHandle" ∧ (parseMethodDescriptor y.desc).map (fun d => d.parameters.length) = some n)
    (hR : fr + 1 ≤ R.frames ∧ 8 + (maxL + 11) + lo ≤ R.locals) (hK : Kn g s) (hwk : Wk g A H0 H locs (w0 t)) (hA : ∀ q, H0.size ≤ q → A q) (hRc : R.cells = 28 * nlOf t0) (hRs : R.slots = 759 * nlOf t0) (he : (w0 t)[0]? = some (b, .inr (7, fs))) (hn2 : As.length = n) (hsize : ls.size = nL) (hstk : st0 = As.reverse ++ .ref b :: rest) (hW : (rest.map fun v => v.category).sum ≤ 8) (hdg : decode cc pc = .ok (.invokevirtual index, 3))
    (kk : ∀ (t' : Tr) (_ : tpOf t' = tp) (_ : nlOf t' ≤ nlOf t0) (H1 : Heap) (locs1 : List Loc), Wk g A H0 H1 locs1 (w1 t') → W p l e R s m args below meth c H1 locs1 (28 * (nlOf t0 - nlOf t')) (759 * (nlOf t0 - nlOf t')) Q (F0 m (pc + 3) ls (v.toList ++ rest))) : W p l e R s m args below meth c H locs (28 * (nlOf t0 - nlOf t)) (759 * (nlOf t0 - nlOf t)) Q (F0 m pc ls st0) := by
  have hr := va_runV (cells := 28 * (nlOf t0 - nlOf t)) (slots := 759 * (nlOf t0 - nlOf t)) (mc := 28 * nlOf t) (ms := 759 * nlOf t) (H := H) (locs := locs) (g := F0 m pc ls st0) (below := below) (meth := meth) (e := e) S (hM H.size) (cwV n S.2.2.2.2 hT hw rfl rfl hd hR) ⟨PcW.blind, recv hK hwk.1 0 (show vwCl[7]? = some (RX7, TX7, 33) from rfl) he, fun U hU hW => preW hK hwk.1 hwk.2.1 U hU hW⟩ rfl hn2 hsize hstk (lv_room hW) hdg ⟨by rw [hRc, ch_eq hn]; exact Nat.le_refl _, by rw [hRs, ch_eq hn]; exact Nat.le_refl _⟩
  intro T hT X
  obtain ⟨v', st₀, tt, T', L, h0, X', hL, e1, e2, ⟨hv, ⟨t', ht', hP1, hD1⟩, hz, hk⟩, st⟩ := hr T hT X
  cases hv
  obtain ⟨hP, hD, hS⟩ := hwk
  rw [h0] at hz hk
  rw [← e1] at hP1 hz hk
  have hF := va_A_weak hD hS hA
  have h0' := nl_ne ht' hne
  rw [ch_eq hn, ch_eq hn] at X'
  obtain ⟨t2, a1, b1⟩ := kk t' ht' (by rw [h0']; exact Nat.zero_le _) T'.heap (locs ++ L) ⟨hP1, hD1.weaken (fun k q _ h => hF q.1 h), Nat.le_trans hS.1 hz, fun q h1 h2 => by rw [hk q (Nat.lt_of_lt_of_le h1 hS.1) (fun z => h2 (hF q z))]; exact hS.2.1 q h1 h2, fun q hq => by
      rcases List.mem_append.mp hq with h | h
      · exact hS.2.2 q h
      · exact hF _ (hL q h)⟩ T' rfl (by rw [h0', Nat.sub_zero]; exact X')
  exact ⟨t2, st t2 a1, b1⟩
theorem rVBs {fs : List Value} (S : CallFix p m c cc nL s args Ts own) (hM : MB l y ws fr lo g (.ref b :: As) w0 t v w1 tp) (hne : ¬ tp = none) (hT : GoodIn Ts (wsV own index RX7 y ws)) {ws' : List Cond} (hw : ws = Cond.code y bytes maxL ret :: ws') (hd : y.cls = RX7 ∧ y.cls ≠ "java/lang/invoke/MethodHandle" ∧ y.cls ≠ "java/lang/invoke/VarHandle" ∧ (parseMethodDescriptor y.desc).map (fun d => d.parameters.length) = some n)
    (hR : fr + 1 ≤ R.frames ∧ 8 + (maxL + 11) + lo ≤ R.locals) (hK : Kn g s) (hwk : Wk g A H0 H locs (w0 t)) (hA : ∀ q, H0.size ≤ q → A q) (hRc : R.cells = 28 * nlOf t0) (hRs : R.slots = 759 * nlOf t0) (he : (w0 t)[0]? = some (b, .inr (7, fs))) (hn2 : As.length = n) (hsize : ls.size = nL) (hstk : st0 = As.reverse ++ .ref b :: rest) (hW : (rest.map fun v => v.category).sum ≤ 8) (hdg : decode cc pc = .ok (.invokevirtual index, 3)) (hz : nlOf t = 0)
    (kk : ∀ (t' : Tr) (_ : tpOf t' = tp) (_ : nlOf t' ≤ nlOf t0) (H1 : Heap) (locs1 : List Loc), Wk g A H0 H1 locs1 (w1 t') → W p l e R s m args below meth c H1 locs1 (28 * (nlOf t0 - nlOf t')) (759 * (nlOf t0 - nlOf t')) Q (F0 m (pc + 3) ls (v.toList ++ rest))) : W p l e R s m args below meth c H locs (28 * nlOf t0) (759 * nlOf t0) Q (F0 m pc ls st0) := by
  have := rVB (t0 := t0) (by rw [hz]; exact Nat.zero_le _) S hM hne hT hw hd hR hK hwk hA hRc hRs he hn2 hsize hstk hW hdg kk
  rwa [hz, Nat.sub_zero] at this
theorem rVF (hn : nlOf t ≤ nlOf t0) {fs : List Value} (S : CallFix p m c cc nL s args Ts own) (hM : MF l y ws fr lo g (.ref b :: As) w0 t w1 U1) (hT : GoodIn Ts (wsV own index RX7 y ws)) {ws' : List Cond} (hw : ws = Cond.code y bytes maxL ret :: ws') (hd : y.cls = RX7 ∧ y.cls ≠ "java/lang/invoke/MethodHandle" ∧ y.cls ≠ "java/lang/invoke/VarHandle" ∧ (parseMethodDescriptor y.desc).map (fun d => d.parameters.length) = some n)
    (hR : fr + 1 ≤ R.frames ∧ 8 + (maxL + 11) + lo ≤ R.locals) (hK : Kn g s) (hwk : Wk g A H0 H locs (w0 t)) (hA : ∀ q, H0.size ≤ q → A q) (hRc : R.cells = 28 * nlOf t0) (hRs : R.slots = 759 * nlOf t0) (he : (w0 t)[0]? = some (b, .inr (7, fs))) (hn2 : As.length = n) (hsize : ls.size = nL) (hstk : st0 = As.reverse ++ .ref b :: rest) (hW : (rest.map fun v => v.category).sum ≤ 8) (hdg : decode cc pc = .ok (.invokevirtual index, 3))
    (kk : ∀ (b' : Nat → Nat) (F' : Nat → Value) (H1 : Heap) (locs1 : List Loc), Wk g A H0 H1 locs1 (w1 (some (b', F', U1))) → W p l e R s m args below meth c H1 locs1 (28 * nlOf t0) (759 * nlOf t0) Q (F0 m (pc + 3) ls (.ref (b' 0) :: rest))) : W p l e R s m args below meth c H locs (28 * (nlOf t0 - nlOf t)) (759 * (nlOf t0 - nlOf t)) Q (F0 m pc ls st0) := by
  have hr := va_runV (cells := 28 * (nlOf t0 - nlOf t)) (slots := 759 * (nlOf t0 - nlOf t)) (mc := 28 * nlOf t) (ms := 759 * nlOf t) (H := H) (locs := locs) (g := F0 m pc ls st0) (below := below) (meth := meth) (e := e) S (hM H.size) (cwV n S.2.2.2.2 hT hw rfl rfl hd hR) ⟨PcW.blind, recv hK hwk.1 0 (show vwCl[7]? = some (RX7, TX7, 33) from rfl) he, fun U hU hW => preW hK hwk.1 hwk.2.1 U hU hW⟩ rfl hn2 hsize hstk (lv_room hW) hdg ⟨by rw [hRc, ch_eq hn]; exact Nat.le_refl _, by rw [hRs, ch_eq hn]; exact Nat.le_refl _⟩
  intro T hT X
  obtain ⟨v', st₀, tt, T', L, h0, X', hL, e1, e2, ⟨⟨b', F', hv, hP1, hD1⟩, hz, hk⟩, st⟩ := hr T hT X
  cases hv
  obtain ⟨hP, hD, hS⟩ := hwk
  rw [h0] at hz hk
  rw [← e1] at hP1 hz hk
  have hF := va_A_weak hD hS hA
  rw [ch_eq hn, ch_eq hn] at X'
  obtain ⟨t2, a1, b1⟩ := kk b' F' T'.heap (locs ++ L) ⟨hP1, hD1.weaken (fun k q _ h => hF q.1 h), Nat.le_trans hS.1 hz, fun q h1 h2 => by rw [hk q (Nat.lt_of_lt_of_le h1 hS.1) (fun z => h2 (hF q z))]; exact hS.2.1 q h1 h2, fun q hq => by
      rcases List.mem_append.mp hq with h | h
      · exact hS.2.2 q h
      · exact hF _ (hL q h)⟩ T' rfl X'
  exact ⟨t2, st t2 a1, b1⟩
theorem rVFs {fs : List Value} (S : CallFix p m c cc nL s args Ts own) (hM : MF l y ws fr lo g (.ref b :: As) w0 t w1 U1) (hT : GoodIn Ts (wsV own index RX7 y ws)) {ws' : List Cond} (hw : ws = Cond.code y bytes maxL ret :: ws') (hd : y.cls = RX7 ∧ y.cls ≠ "java/lang/invoke/MethodHandle" ∧ y.cls ≠ "java/lang/invoke/VarHandle" ∧ (parseMethodDescriptor y.desc).map (fun d => d.parameters.length) = some n)
    (hR : fr + 1 ≤ R.frames ∧ 8 + (maxL + 11) + lo ≤ R.locals) (hK : Kn g s) (hwk : Wk g A H0 H locs (w0 t)) (hA : ∀ q, H0.size ≤ q → A q) (hRc : R.cells = 28 * nlOf t0) (hRs : R.slots = 759 * nlOf t0) (he : (w0 t)[0]? = some (b, .inr (7, fs))) (hn2 : As.length = n) (hsize : ls.size = nL) (hstk : st0 = As.reverse ++ .ref b :: rest) (hW : (rest.map fun v => v.category).sum ≤ 8) (hdg : decode cc pc = .ok (.invokevirtual index, 3)) (hz : nlOf t = 0)
    (kk : ∀ (b' : Nat → Nat) (F' : Nat → Value) (H1 : Heap) (locs1 : List Loc), Wk g A H0 H1 locs1 (w1 (some (b', F', U1))) → W p l e R s m args below meth c H1 locs1 (28 * nlOf t0) (759 * nlOf t0) Q (F0 m (pc + 3) ls (.ref (b' 0) :: rest))) : W p l e R s m args below meth c H locs (28 * nlOf t0) (759 * nlOf t0) Q (F0 m pc ls st0) := by
  have := rVF (t0 := t0) (by rw [hz]; exact Nat.zero_le _) S hM hT hw hd hR hK hwk hA hRc hRs he hn2 hsize hstk hW hdg kk
  rwa [hz, Nat.sub_zero] at this
end MBASE
