/-! ===== constructors' calls by blocks ===== -/
section ALP
variable {p : Program} {l : Launch} {e : Env} {R : Room} {s : State} {m : MethodId} {args : Array Value} {below : List Frame} {meth : Method} {c : Code} {H : Heap} {locs : List Loc} {cells slots mc ms : Nat} {Q : State → Prop}
variable {y : MethodName} {bytes cc : ByteArray} {maxL nL n index fr lo : Nat} {ws : List Cond} {Ts : List Cond} {own C : String} {b : Addr} {As rest st0 : List Value} {g : Gm} {pc : Nat} {ls : Array Slot} {wc wq ws0 : va_W} {A : Nat → Prop}
theorem va_join3 {H1 : Heap} {wr w1 : va_W} (hP : va_P g.1 vwCl ws0 H) (hD : va_D A ws0) (hp : List.Perm ws0 (wc ++ wr)) (hk : ∀ q : Nat, q < H.size → ¬ va_A wc H.size q → H1[q]? = H[q]?) (hF : ∀ q, va_A wc H.size q → A q) (hP1 : va_P g.1 vwCl w1 H1) (hD1 : va_D (va_A wc H.size) w1) : va_P g.1 vwCl (wr ++ w1) H1 ∧ va_D A (wr ++ w1) := by
  have hD0 := va_D_iff.mp (hD.pm hp)
  have hPw := va_D_iff.mp hD1
  have h5 := hD0.1
  rw [List.map_append] at h5
  have old : ∀ q, q ∈ wr → q.1 < H.size ∧ ¬ va_A wc H.size q.1 := by
    intro q h
    obtain ⟨j, hj⟩ := List.mem_iff_getElem?.mp (hp.mem_iff.mpr (List.mem_append_right wc h))
    have h3 := hP j q hj
    refine ⟨h3.lt, ?_⟩
    rintro (⟨j2, e2, h4⟩ | h4)
    · exact (List.pairwise_append.mp h5).2.2 q.1 (List.mem_map.mpr ⟨(q.1, e2), List.mem_of_getElem? h4, rfl⟩) q.1 (List.mem_map.mpr ⟨q, h, rfl⟩) rfl
    · have := h3.lt
      omega
  refine ⟨fun k q hkq => ?_, va_D_iff.mpr ⟨?_, fun x hx => ?_⟩⟩
  · rcases List.mem_append.mp (List.mem_of_getElem? hkq) with h | h
    · obtain ⟨j, hj⟩ := List.mem_iff_getElem?.mp (hp.mem_iff.mpr (List.mem_append_right wc h))
      exact (hP j q hj).kept (hk q.1 (old q h).1 (old q h).2)
    · obtain ⟨j, hj⟩ := List.mem_iff_getElem?.mp h
      exact hP1 j q hj
  · rw [List.map_append]
    refine List.pairwise_append.mpr ⟨(List.pairwise_append.mp h5).2.1, hPw.1, fun x hx z hz e => ?_⟩
    obtain ⟨q, hq, rfl⟩ := List.mem_map.mp hx
    subst e
    exact (old q hq).2 (hPw.2 _ hz)
  · rw [List.map_append] at hx
    rcases List.mem_append.mp hx with h | h
    · exact hD0.2 x (by rw [List.map_append]; exact List.mem_append_right _ h)
    · exact hF x (hPw.2 x h)
theorem cIp {a0 : Array Value} {w1 : (Nat → Nat → Nat) → va_W} {wr : va_W} (hr : va_Run p l e R s m args below meth c H locs cells slots mc ms (F0 m pc ls st0) rest (QcI g b w1 (va_A wc H.size) a0) (va_A wc H.size)) (hw : Wk g A s.heap H locs ws0) (hA : ∀ q, s.heap.size ≤ q → A q) (hp : List.Perm ws0 (wc ++ wr))
    (kk : ∀ (a : Nat → Nat → Nat) (H1 : Heap) (locs1 : List Loc), a 0 0 = b → Wk g A s.heap H1 locs1 (wr ++ w1 a) → W p l e R s m args below meth c H1 locs1 (cells + mc) (slots + ms) Q (F0 m (pc + 3) ls rest)) : W p l e R s m args below meth c H locs cells slots Q (F0 m pc ls st0) := by
  intro T hT X
  obtain ⟨v', st₀, t, T', L, h0, X', hL, e1, e2, ⟨hv, ⟨a1, ha, hP1, hD1⟩, hz, hk⟩, st⟩ := hr T hT X
  cases hv
  obtain ⟨hP, hD, hS⟩ := hw
  rw [h0] at hz hk
  rw [← e1] at hP1 hz hk
  have hF := va_free2 hD hS hA hp
  obtain ⟨j1, j2⟩ := va_join3 hP hD hp hk hF hP1 hD1
  obtain ⟨t2, a1', b1⟩ := kk a1 T'.heap (locs ++ L) ha ⟨j1, j2, Nat.le_trans hS.1 hz, fun q h1 h2 => by rw [hk q (Nat.lt_of_lt_of_le h1 hS.1) (fun z => h2 (hF q z))]; exact hS.2.1 q h1 h2, fun q hq => by
      rcases List.mem_append.mp hq with h | h
      · exact hS.2.2 q h
      · exact hF _ (hL q h)⟩ T' rfl X'
  exact ⟨t2, st t2 a1', b1⟩
theorem rIp {w1 : (Nat → Nat → Nat) → va_W} {wr : va_W} (S : CallFix p m c cc nL s args Ts own) (hM : MI l y ws fr lo mc ms g (.ref b :: As) wc b w1) (hG : GoodIn Ts ws) {ws' : List Cond} (hww : ws = Cond.code y bytes maxL none :: ws') (hini : Cond.initialized y.cls ∈ Ts) (hl : Cond.methodLink own index y ∈ Ts) (hin : Cond.instanceMethod y ∈ Ts) (hy1 : y.name = "<init>") (hd : y.cls ≠ "java/lang/invoke/MethodHandle" ∧ y.cls ≠ "java/lang/invoke/VarHandle" ∧ (parseMethodDescriptor y.desc).map (fun d => d.parameters.length) = some n) (hRm : fr + 1 ≤ R.frames ∧ 8 + (maxL + 11) + lo ≤ R.locals)
    (hK : Kn g s) (hw : Wk g A s.heap H locs ws0) (hA : ∀ q, s.heap.size ≤ q → A q) (hp : List.Perm ws0 (wc ++ wr)) (hn : As.length = n) (hsize : ls.size = nL) (hstk : st0 = As.reverse ++ .ref b :: rest) (hW : (rest.map fun v => v.category).sum ≤ 8) (hdg : decode cc pc = .ok (.invokespecial index, 3)) (hcs : cells + mc ≤ R.cells ∧ slots + ms ≤ R.slots)
    (kk : ∀ (a : Nat → Nat → Nat) (H1 : Heap) (locs1 : List Loc), a 0 0 = b → Wk g A s.heap H1 locs1 (wr ++ w1 a) → W p l e R s m args below meth c H1 locs1 (cells + mc) (slots + ms) Q (F0 m (pc + 3) ls rest)) : W p l e R s m args below meth c H locs cells slots Q (F0 m pc ls st0) :=
  cIp (va_runI S (hM H.size) (cwI n S.2.2.2.2 hG hww rfl rfl (S.2.2.2.2 _ hini) (S.2.2.2.2 _ hl) (S.2.2.2.2 _ hin) hy1 hd hRm) ⟨PcW.blind, fun U hU hWm => preW hK (hw.1.pm hp) (hw.2.1.pm hp).left U hU hWm⟩ rfl hn hsize hstk (lv_room hW) hdg hcs) hw hA hp kk
theorem rINp {w1 : (Nat → Nat → Nat) → va_W} {wr : va_W} (S : CallFix p m c cc nL s args Ts own) (hM : MI l y ws fr lo mc ms g (.ref b :: As) wc b w1) (hG : GoodIn Ts ws) {ws' : List Cond} (hww : ws = Cond.code y bytes maxL none :: ws') (hini : Cond.initialized y.cls ∈ Ts) (kn : Nat) (hkn : nestL[kn]? = some (own, index, y)) (hin : Cond.instanceMethod y ∈ Ts) (hy1 : y.name = "<init>") (hd : y.cls ≠ "java/lang/invoke/MethodHandle" ∧ y.cls ≠ "java/lang/invoke/VarHandle" ∧ (parseMethodDescriptor y.desc).map (fun d => d.parameters.length) = some n) (hRm : fr + 1 ≤ R.frames ∧ 8 + (maxL + 11) + lo ≤ R.locals)
    (hK : Kn g s) (hw : Wk g A s.heap H locs ws0) (hA : ∀ q, s.heap.size ≤ q → A q) (hp : List.Perm ws0 (wc ++ wr)) (hn : As.length = n) (hsize : ls.size = nL) (hstk : st0 = As.reverse ++ .ref b :: rest) (hW : (rest.map fun v => v.category).sum ≤ 8) (hdg : decode cc pc = .ok (.invokespecial index, 3)) (hcs : cells + mc ≤ R.cells ∧ slots + ms ≤ R.slots)
    (kk : ∀ (a : Nat → Nat → Nat) (H1 : Heap) (locs1 : List Loc), a 0 0 = b → Wk g A s.heap H1 locs1 (wr ++ w1 a) → W p l e R s m args below meth c H1 locs1 (cells + mc) (slots + ms) Q (F0 m (pc + 3) ls rest)) : W p l e R s m args below meth c H locs cells slots Q (F0 m pc ls st0) :=
  cIp (va_runIN S (hM H.size) ⟨va_cnB n S.2.2.2.2 hG hww rfl rfl (hK.2.1 _ (List.mem_of_getElem? hkn)) (S.2.2.2.2 _ hini) hd hRm, hy1, S.2.2.2.2 _ hin⟩ ⟨PcW.blind, fun U hU hWm => preW hK (hw.1.pm hp) (hw.2.1.pm hp).left U hU hWm⟩ rfl hn hsize hstk (lv_room hW) hdg hcs) hw hA hp kk
end ALP
