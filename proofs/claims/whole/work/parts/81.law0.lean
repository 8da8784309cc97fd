/-! ===== the law: calls that may make cells, its world, its loop ===== -/
section LBC
variable {p : Program} {l : Launch} {e : Env} {R : Room} {s : State} {m : MethodId} {args : Array Value} {below : List Frame} {meth : Method} {c : Code} {H : Heap} {locs : List Loc} {cells slots mc ms : Nat} {Q : State → Prop}
variable {y : MethodName} {bytes cc : ByteArray} {maxL nL n index fr lo : Nat} {ret : Option FieldType} {ws : List Cond} {Ts : List Cond} {own : String} {b : Addr} {As rest st0 : List Value} {g : Gm} {pc : Nat} {ls : Array Slot} {v : Option Value} {A : Nat → Prop} {w0 w1 : Tr → va_W} {ws0 wr : va_W} {t : Tr} {tp : Option (Nat → Int32)} {U1 : TS} {a0 : Array Value} {k : SgT}
theorem cBp (hr : va_Run p l e R s m args below meth c H locs cells slots mc ms (F0 m pc ls st0) rest (QcB g v w1 tp (va_A (w0 t) H.size) a0) (va_A (w0 t) H.size)) (hw : Wk g A s.heap H locs ws0) (hA : ∀ q, s.heap.size ≤ q → A q) (hp : List.Perm ws0 (w0 t ++ wr))
    (kk : ∀ (t' : Tr) (H1 : Heap) (locs1 : List Loc), tpOf t' = tp → Wk g A s.heap H1 locs1 (wr ++ w1 t') → W p l e R s m args below meth c H1 locs1 (cells + mc) (slots + ms) Q (F0 m (pc + 3) ls (v.toList ++ rest))) : W p l e R s m args below meth c H locs cells slots Q (F0 m pc ls st0) := by
  intro T hT X
  obtain ⟨v', st₀, tt, T', L, h0, X', hL, e1, e2, ⟨hv, ⟨t', ht', hP1, hD1⟩, hz, hk⟩, st⟩ := hr T hT X
  cases hv
  obtain ⟨hP, hD, hS⟩ := hw
  rw [h0] at hz hk
  rw [← e1] at hP1 hz hk
  have hF := va_free2 hD hS hA hp
  obtain ⟨j1, j2⟩ := va_join3 hP hD hp hk hF hP1 hD1
  obtain ⟨t2, a1', b1⟩ := kk t' T'.heap (locs ++ L) ht' ⟨j1, j2, Nat.le_trans hS.1 hz, fun q h1 h2 => by rw [hk q (Nat.lt_of_lt_of_le h1 hS.1) (fun z => h2 (hF q z))]; exact hS.2.1 q h1 h2, fun q hq => by
      rcases List.mem_append.mp hq with h | h
      · exact hS.2.2 q h
      · exact hF _ (hL q h)⟩ T' rfl X'
  exact ⟨t2, st t2 a1', b1⟩
theorem cGp (hr : va_Run p l e R s m args below meth c H locs cells slots mc ms (F0 m pc ls st0) rest (QcG g w1 U1 (va_A (w0 t) H.size) a0) (va_A (w0 t) H.size)) (hw : Wk g A s.heap H locs ws0) (hA : ∀ q, s.heap.size ≤ q → A q) (hp : List.Perm ws0 (w0 t ++ wr))
    (kk : ∀ (b' : Nat → Nat) (F' : Nat → Value) (H1 : Heap) (locs1 : List Loc), Wk g A s.heap H1 locs1 (wr ++ w1 (some (b', F', U1))) → W p l e R s m args below meth c H1 locs1 (cells + mc) (slots + ms) Q (F0 m (pc + 3) ls (.int 1 :: rest))) : W p l e R s m args below meth c H locs cells slots Q (F0 m pc ls st0) := by
  intro T hT X
  obtain ⟨v', st₀, tt, T', L, h0, X', hL, e1, e2, ⟨⟨hv, b', F', hP1, hD1⟩, hz, hk⟩, st⟩ := hr T hT X
  cases hv
  obtain ⟨hP, hD, hS⟩ := hw
  rw [h0] at hz hk
  rw [← e1] at hP1 hz hk
  have hF := va_free2 hD hS hA hp
  obtain ⟨j1, j2⟩ := va_join3 hP hD hp hk hF hP1 hD1
  obtain ⟨t2, a1', b1⟩ := kk b' F' T'.heap (locs ++ L) ⟨j1, j2, Nat.le_trans hS.1 hz, fun q h1 h2 => by rw [hk q (Nat.lt_of_lt_of_le h1 hS.1) (fun z => h2 (hF q z))]; exact hS.2.1 q h1 h2, fun q hq => by
      rcases List.mem_append.mp hq with h | h
      · exact hS.2.2 q h
      · exact hF _ (hL q h)⟩ T' rfl X'
  exact ⟨t2, st t2 a1', b1⟩
theorem rVBp {fs : List Value} (S : CallFix p m c cc nL s args Ts own) (hM : MB l y ws fr lo g (.ref b :: As) w0 t v w1 tp) (hT : GoodIn Ts (wsV own index RX7 y ws)) {ws' : List Cond} (hw : ws = Cond.code y bytes maxL ret :: ws') (hd : y.cls = RX7 ∧ y.cls ≠ "java/lang/invoke/MethodHandle" ∧ y.cls ≠ "java/lang/invoke/VarHandle" ∧ (parseMethodDescriptor y.desc).map (fun d => d.parameters.length) = some n)
    (hR : fr + 1 ≤ R.frames ∧ 8 + (maxL + 11) + lo ≤ R.locals) (hK : Kn g s) (hwk : Wk g A s.heap H locs ws0) (hA : ∀ q, s.heap.size ≤ q → A q) (hp : List.Perm ws0 (w0 t ++ wr)) (he : (w0 t)[0]? = some (b, .inr (7, fs))) (hn2 : As.length = n) (hsize : ls.size = nL) (hstk : st0 = As.reverse ++ .ref b :: rest) (hW : (rest.map fun v => v.category).sum ≤ 8) (hdg : decode cc pc = .ok (.invokevirtual index, 3)) (hcs : cells + 28 * nlOf t ≤ R.cells ∧ slots + 759 * nlOf t ≤ R.slots)
    (kk : ∀ (t' : Tr) (H1 : Heap) (locs1 : List Loc), tpOf t' = tp → Wk g A s.heap H1 locs1 (wr ++ w1 t') → W p l e R s m args below meth c H1 locs1 (cells + 28 * nlOf t) (slots + 759 * nlOf t) Q (F0 m (pc + 3) ls (v.toList ++ rest))) : W p l e R s m args below meth c H locs cells slots Q (F0 m pc ls st0) :=
  cBp (va_runV S (hM H.size) (cwV n S.2.2.2.2 hT hw rfl rfl hd hR) ⟨PcW.blind, recv hK (hwk.1.pm hp) 0 (show vwCl[7]? = some (RX7, TX7, 33) from rfl) he, fun U hU hW => preW hK (hwk.1.pm hp) (hwk.2.1.pm hp).left U hU hW⟩ rfl hn2 hsize hstk (lv_room hW) hdg hcs) hwk hA hp kk
theorem rVBSp {fs : List Value} (S : CallFix p m c cc nL s args Ts own) (hM : MBS l y ws fr lo k g (.ref b :: As) w0 t v w1 tp) (hT : GoodIn Ts (wsV own index RX7 y ws)) {ws' : List Cond} (hw : ws = Cond.code y bytes maxL ret :: ws') (hd : y.cls = RX7 ∧ y.cls ≠ "java/lang/invoke/MethodHandle" ∧ y.cls ≠ "java/lang/invoke/VarHandle" ∧ (parseMethodDescriptor y.desc).map (fun d => d.parameters.length) = some n)
    (hR : fr + 1 ≤ R.frames ∧ 8 + (maxL + 11) + lo ≤ R.locals) (hK : Kn g s) (hSg : Sg k A s s.heap) (hwk : Wk g A s.heap H locs ws0) (hA : ∀ q, s.heap.size ≤ q → A q) (hp : List.Perm ws0 (w0 t ++ wr)) (he : (w0 t)[0]? = some (b, .inr (7, fs))) (hn2 : As.length = n) (hsize : ls.size = nL) (hstk : st0 = As.reverse ++ .ref b :: rest) (hW : (rest.map fun v => v.category).sum ≤ 8) (hdg : decode cc pc = .ok (.invokevirtual index, 3)) (hcs : cells + 28 * nlOf t ≤ R.cells ∧ slots + 759 * nlOf t ≤ R.slots)
    (kk : ∀ (t' : Tr) (H1 : Heap) (locs1 : List Loc), tpOf t' = tp → Wk g A s.heap H1 locs1 (wr ++ w1 t') → W p l e R s m args below meth c H1 locs1 (cells + 28 * nlOf t) (slots + 759 * nlOf t) Q (F0 m (pc + 3) ls (v.toList ++ rest))) : W p l e R s m args below meth c H locs cells slots Q (F0 m pc ls st0) :=
  cBp (va_runV S (hM H.size) (cwV n S.2.2.2.2 hT hw rfl rfl hd hR) ⟨PcWS.blind, recv hK (hwk.1.pm hp) 0 (show vwCl[7]? = some (RX7, TX7, 33) from rfl) he, fun U hU hW => ⟨preW hK (hwk.1.pm hp) (hwk.2.1.pm hp).left U hU hW, hSg.at hwk.2.2 (va_free2 hwk.2.1 hwk.2.2 hA hp) hU hW⟩⟩ rfl hn2 hsize hstk (lv_room hW) hdg hcs) hwk hA hp kk
theorem rVGp {fs : List Value} (S : CallFix p m c cc nL s args Ts own) (hM : MG l y ws fr lo g (.ref b :: As) w0 t w1 U1) (hT : GoodIn Ts (wsV own index RX7 y ws)) {ws' : List Cond} (hw : ws = Cond.code y bytes maxL ret :: ws') (hd : y.cls = RX7 ∧ y.cls ≠ "java/lang/invoke/MethodHandle" ∧ y.cls ≠ "java/lang/invoke/VarHandle" ∧ (parseMethodDescriptor y.desc).map (fun d => d.parameters.length) = some n)
    (hR : fr + 1 ≤ R.frames ∧ 8 + (maxL + 11) + lo ≤ R.locals) (hK : Kn g s) (hwk : Wk g A s.heap H locs ws0) (hA : ∀ q, s.heap.size ≤ q → A q) (hp : List.Perm ws0 (w0 t ++ wr)) (he : (w0 t)[0]? = some (b, .inr (7, fs))) (hn2 : As.length = n) (hsize : ls.size = nL) (hstk : st0 = As.reverse ++ .ref b :: rest) (hW : (rest.map fun v => v.category).sum ≤ 8) (hdg : decode cc pc = .ok (.invokevirtual index, 3)) (hcs : cells + 28 * nlOf t ≤ R.cells ∧ slots + 759 * nlOf t ≤ R.slots)
    (kk : ∀ (b' : Nat → Nat) (F' : Nat → Value) (H1 : Heap) (locs1 : List Loc), Wk g A s.heap H1 locs1 (wr ++ w1 (some (b', F', U1))) → W p l e R s m args below meth c H1 locs1 (cells + 28 * nlOf t) (slots + 759 * nlOf t) Q (F0 m (pc + 3) ls (.int 1 :: rest))) : W p l e R s m args below meth c H locs cells slots Q (F0 m pc ls st0) :=
  cGp (va_runV S (hM H.size) (cwV n S.2.2.2.2 hT hw rfl rfl hd hR) ⟨PcW.blind, recv hK (hwk.1.pm hp) 0 (show vwCl[7]? = some (RX7, TX7, 33) from rfl) he, fun U hU hW => preW hK (hwk.1.pm hp) (hwk.2.1.pm hp).left U hU hW⟩ rfl hn2 hsize hstk (lv_room hW) hdg hcs) hwk hA hp kk
end LBC
abbrev wC (g : Gm) (a : Nat → Nat → Nat) (Z T1 T2 T3 G : TS) (R : LTS) (P O B : TS) : va_W := ((wX6 g (a 0) (a 1 0) (a 2 0) (a 3 0) (a 4 0) (a 5 0) (a 6 0) (a 7 0) (a 8 0) Z) ++ ((wX5 g (a 1) T1) ++ ((wX5 g (a 2) T2) ++ ((wX5 g (a 3) T3) ++ ((wX3 g (a 4) G R) ++ ((wX4 g (a 5) P) ++ ((wX2 g (a 6) (a 1 0) (a 3 0)) ++ ((wX1 g (a 7) (a 1 0) (a 3 0) O B) ++ (wX0 g (a 8) (a 1 0) (a 3 0) (a 4 0))))))))))
abbrev wRf (g : Gm) (b : Nat → Nat) (U V : TS) (M R' : LTS) (kt t : Tr) : va_W := wXM g b U V M R' (tvOf kt) (tvOf t) ++ (wOT g t ++ wOT g kt)
def kuOf (kt : Tr) : Option TS := kt.map fun q => q.2.2
theorem kuOf_none {kt : Tr} (h : kuOf kt = none) : kt = none := by cases kt with | none => rfl | some q => cases h
theorem kuOf_some (b : Nat → Nat) (F : Nat → Value) (U : TS) : kuOf (some (b, F, U)) = some U := rfl
theorem nl_le (t : Tr) : nlOf t ≤ 1 := by cases t with | none => exact Nat.le_refl 1 | some q => exact Nat.zero_le 1
theorem lpmA {α : Type} (c x y z : List α) : List.Perm (c ++ (x ++ (y ++ z))) ((x ++ y) ++ (c ++ z)) := by
  classical
  exact List.perm_iff_count.mpr (fun q => by simp only [List.count_append] <;> omega)
theorem lpmA' {α : Type} (c x y z : List α) : List.Perm ((c ++ z) ++ (x ++ y)) (c ++ (x ++ (y ++ z))) := by
  classical
  exact List.perm_iff_count.mpr (fun q => by simp only [List.count_append] <;> omega)
theorem lpmB {α : Type} (c x y z : List α) : List.Perm (c ++ (x ++ (y ++ z))) ((x ++ z) ++ (c ++ y)) := by
  classical
  exact List.perm_iff_count.mpr (fun q => by simp only [List.count_append] <;> omega)
theorem lpmB' {α : Type} (c x y z : List α) : List.Perm ((c ++ y) ++ (x ++ z)) (c ++ (x ++ (y ++ z))) := by
  classical
  exact List.perm_iff_count.mpr (fun q => by simp only [List.count_append] <;> omega)
theorem lpmC {α : Type} (c x y z : List α) : List.Perm (c ++ (x ++ (y ++ z))) (x ++ (c ++ (y ++ z))) := by
  classical
  exact List.perm_iff_count.mpr (fun q => by simp only [List.count_append] <;> omega)
theorem Wk.perm {g : Gm} {A : Nat → Prop} {H0 H : Heap} {locs : List Loc} {w w' : va_W} (h : Wk g A H0 H locs w) (p : List.Perm w w') : Wk g A H0 H locs w' := ⟨h.1.mem (fun q hq => p.mem_iff.mpr hq), h.2.1.pm p, h.2.2⟩
/-- what stays while the law runs -/
def LC (p : Program) (s : State) (m : MethodId) (c : Code) (b L : Nat) (xs : Nat → Int32) (g : Gm) (A : Nat → Prop) (k : SgT) : Prop := (p.tables.exec = Jvm.exec ∧ c.code = cL_law ∧ c.maxLocals = 4 ∧ s.vm.findClass RL = some m.cls ∧ ∀ w ∈ wsL_law, w.before #[Value.ref b] s = true) ∧ (va_X b L xs s s.heap ∧ b < s.heap.size ∧ ¬ A b ∧ L ≤ 3072) ∧ Kn g s ∧ (∀ q, s.heap.size ≤ q → A q) ∧ Sg k A s s.heap
/-- from every tied world the law goes on at pc -/
def LGo (p : Program) (l : Launch) (e : Env) (s : State) (m : MethodId) (below : List Frame) (meth : Method) (c : Code) (bS : Nat) (Q : State → Prop) (g : Gm) (A : Nat → Prop) (a : Nat → Nat → Nat) (b : Nat → Nat) (pc i cells slots : Nat) : Prop :=
  ∀ (Z T1 T2 T3 G : TS) (R : LTS) (P O B U V : TS) (M R' : LTS) (kt t : Tr) (H : Heap) (locs : List Loc) (ls : Array Slot), Rl Z T1 T2 G R P U V R' (kuOf kt) → Wk g A s.heap H locs (wC g a Z T1 T2 T3 G R P O B ++ wRf g b U V M R' kt t) → lv_has ls 4 [(3, .int (nI i)), (0, .ref bS), (1, .ref (a 0 0)), (2, .ref (b 0))] → W p l e room_1 s m #[Value.ref bS] below meth c H locs cells slots Q (F0 m pc ls [])
section LARG
variable {p : Program} {l : Launch} {e : Env} {s : State} {m : MethodId} {below : List Frame} {meth : Method} {c : Code} {H : Heap} {locs : List Loc} {cells slots : Nat} {Q : State → Prop} {bS L : Nat} {xs : Nat → Int32} {g : Gm} {A : Nat → Prop} {k : SgT} {ls : Array Slot} {x y i : Nat} {st : List Value}
theorem larg (cx : LC p s m c bS L xs g A k) {w : va_W} (hw : Wk g A s.heap H locs w) (j : Nat) (hi : i + j < L) (hl : lv_has ls 4 [(3, .int (nI i)), (0, .ref bS), (1, .ref x), (2, .ref y)]) (pc : Nat) {kI : Int} (hk : Int32.ofInt kI = nI j) (d0 : decode cL_law pc = .ok (.aload_n 0, 1)) (d1 : decode cL_law (pc + 1) = .ok (.iload_n 3, 1)) (d2 : decode cL_law (pc + 1 + 1) = .ok (.iconst kI, 1)) (d3 : decode cL_law (pc + 1 + 1 + 1) = .ok (.iadd, 1)) (d4 : decode cL_law (pc + 1 + 1 + 1 + 1) = .ok (.iaload, 1))
    (kk : W p l e room_1 s m #[Value.ref bS] below meth c H locs cells slots Q (F0 m (pc + 1 + 1 + 1 + 1 + 1) ls (.int (xs (i + j)) :: st))) : W p l e room_1 s m #[Value.ref bS] below meth c H locs cells slots Q (F0 m pc ls st) := by
  obtain ⟨⟨hx, hb, hml, hown, hts⟩, ⟨hX, hbl, hbA, hL⟩, hK, hA, hSg⟩ := cx
  refine lv_aload_n hx hb d0 rfl (lv_at hl 1 rfl) ?_
  refine lv_iload_n hx hb d1 rfl (lv_at hl 0 rfl) ?_
  refine lv_iconst hx hb d2 hk ?_
  refine lv_iadd hx hb d3 ?_
  rw [nI_add]
  refine va_sld hx hb hX hbl hbA hw.2.2 (nI_in hi (by omega)) d4 ?_
  rw [nI_clamp (by omega)]
  exact kk
end LARG
set_option maxHeartbeats 4000000 in
set_option maxRecDepth 100000 in
theorem c_X7_back0 (l : Launch) (g : Gm) (a0 : Nat → Nat) (tv : Value) (U0 : TS) (V0 : TS) (M0 : LTS) (R0 : LTS) {q : (Int32 × TS)} (hM : f_X7_refuse U0 V0 M0 R0 (-5 : Int32) = some q) : MW l yX7_back wsX7_back 2 43 g [.ref (a0 0)] (wXM g a0 U0 V0 M0 R0 .null tv) (some (.int q.1)) (wXM g a0 U0 q.2 M0 R0 .null tv) := by
  intro sz
  refine Met.ofW (cc := cX7_back) (maxL := 2) (ret := (some .int)) (by decide) rfl ?_
  intro p e s m args below meth c s₁ B hml hv
  obtain ⟨rfl, hsz, hP, hK, hD0⟩ := hv
  have hx := B.exec; have hb := B.bytes; have hr := B.returns
  have hts := atoms_spec (ws := wsX7_back) B.pre
  have hown : s.vm.findClass RX7 = some m.cls := findClass_of_methodNamed B.named
  have hlocks := B.notSynchronized
  have hS : CallFix p m c cX7_back 2 s _ wsX7_back RX7 := ⟨hx, hb, hml, hown, hts⟩
  have hin_X7 : ∀ w ∈ wsX70, w ∈ wsX7_back := fun w h => (List.mem_cons_of_mem _ (List.mem_append_right _ h))
  subst hsz
  have hw := wk_start hP hD0
  have hA : ∀ q : Nat, s.heap.size ≤ q → va_A (wXM g a0 U0 V0 M0 R0 .null tv) s.heap.size q := fun q h => Or.inr h
  generalize va_A (wXM g a0 U0 V0 M0 R0 .null tv) s.heap.size = A at hw hA ⊢
  clear hP hD0
  have hl := lv_entry ([.ref (a0 0)]) (n := 2) (Nat.le_of_ble_eq_true rfl)
  rw [lg_entry_eq]
  generalize (lg_sl ([.ref (a0 0)]) ++ List.replicate (2 - (lg_sl ([.ref (a0 0)])).length) Slot.unset).toArray = ls at hl ⊢
  have hl : lv_has ls 2 [(0, .ref (a0 0))] := hl
  refine lv_aload_n hx hb dX7_back_0 rfl (lv_at hl 0 rfl) ?_
  refine wk_get hx hb hts hin_X7 hown hK hw.1 7 0 20 .null rfl rfl (by decide) (mi 1 rfl) rfl rfl dX7_back_1 ?_
  refine lv_ifnonnullN hx hb dX7_back_4 ?_
  refine lv_aload_n hx hb dX7_back_7 rfl (lv_at hl 0 rfl) ?_
  refine lv_bipush (v := (-5 : Int32)) hx hb dX7_back_8 (by decide) ?_
  refine rVWp (wc := (wXM g a0 U0 V0 M0 R0 .null tv)) (wq := (wXM g a0 U0 q.2 M0 R0 .null tv)) (As := [.int (-5 : Int32)]) (rest := []) (q0 := 0) hS (c_X7_refuse l g a0 .null tv U0 V0 M0 R0 (-5 : Int32) hM) gX7_back_X7_refuse rfl hd_X7_refuse ⟨Nat.le_of_ble_eq_true rfl, Nat.le_of_ble_eq_true rfl⟩ hK hw hA (pm_1_0 _) rfl (pm_1_0 _) rfl rfl rfl rfl hl.1 rfl (Nat.le_of_ble_eq_true rfl) dX7_back_10 ⟨Nat.zero_le _, Nat.zero_le _⟩ (fun H locs hw => ?_)
  exact W.iret hx hb hr (fun t ht _ => ⟨rfl, by rw [ht]; exact hw.1, hw.2.2.F ht⟩) hw.2.2.2.2 dX7_back_13
theorem lg_cmp_self (x : Int64) : lg_cmp x x = 0 := by
  unfold lg_cmp
  simp
theorem mem_ldcL : Cond.constantLong RL 18 (4294967295) ∈ wsL_law := mi 6 rfl
