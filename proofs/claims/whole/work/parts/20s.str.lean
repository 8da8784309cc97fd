/-! ===== strings: nine constants of both classes, and what the JDK does with them ===== -/
def lenS : List Nat := [6, 6, 3, 4, 5, 5, 4, 5, 4]
def bytS : List (List Int32) := [[115, 105, 103, 104, 116, 115], [112, 101, 114, 115, 111, 110], [115, 97, 119], [104, 97, 108, 102], [104, 101, 97, 114, 100], [104, 101, 97, 114, 115], [100, 117, 115, 107], [115, 105, 103, 110, 115], [108, 105, 101, 115]]
def txS (i : Nat) : String := (["sights", "person", "saw", "half", "heard", "hears", "dusk", "signs", "lies"] : List String).getD i ""
def ixT (i : Nat) : Nat := ([63, 72, 86, 92, 94, 99, 104, 109, 111] : List Nat).getD i 0
def ixM (i : Nat) : Nat := ([207, 208, 200, 216, 206, 217, 221, 226, 228] : List Nat).getD i 0
abbrev SgT : Type := (Nat → Nat) × (Nat → Nat)
def Sg (k : SgT) (A : Nat → Prop) (U : State) (H : Heap) : Prop := vk_S 9 lenS bytS k.1 k.2 A U H ∧ va_Z "java/lang/String" "COMPACT_STRINGS" "Z" (.int 1) A U H ∧ va_Zq "jdk/internal/util/Preconditions" "SIOOBE_FORMATTER" "Ljava/util/function/BiFunction;" A U H ∧ ∀ i : Nat, i < 9 → vk_R RX4 (ixT i) (txS i) (k.1 i) U ∧ vk_R RX7 (ixM i) (txS i) (k.1 i) U
theorem Sg.at {k : SgT} {A B : Nat → Prop} {s U : State} {H : Heap} {locs : List Loc} (h : Sg k A s s.heap) (hS : va_S A s.heap H locs) (hB : ∀ q, B q → A q) (hU : U.heap = H) (hW : s.WarmedH U.vm) : Sg k B U U.heap := by
  rw [hU]
  exact ⟨vk_S.moved hW.alike ((h.1.kept hS.2.1).narrow hB), va_Z.moved hW.alike ((h.2.1.kept hS.2.1).narrow hB), va_Zq.moved hW.alike ((h.2.2.1.kept hS.2.1).narrow hB), fun i hi => ⟨(h.2.2.2 i hi).1.warm hW, (h.2.2.2 i hi).2.warm hW⟩⟩
theorem Sg.call {k : SgT} {A : Nat → Prop} {U : State} {H : Heap} {fr : JFrame} {mk : MethodId} {a : Array Value} (h : Sg k A U H) : Sg k A (U.calling fr mk a) H :=
  ⟨vk_S.moved (u := U) (U := U.calling fr mk a) (Vm.Alike.refl U.vm) h.1, va_Z.moved (u := U) (U := U.calling fr mk a) (Vm.Alike.refl U.vm) h.2.1, va_Zq.moved (u := U) (U := U.calling fr mk a) (Vm.Alike.refl U.vm) h.2.2.1, fun i hi => ⟨vk_R.same (u := U) (U := U.calling fr mk a) rfl (h.2.2.2 i hi).1, vk_R.same (u := U) (U := U.calling fr mk a) rfl (h.2.2.2 i hi).2⟩⟩
def PcWS (k : SgT) (g : Gm) (av : List Value) (ws : va_W) (sz : Nat) : Array Value → State → Prop := fun v U => PcW g av ws sz v U ∧ Sg k (va_A ws sz) U U.heap
def PcRS (k : SgT) (g : Gm) (av : List Value) (ws : va_W) : Array Value → State → Prop := fun v U => PcR g av ws v U ∧ Sg k (fun _ => False) U U.heap
theorem PcWS.blind {k : SgT} {g : Gm} {av : List Value} {ws : va_W} {sz : Nat} : FrameBlind (PcWS k g av ws sz) := fun _ _ _ _ q => ⟨PcW.blind _ _ _ _ q.1, q.2.call⟩
theorem PcRS.blind {k : SgT} {g : Gm} {av : List Value} {ws : va_W} : FrameBlind (PcRS k g av ws) := fun _ _ _ _ q => ⟨PcR.blind _ _ _ _ q.1, q.2.call⟩
def MWS (l : Launch) (y : MethodName) (ws : List Cond) (fr lo : Nat) (k : SgT) (g : Gm) (av : List Value) (wc : va_W) (v : Option Value) (w1 : va_W) : Prop :=
  ∀ sz : Nat, Met l y ws ({ frames := fr, cells := 0, slots := 0, locals := lo }) (PcWS k g av wc sz) (QcW g v w1 (va_A wc sz)) 0 0 (va_A wc sz)
def MRS (l : Launch) (y : MethodName) (ws : List Cond) (fr lo : Nat) (k : SgT) (g : Gm) (av : List Value) (wc : va_W) (v : Option Value) : Prop :=
  Met l y ws ({ frames := fr, cells := 0, slots := 0, locals := lo }) (PcRS k g av wc) (QcR v) 0 0 (fun _ => False)
section SBASE
variable {p : Program} {l : Launch} {e : Env} {R : Room} {s : State} {m : MethodId} {args : Array Value} {below : List Frame} {meth : Method} {c : Code} {H : Heap} {locs : List Loc} {cells slots : Nat} {Q : State → Prop}
variable {y : MethodName} {bytes cc : ByteArray} {maxL nL n index fr lo : Nat} {ret : Option FieldType} {ws : List Cond} {Ts : List Cond} {own C : String} {b : Addr} {As rest st0 : List Value} {g : Gm} {pc : Nat} {ls : Array Slot} {wc w1 wq ws0 rs : va_W} {v : Option Value} {A : Nat → Prop} {a0 : Array Value} {k : SgT}
theorem rVRS {q0 ci : Nat} {cq : vw_C} {fs : List Value} (S : CallFix p m c cc nL s args Ts own) (hM : MRS l y ws fr lo k g (.ref b :: As) wc v) (hT : GoodIn Ts (wsV own index C y ws)) {ws' : List Cond} (hw : ws = Cond.code y bytes maxL ret :: ws') (hd : y.cls = C ∧ y.cls ≠ "java/lang/invoke/MethodHandle" ∧ y.cls ≠ "java/lang/invoke/VarHandle" ∧ (parseMethodDescriptor y.desc).map (fun d => d.parameters.length) = some n)
    (hR : fr + 1 ≤ R.frames ∧ 8 + (maxL + 11) + lo ≤ R.locals) (hK : Kn g s) (hSg : Sg k A s s.heap) (hS2 : va_S A s.heap H locs) (hP : va_P g.1 vwCl wc H) (hc : vwCl[ci]? = some cq) (he : wc[q0]? = some (b, .inr (ci, fs))) (hC : cq.1 = C) (hn : As.length = n) (hsize : ls.size = nL) (hstk : st0 = As.reverse ++ .ref b :: rest) (hW : (rest.map fun v => v.category).sum ≤ 8) (hdg : decode cc pc = .ok (.invokevirtual index, 3)) (hcs : cells ≤ R.cells ∧ slots ≤ R.slots)
    (kk : W p l e R s m args below meth c H locs cells slots Q (F0 m (pc + 3) ls (v.toList ++ rest))) : W p l e R s m args below meth c H locs cells slots Q (F0 m pc ls st0) := by
  subst hC
  exact cR (va_runV S hM (cwV n S.2.2.2.2 hT hw rfl rfl hd hR) ⟨PcRS.blind, recv hK hP q0 hc he, fun U hU hW => ⟨preR hK hP U hU hW, hSg.at hS2 (fun _ h => h.elim) hU hW⟩⟩ rfl hn hsize hstk (lv_room hW) hdg ⟨hcs.1, hcs.2⟩) kk
theorem rVRstr {i : Nat} (S : CallFix p m c cc nL s args Ts own) (hM : MRS l y ws fr lo k g (.ref (k.1 i) :: As) [] v) (hT : GoodIn Ts (wsV own index RJ0 y ws)) {ws' : List Cond} (hw : ws = Cond.code y bytes maxL ret :: ws') (hd : y.cls = RJ0 ∧ y.cls ≠ "java/lang/invoke/MethodHandle" ∧ y.cls ≠ "java/lang/invoke/VarHandle" ∧ (parseMethodDescriptor y.desc).map (fun d => d.parameters.length) = some n)
    (hR : fr + 1 ≤ R.frames ∧ 8 + (maxL + 11) + lo ≤ R.locals) (hK : Kn g s) (hSg : Sg k A s s.heap) (hS2 : va_S A s.heap H locs) (hi : i < 9) (hn : As.length = n) (hsize : ls.size = nL) (hstk : st0 = As.reverse ++ .ref (k.1 i) :: rest) (hW : (rest.map fun v => v.category).sum ≤ 8) (hdg : decode cc pc = .ok (.invokevirtual index, 3)) (hcs : cells ≤ R.cells ∧ slots ≤ R.slots)
    (kk : W p l e R s m args below meth c H locs cells slots Q (F0 m (pc + 3) ls (v.toList ++ rest))) : W p l e R s m args below meth c H locs cells slots Q (F0 m pc ls st0) :=
  cR (va_runV S hM (cwV n S.2.2.2.2 hT hw rfl rfl hd hR) ⟨PcRS.blind, vk_recv hSg.1 hi hS2, fun U hU hW => ⟨preR hK hP_nil U hU hW, hSg.at hS2 (fun _ h => h.elim) hU hW⟩⟩ rfl hn hsize hstk (lv_room hW) hdg ⟨hcs.1, hcs.2⟩) kk
theorem rSRS (S : CallFix p m c cc nL s args Ts own) (hM : MRS l y ws fr lo k g As wc v) (hT : GoodIn Ts (va_wsS own index y ws)) {ws' : List Cond} (hw : ws = Cond.code y bytes maxL ret :: ws') (hd : y.cls ≠ "java/lang/invoke/MethodHandle" ∧ y.cls ≠ "java/lang/invoke/VarHandle" ∧ (parseMethodDescriptor y.desc).map (fun d => d.parameters.length) = some n)
    (hR : fr + 1 ≤ R.frames ∧ 8 + (maxL + 11) + lo ≤ R.locals) (hK : Kn g s) (hSg : Sg k A s s.heap) (hS2 : va_S A s.heap H locs) (hP : va_P g.1 vwCl wc H) (hn : As.length = n) (hsize : ls.size = nL) (hstk : st0 = As.reverse ++ rest) (hW : (rest.map fun v => v.category).sum ≤ 8) (hdg : decode cc pc = .ok (.invokestatic index, 3)) (hcs : cells ≤ R.cells ∧ slots ≤ R.slots)
    (kk : W p l e R s m args below meth c H locs cells slots Q (F0 m (pc + 3) ls (v.toList ++ rest))) : W p l e R s m args below meth c H locs cells slots Q (F0 m pc ls st0) :=
  cR (va_runS S hM (va_cwS n S.2.2.2.2 hT hw rfl rfl hd hR) ⟨PcRS.blind, fun U hU hW => ⟨preR hK hP U hU hW, hSg.at hS2 (fun _ h => h.elim) hU hW⟩⟩ rfl hn hsize hstk (lv_room hW) hdg ⟨hcs.1, hcs.2⟩) kk
theorem rVWS {q0 ci : Nat} {cq : vw_C} {fs : List Value} (S : CallFix p m c cc nL s args Ts own) (hM : MWS l y ws fr lo k g (.ref b :: As) wc v w1) (hT : GoodIn Ts (wsV own index C y ws)) {ws' : List Cond} (hw : ws = Cond.code y bytes maxL ret :: ws') (hd : y.cls = C ∧ y.cls ≠ "java/lang/invoke/MethodHandle" ∧ y.cls ≠ "java/lang/invoke/VarHandle" ∧ (parseMethodDescriptor y.desc).map (fun d => d.parameters.length) = some n)
    (hR : fr + 1 ≤ R.frames ∧ 8 + (maxL + 11) + lo ≤ R.locals) (hK : Kn g s) (hSg : Sg k A s s.heap) (hwk : Wk g A s.heap H locs ws0) (hA : ∀ q, s.heap.size ≤ q → A q) (hp : List.Perm ws0 (wc ++ rs)) (ha : w1.map (·.1) = wc.map (·.1)) (hq : List.Perm wq (w1 ++ rs)) (hc : vwCl[ci]? = some cq) (he : wc[q0]? = some (b, .inr (ci, fs))) (hC : cq.1 = C) (hn : As.length = n) (hsize : ls.size = nL) (hstk : st0 = As.reverse ++ .ref b :: rest) (hW : (rest.map fun v => v.category).sum ≤ 8) (hdg : decode cc pc = .ok (.invokevirtual index, 3)) (hcs : cells ≤ R.cells ∧ slots ≤ R.slots)
    (kk : ∀ (H1 : Heap) (locs1 : List Loc), Wk g A s.heap H1 locs1 wq → W p l e R s m args below meth c H1 locs1 cells slots Q (F0 m (pc + 3) ls (v.toList ++ rest))) : W p l e R s m args below meth c H locs cells slots Q (F0 m pc ls st0) := by
  subst hC
  have hPc : va_P g.1 vwCl wc H := hwk.1.pm hp
  refine cWp (va_runV S (hM H.size) (cwV n S.2.2.2.2 hT hw rfl rfl hd hR) ⟨PcWS.blind, recv hK hPc q0 hc he, fun U hU hW => ⟨preW hK hPc (hwk.2.1.pm hp).left U hU hW, hSg.at hwk.2.2 (va_free2 hwk.2.1 hwk.2.2 hA hp) hU hW⟩⟩ rfl hn hsize hstk (lv_room hW) hdg ⟨hcs.1, hcs.2⟩) hwk hA hp ha hq kk
end SBASE
theorem lenS_lt {i : Nat} (hi : i < 9) : lenS.getD i 0 < 2 ^ 31 := by
  have h : ∀ i, i < 9 → lenS.getD i 0 < 2 ^ 31 := by decide
  exact h i hi
theorem hd_J0_coder_7d493 : yJ0_coder_7d493.cls = RJ0 ∧ yJ0_coder_7d493.cls ≠ "java/lang/invoke/MethodHandle" ∧ yJ0_coder_7d493.cls ≠ "java/lang/invoke/VarHandle" ∧ (parseMethodDescriptor yJ0_coder_7d493.desc).map (fun d => d.parameters.length) = some 0 := by decide +kernel
set_option maxHeartbeats 4000000 in
set_option maxRecDepth 100000 in
theorem c_J0_coder_7d493 (l : Launch) (g : Gm) (k : SgT) (i : Nat) (hi : i < 9) : MRS l yJ0_coder_7d493 wsJ0_coder_7d493 0 0 k g [.ref (k.1 i)] [] (some (.int 0)) := by
  refine Met.ofW (cc := cJ0_coder_7d493) (maxL := 1) (ret := some .byte) (by decide) rfl ?_
  intro p e s m args below meth c s₁ B hml hv
  obtain ⟨⟨rfl, hP, hK⟩, hSg⟩ := hv
  have hx := B.exec; have hb := B.bytes; have hr := B.returns
  have hts := atoms_spec (ws := wsJ0_coder_7d493) B.pre
  have hown : s.vm.findClass RJ0 = some m.cls := findClass_of_methodNamed B.named
  have hlocks := B.notSynchronized
  have hS : CallFix p m c cJ0_coder_7d493 1 s _ wsJ0_coder_7d493 RJ0 := ⟨hx, hb, hml, hown, hts⟩
  have hl := lv_entry ([.ref (k.1 i)]) (n := 1) (Nat.le_of_ble_eq_true rfl)
  rw [lg_entry_eq]
  generalize (lg_sl ([.ref (k.1 i)]) ++ List.replicate (1 - (lg_sl ([.ref (k.1 i)])).length) Slot.unset).toArray = ls at hl ⊢
  have hl : lv_has ls 1 [(0, .ref (k.1 i))] := hl
  refine va_gets hx hb hSg.2.1 va_S.rf hown (hts _ (mi 1 rfl)) (fun _ h => h) dJ0_coder_7d493_0 ?_
  refine lv_if_eq (tgt := 13) hx hb dJ0_coder_7d493_3 (by decide) (fun c => absurd c (by decide)) (fun c => ?_)
  refine lv_aload_n hx hb dJ0_coder_7d493_6 rfl (lv_at hl 0 rfl) ?_
  refine vk_getf hx hb (hSg.1.1 i hi).2.1 va_S.rf hown (hts _ (mi 2 rfl)) (fun _ h => h) dJ0_coder_7d493_7 ?_
  refine lv_goto (tgt := 14) hx hb dJ0_coder_7d493_10 (by decide) ?_
  exact W.zret hx hb hr rfl (fun t ht _ => ⟨rfl, ht⟩) (fun q hq => by cases hq) dJ0_coder_7d493_14
theorem hd_J0_length_8abf5 : yJ0_length_8abf5.cls = RJ0 ∧ yJ0_length_8abf5.cls ≠ "java/lang/invoke/MethodHandle" ∧ yJ0_length_8abf5.cls ≠ "java/lang/invoke/VarHandle" ∧ (parseMethodDescriptor yJ0_length_8abf5.desc).map (fun d => d.parameters.length) = some 0 := by decide +kernel
set_option maxHeartbeats 4000000 in
set_option maxRecDepth 100000 in
theorem c_J0_length_8abf5 (l : Launch) (g : Gm) (k : SgT) (i : Nat) (hi : i < 9) : MRS l yJ0_length_8abf5 wsJ0_length_8abf5 1 20 k g [.ref (k.1 i)] [] (some (.int (nI (lenS.getD i 0)))) := by
  refine Met.ofW (cc := cJ0_length_8abf5) (maxL := 1) (ret := some .int) (by decide) rfl ?_
  intro p e s m args below meth c s₁ B hml hv
  obtain ⟨⟨rfl, hP, hK⟩, hSg⟩ := hv
  have hx := B.exec; have hb := B.bytes; have hr := B.returns
  have hts := atoms_spec (ws := wsJ0_length_8abf5) B.pre
  have hown : s.vm.findClass RJ0 = some m.cls := findClass_of_methodNamed B.named
  have hlocks := B.notSynchronized
  have hS : CallFix p m c cJ0_length_8abf5 1 s _ wsJ0_length_8abf5 RJ0 := ⟨hx, hb, hml, hown, hts⟩
  have hl := lv_entry ([.ref (k.1 i)]) (n := 1) (Nat.le_of_ble_eq_true rfl)
  rw [lg_entry_eq]
  generalize (lg_sl ([.ref (k.1 i)]) ++ List.replicate (1 - (lg_sl ([.ref (k.1 i)])).length) Slot.unset).toArray = ls at hl ⊢
  have hl : lv_has ls 1 [(0, .ref (k.1 i))] := hl
  refine lv_aload_n hx hb dJ0_length_8abf5_0 rfl (lv_at hl 0 rfl) ?_
  refine vk_getf hx hb (hSg.1.1 i hi).2.2.1 va_S.rf hown (hts _ (mi 1 rfl)) (fun _ h => h) dJ0_length_8abf5_1 ?_
  refine va_tlen (v := nI (lenS.getD i 0)) hx hb (hSg.1.1 i hi).2.2.2 va_S.rf rfl dJ0_length_8abf5_4 ?_
  refine lv_aload_n hx hb dJ0_length_8abf5_5 rfl (lv_at hl 0 rfl) ?_
  refine rVRstr (As := []) (rest := [.int (nI (lenS.getD i 0))]) (i := i) hS (c_J0_coder_7d493 l g k i hi) gJ0_length_8abf5_J0_coder_7d493 rfl hd_J0_coder_7d493 ⟨Nat.le_of_ble_eq_true rfl, Nat.le_of_ble_eq_true rfl⟩ hK hSg va_S.rf hi rfl hl.1 rfl (Nat.le_of_ble_eq_true rfl) dJ0_length_8abf5_6 ⟨Nat.zero_le _, Nat.zero_le _⟩ ?_
  refine lv_ishr hx hb dJ0_length_8abf5_9 ?_
  rw [sc_shr0 (lenS_lt hi)]
  exact W.iret hx hb hr (fun t ht _ => ⟨rfl, ht⟩) (fun q hq => by cases hq) dJ0_length_8abf5_10
theorem hd_J0_isLatin1_aae02 : yJ0_isLatin1_aae02.cls = RJ0 ∧ yJ0_isLatin1_aae02.cls ≠ "java/lang/invoke/MethodHandle" ∧ yJ0_isLatin1_aae02.cls ≠ "java/lang/invoke/VarHandle" ∧ (parseMethodDescriptor yJ0_isLatin1_aae02.desc).map (fun d => d.parameters.length) = some 0 := by decide +kernel
set_option maxHeartbeats 4000000 in
set_option maxRecDepth 100000 in
theorem c_J0_isLatin1_aae02 (l : Launch) (g : Gm) (k : SgT) (i : Nat) (hi : i < 9) : MRS l yJ0_isLatin1_aae02 wsJ0_isLatin1_aae02 0 0 k g [.ref (k.1 i)] [] (some (.int 1)) := by
  refine Met.ofW (cc := cJ0_isLatin1_aae02) (maxL := 1) (ret := some .boolean) (by decide) rfl ?_
  intro p e s m args below meth c s₁ B hml hv
  obtain ⟨⟨rfl, hP, hK⟩, hSg⟩ := hv
  have hx := B.exec; have hb := B.bytes; have hr := B.returns
  have hts := atoms_spec (ws := wsJ0_isLatin1_aae02) B.pre
  have hown : s.vm.findClass RJ0 = some m.cls := findClass_of_methodNamed B.named
  have hlocks := B.notSynchronized
  have hS : CallFix p m c cJ0_isLatin1_aae02 1 s _ wsJ0_isLatin1_aae02 RJ0 := ⟨hx, hb, hml, hown, hts⟩
  have hl := lv_entry ([.ref (k.1 i)]) (n := 1) (Nat.le_of_ble_eq_true rfl)
  rw [lg_entry_eq]
  generalize (lg_sl ([.ref (k.1 i)]) ++ List.replicate (1 - (lg_sl ([.ref (k.1 i)])).length) Slot.unset).toArray = ls at hl ⊢
  have hl : lv_has ls 1 [(0, .ref (k.1 i))] := hl
  refine va_gets hx hb hSg.2.1 va_S.rf hown (hts _ (mi 1 rfl)) (fun _ h => h) dJ0_isLatin1_aae02_0 ?_
  refine lv_if_eq (tgt := 17) hx hb dJ0_isLatin1_aae02_3 (by decide) (fun c => absurd c (by decide)) (fun c => ?_)
  refine lv_aload_n hx hb dJ0_isLatin1_aae02_6 rfl (lv_at hl 0 rfl) ?_
  refine vk_getf hx hb (hSg.1.1 i hi).2.1 va_S.rf hown (hts _ (mi 2 rfl)) (fun _ h => h) dJ0_isLatin1_aae02_7 ?_
  refine lv_if_ne (tgt := 17) hx hb dJ0_isLatin1_aae02_10 (by decide) (fun c => absurd rfl c) (fun c => ?_)
  refine lv_iconst (v := (1 : Int32)) hx hb dJ0_isLatin1_aae02_13 (by decide) ?_
  refine lv_goto (tgt := 18) hx hb dJ0_isLatin1_aae02_14 (by decide) ?_
  exact W.zret hx hb hr rfl (fun t ht _ => ⟨rfl, ht⟩) (fun q hq => by cases hq) dJ0_isLatin1_aae02_18
theorem hd_J3_checkIndex_8e157 : yJ3_checkIndex_8e157.cls ≠ "java/lang/invoke/MethodHandle" ∧ yJ3_checkIndex_8e157.cls ≠ "java/lang/invoke/VarHandle" ∧ (parseMethodDescriptor yJ3_checkIndex_8e157.desc).map (fun d => d.parameters.length) = some 3 := by decide +kernel
set_option maxHeartbeats 4000000 in
set_option maxRecDepth 100000 in
theorem c_J3_checkIndex_8e157 (l : Launch) (g : Gm) (x n : Int32) (h1 : ¬ x < 0) (h2 : x < n) (w : Value) (hw : w = .null ∨ ∃ t : Nat, w = .ref t) : MR l yJ3_checkIndex_8e157 wsJ3_checkIndex_8e157 0 0 g [.int x, .int n, w] [] (some (.int x)) := by
  rcases hw with rfl | ⟨t, rfl⟩
  · refine Met.ofW (cc := cJ3_checkIndex_8e157) (maxL := 3) (ret := some .int) (by decide) rfl ?_
    intro p e s m args below meth c s₁ B hml hv
    obtain ⟨rfl, hP, hK⟩ := hv
    have hx := B.exec; have hb := B.bytes; have hr := B.returns
    have hts := atoms_spec (ws := wsJ3_checkIndex_8e157) B.pre
    have hown : s.vm.findClass RJ3 = some m.cls := findClass_of_methodNamed B.named
    have hlocks := B.notSynchronized
    have hS : CallFix p m c cJ3_checkIndex_8e157 3 s _ wsJ3_checkIndex_8e157 RJ3 := ⟨hx, hb, hml, hown, hts⟩
    have hl := lv_entry ([.int x, .int n, .null]) (n := 3) (Nat.le_of_ble_eq_true rfl)
    rw [lg_entry_eq]
    generalize (lg_sl ([.int x, .int n, .null]) ++ List.replicate (3 - (lg_sl ([.int x, .int n, .null])).length) Slot.unset).toArray = ls at hl ⊢
    have hl : lv_has ls 3 [(0, .int x), (1, .int n), (2, .null)] := hl
    refine lv_iload_n hx hb dJ3_checkIndex_8e157_0 rfl (lv_at hl 0 rfl) ?_
    refine lv_if_lt (tgt := 9) hx hb dJ3_checkIndex_8e157_1 (by decide) (fun c => absurd c h1) (fun c => ?_)
    refine lv_iload_n hx hb dJ3_checkIndex_8e157_4 rfl (lv_at hl 0 rfl) ?_
    refine lv_iload_n hx hb dJ3_checkIndex_8e157_5 rfl (lv_at hl 1 rfl) ?_
    refine lv_icmp_lt (tgt := 16) hx hb dJ3_checkIndex_8e157_6 (by decide) (fun c => ?_) (fun c => absurd h2 (by simpa using c))
    refine lv_iload_n hx hb dJ3_checkIndex_8e157_16 rfl (lv_at hl 0 rfl) ?_
    exact W.iret hx hb hr (fun t ht _ => ⟨rfl, ht⟩) (fun q hq => by cases hq) dJ3_checkIndex_8e157_17
  · refine Met.ofW (cc := cJ3_checkIndex_8e157) (maxL := 3) (ret := some .int) (by decide) rfl ?_
    intro p e s m args below meth c s₁ B hml hv
    obtain ⟨rfl, hP, hK⟩ := hv
    have hx := B.exec; have hb := B.bytes; have hr := B.returns
    have hts := atoms_spec (ws := wsJ3_checkIndex_8e157) B.pre
    have hown : s.vm.findClass RJ3 = some m.cls := findClass_of_methodNamed B.named
    have hlocks := B.notSynchronized
    have hS : CallFix p m c cJ3_checkIndex_8e157 3 s _ wsJ3_checkIndex_8e157 RJ3 := ⟨hx, hb, hml, hown, hts⟩
    have hl := lv_entry ([.int x, .int n, .ref t]) (n := 3) (Nat.le_of_ble_eq_true rfl)
    rw [lg_entry_eq]
    generalize (lg_sl ([.int x, .int n, .ref t]) ++ List.replicate (3 - (lg_sl ([.int x, .int n, .ref t])).length) Slot.unset).toArray = ls at hl ⊢
    have hl : lv_has ls 3 [(0, .int x), (1, .int n), (2, .ref t)] := hl
    refine lv_iload_n hx hb dJ3_checkIndex_8e157_0 rfl (lv_at hl 0 rfl) ?_
    refine lv_if_lt (tgt := 9) hx hb dJ3_checkIndex_8e157_1 (by decide) (fun c => absurd c h1) (fun c => ?_)
    refine lv_iload_n hx hb dJ3_checkIndex_8e157_4 rfl (lv_at hl 0 rfl) ?_
    refine lv_iload_n hx hb dJ3_checkIndex_8e157_5 rfl (lv_at hl 1 rfl) ?_
    refine lv_icmp_lt (tgt := 16) hx hb dJ3_checkIndex_8e157_6 (by decide) (fun c => ?_) (fun c => absurd h2 (by simpa using c))
    refine lv_iload_n hx hb dJ3_checkIndex_8e157_16 rfl (lv_at hl 0 rfl) ?_
    exact W.iret hx hb hr (fun t ht _ => ⟨rfl, ht⟩) (fun q hq => by cases hq) dJ3_checkIndex_8e157_17
theorem hd_J0_checkIndex_df160 : yJ0_checkIndex_df160.cls ≠ "java/lang/invoke/MethodHandle" ∧ yJ0_checkIndex_df160.cls ≠ "java/lang/invoke/VarHandle" ∧ (parseMethodDescriptor yJ0_checkIndex_df160.desc).map (fun d => d.parameters.length) = some 2 := by decide +kernel
set_option maxHeartbeats 4000000 in
set_option maxRecDepth 100000 in
theorem c_J0_checkIndex_df160 (l : Launch) (g : Gm) (k : SgT) (x n : Int32) (h1 : ¬ x < 0) (h2 : x < n) : MRS l yJ0_checkIndex_df160 wsJ0_checkIndex_df160 1 22 k g [.int x, .int n] [] none := by
  refine Met.ofW (cc := cJ0_checkIndex_df160) (maxL := 2) (ret := none) (by decide) rfl ?_
  intro p e s m args below meth c s₁ B hml hv
  obtain ⟨⟨rfl, hP, hK⟩, hSg⟩ := hv
  have hx := B.exec; have hb := B.bytes; have hr := B.returns
  have hts := atoms_spec (ws := wsJ0_checkIndex_df160) B.pre
  have hown : s.vm.findClass RJ0 = some m.cls := findClass_of_methodNamed B.named
  have hlocks := B.notSynchronized
  have hS : CallFix p m c cJ0_checkIndex_df160 2 s _ wsJ0_checkIndex_df160 RJ0 := ⟨hx, hb, hml, hown, hts⟩
  have hl := lv_entry ([.int x, .int n]) (n := 2) (Nat.le_of_ble_eq_true rfl)
  rw [lg_entry_eq]
  generalize (lg_sl ([.int x, .int n]) ++ List.replicate (2 - (lg_sl ([.int x, .int n])).length) Slot.unset).toArray = ls at hl ⊢
  have hl : lv_has ls 2 [(0, .int x), (1, .int n)] := hl
  refine lv_iload_n hx hb dJ0_checkIndex_df160_0 rfl (lv_at hl 0 rfl) ?_
  refine lv_iload_n hx hb dJ0_checkIndex_df160_1 rfl (lv_at hl 1 rfl) ?_
  rcases hSg.2.2.1 with hz | ⟨t, hz⟩
  · refine va_gets hx hb hz va_S.rf hown (hts _ (mi 1 rfl)) (fun _ h => h) dJ0_checkIndex_df160_2 ?_
    refine rSR (wc := ([] : va_W)) (As := [.int x, .int n, .null]) (rest := []) hS (c_J3_checkIndex_8e157 l g x n h1 h2 _ (Or.inl rfl)) gJ0_checkIndex_df160_J3_checkIndex_8e157 rfl hd_J3_checkIndex_8e157 ⟨Nat.le_of_ble_eq_true rfl, Nat.le_of_ble_eq_true rfl⟩ hK hP_nil rfl hl.1 rfl (Nat.le_of_ble_eq_true rfl) dJ0_checkIndex_df160_5 ⟨Nat.zero_le _, Nat.zero_le _⟩ ?_
    refine lv_pop hx hb dJ0_checkIndex_df160_8 rfl ?_
    exact W.vret hx hb hr (fun t ht _ => ⟨rfl, ht⟩) (fun q hq => by cases hq) dJ0_checkIndex_df160_9
  · refine va_gets hx hb hz va_S.rf hown (hts _ (mi 1 rfl)) (fun _ h => h) dJ0_checkIndex_df160_2 ?_
    refine rSR (wc := ([] : va_W)) (As := [.int x, .int n, .ref t]) (rest := []) hS (c_J3_checkIndex_8e157 l g x n h1 h2 _ (Or.inr ⟨_, rfl⟩)) gJ0_checkIndex_df160_J3_checkIndex_8e157 rfl hd_J3_checkIndex_8e157 ⟨Nat.le_of_ble_eq_true rfl, Nat.le_of_ble_eq_true rfl⟩ hK hP_nil rfl hl.1 rfl (Nat.le_of_ble_eq_true rfl) dJ0_checkIndex_df160_5 ⟨Nat.zero_le _, Nat.zero_le _⟩ ?_
    refine lv_pop hx hb dJ0_checkIndex_df160_8 rfl ?_
    exact W.vret hx hb hr (fun t ht _ => ⟨rfl, ht⟩) (fun q hq => by cases hq) dJ0_checkIndex_df160_9
theorem hd_J1_charAt_3b067 : yJ1_charAt_3b067.cls ≠ "java/lang/invoke/MethodHandle" ∧ yJ1_charAt_3b067.cls ≠ "java/lang/invoke/VarHandle" ∧ (parseMethodDescriptor yJ1_charAt_3b067.desc).map (fun d => d.parameters.length) = some 2 := by decide +kernel
set_option maxHeartbeats 4000000 in
set_option maxRecDepth 100000 in
theorem c_J1_charAt_3b067 (l : Launch) (g : Gm) (k : SgT) (i : Nat) (hi : i < 9) (x : Int32) (hin : ¬ (x < 0 ∨ lenS.getD i 0 ≤ x.toNatClampNeg)) : MRS l yJ1_charAt_3b067 wsJ1_charAt_3b067 2 43 k g [.ref (k.2 i), .int x] [] (some (.int ((bytS.getD i []).getD x.toNatClampNeg 0 &&& 255))) := by
  refine Met.ofW (cc := cJ1_charAt_3b067) (maxL := 2) (ret := some .char) (by decide) rfl ?_
  intro p e s m args below meth c s₁ B hml hv
  obtain ⟨⟨rfl, hP, hK⟩, hSg⟩ := hv
  have hx := B.exec; have hb := B.bytes; have hr := B.returns
  have hts := atoms_spec (ws := wsJ1_charAt_3b067) B.pre
  have hown : s.vm.findClass RJ1 = some m.cls := findClass_of_methodNamed B.named
  have hlocks := B.notSynchronized
  have hS : CallFix p m c cJ1_charAt_3b067 2 s _ wsJ1_charAt_3b067 RJ1 := ⟨hx, hb, hml, hown, hts⟩
  have hl := lv_entry ([.ref (k.2 i), .int x]) (n := 2) (Nat.le_of_ble_eq_true rfl)
  rw [lg_entry_eq]
  generalize (lg_sl ([.ref (k.2 i), .int x]) ++ List.replicate (2 - (lg_sl ([.ref (k.2 i), .int x])).length) Slot.unset).toArray = ls at hl ⊢
  have hl : lv_has ls 2 [(0, .ref (k.2 i)), (1, .int x)] := hl
  have hlt : x < nI (lenS.getD i 0) := by
    obtain ⟨j, hj, rfl⟩ := vp_in_of hin (lenS_lt hi)
    exact nI_lt hj (lenS_lt hi)
  refine lv_iload_n hx hb dJ1_charAt_3b067_0 rfl (lv_at hl 1 rfl) ?_
  refine lv_aload_n hx hb dJ1_charAt_3b067_1 rfl (lv_at hl 0 rfl) ?_
  refine va_tlen (v := nI (lenS.getD i 0)) hx hb (hSg.1.1 i hi).2.2.2 va_S.rf rfl dJ1_charAt_3b067_2 ?_
  refine rSRS (wc := ([] : va_W)) (As := [.int x, .int (nI (lenS.getD i 0))]) (rest := []) hS (c_J0_checkIndex_df160 l g k x _ (fun h => hin (Or.inl h)) hlt) gJ1_charAt_3b067_J0_checkIndex_df160 rfl hd_J0_checkIndex_df160 ⟨Nat.le_of_ble_eq_true rfl, Nat.le_of_ble_eq_true rfl⟩ hK hSg va_S.rf hP_nil rfl hl.1 rfl (Nat.le_of_ble_eq_true rfl) dJ1_charAt_3b067_3 ⟨Nat.zero_le _, Nat.zero_le _⟩ ?_
  refine lv_aload_n hx hb dJ1_charAt_3b067_6 rfl (lv_at hl 0 rfl) ?_
  refine lv_iload_n hx hb dJ1_charAt_3b067_7 rfl (lv_at hl 1 rfl) ?_
  refine va_tb (v := .int ((bytS.getD i []).getD x.toNatClampNeg 0)) hx hb (hSg.1.1 i hi).2.2.2 va_S.rf hin rfl dJ1_charAt_3b067_8 ?_
  refine lv_sipush (v := (255 : Int32)) hx hb dJ1_charAt_3b067_9 (by decide) ?_
  refine lv_iand hx hb dJ1_charAt_3b067_12 ?_
  refine lv_i2c hx hb dJ1_charAt_3b067_13 (sc_c2 _) ?_
  exact W.zret hx hb hr (sc_nar _) (fun t ht _ => ⟨rfl, ht⟩) (fun q hq => by cases hq) dJ1_charAt_3b067_14
theorem hd_J0_charAt_5068e : yJ0_charAt_5068e.cls = RJ0 ∧ yJ0_charAt_5068e.cls ≠ "java/lang/invoke/MethodHandle" ∧ yJ0_charAt_5068e.cls ≠ "java/lang/invoke/VarHandle" ∧ (parseMethodDescriptor yJ0_charAt_5068e.desc).map (fun d => d.parameters.length) = some 1 := by decide +kernel
set_option maxHeartbeats 4000000 in
set_option maxRecDepth 100000 in
theorem c_J0_charAt_5068e (l : Launch) (g : Gm) (k : SgT) (i : Nat) (hi : i < 9) (x : Int32) (hin : ¬ (x < 0 ∨ lenS.getD i 0 ≤ x.toNatClampNeg)) : MRS l yJ0_charAt_5068e wsJ0_charAt_5068e 3 64 k g [.ref (k.1 i), .int x] [] (some (.int ((bytS.getD i []).getD x.toNatClampNeg 0 &&& 255))) := by
  refine Met.ofW (cc := cJ0_charAt_5068e) (maxL := 2) (ret := some .char) (by decide) rfl ?_
  intro p e s m args below meth c s₁ B hml hv
  obtain ⟨⟨rfl, hP, hK⟩, hSg⟩ := hv
  have hx := B.exec; have hb := B.bytes; have hr := B.returns
  have hts := atoms_spec (ws := wsJ0_charAt_5068e) B.pre
  have hown : s.vm.findClass RJ0 = some m.cls := findClass_of_methodNamed B.named
  have hlocks := B.notSynchronized
  have hS : CallFix p m c cJ0_charAt_5068e 2 s _ wsJ0_charAt_5068e RJ0 := ⟨hx, hb, hml, hown, hts⟩
  have hl := lv_entry ([.ref (k.1 i), .int x]) (n := 2) (Nat.le_of_ble_eq_true rfl)
  rw [lg_entry_eq]
  generalize (lg_sl ([.ref (k.1 i), .int x]) ++ List.replicate (2 - (lg_sl ([.ref (k.1 i), .int x])).length) Slot.unset).toArray = ls at hl ⊢
  have hl : lv_has ls 2 [(0, .ref (k.1 i)), (1, .int x)] := hl
  refine lv_aload_n hx hb dJ0_charAt_5068e_0 rfl (lv_at hl 0 rfl) ?_
  refine rVRstr (As := []) (rest := []) (i := i) hS (c_J0_isLatin1_aae02 l g k i hi) gJ0_charAt_5068e_J0_isLatin1_aae02 rfl hd_J0_isLatin1_aae02 ⟨Nat.le_of_ble_eq_true rfl, Nat.le_of_ble_eq_true rfl⟩ hK hSg va_S.rf hi rfl hl.1 rfl (Nat.le_of_ble_eq_true rfl) dJ0_charAt_5068e_1 ⟨Nat.zero_le _, Nat.zero_le _⟩ ?_
  refine lv_if_eq (tgt := 16) hx hb dJ0_charAt_5068e_4 (by decide) (fun c => absurd c (by decide)) (fun c => ?_)
  refine lv_aload_n hx hb dJ0_charAt_5068e_7 rfl (lv_at hl 0 rfl) ?_
  refine vk_getf hx hb (hSg.1.1 i hi).2.2.1 va_S.rf hown (hts _ (mi 1 rfl)) (fun _ h => h) dJ0_charAt_5068e_8 ?_
  refine lv_iload_n hx hb dJ0_charAt_5068e_11 rfl (lv_at hl 1 rfl) ?_
  refine rSRS (wc := ([] : va_W)) (As := [.ref (k.2 i), .int x]) (rest := []) hS (c_J1_charAt_3b067 l g k i hi x hin) gJ0_charAt_5068e_J1_charAt_3b067 rfl hd_J1_charAt_3b067 ⟨Nat.le_of_ble_eq_true rfl, Nat.le_of_ble_eq_true rfl⟩ hK hSg va_S.rf hP_nil rfl hl.1 rfl (Nat.le_of_ble_eq_true rfl) dJ0_charAt_5068e_12 ⟨Nat.zero_le _, Nat.zero_le _⟩ ?_
  exact W.zret hx hb hr (sc_nar _) (fun t ht _ => ⟨rfl, ht⟩) (fun q hq => by cases hq) dJ0_charAt_5068e_15
