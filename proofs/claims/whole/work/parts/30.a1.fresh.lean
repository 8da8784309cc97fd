/-! ===== the reference's objects in reserve: fresh and image ===== -/
theorem lupT {σ R : Type} {N : Nat} (L : Nat → Nat → σ → Option R) (I : Nat → σ → Prop) (Q : R → Prop) (hx : ∀ n s, I N s → ∃ r, L (n + 1) N s = some r ∧ Q r) (hs : ∀ n i s, i < N → I i s → (∃ s', I (i + 1) s' ∧ L (n + 1) i s = L n (i + 1) s') ∨ ∃ r, L (n + 1) i s = some r ∧ Q r) : ∀ (d i n : Nat) (s : σ), i + d = N → d < n → I i s → ∃ r, L n i s = some r ∧ Q r
  | 0, i, n, s, h, h2, hi => by
    obtain ⟨n, rfl⟩ : ∃ k, n = k + 1 := ⟨n - 1, by omega⟩
    obtain rfl : i = N := by omega
    exact hx n s hi
  | d + 1, i, n, s, h, h2, hi => by
    obtain ⟨n, rfl⟩ : ∃ k, n = k + 1 := ⟨n - 1, by omega⟩
    rcases hs n i s (by omega) hi with ⟨s', h3, h4⟩ | h3
    · rw [h4]
      exact lupT L I Q hx hs d (i + 1) n s' (by omega) (by omega) h3
    · exact h3
theorem ob {α β : Type} {o : Option α} {f : α → Option β} {q : α} {r : Option β} (h : o = some q) (h2 : f q = r) : o.bind f = r := by rw [h]; exact h2
theorem over_ok {N : Nat} (hN : N < 300) (X0 X1 : TS) : ∃ X', f_X7_over N X0 N X1 = some X' ∧ ∀ j, j < N → X' 0 j = X0 0 j := by
  unfold f_X7_over
  obtain ⟨r, h1, h2⟩ := lupT (N := N) (fun n i s => L_X7_over_2 N X0 N n (nI i) s) (fun i s => ∀ j, j < i → s 0 j = X0 0 j) (fun r => ∀ j, j < N → r 0 j = X0 0 j) (fun n s hs => ⟨s, by
    show (if nI N ≤ nI N then some s else _) = some s
    rw [if_pos (Int32.le_refl _)], hs⟩) (fun n i s hi hs => Or.inl ⟨up s 0 (upd (s 0) i (X0 0 i)), fun j hj => by
      rw [up_same]
      by_cases e : j = i
      · subst e; exact pk_us
      · rw [pk_un e]; exact hs j (by omega), by
      show (if nI N ≤ nI i then _ else if nI i < 0 ∨ N ≤ (nI i).toNatClampNeg then _ else if nI i < 0 ∨ N ≤ (nI i).toNatClampNeg then _ else L_X7_over_2 N X0 N n (nI i + 1) (up s 0 (upd (s 0) (nI i).toNatClampNeg (X0 0 (nI i).toNatClampNeg)))) = L_X7_over_2 N X0 N n (nI (i + 1)) (up s 0 (upd (s 0) i (X0 0 i)))
      rw [if_neg (nI_ge hi (by omega)), if_neg (nI_in hi (by omega)), if_neg (nI_in hi (by omega)), nI_clamp (by omega), nI_1]⟩) N 0 300 X1 (by omega) hN (fun j h => absurd h (Nat.not_lt_zero j))
  exact ⟨r, ob h1 rfl, h2⟩
/-- towns of the reference that agree as far as their arrays go -/
def AgT (U V : TS) : Prop := (U 9 0 = V 9 0 ∧ U 10 0 = V 10 0 ∧ U 18 0 = V 18 0 ∧ U 19 0 = V 19 0) ∧ (∀ k j : Nat, 11 ≤ k → k ≤ 16 → j < 7 → U k j = V k j) ∧ (∀ j : Nat, j < 3 → U 17 j = V 17 j) ∧ ∀ j : Nat, j < 7 → U 29 j = V 29 j
theorem takeFrom_ok (U0 U1 : TS) : ∃ U', f_X7_takeFrom U0 U1 = some U' ∧ AgT U' (up U1 29 (U0 29)) := by
  unfold f_X7_takeFrom
  obtain ⟨q2, a2, b2⟩ := over_ok (N := 7) (by decide) (fun _ => U1 11) (fun _ => U0 11)
  obtain ⟨q4, a4, b4⟩ := over_ok (N := 7) (by decide) (fun _ => U1 12) (fun _ => U0 12)
  obtain ⟨q6, a6, b6⟩ := over_ok (N := 7) (by decide) (fun _ => U1 13) (fun _ => U0 13)
  obtain ⟨q8, a8, b8⟩ := over_ok (N := 7) (by decide) (fun _ => U1 14) (fun _ => U0 14)
  obtain ⟨q10, a10, b10⟩ := over_ok (N := 7) (by decide) (fun _ => U1 15) (fun _ => U0 15)
  obtain ⟨q12, a12, b12⟩ := over_ok (N := 7) (by decide) (fun _ => U1 16) (fun _ => U0 16)
  obtain ⟨q14, a14, b14⟩ := over_ok (N := 3) (by decide) (fun _ => U1 17) (fun _ => U0 17)
  refine ⟨_, ob a2 (ob a4 (ob a6 (ob a8 (ob a10 (ob a12 (ob a14 rfl)))))), ⟨rfl, rfl, rfl, rfl⟩, fun k j h1 h2 hj => ?_, fun j hj => b14 j hj, fun j hj => rfl⟩
  rcases (show k = 11 ∨ k = 12 ∨ k = 13 ∨ k = 14 ∨ k = 15 ∨ k = 16 by omega) with rfl | rfl | rfl | rfl | rfl | rfl
  · exact b2 j hj
  · exact b4 j hj
  · exact b6 j hj
  · exact b8 j hj
  · exact b10 j hj
  · exact b12 j hj
theorem va_at_arr {D : va_G} {cl : List vw_C} {a n : Nat} {c0 : ClassId} {f f' : Nat → Int32} {H : Heap} (h : ∀ i, i < n → f i = f' i) (hh : va_at D cl (a, .inl (c0, n, .inl f)) H) : va_at D cl (a, .inl (c0, n, .inl f')) H := by
  have e : vp_cell c0 (n, .inl f) = vp_cell c0 (n, .inl f') := by
    rw [vp_cell_i, vp_cell_i]
    unfold arrV
    congr 2
    funext j
    show Value.int (f j.val) = Value.int (f' j.val)
    rw [h j.val j.isLt]
  show H[a]? = some (vp_cell c0 (n, .inl f'))
  rw [← e]
  exact hh
theorem va_P_cons {D : va_G} {cl : List vw_C} {x : Nat × va_E} {ws : va_W} {H : Heap} : va_P D cl (x :: ws) H ↔ va_at D cl x H ∧ va_P D cl ws H := by
  constructor
  · intro h
    exact ⟨h 0 x rfl, fun k q hk => h (k + 1) q (by rw [List.getElem?_cons_succ]; exact hk)⟩
  · rintro ⟨h1, h2⟩ k q hk
    cases k with
    | zero => cases hk; exact h1
    | succ k => rw [List.getElem?_cons_succ] at hk; exact h2 k q hk
theorem va_P_app {D : va_G} {cl : List vw_C} {ws ws' : va_W} {H : Heap} : va_P D cl (ws ++ ws') H ↔ va_P D cl ws H ∧ va_P D cl ws' H := by
  constructor
  · intro h
    exact ⟨h.mem (fun q hq => List.mem_append_left _ hq), h.mem (fun q hq => List.mem_append_right _ hq)⟩
  · rintro ⟨h1, h2⟩ k q hk
    rcases List.mem_append.mp (List.mem_of_getElem? hk) with h | h
    · obtain ⟨j, hj⟩ := List.mem_iff_getElem?.mp h
      exact h1 j q hj
    · obtain ⟨j, hj⟩ := List.mem_iff_getElem?.mp h
      exact h2 j q hj
theorem wXT_cg {g : Gm} {b : Nat → Nat} {F : Nat → Value} {U V : TS} {H : Heap} (h : AgT U V) (hP : va_P g.1 vwCl (wXT g b F U) H) : va_P g.1 vwCl (wXT g b F V) H := by
  unfold wXT at hP ⊢
  rw [h.1.1, h.1.2.1, h.1.2.2.1, h.1.2.2.2] at hP
  simp only [va_P_cons] at hP ⊢
  obtain ⟨p0, p1, p2, p3, p4, p5, p6, p7, p8, p9⟩ := hP
  exact ⟨p0, va_at_arr (fun i hi => h.2.1 11 i (by decide) (by decide) hi) p1, va_at_arr (fun i hi => h.2.1 12 i (by decide) (by decide) hi) p2, va_at_arr (fun i hi => h.2.1 13 i (by decide) (by decide) hi) p3, va_at_arr (fun i hi => h.2.1 14 i (by decide) (by decide) hi) p4, va_at_arr (fun i hi => h.2.1 15 i (by decide) (by decide) hi) p5, va_at_arr (fun i hi => h.2.1 16 i (by decide) (by decide) hi) p6, va_at_arr (fun i hi => h.2.2.1 i hi) p7, va_at_arr (fun i hi => h.2.2.2 i hi) p8, p9⟩
theorem wXT_cgA {g : Gm} {b : Nat → Nat} {F : Nat → Value} {U V : TS} {X : va_W} {H : Heap} (h : AgT U V) (hP : va_P g.1 vwCl (X ++ wXT g b F U) H) : va_P g.1 vwCl (X ++ wXT g b F V) H := va_P_app.mpr ⟨(va_P_app.mp hP).1, wXT_cg h (va_P_app.mp hP).2⟩
theorem wXT_cgD {g : Gm} {A : Nat → Prop} {b : Nat → Nat} {F : Nat → Value} {U V : TS} {X : va_W} (hD : va_D A (X ++ wXT g b F U)) : va_D A (X ++ wXT g b F V) := by
  rw [va_D_iff] at hD ⊢
  have e : (X ++ wXT g b F V).map (·.1) = (X ++ wXT g b F U).map (·.1) := by rw [List.map_append, List.map_append]; rfl
  exact ⟨by rw [e]; exact hD.1, fun x hx => hD.2 x (by rw [← e]; exact hx)⟩
theorem pm4 {α : Type} (a b c d : List α) : List.Perm ((a ++ b) ++ (c ++ d)) ((c ++ a) ++ (b ++ d)) := by
  classical
  exact List.perm_iff_count.mpr (fun x => by simp only [List.count_append] <;> omega)
theorem pm3 {α : Type} (a b c : List α) : List.Perm ((a ++ b) ++ c) ((c ++ a) ++ b) := by
  classical
  exact List.perm_iff_count.mpr (fun x => by simp only [List.count_append] <;> omega)
theorem pm3b {α : Type} (a b c : List α) : List.Perm ((a ++ b) ++ c) ((a ++ c) ++ b) := by
  classical
  exact List.perm_iff_count.mpr (fun x => by simp only [List.count_append] <;> omega)
theorem pmF (g : Gm) (a : Nat → Nat) (U V : TS) (M R : LTS) (kv tv : Value) (b : Nat → Nat) (U2 V2 : TS) (M2 R2 : LTS) (kv2 tv2 : Value) : List.Perm (wXM g a U V M R kv tv ++ wXM g b U2 V2 M2 R2 kv2 tv2) ((wXT g b (fm b V2 kv2 tv2) U2 ++ wXT g a (fm a V kv tv) U) ++ (wXR g a V M R ++ wXR g b V2 M2 R2)) := by
  rw [wXM_eq, wXM_eq]
  exact pm4 _ _ _ _
theorem pmG (g : Gm) (X : va_W) (b : Nat → Nat) (U V : TS) (M R : LTS) (kv tv : Value) : List.Perm (X ++ wXM g b U V M R kv tv) ((X ++ wXT g b (fm b V kv tv) U) ++ wXR g b V M R) := by
  rw [wXM_eq, List.append_assoc]
theorem pmH (g : Gm) (a : Nat → Nat) (U V : TS) (M R : LTS) (kv tv : Value) (Y : va_W) : List.Perm (wXM g a U V M R kv tv ++ Y) ((Y ++ wXT g a (fm a V kv tv) U) ++ wXR g a V M R) := by
  rw [wXM_eq]
  exact pm3 _ _ _
theorem pmX3 (g : Gm) (a : Nat → Nat) (U V : TS) (M R : LTS) (kv tv : Value) (Y : va_W) : List.Perm (wXM g a U V M R kv tv ++ Y) ((wXT g a (fm a V kv tv) U ++ Y) ++ wXR g a V M R) := by
  rw [wXM_eq]
  exact pm3b _ _ _
theorem rowPerm {α : Type} {i : Nat} (h : i < 8) (f : Nat → α) : List.Perm ((List.range 8).map f) ([f i] ++ ((List.range 8).erase i).map f) := (List.perm_cons_erase (List.mem_range.mpr h)).map f
theorem pm5a {α : Type} (t m r rs y : List α) : List.Perm ((t ++ (m ++ (r ++ rs))) ++ y) ((y ++ r) ++ (t ++ (m ++ rs))) := by
  classical
  exact List.perm_iff_count.mpr (fun x => by simp only [List.count_append] <;> omega)
theorem pm5b {α : Type} (t m r rs y : List α) : List.Perm ((t ++ (m ++ (r ++ rs))) ++ y) ((t ++ r) ++ (m ++ (rs ++ y))) := by
  classical
  exact List.perm_iff_count.mpr (fun x => by simp only [List.count_append] <;> omega)
def wXmid (g : Gm) (a : Nat → Nat) (V : TS) (M : LTS) : va_W := [(a 9, .inl (g.2 0, 8, .inl (V 0))), (a 10, .inl (g.2 0, 8, .inl (V 1))), (a 11, .inl (g.2 0, 8, .inl (V 2))), (a 12, .inl (g.2 3, 8, .inr (.inr (.inr (.inr (fun i => some (a (20 + i)))))))), (a 13, .inl (g.2 1, 40, .inr (.inl (M 4)))), (a 14, .inl (g.2 0, 8, .inl (V 5))), (a 15, .inl (g.2 0, 250, .inl (V 6))), (a 16, .inl (g.2 0, 8, .inl (V 8))), (a 17, .inl (g.2 0, 2, .inl (V 27))), (a 18, .inl (g.2 0, 7, .inl (V 30))), (a 19, .inl (g.2 0, 7, .inl (V 31)))]
theorem wXR_eq (g : Gm) (a : Nat → Nat) (V : TS) (M R : LTS) : wXR g a V M R = wXmid g a V M ++ (List.range 8).map (fun i => ((a (20 + i), .inl (g.2 1, 40, .inr (.inl (R i)))) : Nat × va_E)) := rfl
theorem pmR1 {i : Nat} (h : i < 8) (g : Gm) (a : Nat → Nat) (U V : TS) (M R : LTS) (kv tv : Value) (Y : va_W) : List.Perm (wXM g a U V M R kv tv ++ Y) ((Y ++ wAL g (fun _ => a (20 + i)) (fun _ => R i)) ++ (wXT g a (fm a V kv tv) U ++ (wXmid g a V M ++ ((List.range 8).erase i).map (fun i => ((a (20 + i), .inl (g.2 1, 40, .inr (.inl (R i)))) : Nat × va_E))))) := by
  rw [wXM_eq, wXR_eq]
  exact (List.Perm.append_right Y (List.Perm.append_left _ (List.Perm.append_left _ (rowPerm h _)))).trans (pm5a _ _ _ _ _)
theorem pmR2 {i : Nat} (h : i < 8) (g : Gm) (a : Nat → Nat) (U V : TS) (M R : LTS) (kv tv : Value) (Y : va_W) : List.Perm (wXM g a U V M R kv tv ++ Y) ((wXT g a (fm a V kv tv) U ++ wAL g (fun _ => a (20 + i)) (fun _ => R i)) ++ (wXmid g a V M ++ (((List.range 8).erase i).map (fun i => ((a (20 + i), .inl (g.2 1, 40, .inr (.inl (R i)))) : Nat × va_E)) ++ Y))) := by
  rw [wXM_eq, wXR_eq]
  exact (List.Perm.append_right Y (List.Perm.append_left _ (List.Perm.append_left _ (rowPerm h _)))).trans (pm5b _ _ _ _ _)
theorem W_nl {p : Program} {l : Launch} {e : Env} {R : Room} {s : State} {m : MethodId} {args : Array Value} {below : List Frame} {meth : Method} {c : Code} {H : Heap} {locs : List Loc} {Q : State → Prop} {fr : JFrame} (t0 : Tr) (h : W p l e R s m args below meth c H locs (28 * (nlOf t0 - nlOf t0)) (759 * (nlOf t0 - nlOf t0)) Q fr) : W p l e R s m args below meth c H locs 0 0 Q fr := by
  simpa only [Nat.sub_self, Nat.mul_zero] using h
def QcG (g : Gm) (w1 : Tr → va_W) (U1 : TS) (A : Nat → Prop) : Array Value → State → Outcome → State → Prop := fun _ st oc t => (oc = .returned (some (.int 1)) ∧ ∃ (b : Nat → Nat) (F : Nat → Value), va_P g.1 vwCl (w1 (some (b, F, U1))) t.heap ∧ va_D A (w1 (some (b, F, U1)))) ∧ va_F A st t
def MG (l : Launch) (y : MethodName) (ws : List Cond) (fr lo : Nat) (g : Gm) (av : List Value) (w0 : Tr → va_W) (t : Tr) (w1 : Tr → va_W) (U1 : TS) : Prop :=
  ∀ sz : Nat, Met l y ws ({ frames := fr, cells := 28 * nlOf t, slots := 759 * nlOf t, locals := lo }) (PcW g av (w0 t) sz) (QcG g w1 U1 (va_A (w0 t) sz)) (28 * nlOf t) (759 * nlOf t) (va_A (w0 t) sz)
def MBS (l : Launch) (y : MethodName) (ws : List Cond) (fr lo : Nat) (k : SgT) (g : Gm) (av : List Value) (w0 : Tr → va_W) (t : Tr) (v : Option Value) (w1 : Tr → va_W) (tp : Option (Nat → Int32)) : Prop :=
  ∀ sz : Nat, Met l y ws ({ frames := fr, cells := 28 * nlOf t, slots := 759 * nlOf t, locals := lo }) (PcWS k g av (w0 t) sz) (QcB g v w1 tp (va_A (w0 t) sz)) (28 * nlOf t) (759 * nlOf t) (va_A (w0 t) sz)
theorem hd_X7_fresh : yX7_fresh.cls = RX7 ∧ yX7_fresh.cls ≠ "java/lang/invoke/MethodHandle" ∧ yX7_fresh.cls ≠ "java/lang/invoke/VarHandle" ∧ (parseMethodDescriptor yX7_fresh.desc).map (fun d => d.parameters.length) = some 0 := by decide +kernel
set_option maxHeartbeats 4000000 in
set_option maxRecDepth 100000 in
theorem c_X7_fresh (l : Launch) (g : Gm) (a0 : Nat → Nat) (U0 V0 : TS) (M0 R0 : LTS) (kv : Value) (t0 : Tr) (tp0 : Option (Nat → Int32)) (h0 : tpOf t0 = tp0) : MF l yX7_fresh wsX7_fresh 4 120 g [.ref (a0 0)] (fun t => (wXM g a0 U0 V0 M0 R0 kv (tvOf t)) ++ wOT g t) t0 (fun t => (wXM g a0 U0 V0 M0 R0 kv (tvOf t)) ++ wOT g t) (fr0 U0 tp0) := by
  subst h0
  intro sz
  cases t0 with
  | none =>
    refine Met.ofW (cc := cX7_fresh) (maxL := 1) (ret := (some (.object "OnlyUnseenModel"))) (by decide) rfl ?_
    intro p e s m args below meth c s₁ B hml hv
    obtain ⟨rfl, hsz, hP, hK, hD0⟩ := hv
    have hx := B.exec; have hb := B.bytes; have hr := B.returns
    have hts := atoms_spec (ws := wsX7_fresh) B.pre
    have hown : s.vm.findClass RX7 = some m.cls := findClass_of_methodNamed B.named
    have hlocks := B.notSynchronized
    have hS : CallFix p m c cX7_fresh 1 s _ wsX7_fresh RX7 := ⟨hx, hb, hml, hown, hts⟩
    have hin_X7 : ∀ w ∈ wsX70, w ∈ wsX7_fresh := fun w h => (List.mem_cons_of_mem _ (List.mem_append_right _ h))
    subst hsz
    have hw := wk_start hP hD0
    have hA : ∀ q : Nat, s.heap.size ≤ q → va_A ((wXM g a0 U0 V0 M0 R0 kv (tvOf none)) ++ wOT g none) s.heap.size q := fun q h => Or.inr h
    generalize va_A ((wXM g a0 U0 V0 M0 R0 kv (tvOf none)) ++ wOT g none) s.heap.size = A at hw hA ⊢
    clear hP hD0
    have hl := lv_entry ([.ref (a0 0)]) (n := 1) (Nat.le_of_ble_eq_true rfl)
    rw [lg_entry_eq]
    generalize (lg_sl ([.ref (a0 0)]) ++ List.replicate (1 - (lg_sl ([.ref (a0 0)])).length) Slot.unset).toArray = ls at hl ⊢
    have hl : lv_has ls 1 [(0, .ref (a0 0))] := hl
    have hw : Wk g A s.heap s.heap [] ((wXM g a0 U0 V0 M0 R0 kv (tvOf none)) ++ wOT g none) := hw
    rw [show ((wXM g a0 U0 V0 M0 R0 kv (tvOf none)) ++ wOT g none) = (wXM g a0 U0 V0 M0 R0 kv .null) from List.append_nil _] at hw
    refine lv_aload_n hx hb dX7_fresh_0 rfl (lv_at hl 0 rfl) ?_
    refine wk_get hx hb hts hin_X7 hown hK hw.1 7 0 21 .null rfl rfl (by decide) (mi 1 rfl) rfl rfl dX7_fresh_1 ?_
    refine lv_ifnonnullN hx hb dX7_fresh_4 ?_
    refine lv_aload_n hx hb dX7_fresh_7 rfl (lv_at hl 0 rfl) ?_
    refine wk_newo (ci := 7) hx hb hts hin_X7 tyX7 tyX7_ok hown (mi 2 rfl) (mi 3 rfl) (mi 4 rfl) hK hw hA rfl [.null, .null, .null, .null, .null, .null, .null, .int 0, .null, .int 0, .int 0, .null, .null, .null, .null, .null, .null, .null, .int 0, .int 0, .null, .null, .int 0, .int 0, .int 0, .int 0, .int 0, .null, .int 0, .null, .null, .null, .int 0] (fun j hj => by rcases (show j = 0 ∨ j = 1 ∨ j = 2 ∨ j = 3 ∨ j = 4 ∨ j = 5 ∨ j = 6 ∨ j = 7 ∨ j = 8 ∨ j = 9 ∨ j = 10 ∨ j = 11 ∨ j = 12 ∨ j = 13 ∨ j = 14 ∨ j = 15 ∨ j = 16 ∨ j = 17 ∨ j = 18 ∨ j = 19 ∨ j = 20 ∨ j = 21 ∨ j = 22 ∨ j = 23 ∨ j = 24 ∨ j = 25 ∨ j = 26 ∨ j = 27 ∨ j = 28 ∨ j = 29 ∨ j = 30 ∨ j = 31 ∨ j = 32 by omega) with rfl | rfl | rfl | rfl | rfl | rfl | rfl | rfl | rfl | rfl | rfl | rfl | rfl | rfl | rfl | rfl | rfl | rfl | rfl | rfl | rfl | rfl | rfl | rfl | rfl | rfl | rfl | rfl | rfl | rfl | rfl | rfl | rfl <;> rfl) (Nat.le_of_ble_eq_true rfl) (Nat.le_of_ble_eq_true rfl) dX7_fresh_8 (fun q0 H hw => ?_)
    refine lv_dup hx hb dX7_fresh_11 rfl ?_
    refine rIp (As := []) (rest := [.ref q0, .ref (a0 0)]) (wc := [(q0, .inr (7, [.null, .null, .null, .null, .null, .null, .null, .int 0, .null, .int 0, .int 0, .null, .null, .null, .null, .null, .null, .null, .int 0, .int 0, .null, .null, .int 0, .int 0, .int 0, .int 0, .int 0, .null, .int 0, .null, .null, .null, .int 0]))]) (wr := (wXM g a0 U0 V0 M0 R0 kv .null)) hS (c_X7_init l g q0) gX7_fresh_X7_init rfl (mi 4 rfl) (mi 5 rfl) (mi 6 rfl) rfl hd_X7_init ⟨Nat.le_of_ble_eq_true rfl, Nat.le_of_ble_eq_true rfl⟩ hK hw hA List.perm_append_comm rfl hl.1 rfl (Nat.le_of_ble_eq_true rfl) dX7_fresh_12 ⟨Nat.le_of_ble_eq_true rfl, Nat.le_of_ble_eq_true rfl⟩ (fun b1 H locs eb1 hwN => ?_)
    subst eb1
    have hw : Wk g A s.heap H locs ((wXM g a0 U0 V0 M0 R0 kv .null) ++ (wXM g (b1 0) iU7 iV7 iM7 iR7 .null .null)) := hwN
    refine wk_put (wq := ((wXM g a0 U0 V0 M0 R0 kv (.ref (b1 0 0))) ++ (wXM g (b1 0) iU7 iV7 iM7 iR7 .null .null))) hx hb hts hin_X7 tyX7 tyX7_ok nmX7 hown hK hw 7 0 21 rfl rfl (by decide) (mi 1 rfl) rfl rfl rfl rfl (Nat.le_of_ble_eq_true rfl) dX7_fresh_15 rfl (fun H locs hw => ?_)
    refine lv_aload_n hx hb dX7_fresh_18 rfl (lv_at hl 0 rfl) ?_
    refine wk_get hx hb hts hin_X7 hown hK hw.1 7 0 21 (.ref (b1 0 0)) rfl rfl (by decide) (mi 1 rfl) rfl rfl dX7_fresh_19 ?_
    refine lv_aload_n hx hb dX7_fresh_22 rfl (lv_at hl 0 rfl) ?_
    obtain ⟨U', e1, e2⟩ := takeFrom_ok iU7 U0
    refine rVWp (wc := (wXT g (b1 0) (fm (b1 0) iV7 .null .null) iU7 ++ wXT g a0 (fm a0 V0 kv (.ref (b1 0 0))) U0)) (wq := ((wXM g a0 U0 V0 M0 R0 kv (.ref (b1 0 0))) ++ wXM g (b1 0) U' iV7 iM7 iR7 .null .null)) (As := [.ref (a0 0)]) (rest := []) (q0 := 0) hS (c_X7_takeFrom l g (b1 0) a0 (fm (b1 0) iV7 .null .null) (fm a0 V0 kv (.ref (b1 0 0))) iU7 U0 e1) gX7_fresh_X7_takeFrom rfl hd_X7_takeFrom ⟨Nat.le_of_ble_eq_true rfl, Nat.le_of_ble_eq_true rfl⟩ hK hw hA (pmF g _ _ _ _ _ _ _ _ _ _ _ _ _ _) rfl (pmF g _ _ _ _ _ _ _ _ _ _ _ _ _ _) rfl rfl rfl rfl hl.1 rfl (Nat.le_of_ble_eq_true rfl) dX7_fresh_23 ⟨Nat.le_of_ble_eq_true rfl, Nat.le_of_ble_eq_true rfl⟩ (fun H locs hw => ?_)
    refine lv_aload_n hx hb dX7_fresh_26 rfl (lv_at hl 0 rfl) ?_
    refine wk_get hx hb hts hin_X7 hown hK hw.1 7 0 21 (.ref ((b1 0) 0)) rfl rfl (by decide) (mi 1 rfl) rfl rfl dX7_fresh_27 ?_
    refine W.widen (k := 28 * nlOf none) (n := 759 * nlOf none) (by decide) (by decide) ?_
    have hag : AgT U' (fr0 U0 none) := ⟨e2.1, e2.2.1, e2.2.2.1, fun j hj => e2.2.2.2 j hj⟩
    have hPf := wXT_cgA hag (hw.1.pm (pmG g _ _ _ _ _ _ _ _))
    have hDf := wXT_cgD (V := fr0 U0 none) ((hw.2.1.pm (pmG g _ _ _ _ _ _ _ _)).left)
    exact W.aret hx hb hr (Or.inl ⟨_, rfl⟩) (Or.inr ⟨_, rfl⟩) (fun t ht _ => ⟨⟨(b1 0), (fm (b1 0) iV7 .null .null), rfl, by rw [ht]; exact hPf, hDf⟩, hw.2.2.F ht⟩) hw.2.2.2.2 dX7_fresh_30
  | some t =>
    obtain ⟨b, F, Ut⟩ := t
    refine Met.ofW (cc := cX7_fresh) (maxL := 1) (ret := (some (.object "OnlyUnseenModel"))) (by decide) rfl ?_
    intro p e s m args below meth c s₁ B hml hv
    obtain ⟨rfl, hsz, hP, hK, hD0⟩ := hv
    have hx := B.exec; have hb := B.bytes; have hr := B.returns
    have hts := atoms_spec (ws := wsX7_fresh) B.pre
    have hown : s.vm.findClass RX7 = some m.cls := findClass_of_methodNamed B.named
    have hlocks := B.notSynchronized
    have hS : CallFix p m c cX7_fresh 1 s _ wsX7_fresh RX7 := ⟨hx, hb, hml, hown, hts⟩
    have hin_X7 : ∀ w ∈ wsX70, w ∈ wsX7_fresh := fun w h => (List.mem_cons_of_mem _ (List.mem_append_right _ h))
    subst hsz
    have hw := wk_start hP hD0
    have hA : ∀ q : Nat, s.heap.size ≤ q → va_A ((wXM g a0 U0 V0 M0 R0 kv (tvOf (some (b, F, Ut)))) ++ wOT g (some (b, F, Ut))) s.heap.size q := fun q h => Or.inr h
    generalize va_A ((wXM g a0 U0 V0 M0 R0 kv (tvOf (some (b, F, Ut)))) ++ wOT g (some (b, F, Ut))) s.heap.size = A at hw hA ⊢
    clear hP hD0
    have hl := lv_entry ([.ref (a0 0)]) (n := 1) (Nat.le_of_ble_eq_true rfl)
    rw [lg_entry_eq]
    generalize (lg_sl ([.ref (a0 0)]) ++ List.replicate (1 - (lg_sl ([.ref (a0 0)])).length) Slot.unset).toArray = ls at hl ⊢
    have hl : lv_has ls 1 [(0, .ref (a0 0))] := hl
    have hw : Wk g A s.heap s.heap [] ((wXM g a0 U0 V0 M0 R0 kv (.ref (b 0))) ++ wXT g b F Ut) := hw
    refine lv_aload_n hx hb dX7_fresh_0 rfl (lv_at hl 0 rfl) ?_
    refine wk_get hx hb hts hin_X7 hown hK hw.1 7 0 21 (.ref (b 0)) rfl rfl (by decide) (mi 1 rfl) rfl rfl dX7_fresh_1 ?_
    refine lv_ifnonnull (tgt := 18) hx hb dX7_fresh_4 (by decide) ?_
    refine lv_aload_n hx hb dX7_fresh_18 rfl (lv_at hl 0 rfl) ?_
    refine wk_get hx hb hts hin_X7 hown hK hw.1 7 0 21 (.ref (b 0)) rfl rfl (by decide) (mi 1 rfl) rfl rfl dX7_fresh_19 ?_
    refine lv_aload_n hx hb dX7_fresh_22 rfl (lv_at hl 0 rfl) ?_
    obtain ⟨U', e1, e2⟩ := takeFrom_ok Ut U0
    refine rVWp (wc := (wXT g b F Ut ++ wXT g a0 (fm a0 V0 kv (.ref (b 0))) U0)) (wq := ((wXM g a0 U0 V0 M0 R0 kv (.ref (b 0))) ++ wXT g b F U')) (As := [.ref (a0 0)]) (rest := []) (q0 := 0) hS (c_X7_takeFrom l g b a0 F (fm a0 V0 kv (.ref (b 0))) Ut U0 e1) gX7_fresh_X7_takeFrom rfl hd_X7_takeFrom ⟨Nat.le_of_ble_eq_true rfl, Nat.le_of_ble_eq_true rfl⟩ hK hw hA (pmH g _ _ _ _ _ _ _ _) rfl (pmH g _ _ _ _ _ _ _ _) rfl rfl rfl rfl hl.1 rfl (Nat.le_of_ble_eq_true rfl) dX7_fresh_23 ⟨Nat.zero_le _, Nat.zero_le _⟩ (fun H locs hw => ?_)
    refine lv_aload_n hx hb dX7_fresh_26 rfl (lv_at hl 0 rfl) ?_
    refine wk_get hx hb hts hin_X7 hown hK hw.1 7 0 21 (.ref (b 0)) rfl rfl (by decide) (mi 1 rfl) rfl rfl dX7_fresh_27 ?_
    refine W.widen (k := 28 * nlOf (some (b, F, Ut))) (n := 759 * nlOf (some (b, F, Ut))) (Nat.zero_le _) (Nat.zero_le _) ?_
    have hag : AgT U' (fr0 U0 (some (Ut 29))) := ⟨e2.1, e2.2.1, e2.2.2.1, fun j hj => e2.2.2.2 j hj⟩
    have hPf := wXT_cgA hag (hw.1)
    have hDf := wXT_cgD (V := fr0 U0 (some (Ut 29))) (hw.2.1)
    exact W.aret hx hb hr (Or.inl ⟨_, rfl⟩) (Or.inr ⟨_, rfl⟩) (fun t ht _ => ⟨⟨b, F, rfl, by rw [ht]; exact hPf, hDf⟩, hw.2.2.F ht⟩) hw.2.2.2.2 dX7_fresh_30
theorem hd_X7_image : yX7_image.cls = RX7 ∧ yX7_image.cls ≠ "java/lang/invoke/MethodHandle" ∧ yX7_image.cls ≠ "java/lang/invoke/VarHandle" ∧ (parseMethodDescriptor yX7_image.desc).map (fun d => d.parameters.length) = some 0 := by decide +kernel
set_option maxHeartbeats 4000000 in
set_option maxRecDepth 100000 in
theorem c_X7_image (l : Launch) (g : Gm) (a0 : Nat → Nat) (U0 V0 : TS) (M0 R0 : LTS) (tv : Value) (t0 : Tr) (tp0 : Option (Nat → Int32)) (h0 : tpOf t0 = tp0) : MG l yX7_image wsX7_image 4 120 g [.ref (a0 0)] (fun t => (wXM g a0 U0 V0 M0 R0 (tvOf t) tv) ++ wOT g t) t0 (fun t => (wXM g a0 U0 V0 M0 R0 (tvOf t) tv) ++ wOT g t) (fr0 U0 tp0) := by
  subst h0
  intro sz
  cases t0 with
  | none =>
    refine Met.ofW (cc := cX7_image) (maxL := 1) (ret := (some .int)) (by decide) rfl ?_
    intro p e s m args below meth c s₁ B hml hv
    obtain ⟨rfl, hsz, hP, hK, hD0⟩ := hv
    have hx := B.exec; have hb := B.bytes; have hr := B.returns
    have hts := atoms_spec (ws := wsX7_image) B.pre
    have hown : s.vm.findClass RX7 = some m.cls := findClass_of_methodNamed B.named
    have hlocks := B.notSynchronized
    have hS : CallFix p m c cX7_image 1 s _ wsX7_image RX7 := ⟨hx, hb, hml, hown, hts⟩
    have hin_X7 : ∀ w ∈ wsX70, w ∈ wsX7_image := fun w h => (List.mem_cons_of_mem _ (List.mem_append_right _ h))
    subst hsz
    have hw := wk_start hP hD0
    have hA : ∀ q : Nat, s.heap.size ≤ q → va_A ((wXM g a0 U0 V0 M0 R0 (tvOf none) tv) ++ wOT g none) s.heap.size q := fun q h => Or.inr h
    generalize va_A ((wXM g a0 U0 V0 M0 R0 (tvOf none) tv) ++ wOT g none) s.heap.size = A at hw hA ⊢
    clear hP hD0
    have hl := lv_entry ([.ref (a0 0)]) (n := 1) (Nat.le_of_ble_eq_true rfl)
    rw [lg_entry_eq]
    generalize (lg_sl ([.ref (a0 0)]) ++ List.replicate (1 - (lg_sl ([.ref (a0 0)])).length) Slot.unset).toArray = ls at hl ⊢
    have hl : lv_has ls 1 [(0, .ref (a0 0))] := hl
    have hw : Wk g A s.heap s.heap [] ((wXM g a0 U0 V0 M0 R0 (tvOf none) tv) ++ wOT g none) := hw
    rw [show ((wXM g a0 U0 V0 M0 R0 (tvOf none) tv) ++ wOT g none) = (wXM g a0 U0 V0 M0 R0 .null tv) from List.append_nil _] at hw
    refine lv_aload_n hx hb dX7_image_0 rfl (lv_at hl 0 rfl) ?_
    refine wk_get hx hb hts hin_X7 hown hK hw.1 7 0 20 .null rfl rfl (by decide) (mi 1 rfl) rfl rfl dX7_image_1 ?_
    refine lv_ifnonnullN hx hb dX7_image_4 ?_
    refine lv_aload_n hx hb dX7_image_7 rfl (lv_at hl 0 rfl) ?_
    refine wk_newo (ci := 7) hx hb hts hin_X7 tyX7 tyX7_ok hown (mi 2 rfl) (mi 3 rfl) (mi 4 rfl) hK hw hA rfl [.null, .null, .null, .null, .null, .null, .null, .int 0, .null, .int 0, .int 0, .null, .null, .null, .null, .null, .null, .null, .int 0, .int 0, .null, .null, .int 0, .int 0, .int 0, .int 0, .int 0, .null, .int 0, .null, .null, .null, .int 0] (fun j hj => by rcases (show j = 0 ∨ j = 1 ∨ j = 2 ∨ j = 3 ∨ j = 4 ∨ j = 5 ∨ j = 6 ∨ j = 7 ∨ j = 8 ∨ j = 9 ∨ j = 10 ∨ j = 11 ∨ j = 12 ∨ j = 13 ∨ j = 14 ∨ j = 15 ∨ j = 16 ∨ j = 17 ∨ j = 18 ∨ j = 19 ∨ j = 20 ∨ j = 21 ∨ j = 22 ∨ j = 23 ∨ j = 24 ∨ j = 25 ∨ j = 26 ∨ j = 27 ∨ j = 28 ∨ j = 29 ∨ j = 30 ∨ j = 31 ∨ j = 32 by omega) with rfl | rfl | rfl | rfl | rfl | rfl | rfl | rfl | rfl | rfl | rfl | rfl | rfl | rfl | rfl | rfl | rfl | rfl | rfl | rfl | rfl | rfl | rfl | rfl | rfl | rfl | rfl | rfl | rfl | rfl | rfl | rfl | rfl <;> rfl) (Nat.le_of_ble_eq_true rfl) (Nat.le_of_ble_eq_true rfl) dX7_image_8 (fun q0 H hw => ?_)
    refine lv_dup hx hb dX7_image_11 rfl ?_
    refine rIp (As := []) (rest := [.ref q0, .ref (a0 0)]) (wc := [(q0, .inr (7, [.null, .null, .null, .null, .null, .null, .null, .int 0, .null, .int 0, .int 0, .null, .null, .null, .null, .null, .null, .null, .int 0, .int 0, .null, .null, .int 0, .int 0, .int 0, .int 0, .int 0, .null, .int 0, .null, .null, .null, .int 0]))]) (wr := (wXM g a0 U0 V0 M0 R0 .null tv)) hS (c_X7_init l g q0) gX7_image_X7_init rfl (mi 4 rfl) (mi 5 rfl) (mi 6 rfl) rfl hd_X7_init ⟨Nat.le_of_ble_eq_true rfl, Nat.le_of_ble_eq_true rfl⟩ hK hw hA List.perm_append_comm rfl hl.1 rfl (Nat.le_of_ble_eq_true rfl) dX7_image_12 ⟨Nat.le_of_ble_eq_true rfl, Nat.le_of_ble_eq_true rfl⟩ (fun b1 H locs eb1 hwN => ?_)
    subst eb1
    have hw : Wk g A s.heap H locs ((wXM g a0 U0 V0 M0 R0 .null tv) ++ (wXM g (b1 0) iU7 iV7 iM7 iR7 .null .null)) := hwN
    refine wk_put (wq := ((wXM g a0 U0 V0 M0 R0 (.ref (b1 0 0)) tv) ++ (wXM g (b1 0) iU7 iV7 iM7 iR7 .null .null))) hx hb hts hin_X7 tyX7 tyX7_ok nmX7 hown hK hw 7 0 20 rfl rfl (by decide) (mi 1 rfl) rfl rfl rfl rfl (Nat.le_of_ble_eq_true rfl) dX7_image_15 rfl (fun H locs hw => ?_)
    refine lv_aload_n hx hb dX7_image_18 rfl (lv_at hl 0 rfl) ?_
    refine wk_get hx hb hts hin_X7 hown hK hw.1 7 0 20 (.ref (b1 0 0)) rfl rfl (by decide) (mi 1 rfl) rfl rfl dX7_image_19 ?_
    refine lv_aload_n hx hb dX7_image_22 rfl (lv_at hl 0 rfl) ?_
    obtain ⟨U', e1, e2⟩ := takeFrom_ok iU7 U0
    refine rVWp (wc := (wXT g (b1 0) (fm (b1 0) iV7 .null .null) iU7 ++ wXT g a0 (fm a0 V0 (.ref (b1 0 0)) tv) U0)) (wq := ((wXM g a0 U0 V0 M0 R0 (.ref (b1 0 0)) tv) ++ wXM g (b1 0) U' iV7 iM7 iR7 .null .null)) (As := [.ref (a0 0)]) (rest := []) (q0 := 0) hS (c_X7_takeFrom l g (b1 0) a0 (fm (b1 0) iV7 .null .null) (fm a0 V0 (.ref (b1 0 0)) tv) iU7 U0 e1) gX7_image_X7_takeFrom rfl hd_X7_takeFrom ⟨Nat.le_of_ble_eq_true rfl, Nat.le_of_ble_eq_true rfl⟩ hK hw hA (pmF g _ _ _ _ _ _ _ _ _ _ _ _ _ _) rfl (pmF g _ _ _ _ _ _ _ _ _ _ _ _ _ _) rfl rfl rfl rfl hl.1 rfl (Nat.le_of_ble_eq_true rfl) dX7_image_23 ⟨Nat.le_of_ble_eq_true rfl, Nat.le_of_ble_eq_true rfl⟩ (fun H locs hw => ?_)
    refine lv_iconst (v := (1 : Int32)) hx hb dX7_image_26 (by decide) ?_
    refine W.widen (k := 28 * nlOf none) (n := 759 * nlOf none) (by decide) (by decide) ?_
    have hag : AgT U' (fr0 U0 none) := ⟨e2.1, e2.2.1, e2.2.2.1, fun j hj => e2.2.2.2 j hj⟩
    have hPf := wXT_cgA hag (hw.1.pm (pmG g _ _ _ _ _ _ _ _))
    have hDf := wXT_cgD (V := fr0 U0 none) ((hw.2.1.pm (pmG g _ _ _ _ _ _ _ _)).left)
    exact W.iret hx hb hr (fun t ht _ => ⟨⟨rfl, (b1 0), (fm (b1 0) iV7 .null .null), by rw [ht]; exact hPf, hDf⟩, hw.2.2.F ht⟩) hw.2.2.2.2 dX7_image_27
  | some t =>
    obtain ⟨b, F, Ut⟩ := t
    refine Met.ofW (cc := cX7_image) (maxL := 1) (ret := (some .int)) (by decide) rfl ?_
    intro p e s m args below meth c s₁ B hml hv
    obtain ⟨rfl, hsz, hP, hK, hD0⟩ := hv
    have hx := B.exec; have hb := B.bytes; have hr := B.returns
    have hts := atoms_spec (ws := wsX7_image) B.pre
    have hown : s.vm.findClass RX7 = some m.cls := findClass_of_methodNamed B.named
    have hlocks := B.notSynchronized
    have hS : CallFix p m c cX7_image 1 s _ wsX7_image RX7 := ⟨hx, hb, hml, hown, hts⟩
    have hin_X7 : ∀ w ∈ wsX70, w ∈ wsX7_image := fun w h => (List.mem_cons_of_mem _ (List.mem_append_right _ h))
    subst hsz
    have hw := wk_start hP hD0
    have hA : ∀ q : Nat, s.heap.size ≤ q → va_A ((wXM g a0 U0 V0 M0 R0 (tvOf (some (b, F, Ut))) tv) ++ wOT g (some (b, F, Ut))) s.heap.size q := fun q h => Or.inr h
    generalize va_A ((wXM g a0 U0 V0 M0 R0 (tvOf (some (b, F, Ut))) tv) ++ wOT g (some (b, F, Ut))) s.heap.size = A at hw hA ⊢
    clear hP hD0
    have hl := lv_entry ([.ref (a0 0)]) (n := 1) (Nat.le_of_ble_eq_true rfl)
    rw [lg_entry_eq]
    generalize (lg_sl ([.ref (a0 0)]) ++ List.replicate (1 - (lg_sl ([.ref (a0 0)])).length) Slot.unset).toArray = ls at hl ⊢
    have hl : lv_has ls 1 [(0, .ref (a0 0))] := hl
    have hw : Wk g A s.heap s.heap [] ((wXM g a0 U0 V0 M0 R0 (.ref (b 0)) tv) ++ wXT g b F Ut) := hw
    refine lv_aload_n hx hb dX7_image_0 rfl (lv_at hl 0 rfl) ?_
    refine wk_get hx hb hts hin_X7 hown hK hw.1 7 0 20 (.ref (b 0)) rfl rfl (by decide) (mi 1 rfl) rfl rfl dX7_image_1 ?_
    refine lv_ifnonnull (tgt := 18) hx hb dX7_image_4 (by decide) ?_
    refine lv_aload_n hx hb dX7_image_18 rfl (lv_at hl 0 rfl) ?_
    refine wk_get hx hb hts hin_X7 hown hK hw.1 7 0 20 (.ref (b 0)) rfl rfl (by decide) (mi 1 rfl) rfl rfl dX7_image_19 ?_
    refine lv_aload_n hx hb dX7_image_22 rfl (lv_at hl 0 rfl) ?_
    obtain ⟨U', e1, e2⟩ := takeFrom_ok Ut U0
    refine rVWp (wc := (wXT g b F Ut ++ wXT g a0 (fm a0 V0 (.ref (b 0)) tv) U0)) (wq := ((wXM g a0 U0 V0 M0 R0 (.ref (b 0)) tv) ++ wXT g b F U')) (As := [.ref (a0 0)]) (rest := []) (q0 := 0) hS (c_X7_takeFrom l g b a0 F (fm a0 V0 (.ref (b 0)) tv) Ut U0 e1) gX7_image_X7_takeFrom rfl hd_X7_takeFrom ⟨Nat.le_of_ble_eq_true rfl, Nat.le_of_ble_eq_true rfl⟩ hK hw hA (pmH g _ _ _ _ _ _ _ _) rfl (pmH g _ _ _ _ _ _ _ _) rfl rfl rfl rfl hl.1 rfl (Nat.le_of_ble_eq_true rfl) dX7_image_23 ⟨Nat.zero_le _, Nat.zero_le _⟩ (fun H locs hw => ?_)
    refine lv_iconst (v := (1 : Int32)) hx hb dX7_image_26 (by decide) ?_
    refine W.widen (k := 28 * nlOf (some (b, F, Ut))) (n := 759 * nlOf (some (b, F, Ut))) (Nat.zero_le _) (Nat.zero_le _) ?_
    have hag : AgT U' (fr0 U0 (some (Ut 29))) := ⟨e2.1, e2.2.1, e2.2.2.1, fun j hj => e2.2.2.2 j hj⟩
    have hPf := wXT_cgA hag (hw.1)
    have hDf := wXT_cgD (V := fr0 U0 (some (Ut 29))) (hw.2.1)
    exact W.iret hx hb hr (fun t ht _ => ⟨⟨rfl, b, F, by rw [ht]; exact hPf, hDf⟩, hw.2.2.F ht⟩) hw.2.2.2.2 dX7_image_27
