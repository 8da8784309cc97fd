/-! ===== pure: what comes of rounds ===== -/
theorem pc_after {t : Tn} {T : TS} (h : TC t T) (hw : wf t) (T0 : TS) {N : Nat} (hN : N < 300) : ∃ T', f_X2_after T T0 (nI N) = some T' ∧ TC (itr N t) T' := by
  obtain ⟨T1, a1, a2, a3, a4⟩ := pc_become h hw T0
  obtain ⟨T2, b1, b2, b3⟩ := pc_rounds a2 hw hN
  exact ⟨T2, ob a1 (ob b1 rfl), b2⟩
theorem pm_after {t : Tn} {U : TS} (h : TM t U) (hw : wf t) (V : TS) (M R : LTS) (tp : Option (Nat → Int32)) {N : Nat} (hN : N < 300) : ∃ U', f_X7_after U V M R tp (nI N) = some U' ∧ TM (itr N t) U' := by
  obtain ⟨U', a1, a2, a3⟩ := pm_rounds hN (L_X7_after_7 (nI N)) (fun _ _ _ => rfl) (fr0_tm h tp) hw
  exact ⟨U', ob a1 rfl, a2⟩
section OPS
variable {Z T1 T2 G P U V : TS} {R R' : LTS} {ku : Option TS}
theorem op_spread (h : Rl Z T1 T2 G R P U V R' ku) (T3 O B : TS) (M : LTS) (tp : Option (Nat → Int32)) (p1 : Int32) (p2 : Int32) : ∃ a Z' T3' V' tp', f_X6_spread Z T1 T2 T3 G R P O B p1 p2 = some (a, Z', T3') ∧ f_X7_spread U V M R' tp p1 p2 = some (a, V', tp') ∧ Rl Z' T1 T2 G R P U V' R' ku := by
  obtain ⟨t, ht, hs, hr, hp, hz, hk⟩ := id h
  rcases rou_c p1 with ⟨k, hk20, rfl, g0, m0⟩ | ⟨g0, m0⟩
  rotate_left
  · refine ⟨(-2 : Int32), rz Z 0, T3, rv V 0, tp, ?_, ?_, h.ref (by decide)⟩
    · unfold f_X6_spread
      rw [if_pos g0]
      exact ob (rc2 _ _ _ _ _ _ _ _) rfl
    · unfold f_X7_spread
      rw [if_pos m0]
      exact ob (rm2 _ _ _) rfl
  rcases one_c ht p2 with ⟨p, hp1, rfl, g1, m1⟩ | ⟨g1, m1⟩
  rotate_left
  · refine ⟨(-2 : Int32), rz Z 0, T3, rv V 0, tp, ?_, ?_, h.ref (by decide)⟩
    · unfold f_X6_spread
      rw [if_neg g0, if_pos g1]
      exact ob (rc2 _ _ _ _ _ _ _ _) rfl
    · unfold f_X7_spread
      rw [if_neg m0, if_pos m1]
      exact ob (rm2 _ _ _) rfl
  have p7 := lt7 ht.1 hp1
  obtain ⟨T', b1, b2⟩ := pc_after ht.2.1 ht.1 T3 (N := k) (by omega)
  obtain ⟨U', c1, c2⟩ := pm_after ht.2.2.1 ht.1 V M R' tp (N := k) (by omega)
  have e6 := b2.heard (p := p) (by rw [itr_n]; exact hp1)
  have e7 := c2.heard (p := p) (by rw [itr_n]; exact hp1)
  refine ⟨nI (itr k t 9 p), Z, T', V, some (U' 29), ?_, ?_, h⟩
  · unfold f_X6_spread
    rw [if_neg g0, if_neg g1]
    refine ob b1 ?_
    rw [if_neg (in7 p7), cl7 p7, e6]
  · unfold f_X7_spread
    rw [if_neg m0, if_neg m1]
    refine ob c1 ?_
    rw [if_neg (in7 p7), cl7 p7, e7]
theorem op_knownBy (h : Rl Z T1 T2 G R P U V R' ku) (T3 O B : TS) (M : LTS) (tp : Option (Nat → Int32)) (p1 : Int32) : ∃ a Z' T3' V' tp', f_X6_knownBy Z T1 T2 T3 G R P O B p1 = some (a, Z', T3') ∧ f_X7_knownBy U V M R' tp p1 = some (a, V', tp') ∧ Rl Z' T1 T2 G R P U V' R' ku := by
  obtain ⟨t, ht, hs, hr, hp, hz, hk⟩ := id h
  rcases rou_c p1 with ⟨k, hk20, rfl, g0, m0⟩ | ⟨g0, m0⟩
  rotate_left
  · refine ⟨(-2 : Int32), rz Z 0, T3, rv V 0, tp, ?_, ?_, h.ref (by decide)⟩
    · unfold f_X6_knownBy
      rw [if_pos g0]
      exact ob (rc2 _ _ _ _ _ _ _ _) rfl
    · unfold f_X7_knownBy
      rw [if_pos m0]
      exact ob (rm2 _ _ _) rfl
  obtain ⟨T', b1, b2⟩ := pc_after ht.2.1 ht.1 T3 (N := k) (by omega)
  obtain ⟨U', c1, c2⟩ := pm_after ht.2.2.1 ht.1 V M R' tp (N := k) (by omega)
  refine ⟨nI (kal (itr k t)), Z, T', V, some (U' 29), ?_, ?_, h⟩
  · unfold f_X6_knownBy
    rw [if_neg g0]
    exact ob b1 (ob (pc_kal b2 (itr_wf ht.1 k)) rfl)
  · unfold f_X7_knownBy
    rw [if_neg m0]
    exact ob c1 (ob (pm_kal c2 (itr_wf ht.1 k)) rfl)
theorem op_mouthsBy (h : Rl Z T1 T2 G R P U V R' ku) (T3 O B : TS) (M : LTS) (tp : Option (Nat → Int32)) (p1 : Int32) (p2 : Int32) : ∃ a Z' T3' V' tp', f_X6_mouthsBy Z T1 T2 T3 G R P O B p1 p2 = some (a, Z', T3') ∧ f_X7_mouthsBy U V M R' tp p1 p2 = some (a, V', tp') ∧ Rl Z' T1 T2 G R P U V' R' ku := by
  obtain ⟨t, ht, hs, hr, hp, hz, hk⟩ := id h
  rcases sgt_c ht p1 with ⟨x, hx, rfl, g0, m0⟩ | ⟨g0, m0⟩
  rotate_left
  · refine ⟨(-2 : Int32), rz Z 0, T3, rv V 0, tp, ?_, ?_, h.ref (by decide)⟩
    · unfold f_X6_mouthsBy
      rw [if_pos g0]
      exact ob (rc2 _ _ _ _ _ _ _ _) rfl
    · unfold f_X7_mouthsBy
      rw [if_pos m0]
      exact ob (rm2 _ _ _) rfl
  rcases rou_c p2 with ⟨k, hk20, rfl, g1, m1⟩ | ⟨g1, m1⟩
  rotate_left
  · refine ⟨(-2 : Int32), rz Z 0, T3, rv V 0, tp, ?_, ?_, h.ref (by decide)⟩
    · unfold f_X6_mouthsBy
      rw [if_neg g0, if_pos g1]
      exact ob (rc2 _ _ _ _ _ _ _ _) rfl
    · unfold f_X7_mouthsBy
      rw [if_neg m0, if_pos m1]
      exact ob (rm2 _ _ _) rfl
  have h8 := ht.1.1.2.1
  obtain ⟨T', b1, b2⟩ := pc_after ht.2.1 ht.1 T3 (N := k) (by omega)
  obtain ⟨U', c1, c2⟩ := pm_after ht.2.2.1 ht.1 V M R' tp (N := k) (by omega)
  refine ⟨nI (mou (itr k t) x), Z, T', V, some (U' 29), ?_, ?_, h⟩
  · unfold f_X6_mouthsBy
    rw [if_neg g0, if_neg g1]
    exact ob b1 (ob (pc_mou b2 (itr_wf ht.1 k) (by omega)) rfl)
  · unfold f_X7_mouthsBy
    rw [if_neg m0, if_neg m1]
    exact ob c1 (ob (pm_mou c2 (itr_wf ht.1 k) (by omega)) rfl)
theorem bld_not (n : Nat) (b : Nat → Bool) : bld n (fun p => !b p) = dif (2 ^ n - 1) (bld n b) := by
  apply Nat.eq_of_testBit_eq
  intro i
  rw [bld_bit, dif_bit, bld_bit, Nat.testBit_two_pow_sub_one]
  by_cases h : i < n
  · rw [decide_eq_true h]; simp
  · rw [decide_eq_false h]; simp
theorem pm_nvr {t t2 : Tn} {U W : TS} (h : TM t U) (h2 : TM t2 W) (hw2 : wf t2) (hw : wf t) (en : t2 1 0 = t 1 0) {x : Nat} (hx : x < 32) : L_X7_never_27 U (nI x) W 300 (0 : Int32) (0 : Int32) = some (nI (dif (alP t) (kno t2 x))) := by
  have h7 := hw.n7
  unfold kno alP
  rw [en, ← bld_not]
  refine lupE (N := t 1 0) (fun n i => L_X7_never_27 U (nI x) W n (nI i) (nI (bld i (fun p => !(knw t2 p).testBit x)))) (fun n => ?_) (fun n i hi => ?_) (t 1 0) 0 300 (by omega) (by omega)
  · show (if U 10 0 ≤ nI (t 1 0) then _ else _) = _
    rw [h.n, if_pos (yle _)]
  · show (if U 10 0 ≤ nI i then _ else _) = L_X7_never_27 U (nI x) W n (nI (i + 1)) (nI (if (!(knw t2 i).testBit x) then bld i (fun p => !(knw t2 p).testBit x) ||| 2 ^ i else bld i (fun p => !(knw t2 p).testBit x)))
    have hi2 : i < t2 1 0 := by rw [en]; exact hi
    have hv := k8 hw2 (knw_lt hw2 hi2)
    rw [h.n, if_neg (nle hw hi)]
    refine ob (pm_knw h2 hw2 hi2) ?_
    by_cases b : (knw t2 i).testBit x = true
    · rw [if_neg (fun z => by rw [(pm_has0 (by omega) hx).mp z] at b; cases b), b, if_neg (by decide), nI_1, show (0 : Int32) = nI 0 from rfl, pu_or, Nat.or_zero]
    · have b' : (knw t2 i).testBit x = false := by simpa using b
      rw [if_pos ((pm_has0 (by omega) hx).mpr b'), b', if_pos (by decide), pu_one i (by omega), pu_or, nI_1]
theorem op_never (h : Rl Z T1 T2 G R P U V R' ku) (T3 O B : TS) (M : LTS) (tp : Option (Nat → Int32)) (p1 : Int32) : ∃ a Z' T3' V' tp', f_X6_never Z T1 T2 T3 G R P O B p1 = some (a, Z', T3') ∧ f_X7_never U V M R' tp p1 = some (a, V', tp') ∧ Rl Z' T1 T2 G R P U V' R' ku := by
  obtain ⟨t, ht, hs, hr, hp, hz, hk⟩ := id h
  rcases sgt_c ht p1 with ⟨x, hx, rfl, g0, m0⟩ | ⟨g0, m0⟩
  rotate_left
  · refine ⟨(-2 : Int32), rz Z 0, T3, rv V 0, tp, ?_, ?_, h.ref (by decide)⟩
    · unfold f_X6_never
      rw [if_pos g0]
      exact ob (rc2 _ _ _ _ _ _ _ _) rfl
    · unfold f_X7_never
      rw [if_pos m0]
      exact ob (rm2 _ _ _) rfl
  have h8 := ht.1.1.2.1
  obtain ⟨T', b1, b2⟩ := pc_after ht.2.1 ht.1 T3 (N := 20) (by omega)
  obtain ⟨U', c1, c2⟩ := pm_after ht.2.2.1 ht.1 V M R' tp (N := 20) (by omega)
  refine ⟨nI (dif (alP t) (kno (itr 20 t) x)), Z, T', V, some (U' 29), ?_, ?_, h⟩
  · unfold f_X6_never
    rw [if_neg g0]
    refine ob b1 (ob (pc_kno b2 (itr_wf ht.1 20) (by omega)) ?_)
    rw [pc_allP ht.2.1 ht.1, pu_dif]
  · unfold f_X7_never
    rw [if_neg m0]
    exact ob c1 (ob (pm_nvr ht.2.2.1 c2 (itr_wf ht.1 20) ht.1 (itr_n t 20) (by omega)) rfl)
theorem both_still {t : Tn} {T U : TS} (h : TC t T) (h2 : TM t U) (hw : wf t) : ∃ (a : Int32) (T' U' : TS), (L_X2_untilStill_13 300 (0 : Int32) T).bind (eo fun q5x => some ((20 : Int32), q5x)) = some (a, T') ∧ L_X7_rounds_7 300 (0 : Int32) U = some (a, U') := by
  refine lup2k (N := 20) (fun n i s => L_X2_untilStill_13 n (nI i) s) (fun n i s => L_X7_rounds_7 n (nI i) s) (fun i s u => TC (itr i t) s ∧ TM (itr i t) u) (fun r q => ∃ (a : Int32) (T' : TS), eo (fun q5x => some ((20 : Int32), q5x)) r = some (a, T') ∧ q.1 = a) 20 0 300 T U (fun r q h1 h2 hQ => ?_) (fun n s u hs => ?_) (fun n i s u hi hs => ?_) rfl (by decide) ⟨h, h2⟩
  · have h3 := hQ
    obtain ⟨a, T', e1, e2⟩ := h3
    subst e2
    exact ⟨q.1, T', q.2, ob h1 e1, h2⟩
  · refine ⟨.inr s, (nI 20, u), ?_, ?_, (20 : Int32), s, rfl, rfl⟩
    · show (if (20 : Int32) ≤ nI 20 then _ else _) = _
      rw [if_pos (by decide)]
    · show (if (20 : Int32) ≤ nI 20 then _ else _) = _
      rw [if_pos (by decide)]
  · obtain ⟨T', b1, b2, b3⟩ := pc_round hs.1 (itr_wf hw i)
    obtain ⟨U', c1, c2, c3⟩ := pm_round hs.2 (itr_wf hw i)
    have st6 : L_X2_untilStill_13 (n + 1) (nI i) s = if cf (cnt (itr i t)) = 0 then some (.inl (nI i, T')) else L_X2_untilStill_13 n (nI (i + 1)) T' := by
      show (if (20 : Int32) ≤ nI i then _ else _) = _
      rw [if_neg (show ¬ (20 : Int32) ≤ nI i from nI_ge (b := 20) hi (by decide))]
      refine ob b1 ?_
      rw [nI_1]
    have st7 : L_X7_rounds_7 (n + 1) (nI i) u = if cf (cnt (itr i t)) = 0 then some (nI i, U') else L_X7_rounds_7 n (nI (i + 1)) U' := by
      show (if (20 : Int32) ≤ nI i then _ else _) = _
      rw [if_neg (show ¬ (20 : Int32) ≤ nI i from nI_ge (b := 20) hi (by decide))]
      refine ob c1 ?_
      rw [nI_1]
    by_cases z : cf (cnt (itr i t)) = 0
    · exact Or.inr ⟨.inl (nI i, T'), (nI i, U'), by rw [st6, if_pos z], by rw [st7, if_pos z], nI i, T', rfl, rfl⟩
    · exact Or.inl ⟨T', U', ⟨b2, c2⟩, by rw [st6, if_neg z], by rw [st7, if_neg z]⟩
theorem op_rounds (h : Rl Z T1 T2 G R P U V R' ku) (T3 O B : TS) (M : LTS) (tp : Option (Nat → Int32)) : ∃ a T3' tp', f_X6_rounds Z T1 T2 T3 G R P O B = some (a, T3') ∧ f_X7_rounds U V M R' tp = some (a, tp') := by
  obtain ⟨t, ht, hs, hr, hp, hz, hk⟩ := id h
  obtain ⟨T0, b1, b2, b3, b4⟩ := pc_become ht.2.1 ht.1 T3
  obtain ⟨a, T', U', e1, e2⟩ := both_still b2 (fr0_tm ht.2.2.1 tp) ht.1
  exact ⟨a, T', _, ob (q := (a, T')) (ob b1 e1) rfl, ob e2 rfl⟩
/-- the first place at which something holds, or none -/
def fk (P : Nat → Bool) : Nat → Nat → Int32
  | 0, _ => -1
  | d + 1, i => if P i = true then nI i else fk P d (i + 1)
theorem fk_no (P : Nat → Bool) : ∀ d i, (∀ j, i ≤ j → P j = false) → fk P d i = -1
  | 0, _, _ => rfl
  | d + 1, i, h => by
    show (if P i = true then nI i else fk P d (i + 1)) = -1
    rw [h i (Nat.le_refl i), if_neg (by decide), fk_no P d (i + 1) (fun j hj => h j (by omega))]
theorem pc_when {t : Tn} {T : TS} (h : TC t T) (hw : wf t) {p x : Nat} (hp : p < t 1 0) (hx : x < 32) : ∃ T', (L_X2_untilKnown_16 (nI p) (nI x) 300 (0 : Int32) (1 : Int32) T).bind (eo fun q6x => some ((-1 : Int32), q6x)) = some (fk (fun k => (knw (itr k t) p).testBit x) 21 0, T') := by
  have key : ∀ (d i n : Nat) (c : Int32) (s : TS), i + d = 21 → d < n → TC (itr i t) s → (c = 0 → ∀ j, i ≤ j → (knw (itr j t) p).testBit x = false) → ∃ T', (L_X2_untilKnown_16 (nI p) (nI x) n (nI i) c s).bind (eo fun q6x => some ((-1 : Int32), q6x)) = some (fk (fun k => (knw (itr k t) p).testBit x) d i, T') := by
    intro d
    induction d with
    | zero =>
      intro i n c s h1 h2 hs hc
      obtain ⟨n, rfl⟩ : ∃ k, n = k + 1 := ⟨n - 1, by omega⟩
      obtain rfl : i = 21 := by omega
      refine ⟨s, ob (q := .inr s) ?_ rfl⟩
      show (if (20 : Int32) < nI 21 then _ else _) = _
      rw [if_pos (by decide)]
    | succ d ih =>
      intro i n c s h1 h2 hs hc
      obtain ⟨n, rfl⟩ : ∃ k, n = k + 1 := ⟨n - 1, by omega⟩
      have st : L_X2_untilKnown_16 (nI p) (nI x) (n + 1) (nI i) c s = (if (20 : Int32) < nI i then some (.inr s) else if c = 0 then some (.inr s) else (f_X5_knownTo s (nI p)).bind fun q10 => if (f_X6_has q10 (nI x)) = 0 then (f_X5_passRound s).bind fun q14 => L_X2_untilKnown_16 (nI p) (nI x) n (nI i + (1 : Int32)) q14.1 q14.2 else some (.inl (nI i, s))) := rfl
      rw [st, if_neg (show ¬ (20 : Int32) < nI i from nI_nlt (a := 20) (by omega) (by decide))]
      have hp2 : p < itr i t 1 0 := by rw [itr_n]; exact hp
      have hwi := itr_wf hw i
      have hv := k8 hwi (knw_lt hwi hp2)
      by_cases c0 : c = 0
      · rw [if_pos c0]
        refine ⟨s, ?_⟩
        rw [fk_no _ _ _ (hc c0)]
        rfl
      · rw [if_neg c0, pc_knw hs hwi hp2]
        show ∃ T', Option.bind (if (f_X6_has (nI (knw (itr i t) p)) (nI x)) = 0 then _ else _) _ = some ((if (knw (itr i t) p).testBit x = true then nI i else fk (fun k => (knw (itr k t) p).testBit x) d (i + 1)), T')
        by_cases b : (knw (itr i t) p).testBit x = true
        · rw [if_neg (fun z => by rw [(pu_has0 (by omega) hx).mp z] at b; cases b), if_pos b]
          exact ⟨s, rfl⟩
        · have b' : (knw (itr i t) p).testBit x = false := by simpa using b
          rw [if_pos ((pu_has0 (by omega) hx).mpr b'), if_neg b]
          obtain ⟨T', a1, a2, a3⟩ := pc_round hs hwi
          rw [a1]
          show ∃ T2, (L_X2_untilKnown_16 (nI p) (nI x) n (nI i + (1 : Int32)) (cf (cnt (itr i t))) T').bind _ = some (_, T2)
          rw [nI_1]
          refine ih (i + 1) n _ T' (by omega) (by omega) a2 (fun z j hj => ?_)
          have e := itr_fix hw (cf_z.mp z) (j - i)
          rw [show i + (j - i) = j by omega] at e
          rw [e]
          exact b'
  exact key 21 0 300 (1 : Int32) T rfl (by decide) h (fun z => absurd z (by decide))
theorem pm_when {t : Tn} {T : TS} (V0 : TS) (h : TM t T) (hw : wf t) {p x : Nat} (hp : p < t 1 0) (hx : x < 32) : ∃ tp', (L_X7_when_31 V0 (nI p) (nI x) 300 (0 : Int32) T).bind (eo fun q14x => some ((-1 : Int32), V0, (some (q14x 29)))) = some (fk (fun k => (knw (itr k t) p).testBit x) 21 0, V0, tp') := by
  have key : ∀ (d i n : Nat) (s : TS), i + d = 21 → d < n → TM (itr i t) s → ∃ tp', (L_X7_when_31 V0 (nI p) (nI x) n (nI i) s).bind (eo fun q14x => some ((-1 : Int32), V0, (some (q14x 29)))) = some (fk (fun k => (knw (itr k t) p).testBit x) d i, V0, tp') := by
    intro d
    induction d with
    | zero =>
      intro i n s h1 h2 hs
      obtain ⟨n, rfl⟩ : ∃ k, n = k + 1 := ⟨n - 1, by omega⟩
      obtain rfl : i = 21 := by omega
      refine ⟨_, ob (q := .inr s) ?_ rfl⟩
      show (if (20 : Int32) < nI 21 then _ else _) = _
      rw [if_pos (by decide)]
    | succ d ih =>
      intro i n s h1 h2 hs
      obtain ⟨n, rfl⟩ : ∃ k, n = k + 1 := ⟨n - 1, by omega⟩
      have st : L_X7_when_31 V0 (nI p) (nI x) (n + 1) (nI i) s = (if (20 : Int32) < nI i then some (.inr s) else (f_X7_knows s (nI p)).bind fun q17 => if (f_X7_has q17 (nI x)) = 0 then (f_X7_goesRound s).bind fun q21 => L_X7_when_31 V0 (nI p) (nI x) n (nI i + (1 : Int32)) q21.2 else some (.inl (nI i, V0, (some (s 29))))) := rfl
      rw [st, if_neg (show ¬ (20 : Int32) < nI i from nI_nlt (a := 20) (by omega) (by decide))]
      have hp2 : p < itr i t 1 0 := by rw [itr_n]; exact hp
      have hwi := itr_wf hw i
      have hv := k8 hwi (knw_lt hwi hp2)
      rw [pm_knw hs hwi hp2]
      show ∃ tp', Option.bind (if (f_X7_has (nI (knw (itr i t) p)) (nI x)) = 0 then _ else _) _ = some ((if (knw (itr i t) p).testBit x = true then nI i else fk (fun k => (knw (itr k t) p).testBit x) d (i + 1)), V0, tp')
      by_cases b : (knw (itr i t) p).testBit x = true
      · rw [if_neg (fun z => by rw [(pm_has0 (by omega) hx).mp z] at b; cases b), if_pos b]
        exact ⟨_, rfl⟩
      · have b' : (knw (itr i t) p).testBit x = false := by simpa using b
        rw [if_pos ((pm_has0 (by omega) hx).mpr b'), if_neg b]
        obtain ⟨T', a1, a2, a3⟩ := pm_round hs hwi
        rw [a1]
        show ∃ tp', (L_X7_when_31 V0 (nI p) (nI x) n (nI i + (1 : Int32)) T').bind _ = some (_, V0, tp')
        rw [nI_1]
        exact ih (i + 1) n T' (by omega) (by omega) a2
  exact key 21 0 300 T rfl (by decide) h
theorem op_when (h : Rl Z T1 T2 G R P U V R' ku) (T3 O B : TS) (M : LTS) (tp : Option (Nat → Int32)) (p1 : Int32) (p2 : Int32) : ∃ a Z' T3' V' tp', f_X6_when Z T1 T2 T3 G R P O B p1 p2 = some (a, Z', T3') ∧ f_X7_when U V M R' tp p1 p2 = some (a, V', tp') ∧ Rl Z' T1 T2 G R P U V' R' ku := by
  obtain ⟨t, ht, hs, hr, hp, hz, hk⟩ := id h
  rcases one_c ht p1 with ⟨p, hp1, rfl, g0, m0⟩ | ⟨g0, m0⟩
  rotate_left
  · refine ⟨(-2 : Int32), rz Z 0, T3, rv V 0, tp, ?_, ?_, h.ref (by decide)⟩
    · unfold f_X6_when
      rw [if_pos g0]
      exact ob (rc2 _ _ _ _ _ _ _ _) rfl
    · unfold f_X7_when
      rw [if_pos m0]
      exact ob (rm2 _ _ _) rfl
  rcases sgt_c ht p2 with ⟨x, hx, rfl, g1, m1⟩ | ⟨g1, m1⟩
  rotate_left
  · refine ⟨(-2 : Int32), rz Z 0, T3, rv V 0, tp, ?_, ?_, h.ref (by decide)⟩
    · unfold f_X6_when
      rw [if_neg g0, if_pos g1]
      exact ob (rc2 _ _ _ _ _ _ _ _) rfl
    · unfold f_X7_when
      rw [if_neg m0, if_pos m1]
      exact ob (rm2 _ _ _) rfl
  have h8 := ht.1.1.2.1
  obtain ⟨T0, b1, b2, b3, b4⟩ := pc_become ht.2.1 ht.1 T3
  obtain ⟨T', e6⟩ := pc_when b2 ht.1 hp1 (x := x) (by omega)
  obtain ⟨tp', e7⟩ := pm_when V (fr0_tm ht.2.2.1 tp) ht.1 hp1 (x := x) (by omega)
  refine ⟨fk (fun k => (knw (itr k t) p).testBit x) 21 0, Z, T', V, tp', ?_, ?_, h⟩
  · unfold f_X6_when
    rw [if_neg g0, if_neg g1]
    exact ob (ob b1 e6) rfl
  · unfold f_X7_when
    rw [if_neg m0, if_neg m1]
    exact e7
/-- told one thing -/
def tol (t : Tn) (p x : Nat) : Tn := upn t 9 (updn (t 9) p (wb (t 9 p) x true))
theorem tol_wf {t : Tn} (hw : wf t) {p x : Nat} (hp : p < t 1 0) (hx : x < t 0 0) : wf (tol t p x) := hw.put (by decide) (fun q hq => by
  show (if q = p then _ else t 9 q) < 2 ^ t 0 0
  split
  · exact wb_lt _ (hw.heard hp) hx
  · exact hw.heard hq)
def fsc (t : Tn) (x N p : Nat) : Nat := pc (kno (itr N (tol t p x)) x)
theorem pm_cnt {t t2 : Tn} {U W : TS} (h : TM t U) (hw : wf t) (h2 : TM t2 W) (hw2 : wf t2) (en : t2 1 0 = t 1 0) {x : Nat} (hx : x < 32) : L_X7_first_100 U (nI x) W 300 (0 : Int32) (0 : Int32) = some (nI (sm (t 1 0) (fun p => ((knw t2 p).testBit x).toNat))) := by
  have h7 := hw.n7
  refine lupE (N := t 1 0) (fun n i => L_X7_first_100 U (nI x) W n (nI i) (nI (sm i (fun p => ((knw t2 p).testBit x).toNat)))) (fun n => ?_) (fun n i hi => ?_) (t 1 0) 0 300 (by omega) (by omega)
  · show (if U 10 0 ≤ nI (t 1 0) then _ else _) = _
    rw [h.n, if_pos (yle _)]
  · show (if U 10 0 ≤ nI i then _ else _) = L_X7_first_100 U (nI x) W n (nI (i + 1)) (nI (sm i (fun p => ((knw t2 p).testBit x).toNat) + ((knw t2 i).testBit x).toNat))
    have hi2 : i < t2 1 0 := by rw [en]; exact hi
    have hv := k8 hw2 (knw_lt hw2 hi2)
    rw [h.n, if_neg (nle hw hi)]
    refine ob (pm_knw h2 hw2 hi2) ?_
    by_cases b : (knw t2 i).testBit x = true
    · rw [if_neg (fun z => by rw [(pm_has0 (by omega) hx).mp z] at b; cases b), b, nI_1, nI_1]
      rfl
    · have b' : (knw t2 i).testBit x = false := by simpa using b
      rw [if_pos ((pm_has0 (by omega) hx).mpr b'), b', nI_1, show (0 : Int32) = nI 0 from rfl, nI_add]
      rfl
theorem pc_bld : ∀ (n : Nat), n ≤ 8 → ∀ b : Nat → Bool, pc (bld n b) = sm n (fun p => (b p).toNat) := by
  intro n hn b
  have h8 : pc (bld n b) = sm 8 (fun i => (decide (i < n) && b i).toNat) := sm_congr (fun i _ => by rw [bld_bit])
  rw [h8]
  have key : ∀ d, n ≤ d → sm d (fun i => (decide (i < n) && b i).toNat) = sm n (fun p => (b p).toNat) := by
    intro d
    induction d with
    | zero => intro h; obtain rfl : n = 0 := (by omega); rfl
    | succ d ih =>
      intro h
      by_cases e : n = d + 1
      · subst e
        exact sm_congr (fun i hi => by rw [decide_eq_true hi]; rfl)
      · show sm d _ + (decide (d < n) && b d).toNat = _
        rw [ih (by omega), decide_eq_false (by omega)]
        rfl
  exact key 8 hn
theorem both_first {t : Tn} {T U : TS} (h : TR t T U) (h0 : 0 < t 1 0) {x N : Nat} (hx : x < t 0 0) (hN : N ≤ 20) (T3 : TS) (tp : Option (Nat → Int32)) : ∃ (a : Int32) (T' : TS) (tp' : Option (Nat → Int32)), f_X2_bestToTell T T3 (nI x) (nI N) = some (a, T') ∧ L_X7_first_44 U (nI x) (nI N) 300 (0 : Int32) (-1 : Int32) (0 : Int32) tp = some (a, tp') := by
  have h7 := h.1.n7
  have h8 := h.1.1.2.1
  have st6 : ∀ n i (a b : Int32) (s : TS), i < t 1 0 → ∃ s', L_X2_bestToTell_8 T (nI x) (nI N) (n + 1) (nI i) a b s = L_X2_bestToTell_8 T (nI x) (nI N) n (nI (i + 1)) (if nI (fsc t x N i) ≤ a then a else nI (fsc t x N i)) (if nI (fsc t x N i) ≤ a then b else nI i) s' := by
    intro n i a b s hi
    obtain ⟨T0, b1, b2, b3, b4⟩ := pc_become h.2.1 h.1 s
    have c1 := putHeard_c b2 h.1 hi (x := x) (by omega) true
    have c2 : TC (tol t i x) (up T0 9 (upd (T0 9) i (nI (wb (t 9 i) x true)))) := b2.put (by decide) (upd_n (fun q hq => b2.heard hq))
    have hw2 := tol_wf h.1 hi hx
    obtain ⟨T', d1, d2, d3⟩ := pc_rounds c2 hw2 (N := N) (by omega)
    refine ⟨T', ?_⟩
    show (if T 1 0 ≤ nI i then _ else _) = _
    rw [h.2.1.n, if_neg (nle h.1 hi)]
    refine ob b1 (ob c1 (ob d1 (ob (pc_kno d2 (itr_wf hw2 N) (by omega)) ?_)))
    have hb : kno (itr N (tol t i x)) x < 256 := bld8 (itr_wf hw2 N) _
    rw [pu_bc _ hb, nI_1]
    rfl
  have st7 : ∀ n i (a b : Int32) tpc, i < t 1 0 → ∃ tp', L_X7_first_44 U (nI x) (nI N) (n + 1) (nI i) a b tpc = L_X7_first_44 U (nI x) (nI N) n (nI (i + 1)) (if nI (fsc t x N i) ≤ a then a else nI (fsc t x N i)) (if nI (fsc t x N i) ≤ a then b else nI i) tp' := by
    intro n i a b tpc hi
    have i7 := lt7 h.1 hi
    have hw2 := tol_wf h.1 hi hx
    have e0 := fr0_tm h.2.2.1 tpc
    have c2 : TM (tol t i x) (up (fr0 U tpc) 15 (upd ((fr0 U tpc) 15) i (nI (wb (t 9 i) x true)))) := e0.put (j := 9) (by decide) (by decide) (upd_n (fun q hq => e0.heard hq))
    obtain ⟨U', d1, d2, d3⟩ := pm_rounds (N := N) (by omega) (L_X7_first_76 (nI N)) (fun _ _ _ => rfl) c2 hw2
    have en : itr N (tol t i x) 1 0 = t 1 0 := by rw [itr_n]; rfl
    refine ⟨some (U' 29), ?_⟩
    show (if U 10 0 ≤ nI i then _ else if nI i < 0 ∨ 7 ≤ (nI i).toNatClampNeg then _ else _) = _
    rw [h.2.2.1.n, if_neg (nle h.1 hi), if_neg (in7 i7), cl7 i7, e0.heard hi, pu_one x (by omega), pu_or]
    refine ob d1 (ob (pm_cnt h.2.2.1 h.1 d2 (itr_wf hw2 N) en (by omega)) ?_)
    have e : sm (t 1 0) (fun p => ((knw (itr N (tol t i x)) p).testBit x).toNat) = fsc t x N i := by
      unfold fsc kno
      rw [en, pc_bld _ (by omega)]
    rw [e, nI_1]
  have fle : ∀ i, fsc t x N i ≤ 8 := fun i => pc_le _
  have n1 : ¬ nI (fsc t x N 0) ≤ (-1 : Int32) := fun z => by
    have := Int32.le_iff_toInt_le.mp z
    rw [nI_toInt (by have := fle 0; omega), show (-1 : Int32).toInt = -1 from by decide] at this
    omega
  obtain ⟨s1, e6⟩ := st6 299 0 (-1 : Int32) (-1 : Int32) T3 h0
  obtain ⟨tp1, e7⟩ := st7 299 0 (-1 : Int32) (0 : Int32) tp h0
  rw [if_neg n1, if_neg n1] at e6 e7
  refine lup2k (N := t 1 0) (fun n i s => L_X2_bestToTell_8 T (nI x) (nI N) n (nI i) (nI (fsc t x N (am (fsc t x N) i))) (nI (am (fsc t x N) i)) s) (fun n i s => L_X7_first_44 U (nI x) (nI N) n (nI i) (nI (fsc t x N (am (fsc t x N) i))) (nI (am (fsc t x N) i)) s) (fun _ _ _ => True) (fun r q => r.1 = q.1) (t 1 0 - 1) 1 299 s1 tp1 (fun r q h1 h2 hQ => ?_) (fun n s u _ => ?_) (fun n i s u hi _ => Or.inl ?_) (by omega) (by omega) trivial
  · have h3 := hQ
    rw [am_1] at h1 h2
    refine ⟨r.1, r.2, q.2, ?_, ?_⟩
    · exact ob (e6.trans h1) rfl
    · rw [h3]
      exact e7.trans h2
  · refine ⟨(nI (am (fsc t x N) (t 1 0)), s), (nI (am (fsc t x N) (t 1 0)), u), ?_, ?_, rfl⟩
    · show (if T 1 0 ≤ nI (t 1 0) then _ else _) = _
      rw [h.2.1.n, if_pos (yle _)]
    · show (if U 10 0 ≤ nI (t 1 0) then _ else _) = _
      rw [h.2.2.1.n, if_pos (yle _)]
  · obtain ⟨s', a6⟩ := st6 n i (nI (fsc t x N (am (fsc t x N) i))) (nI (am (fsc t x N) i)) s hi
    obtain ⟨u', a7⟩ := st7 n i (nI (fsc t x N (am (fsc t x N) i))) (nI (am (fsc t x N) i)) u hi
    refine ⟨s', u', trivial, ?_, ?_⟩
    · rw [a6]
      by_cases z : fsc t x N i ≤ fsc t x N (am (fsc t x N) i)
      · rw [if_pos (nI_le z (by have := fle (am (fsc t x N) i); omega)), if_pos (nI_le z (by have := fle (am (fsc t x N) i); omega)), am_up z]
      · rw [if_neg (nI_ge (by omega) (by have := fle i; omega)), if_neg (nI_ge (by omega) (by have := fle i; omega)), am_new z]
    · rw [a7]
      by_cases z : fsc t x N i ≤ fsc t x N (am (fsc t x N) i)
      · rw [if_pos (nI_le z (by have := fle (am (fsc t x N) i); omega)), if_pos (nI_le z (by have := fle (am (fsc t x N) i); omega)), am_up z]
      · rw [if_neg (nI_ge (by omega) (by have := fle i; omega)), if_neg (nI_ge (by omega) (by have := fle i; omega)), am_new z]
theorem op_first (h : Rl Z T1 T2 G R P U V R' ku) (T3 O B : TS) (M : LTS) (tp : Option (Nat → Int32)) (p1 : Int32) (p2 : Int32) : ∃ a Z' T3' V' tp', f_X6_first Z T1 T2 T3 G R P O B p1 p2 = some (a, Z', T3') ∧ f_X7_first U V M R' tp p1 p2 = some (a, V', tp') ∧ Rl Z' T1 T2 G R P U V' R' ku := by
  obtain ⟨t, ht, hs, hr, hp, hz, hk⟩ := id h
  rcases sgt_c ht p1 with ⟨x, hx, rfl, g0, m0⟩ | ⟨g0, m0⟩
  rotate_left
  · refine ⟨(-2 : Int32), rz Z 0, T3, rv V 0, tp, ?_, ?_, h.ref (by decide)⟩
    · unfold f_X6_first
      rw [if_pos g0]
      exact ob (rc2 _ _ _ _ _ _ _ _) rfl
    · unfold f_X7_first
      rw [if_pos m0]
      exact ob (rm2 _ _ _) rfl
  rcases rou_c p2 with ⟨k, hk20, rfl, g1, m1⟩ | ⟨g1, m1⟩
  rotate_left
  · refine ⟨(-2 : Int32), rz Z 0, T3, rv V 0, tp, ?_, ?_, h.ref (by decide)⟩
    · unfold f_X6_first
      rw [if_neg g0, if_pos g1]
      exact ob (rc2 _ _ _ _ _ _ _ _) rfl
    · unfold f_X7_first
      rw [if_neg m0, if_pos m1]
      exact ob (rm2 _ _ _) rfl
  have h7 := ht.1.n7
  by_cases n0 : t 1 0 = 0
  · have e6 : T1 1 0 = 0 := by rw [ht.2.1.n, n0]; rfl
    have e7 : U 10 0 = 0 := by rw [ht.2.2.1.n, n0]; rfl
    refine ⟨(-5 : Int32), rz Z 3, T3, rv V 3, tp, ?_, ?_, h.ref (by decide)⟩
    · unfold f_X6_first
      rw [if_neg g0, if_neg g1, if_pos e6]
      exact ob (rc5 _ _ _ _ _ _ _ _) rfl
    · unfold f_X7_first
      rw [if_neg m0, if_neg m1, if_pos e7]
      exact ob (rm5 _ _ _) rfl
  · have e6 : ¬ T1 1 0 = 0 := by rw [ht.2.1.n]; exact nI_ne0 (by omega) (by omega)
    have e7 : ¬ U 10 0 = 0 := by rw [ht.2.2.1.n]; exact nI_ne0 (by omega) (by omega)
    obtain ⟨a, T', tp', b1, b2⟩ := both_first ht (by omega) hx hk20 T3 tp
    refine ⟨a, Z, T', V, tp', ?_, ?_, h⟩
    · unfold f_X6_first
      rw [if_neg g0, if_neg g1, if_neg e6]
      exact ob b1 rfl
    · unfold f_X7_first
      rw [if_neg m0, if_neg m1, if_neg e7]
      exact ob b2 rfl
theorem TC.dsk {t : Tn} {T : TS} (h : TC t T) (d : Nat) : TC (upn t 2 (fun _ => d)) (up T 2 (fun _ => nI d)) := by
  refine ⟨fun j hj => ?_, fun j p a b c => ?_⟩
  · by_cases e : j = 2
    · subst e; rfl
    · rw [up_ne T _ e, upn_ne t _ e]; exact h.1 j hj
  · rw [up_ne T _ (by omega), upn_ne t _ (by omega)]
    exact h.2 j p a b c
theorem TM.dsk {t : Tn} {T : TS} (h : TM t T) (d : Nat) : TM (upn t 2 (fun _ => d)) (up T 17 (upd (T 17) 0 (nI d))) := by
  refine ⟨h.1, h.2.1, fun j hj => ?_, fun j p a b c => ?_⟩
  · rw [up_same]
    by_cases e : j = 0
    · subst e; rw [pk_us]; rfl
    · rw [pk_un e, upn_ne t _ (by omega)]; exact h.2.2.1 j hj
  · have l := mj_lt a b
    rw [up_ne T _ (by omega), upn_ne t _ (by omega)]
    exact h.2.2.2 j p a b c
theorem dsk_wf {t : Tn} (hw : wf t) {d : Nat} (hd : d ≤ 1) : wf (upn t 2 (fun _ => d)) := by
  refine ⟨⟨hw.1.1, hw.1.2.1, hw.1.2.2.1, hd, hw.1.2.2.2.2⟩, fun j p a b c => ?_⟩
  rw [upn_ne t _ (show j ≠ 2 by omega)]
  exact hw.2 j p a b c
theorem both_dusk {t : Tn} {T U : TS} (h : TR t T U) {N : Nat} (hN : N ≤ 20) {d : Nat} (hd : d ≤ 1) (T3 V : TS) (M R : LTS) (tp : Option (Nat → Int32)) : ∃ (a : Int32) (T' : TS) (f : Nat → Int32), f_X2_knownAtDusk T T3 (nI d) (nI N) = some (a, T') ∧ f_X7_knownBehind U V M R tp (nI d) (nI N) = some (a, some f) := by
  obtain ⟨T0, b1, b2, b3, b4⟩ := pc_become h.2.1 h.1 T3
  have hw2 := dsk_wf h.1 hd
  obtain ⟨T', c1, c2, c3⟩ := pc_rounds (b2.dsk d) hw2 (N := N) (by omega)
  obtain ⟨U', d1, d2, d3⟩ := pm_rounds (N := N) (by omega) (L_X7_knownBehind_15 (nI N)) (fun _ _ _ => rfl) ((fr0_tm h.2.2.1 tp).dsk d) hw2
  exact ⟨_, T', U' 29, ob b1 (ob c1 (ob (pc_kal c2 (itr_wf hw2 N)) rfl)), ob d1 (ob (pm_kal d2 (itr_wf hw2 N)) rfl)⟩
theorem snn {α : Type} {a : α} : ¬ (some a = none) := fun z => by cases z
theorem op_dusk (h : Rl Z T1 T2 G R P U V R' ku) (T3 O B : TS) (M : LTS) (tp : Option (Nat → Int32)) (p1 : Int32) : ∃ a Z' T3' V' tp', f_X6_dusk Z T1 T2 T3 G R P O B p1 = some (a, Z', T3') ∧ f_X7_dusk U V M R' tp p1 = some (a, V', tp') ∧ Rl Z' T1 T2 G R P U V' R' ku := by
  obtain ⟨t, ht, hs, hr, hp, hz, hk⟩ := id h
  rcases rou_c p1 with ⟨k, hk20, rfl, g0, m0⟩ | ⟨g0, m0⟩
  rotate_left
  · refine ⟨((-1000000 : Int32) + (-2 : Int32)), rz Z 0, T3, rv V 0, tp, ?_, ?_, h.ref (by decide)⟩
    · unfold f_X6_dusk
      rw [if_pos g0]
      exact ob (rc2 _ _ _ _ _ _ _ _) rfl
    · unfold f_X7_dusk
      rw [if_pos m0]
      exact ob (rm2 _ _ _) rfl
  obtain ⟨a, T', f, b1, b2⟩ := both_dusk ht hk20 (d := 0) (by decide) T3 V M R' tp
  obtain ⟨c, T'', f2, c1, c2⟩ := both_dusk ht hk20 (d := 1) (by decide) T' V M R' (some f)
  refine ⟨a - c, Z, T'', V, some f2, ?_, ?_, h⟩
  · unfold f_X6_dusk
    rw [if_neg g0]
    exact ob (q := (a - c, T'')) (ob b1 (ob c1 rfl)) rfl
  · unfold f_X7_dusk
    rw [if_neg m0]
    refine ob b2 ?_
    rw [if_neg snn]
    refine ob c2 ?_
    exact if_neg snn
def bl4 (t : Tn) (p : Nat) : Tn := upn (upn (upn (upn t 9 (updn (t 9) p (t 9 p ||| (t 7 p ||| t 8 p)))) 7 (updn (t 7) p 0)) 8 (updn (t 8) p 0)) 11 (updn (t 11) p 4)
theorem bl4_wf {t : Tn} (hw : wf t) {p : Nat} (hp : p < t 1 0) : wf (bl4 t p) := by
  have z0 := Nat.two_pow_pos (t 0 0)
  have pt : ∀ {t' : Tn}, wf t' → t' 1 0 = t 1 0 → t' 0 0 = t 0 0 → ∀ {j m : Nat}, 7 ≤ j → j ≤ 12 → m < bnd t' j → wf (upn t' j (updn (t' j) p m)) := fun {t'} hw' _ _ {j m} h1 h2 hm => hw'.put h1 (fun q hq => by
    show (if q = p then m else t' j q) < bnd t' j
    split
    · exact hm
    · exact hw'.2 j q h1 h2 hq)
  have a := pt hw rfl rfl (j := 9) (m := t 9 p ||| (t 7 p ||| t 8 p)) (by decide) (by decide) (Nat.or_lt_two_pow (hw.heard hp) (Nat.or_lt_two_pow (hw.see hp) (hw.half hp)))
  have b := pt a rfl rfl (j := 7) (m := 0) (by decide) (by decide) z0
  have c := pt b rfl rfl (j := 8) (m := 0) (by decide) (by decide) z0
  exact pt c rfl rfl (j := 11) (m := 4) (by decide) (by decide) (show 4 < 6 by decide)
theorem both_blind {t : Tn} {T U : TS} (h : TC t T) (h2 : TM t U) (hw : wf t) {p : Nat} (hp : p < t 1 0) : ∃ T', f_X5_makeBlind T (nI p) = some T' ∧ TC (bl4 t p) T' ∧ TM (bl4 t p) (up (up (up (up U 11 (upd (U 11) p (4 : Int32))) 15 (upd (U 15) p (nI (t 9 p ||| (t 7 p ||| t 8 p))))) 13 (upd (U 13) p (0 : Int32))) 14 (upd (U 14) p (0 : Int32))) := by
  have p7 := lt7 hw hp
  unfold f_X5_makeBlind
  rw [if_neg (in7 p7), cl7 p7, h.heard hp, h.see hp, h.half hp, pu_or, pu_or]
  refine ⟨_, rfl, ?_, ?_⟩
  · have a := h.put (j := 9) (f := updn (t 9) p (t 9 p ||| (t 7 p ||| t 8 p))) (by decide) (upd_n (p := p) (x := t 9 p ||| (t 7 p ||| t 8 p)) (fun q hq => h.heard hq))
    have b := a.put (j := 7) (f := updn (t 7) p 0) (by decide) (upd_n (p := p) (x := 0) (fun q hq => h.see hq))
    have c := b.put (j := 8) (f := updn (t 8) p 0) (by decide) (upd_n (p := p) (x := 0) (fun q hq => h.half hq))
    exact c.put (j := 11) (f := updn (t 11) p 4) (by decide) (upd_n (p := p) (x := 4) (fun q hq => h.kind hq))
  · have a := h2.put (j := 9) (f := updn (t 9) p (t 9 p ||| (t 7 p ||| t 8 p))) (by decide) (by decide) (upd_n (p := p) (x := t 9 p ||| (t 7 p ||| t 8 p)) (fun q hq => h2.heard hq))
    have b := a.put (j := 7) (f := updn (t 7) p 0) (by decide) (by decide) (upd_n (p := p) (x := 0) (fun q hq => h2.see hq))
    have c := b.put (j := 8) (f := updn (t 8) p 0) (by decide) (by decide) (upd_n (p := p) (x := 0) (fun q hq => h2.half hq))
    have d := c.put (j := 11) (f := updn (t 11) p 4) (by decide) (by decide) (upd_n (p := p) (x := 4) (fun q hq => h2.kind hq))
    refine ⟨d.1, d.2.1, d.2.2.1, fun j q e1 e2 hq => ?_⟩
    refine Eq.trans ?_ (d.2.2.2 j q e1 e2 hq)
    rcases (show j = 7 ∨ j = 8 ∨ j = 9 ∨ j = 10 ∨ j = 11 ∨ j = 12 by omega) with rfl | rfl | rfl | rfl | rfl | rfl <;> rfl
theorem op_blind (h : Rl Z T1 T2 G R P U V R' ku) (T3 O B : TS) (M : LTS) (tp : Option (Nat → Int32)) (p1 : Int32) (p2 : Int32) : ∃ a Z' T3' V' tp', f_X6_blind Z T1 T2 T3 G R P O B p1 p2 = some (a, Z', T3') ∧ f_X7_blind U V M R' tp p1 p2 = some (a, V', tp') ∧ Rl Z' T1 T2 G R P U V' R' ku := by
  obtain ⟨t, ht, hs, hr, hp, hz, hk⟩ := id h
  rcases one_c ht p1 with ⟨p, hp1, rfl, g0, m0⟩ | ⟨g0, m0⟩
  rotate_left
  · refine ⟨((-1000000 : Int32) + (-2 : Int32)), rz Z 0, T3, rv V 0, tp, ?_, ?_, h.ref (by decide)⟩
    · unfold f_X6_blind
      rw [if_pos g0]
      exact ob (rc2 _ _ _ _ _ _ _ _) rfl
    · unfold f_X7_blind
      rw [if_pos m0]
      exact ob (rm2 _ _ _) rfl
  rcases rou_c p2 with ⟨k, hk20, rfl, g1, m1⟩ | ⟨g1, m1⟩
  rotate_left
  · refine ⟨((-1000000 : Int32) + (-2 : Int32)), rz Z 0, T3, rv V 0, tp, ?_, ?_, h.ref (by decide)⟩
    · unfold f_X6_blind
      rw [if_neg g0, if_pos g1]
      exact ob (rc2 _ _ _ _ _ _ _ _) rfl
    · unfold f_X7_blind
      rw [if_neg m0, if_pos m1]
      exact ob (rm2 _ _ _) rfl
  have p7 := lt7 ht.1 hp1
  obtain ⟨T', b1, b2⟩ := pc_after ht.2.1 ht.1 T3 (N := k) (by omega)
  obtain ⟨U', c1, c2⟩ := pm_after ht.2.2.1 ht.1 V M R' tp (N := k) (by omega)
  obtain ⟨T0, d1, d2, d3, d4⟩ := pc_become ht.2.1 ht.1 T'
  have e0 := fr0_tm ht.2.2.1 (some (U' 29))
  obtain ⟨T4, f1, f2, f3⟩ := both_blind d2 e0 ht.1 hp1
  have hw2 := bl4_wf ht.1 hp1
  obtain ⟨T5, i1, i2, i3⟩ := pc_rounds f2 hw2 (N := k) (by omega)
  obtain ⟨U5, j1, j2, j3⟩ := pm_rounds (N := k) (by omega) (L_X7_blind_93 (nI k)) (fun _ _ _ => rfl) f3 hw2
  refine ⟨nI (kal (itr k (bl4 t p))) - nI (kal (itr k t)), Z, T5, V, some (U5 29), ?_, ?_, h⟩
  · unfold f_X6_blind
    rw [if_neg g0, if_neg g1]
    exact ob (q := (nI (kal (itr k (bl4 t p))) - nI (kal (itr k t)), T5)) (ob b1 (ob (pc_kal b2 (itr_wf ht.1 k)) (ob d1 (ob f1 (ob i1 (ob (pc_kal i2 (itr_wf hw2 k)) rfl)))))) rfl
  · unfold f_X7_blind
    rw [if_neg m0, if_neg m1]
    refine ob c1 (ob (pm_kal c2 (itr_wf ht.1 k)) ?_)
    rw [if_neg (in7 p7), cl7 p7, e0.heard hp1, e0.see hp1, e0.half hp1, pu_or, pu_or]
    exact ob j1 (ob (pm_kal j2 (itr_wf hw2 k)) rfl)
def cof (t : Tn) (p : Nat) : Tn := upn t 10 (fun q => if q = p then dif 0 (2 ^ p) else dif (t 10 q) (2 ^ p))
theorem cof_wf {t : Tn} (hw : wf t) (p : Nat) : wf (cof t p) := hw.put (by decide) (fun q hq => by
  show (if q = p then dif 0 (2 ^ p) else dif (t 10 q) (2 ^ p)) < 2 ^ t 1 0
  split
  · exact dif_lt (Nat.two_pow_pos _)
  · exact dif_lt (hw.hears hq))
def co0 (t : Tn) (p : Nat) : Tn := upn t 10 (updn (t 10) p 0)
def coI (t : Tn) (p i : Nat) : Tn := upn (co0 t p) 10 (fun q => if q < i then dif (co0 t p 10 q) (2 ^ p) else co0 t p 10 q)
theorem coI_0 (t : Tn) (p : Nat) : coI t p 0 = co0 t p := by
  unfold coI
  rw [show (fun q => if q < 0 then dif (co0 t p 10 q) (2 ^ p) else co0 t p 10 q) = co0 t p 10 from funext fun q => if_neg (Nat.not_lt_zero q)]
  exact upn_id _ _
theorem coI_s (t : Tn) (p i : Nat) : coI t p (i + 1) = upn (coI t p i) 10 (updn (coI t p i 10) i (dif (co0 t p 10 i) (2 ^ p))) := by
  unfold coI
  rw [upn_upn, upn_same]
  congr 1
  funext q
  show (if q < i + 1 then _ else _) = (if q = i then _ else if q < i then _ else _)
  by_cases e : q = i
  · subst e; rw [if_pos (Nat.lt_succ_self q), if_pos rfl]
  · rw [if_neg e]
    by_cases f : q < i
    · rw [if_pos f, if_pos (by omega)]
    · rw [if_neg f, if_neg (by omega)]
theorem coI_at (t : Tn) (p : Nat) {i q : Nat} (h : i ≤ q) : coI t p i 10 q = co0 t p 10 q := by
  unfold coI
  rw [upn_same]
  exact if_neg (by omega)
theorem co0_wf {t : Tn} (hw : wf t) (p : Nat) : wf (co0 t p) := hw.put (by decide) (fun q hq => by
  show (if q = p then 0 else t 10 q) < 2 ^ t 1 0
  split
  · exact Nat.two_pow_pos _
  · exact hw.hears hq)
theorem coI_wf {t : Tn} (hw : wf t) (p i : Nat) : wf (coI t p i) := (co0_wf hw p).put (by decide) (fun q hq => by
  show (if q < i then dif (co0 t p 10 q) (2 ^ p) else co0 t p 10 q) < 2 ^ t 1 0
  split
  · exact dif_lt ((co0_wf hw p).hears hq)
  · exact (co0_wf hw p).hears hq)
theorem pc_cut {t : Tn} {T : TS} (h : TC t T) (hw : wf t) {p : Nat} (hp : p < t 1 0) : ∃ T', f_X5_cutOff T (nI p) = some T' ∧ TC (coI t p (t 1 0)) T' := by
  have h7 := hw.n7
  have p7 := lt7 hw hp
  unfold f_X5_cutOff
  rw [if_neg (in7 p7), cl7 p7]
  refine lupTk (N := t 1 0) (fun n i s => L_X5_cutOff_9 (nI p) n (nI i) s) (fun i s => TC (coI t p i) s) (fun r => TC (coI t p (t 1 0)) r) (t 1 0) 0 300 (up T 10 (upd (T 10) p (0 : Int32))) (fun r h1 hQ => ?_) (fun n s hs => ⟨s, ?_, hs⟩) (fun n i s hi hs => Or.inl ?_) (by omega) (by omega) (by rw [coI_0]; exact h.put (by decide) (upd_n (x := 0) (fun q hq => h.hears hq)))
  · have h2 := hQ
    exact ⟨r, ob h1 rfl, h2⟩
  · show (if s 1 0 ≤ nI (t 1 0) then _ else _) = _
    rw [show s 1 0 = nI (t 1 0) from hs.n, if_pos (yle _)]
  · have i7 := lt7 hw hi
    have eh := hs.hears (p := i) hi
    rw [coI_at t p (Nat.le_refl i)] at eh
    refine ⟨up s 10 (upd (s 10) i (nI (dif (co0 t p 10 i) (2 ^ p)))), ?_, ?_⟩
    · rw [coI_s]
      exact hs.put (by decide) (upd_n (fun q hq => hs.hears hq))
    · show (if s 1 0 ≤ nI i then _ else _) = _
      rw [show s 1 0 = nI (t 1 0) from hs.n, if_neg (nle hw hi), if_neg (in7 i7), cl7 i7, eh, show (0 : Int32) = (if (false : Bool) then (1 : Int32) else 0) from rfl, pu_with (by omega), nI_1]
      rfl
theorem pm_cut {t : Tn} {T : TS} {U0 : TS} (h0 : TM t U0) (h : TM t T) (hw : wf t) {p : Nat} (hp : p < t 1 0) : ∃ T', L_X7_worth_49 U0 (nI p) 300 (0 : Int32) (up T 16 (upd (T 16) p (0 : Int32))) = some T' ∧ TM (coI t p (t 1 0)) T' := by
  have h7 := hw.n7
  have p7 := lt7 hw hp
  refine lupTk (N := t 1 0) (fun n i s => L_X7_worth_49 U0 (nI p) n (nI i) s) (fun i s => TM (coI t p i) s) (fun r => TM (coI t p (t 1 0)) r) (t 1 0) 0 300 (up T 16 (upd (T 16) p (0 : Int32))) (fun r h1 hQ => ?_) (fun n s hs => ⟨s, ?_, hs⟩) (fun n i s hi hs => Or.inl ?_) (by omega) (by omega) (by rw [coI_0]; exact h.put (j := 10) (by decide) (by decide) (upd_n (x := 0) (fun q hq => h.hears hq)))
  · have h2 := hQ
    exact ⟨r, h1, h2⟩
  · show (if U0 10 0 ≤ nI (t 1 0) then _ else _) = _
    rw [h0.n, if_pos (yle _)]
  · have i7 := lt7 hw hi
    have eh := hs.hears (p := i) hi
    rw [coI_at t p (Nat.le_refl i)] at eh
    refine ⟨up s 16 (upd (s 16) i (nI (dif (co0 t p 10 i) (2 ^ p)))), ?_, ?_⟩
    · rw [coI_s]
      exact hs.put (j := 10) (by decide) (by decide) (upd_n (fun q hq => hs.hears hq))
    · show (if U0 10 0 ≤ nI i then _ else _) = _
      rw [h0.n, if_neg (nle hw hi), if_neg (in7 i7), cl7 i7, eh, pu_one p (by omega), pu_dif, nI_1]
def kbt (t : Tn) (p : Nat) : Nat := sm (t 1 0) (fun q => if q = p then 0 else pc (knw t q))
theorem sm_but (f : Nat → Nat) (p : Nat) : ∀ n, p < n → sm n (fun q => if q = p then 0 else f q) + f p = sm n f
  | 0, h => absurd h (Nat.not_lt_zero p)
  | n + 1, h => by
    show sm n (fun q => if q = p then 0 else f q) + (if n = p then 0 else f n) + f p = sm n f + f n
    by_cases e : n = p
    · subst e
      rw [if_pos rfl, sm_congr (g := f) (fun i hi => if_neg (by omega))]
      omega
    · rw [if_neg e]
      have := sm_but f p n (by omega)
      omega
theorem pm_kbt {t : Tn} {T : TS} (h : TM t T) (hw : wf t) {p : Nat} (hp : p < t 1 0) : f_X7_knownTo T (nI p) = some (nI (kbt t p)) := by
  have h7 := hw.n7
  have p7 := lt7 hw hp
  unfold f_X7_knownTo kbt
  refine ob (lupE (N := t 1 0) (fun n i => L_X7_knownTo_4 T (nI p) n (nI i) (nI (sm i (fun q => if q = p then 0 else pc (knw t q))))) (fun n => ?_) (fun n i hi => ?_) (t 1 0) 0 300 (by omega) (by omega)) rfl
  · show (if T 10 0 ≤ nI (t 1 0) then _ else _) = _
    rw [h.n, if_pos (yle _)]
  · show (if T 10 0 ≤ nI i then _ else _) = L_X7_knownTo_4 T (nI p) n (nI (i + 1)) (nI (sm i (fun q => if q = p then 0 else pc (knw t q)) + (if i = p then 0 else pc (knw t i))))
    rw [h.n, if_neg (nle hw hi)]
    by_cases e : i = p
    · rw [if_pos (by rw [e]), if_pos e, show (0 : Int32) = nI 0 from rfl, nI_add, nI_1]
    · rw [if_neg (fun z => e ((nI_eq (by omega) (by omega)).mp z)), if_neg e]
      refine ob (pm_knw h hw hi) (ob (pm_bits (k8 hw (knw_lt hw hi))) ?_)
      rw [nI_add, nI_1]
theorem pc_kbt {t : Tn} {T T1 : TS} (h : TC t T) (hw : wf t) {p : Nat} (hp : p < t 1 0) {N : Nat} (hN : N ≤ 20) : ∃ T', f_X2_knownToOthersThen T1 T (nI p) (nI N) = some (nI (kbt (itr N t) p), T') := by
  obtain ⟨T', a1, a2, a3⟩ := pc_rounds h hw (N := N) (by omega)
  have hw2 := itr_wf hw N
  have hp2 : p < itr N t 1 0 := by rw [itr_n]; exact hp
  refine ⟨T', ob a1 (ob (pc_kal a2 hw2) (ob (pc_knw a2 hw2 hp2) ?_))⟩
  have e := sm_but (fun q => pc (knw (itr N t) q)) p _ hp2
  have e2 : kal (itr N t) = kbt (itr N t) p + pc (knw (itr N t) p) := e.symm
  rw [pu_bc _ (k8 hw2 (knw_lt hw2 hp2)), pk_sub (by omega), e2, Nat.add_sub_cancel]
theorem op_worth (h : Rl Z T1 T2 G R P U V R' ku) (T3 O B : TS) (M : LTS) (tp : Option (Nat → Int32)) (p1 : Int32) (p2 : Int32) : ∃ a Z' T3' V' tp', f_X6_worth Z T1 T2 T3 G R P O B p1 p2 = some (a, Z', T3') ∧ f_X7_worth U V M R' tp p1 p2 = some (a, V', tp') ∧ Rl Z' T1 T2 G R P U V' R' ku := by
  obtain ⟨t, ht, hs, hr, hp, hz, hk⟩ := id h
  rcases one_c ht p1 with ⟨p, hp1, rfl, g0, m0⟩ | ⟨g0, m0⟩
  rotate_left
  · refine ⟨(-2 : Int32), rz Z 0, T3, rv V 0, tp, ?_, ?_, h.ref (by decide)⟩
    · unfold f_X6_worth
      rw [if_pos g0]
      exact ob (rc2 _ _ _ _ _ _ _ _) rfl
    · unfold f_X7_worth
      rw [if_pos m0]
      exact ob (rm2 _ _ _) rfl
  rcases rou_c p2 with ⟨k, hk20, rfl, g1, m1⟩ | ⟨g1, m1⟩
  rotate_left
  · refine ⟨(-2 : Int32), rz Z 0, T3, rv V 0, tp, ?_, ?_, h.ref (by decide)⟩
    · unfold f_X6_worth
      rw [if_neg g0, if_pos g1]
      exact ob (rc2 _ _ _ _ _ _ _ _) rfl
    · unfold f_X7_worth
      rw [if_neg m0, if_pos m1]
      exact ob (rm2 _ _ _) rfl
  have p7 := lt7 ht.1 hp1
  obtain ⟨T0, d1, d2, d3, d4⟩ := pc_become ht.2.1 ht.1 T3
  obtain ⟨T', b1⟩ := pc_kbt (T1 := T1) d2 ht.1 hp1 hk20
  obtain ⟨U', c1, c2⟩ := pm_after ht.2.2.1 ht.1 V M R' tp (N := k) (by omega)
  obtain ⟨T4, e1, e2, e3, e4⟩ := pc_become ht.2.1 ht.1 T'
  obtain ⟨T5, f1, f2⟩ := pc_cut e2 ht.1 hp1
  have hw2 := coI_wf ht.1 p (t 1 0)
  obtain ⟨T6, i1⟩ := pc_kbt (T1 := T1) (p := p) f2 hw2 hp1 hk20
  have e0 := fr0_tm ht.2.2.1 (some (U' 29))
  obtain ⟨U5, j1, j2⟩ := pm_cut ht.2.2.1 e0 ht.1 hp1
  obtain ⟨U6, l1, l2, l3⟩ := pm_rounds (N := k) (by omega) (L_X7_worth_83 (nI k)) (fun _ _ _ => rfl) j2 hw2
  have hp2 : p < itr k t 1 0 := by rw [itr_n]; exact hp1
  have hp3 : p < itr k (coI t p (t 1 0)) 1 0 := by rw [itr_n]; exact hp1
  refine ⟨nI (kbt (itr k t) p) - nI (kbt (itr k (coI t p (t 1 0))) p), Z, T6, V, some (U6 29), ?_, ?_, h⟩
  · unfold f_X6_worth
    rw [if_neg g0, if_neg g1]
    exact ob (q := (nI (kbt (itr k t) p) - nI (kbt (itr k (coI t p (t 1 0))) p), T6)) (ob d1 (ob b1 (ob e1 (ob f1 (ob i1 rfl))))) rfl
  · unfold f_X7_worth
    rw [if_neg m0, if_neg m1]
    refine ob c1 (ob (pm_kbt c2 (itr_wf ht.1 k) hp2) ?_)
    rw [if_neg (in7 p7), cl7 p7]
    exact ob j1 (ob l1 (ob (pm_kbt l2 (itr_wf hw2 k) hp3) rfl))
end OPS
