/-! ===== pure: whom to show it ===== -/
def shI (t : Tn) (set x : Nat) : Nat → Tn
  | 0 => t
  | i + 1 => if set.testBit i = true then sn (shI t set x i) i x 2 else shI t set x i
theorem shI_1 {t : Tn} {set x i : Nat} (h : set.testBit i = true) : shI t set x (i + 1) = sn (shI t set x i) i x 2 := if_pos h
theorem shI_0 {t : Tn} {set x i : Nat} (h : set.testBit i = false) : shI t set x (i + 1) = shI t set x i := if_neg (by rw [h]; decide)
theorem sn_ne (t : Tn) (p x k : Nat) {j : Nat} (h7 : j ≠ 7) (h8 : j ≠ 8) : sn t p x k j = t j := by
  unfold sn
  rw [upn_ne _ _ h8, upn_ne _ _ h7]
theorem shI_ne (t : Tn) (set x : Nat) {j : Nat} (h7 : j ≠ 7) (h8 : j ≠ 8) : ∀ i, shI t set x i j = t j
  | 0 => rfl
  | i + 1 => by
    have ih := shI_ne t set x h7 h8 i
    cases b : set.testBit i
    · rw [shI_0 b, ih]
    · rw [shI_1 b, sn_ne _ _ _ _ h7 h8, ih]
theorem shI_wf {t : Tn} (hw : wf t) {set x : Nat} (hx : x < t 0 0) : ∀ i, i ≤ t 1 0 → wf (shI t set x i)
  | 0, _ => hw
  | i + 1, h => by
    have ih := shI_wf hw hx (set := set) i (by omega)
    cases b : set.testBit i
    · rw [shI_0 b]; exact ih
    · rw [shI_1 b]
      exact sn_wf ih (by rw [shI_ne t set x (by decide) (by decide)]; exact h) (by rw [shI_ne t set x (by decide) (by decide)]; exact hx)
def shw (t : Tn) (set x : Nat) : Tn := shI t set x (t 1 0)
def hsh (t : Tn) (set x N : Nat) : Prop := ∀ k, k ≤ N → mou (itr k (shw t set x)) x = 0
def nbl (t : Tn) (set : Nat) : Prop := ∀ p, p < t 1 0 → set.testBit p = true → t 11 p ≠ 4
theorem pc_shw {t : Tn} {T : TS} (h : TC t T) (hw : wf t) {set x : Nat} (hs : set < 256) (hx : x < t 0 0) : ∃ T', f_X5_showTo T (nI set) (nI x) = some T' ∧ TC (shw t set x) T' := by
  have h7 := hw.n7
  have h8 := hw.1.2.1
  unfold f_X5_showTo
  refine lupTk (N := t 1 0) (fun n i s => L_X5_showTo_2 (nI set) (nI x) n (nI i) s) (fun i s => TC (shI t set x i) s) (fun r => TC (shw t set x) r) (t 1 0) 0 300 T (fun r h1 hQ => ?_) (fun n s hs => ⟨s, ?_, hs⟩) (fun n i s hi hI => Or.inl ?_) (by omega) (by omega) h
  · have h2 := hQ
    exact ⟨r, ob h1 rfl, h2⟩
  · have e := hs.n
    rw [shI_ne t set x (by decide) (by decide)] at e
    show (if s 1 0 ≤ nI (t 1 0) then _ else _) = _
    rw [e, if_pos (yle _)]
  · have e := hI.n
    rw [shI_ne t set x (by decide) (by decide)] at e
    cases b : set.testBit i
    · refine ⟨s, by rw [shI_0 b]; exact hI, ?_⟩
      show (if s 1 0 ≤ nI i then _ else _) = _
      rw [e, if_neg (nle hw hi), if_pos ((pu_has0 (by omega) (by omega)).mpr b), nI_1]
    · obtain ⟨s', a1, a2, a3⟩ := pc_see hI (shI_wf hw hx i (by omega)) (p := i) (x := x) (k := 2) (by rw [shI_ne t set x (by decide) (by decide)]; exact hi) (by rw [shI_ne t set x (by decide) (by decide)]; exact hx) (by decide)
      refine ⟨s', by rw [shI_1 b]; exact a2, ?_⟩
      show (if s 1 0 ≤ nI i then _ else _) = _
      rw [e, if_neg (nle hw hi), if_neg (fun z => by rw [(pu_has0 (by omega) (by omega)).mp z] at b; cases b)]
      refine ob a1 ?_
      rw [nI_1]
theorem pm_shw {t : Tn} {U T : TS} (h0 : TM t U) (h : TM t T) (hw : wf t) {set x : Nat} (hs : set < 256) (hx : x < t 0 0) : ∃ r, L_X7_isStopped_9 U (nI set) (nI x) 300 (0 : Int32) T = some r ∧ ((∃ f, r = .inl ((0 : Int32), some f) ∧ ¬ nbl t set) ∨ (∃ W, r = .inr W ∧ TM (shw t set x) W ∧ nbl t set)) := by
  have h7 := hw.n7
  have h8 := hw.1.2.1
  refine lupT (N := t 1 0) (fun n i s => L_X7_isStopped_9 U (nI set) (nI x) n (nI i) s) (fun i s => TM (shI t set x i) s ∧ ∀ p, p < i → set.testBit p = true → t 11 p ≠ 4) (fun r => (∃ f, r = .inl ((0 : Int32), some f) ∧ ¬ nbl t set) ∨ (∃ W, r = .inr W ∧ TM (shw t set x) W ∧ nbl t set)) (fun n s hI => ⟨.inr s, ?_, Or.inr ⟨s, rfl, hI⟩⟩) (fun n i s hi hI => ?_) (t 1 0) 0 300 T (by omega) (by omega) ⟨h, fun p hp => absurd hp (Nat.not_lt_zero p)⟩
  · show (if U 10 0 ≤ nI (t 1 0) then _ else _) = _
    rw [h0.n, if_pos (yle _)]
  · have i7 := lt7 hw hi
    have hk := hw.kind hi
    cases b : set.testBit i
    · refine Or.inl ⟨s, ⟨by rw [shI_0 b]; exact hI.1, fun p hp hb => ?_⟩, ?_⟩
      · by_cases e : p = i
        · subst e; rw [b] at hb; cases hb
        · exact hI.2 p (by omega) hb
      · show (if U 10 0 ≤ nI i then _ else _) = _
        rw [h0.n, if_neg (nle hw hi), if_pos ((pm_has0 (by omega) (by omega)).mpr b), nI_1]
    · have st : L_X7_isStopped_9 U (nI set) (nI x) (n + 1) (nI i) s = (if nI (t 11 i) = (4 : Int32) then some (.inl ((0 : Int32), (some (s 29)))) else (f_X7_sees s (nI i) (nI x) (2 : Int32)).bind fun q13 => L_X7_isStopped_9 U (nI set) (nI x) n (nI (i + 1)) q13) := by
        show (if U 10 0 ≤ nI i then _ else _) = _
        rw [h0.n, if_neg (nle hw hi), if_neg (fun z => by rw [(pm_has0 (by omega) (by omega)).mp z] at b; cases b), if_neg (in7 i7), cl7 i7, h0.kind hi, nI_1]
      rw [st]
      by_cases z : t 11 i = 4
      · refine Or.inr ⟨.inl ((0 : Int32), some (s 29)), ?_, Or.inl ⟨_, rfl, fun hn => hn i hi b z⟩⟩
        rw [z]
        exact ifY 4
      · obtain ⟨s', a1, a2, a3⟩ := pm_see hI.1 (shI_wf hw hx i (by omega)) (p := i) (x := x) (k := 2) (by rw [shI_ne t set x (by decide) (by decide)]; exact hi) (by rw [shI_ne t set x (by decide) (by decide)]; exact hx) (by decide)
        refine Or.inl ⟨s', ⟨by rw [shI_1 b]; exact a2, fun p hp hb => ?_⟩, ?_⟩
        · by_cases e : p = i
          · subst e; exact z
          · exact hI.2 p (by omega) hb
        · rw [ifL z (by omega) (by decide)]
          exact ob a1 rfl
theorem shw_n (t : Tn) (set x : Nat) : shw t set x 1 0 = t 1 0 := by
  unfold shw
  rw [shI_ne t set x (by decide) (by decide)]
theorem shw_wf {t : Tn} (hw : wf t) {set x : Nat} (hx : x < t 0 0) : wf (shw t set x) := shI_wf hw hx _ (Nat.le_refl _)
theorem mou_lt {t : Tn} (hw : wf t) (x : Nat) : mou t x < 256 := bld8 hw _
theorem pc_hush {t : Tn} {T : TS} (h : TC t T) (hw : wf t) {set x N : Nat} (hs : set < 256) (hx : x < t 0 0) (hN : N ≤ 20) (T2 : TS) : ∃ a T', f_X2_isHushed T T2 (nI set) (nI x) (nI N) = some (a, T') ∧ ((a = 1 ∧ hsh t set x N) ∨ (a = 0 ∧ ¬ hsh t set x N)) := by
  have h8 := hw.1.2.1
  obtain ⟨T0, a1, a2, a3, a4⟩ := pc_become h hw T2
  obtain ⟨T1, b1, b2⟩ := pc_shw a2 hw hs hx
  have hw2 := shw_wf hw hx (set := set)
  unfold f_X2_isHushed
  refine lupTk (N := N + 1) (C := _) (fun n i (s : Int32 × TS) => L_X2_isHushed_26 (nI x) (nI N) n (nI i) s.1 s.2) (fun i s => TC (itr i (shw t set x)) s.2 ∧ (∀ k, k < i → mou (itr k (shw t set x)) x = 0) ∧ (s.1 = 0 → hsh t set x N)) (fun r => (∃ W, r = .inr W ∧ hsh t set x N) ∨ (∃ W, r = .inl ((0 : Int32), W) ∧ ¬ hsh t set x N)) (N + 1) 0 300 ((1 : Int32), T1) (fun r h1 hQ => ?_) (fun n s hI => ⟨.inr s.2, ?_, Or.inl ⟨_, rfl, fun k hk => hI.2.1 k (by omega)⟩⟩) (fun n i s hi hI => ?_) (by omega) (by omega) ⟨b2, fun k hk => absurd hk (Nat.not_lt_zero k), fun z => absurd (show (1 : Int32) = 0 from z) (by decide)⟩
  · rcases hQ with ⟨W, rfl, e⟩ | ⟨W, rfl, e⟩
    · exact ⟨1, W, ob a1 (ob b1 (ob h1 rfl)), Or.inl ⟨rfl, e⟩⟩
    · exact ⟨0, W, ob a1 (ob b1 (ob h1 rfl)), Or.inr ⟨rfl, e⟩⟩
  · show (if nI N < nI (N + 1) then _ else _) = _
    rw [if_pos (nI_lt (by omega) (by omega))]
  · have hwi := itr_wf hw2 i
    have hm := mou_lt hwi x
    have st : L_X2_isHushed_26 (nI x) (nI N) (n + 1) (nI i) s.1 s.2 = (if s.1 = 0 then some (.inr s.2) else if nI (mou (itr i (shw t set x)) x) = 0 then (f_X5_passRound s.2).bind fun q15 => L_X2_isHushed_26 (nI x) (nI N) n (nI (i + 1)) q15.1 q15.2 else some (.inl ((0 : Int32), s.2))) := by
      show (if nI N < nI i then _ else _) = _
      rw [if_neg (nI_nlt (by omega) (by omega))]
      by_cases z : s.1 = 0
      · rw [if_pos z, if_pos z]
      · rw [if_neg z, if_neg z]
        refine ob (pc_mou hI.1 hwi (by omega)) ?_
        rw [nI_1]
    rw [st]
    by_cases z : s.1 = 0
    · rw [if_pos z]
      exact Or.inr ⟨.inr s.2, rfl, Or.inl ⟨_, rfl, hI.2.2 z⟩⟩
    · rw [if_neg z]
      by_cases m0 : mou (itr i (shw t set x)) x = 0
      · obtain ⟨T', c1, c2, c3⟩ := pc_round hI.1 hwi
        have all : ∀ k, k < i + 1 → mou (itr k (shw t set x)) x = 0 := fun k hk => by
          by_cases e : k = i
          · subst e; exact m0
          · exact hI.2.1 k (by omega)
        refine Or.inl ⟨(cf (cnt (itr i (shw t set x))), T'), ⟨c2, all, fun y k hk => ?_⟩, ?_⟩
        · by_cases e : k < i
          · exact hI.2.1 k e
          · have := itr_fix hw2 (cf_z.mp y) (k - i)
            rw [show i + (k - i) = k by omega] at this
            rw [this]; exact m0
        · rw [m0, if_pos (show nI 0 = 0 from rfl)]
          exact ob c1 rfl
      · refine Or.inr ⟨.inl ((0 : Int32), s.2), by rw [if_neg (nI_ne0 (by omega) (by omega))], Or.inr ⟨_, rfl, fun hh => m0 (hh i (by omega))⟩⟩
theorem pm_hush {t : Tn} {U : TS} (h : TM t U) (hw : wf t) {set x N : Nat} (hs : set < 256) (hx : x < t 0 0) (hN : N ≤ 20) (V : TS) (M R : LTS) (tp : Option (Nat → Int32)) : ∃ a f, f_X7_isStopped U V M R tp (nI set) (nI x) (nI N) = some (a, some f) ∧ ((a = 1 ∧ nbl t set ∧ hsh t set x N) ∨ (a = 0 ∧ ¬ (nbl t set ∧ hsh t set x N))) := by
  have h8 := hw.1.2.1
  obtain ⟨r, a1, a2⟩ := pm_shw h (fr0_tm h tp) hw hs hx
  have hw2 := shw_wf hw hx (set := set)
  unfold f_X7_isStopped
  rcases a2 with ⟨f, rfl, e⟩ | ⟨T1, rfl, e1, e2⟩
  · exact ⟨0, f, ob a1 rfl, Or.inr ⟨rfl, fun z => e z.1⟩⟩
  · refine lupTk (N := N) (C := _) (fun n i s => L_X7_isStopped_58 (nI x) (nI N) n (nI i) s) (fun i s => TM (itr i (shw t set x)) s ∧ ∀ k, k < i → mou (itr k (shw t set x)) x = 0) (fun r => (∃ W, r = .inr W ∧ TM (itr N (shw t set x)) W ∧ ∀ k, k < N → mou (itr k (shw t set x)) x = 0) ∨ (∃ f, r = .inl ((0 : Int32), some f) ∧ ¬ hsh t set x N)) N 0 300 T1 (fun r h1 hQ => ?_) (fun n s hI => ⟨.inr s, ?_, Or.inl ⟨_, rfl, hI⟩⟩) (fun n i s hi hI => ?_) (by omega) (by omega) ⟨e1, fun k hk => absurd hk (Nat.not_lt_zero k)⟩
    · rcases hQ with ⟨W, rfl, q1, q2⟩ | ⟨f, rfl, q⟩
      · have hwN := itr_wf hw2 N
        have hm := mou_lt hwN x
        have mm := pm_mou q1 hwN (x := x) (by omega)
        by_cases m0 : mou (itr N (shw t set x)) x = 0
        · refine ⟨1, W 29, ob a1 (ob h1 (ob mm ?_)), Or.inl ⟨rfl, e2, fun k hk => ?_⟩⟩
          · rw [m0]; rfl
          · by_cases e : k = N
            · subst e; exact m0
            · exact q2 k (by omega)
        · refine ⟨0, W 29, ob a1 (ob h1 (ob mm ?_)), Or.inr ⟨rfl, fun z => m0 (z.2 N (Nat.le_refl N))⟩⟩
          rw [if_neg (nI_ne0 (by omega) (by omega))]
      · exact ⟨0, f, ob a1 (ob h1 rfl), Or.inr ⟨rfl, fun z => q z.2⟩⟩
    · show (if nI N ≤ nI N then _ else _) = _
      rw [if_pos (yle _)]
    · have hwi := itr_wf hw2 i
      have hm := mou_lt hwi x
      have st : L_X7_isStopped_58 (nI x) (nI N) (n + 1) (nI i) s = (if nI (mou (itr i (shw t set x)) x) = 0 then (f_X7_goesRound s).bind fun q22 => L_X7_isStopped_58 (nI x) (nI N) n (nI (i + 1)) q22.2 else some (.inl ((0 : Int32), (some (s 29))))) := by
        show (if nI N ≤ nI i then _ else _) = _
        rw [if_neg (nI_ge hi (by omega))]
        refine ob (pm_mou hI.1 hwi (by omega)) ?_
        rw [nI_1]
      rw [st]
      by_cases m0 : mou (itr i (shw t set x)) x = 0
      · obtain ⟨T', c1, c2, c3⟩ := pm_round hI.1 hwi
        refine Or.inl ⟨T', ⟨c2, fun k hk => ?_⟩, ?_⟩
        · by_cases e : k = i
          · subst e; exact m0
          · exact hI.2 k (by omega)
        · rw [m0, if_pos (show nI 0 = 0 from rfl)]
          exact ob c1 rfl
      · refine Or.inr ⟨.inl ((0 : Int32), some (s 29)), by rw [if_neg (nI_ne0 (by omega) (by omega))], Or.inr ⟨_, rfl, fun hh => m0 (hh i (by omega))⟩⟩
/-- the fewest, or none -/
def Obs (Pr : Nat → Prop) (N : Nat) (r : Int32) : Prop := (r = -1 ∧ ∀ s, s < N → ¬ Pr s) ∨ ∃ b, r = nI b ∧ Bst Pr N b
theorem Obs.one {Pr : Nat → Prop} {N : Nat} {a b : Int32} (ha : Obs Pr N a) (hb : Obs Pr N b) : a = b := by
  rcases ha with ⟨rfl, h1⟩ | ⟨x, rfl, h1⟩ <;> rcases hb with ⟨rfl, h2⟩ | ⟨y, rfl, h2⟩
  · rfl
  · exact absurd h2.2.1 (h1 y h2.1)
  · exact absurd h1.2.1 (h2 x h1.1)
  · rw [h1.one h2]
def stp (t : Tn) (x N set : Nat) : Prop := nbl t set ∧ hsh t set x N
theorem nbl_iff {t : Tn} (set : Nat) (hs : set < 2 ^ t 1 0) : dif set (dif (alP t) (bln t)) = 0 ↔ nbl t set := by
  have hb : ∀ p, (dif set (dif (alP t) (bln t))).testBit p = (set.testBit p && !(decide (p < t 1 0) && !(decide (p < t 1 0) && decide (t 11 p = 4)))) := fun p => by
    unfold bln alP
    rw [dif_bit, dif_bit, bld_bit, Nat.testBit_two_pow_sub_one]
  constructor
  · intro h p hp hb2 h4
    have := hb p
    rw [h, Nat.zero_testBit, hb2, decide_eq_true hp, decide_eq_true h4] at this
    exact absurd this (by decide)
  · intro h
    apply Nat.eq_of_testBit_eq
    intro p
    rw [hb p, Nat.zero_testBit]
    by_cases hp : p < t 1 0
    · cases b : set.testBit p
      · rfl
      · rw [decide_eq_true hp, decide_eq_false (h p hp b)]; rfl
    · rw [Nat.testBit_lt_two_pow (Nat.lt_of_lt_of_le hs (Nat.pow_le_pow_right (by decide) (by omega)))]; rfl
theorem sub_le {a b : Nat} (h : dif a b = 0) : a ≤ b := by
  have e : b ||| a = b := or_of_dif0 h
  rw [← e]
  exact Nat.right_le_or
theorem pc_stop {t : Tn} {T : TS} (h : TC t T) (hw : wf t) {x N : Nat} (hx : x < t 0 0) (hN : N ≤ 20) (T2 : TS) : ∃ a T', f_X2_fewestToShow T T2 (nI x) (nI N) = some (a, T') ∧ Obs (stp t x N) (2 ^ t 1 0) a := by
  have h7 := hw.n7
  have h2n : 2 ^ t 1 0 ≤ 2 ^ 7 := Nat.pow_le_pow_right (by decide) h7
  have hap := alP_lt hw
  have hb : bln t < 256 := bld8 hw _
  obtain ⟨A, hA⟩ : ∃ A, A = dif (alP t) (bln t) := ⟨_, rfl⟩
  have hA2 : A < 2 ^ t 1 0 := by
    rw [hA]
    exact dif_lt (by unfold alP; have := Nat.two_pow_pos (t 1 0); omega)
  have eA : (f_X5_allPeople T) &&& (nI (bln t) ^^^ (-1 : Int32)) = nI A := by rw [pc_allP h hw, pu_dif, hA]
  have inner : ∀ z s0, z ≤ t 1 0 → (∀ s', s' < 2 ^ t 1 0 → stp t x N s' → z ≤ pc s') → ∃ r, L_X2_fewestToShow_36 T (nI x) (nI N) (nI (bln t)) (nI z) 300 (0 : Int32) s0 = some r ∧ ((∃ b W, r = .inl (nI b, W) ∧ Bst (stp t x N) (2 ^ t 1 0) b) ∨ (∃ W, r = .inr W ∧ ∀ s', s' < 2 ^ t 1 0 → stp t x N s' → z + 1 ≤ pc s')) := by
    intro z s0 hz hz2
    refine lupT (N := A + 1) (fun n k s => L_X2_fewestToShow_36 T (nI x) (nI N) (nI (bln t)) (nI z) n (nI k) s) (fun k _ => ∀ s', s' < k → s' < 2 ^ t 1 0 → stp t x N s' → z + 1 ≤ pc s') (fun r => (∃ b W, r = .inl (nI b, W) ∧ Bst (stp t x N) (2 ^ t 1 0) b) ∨ (∃ W, r = .inr W ∧ ∀ s', s' < 2 ^ t 1 0 → stp t x N s' → z + 1 ≤ pc s')) (fun n s hI => ⟨.inr s, ?_, Or.inr ⟨s, rfl, fun s' x1 x2 => ?_⟩⟩) (fun n k s hk hI => ?_) (A + 1) 0 300 s0 (by omega) (by omega) (fun k hk => absurd hk (Nat.not_lt_zero k))
    · show (if (f_X5_allPeople T) &&& (nI (bln t) ^^^ (-1 : Int32)) < nI (A + 1) then _ else _) = _
      rw [eA, if_pos (nI_lt (by omega) (by omega))]
    · have := sub_le ((nbl_iff s' x1).mpr x2.1)
      exact hI s' (by omega) x1 x2
    · have hk2 : k < 2 ^ t 1 0 := by omega
      have b1 := pc_le k
      have hd : dif k A < 256 := dif_lt8 _ (by omega)
      have st : L_X2_fewestToShow_36 T (nI x) (nI N) (nI (bln t)) (nI z) (n + 1) (nI k) s = (if (if nI (dif k A) = 0 then (if nI (pc k) = nI z then (1 : Int32) else (0 : Int32)) else (0 : Int32)) = 0 then L_X2_fewestToShow_36 T (nI x) (nI N) (nI (bln t)) (nI z) n (nI (k + 1)) s else (f_X2_isHushed T s (nI k) (nI x) (nI N)).bind fun q17 => if q17.1 = 0 then L_X2_fewestToShow_36 T (nI x) (nI N) (nI (bln t)) (nI z) n (nI (k + 1)) q17.2 else some (.inl (nI k, q17.2))) := by
        show (if (f_X5_allPeople T) &&& (nI (bln t) ^^^ (-1 : Int32)) < nI k then _ else if (if (nI k &&& (((f_X5_allPeople T) &&& (nI (bln t) ^^^ (-1 : Int32))) ^^^ (-1 : Int32))) = 0 then (if (f_J6_bitCount_0f7a4 (nI k)) = nI z then (1 : Int32) else (0 : Int32)) else (0 : Int32)) = 0 then _ else _) = _
        rw [eA, if_neg (nI_nlt (by omega) (by omega)), pu_dif, pu_bc k (by omega), nI_1]
      have step : (stp t x N k → z + 1 ≤ pc k) → ∀ s', s' < k + 1 → s' < 2 ^ t 1 0 → stp t x N s' → z + 1 ≤ pc s' := fun h s' hs' x1 => by
        by_cases e : s' = k
        · subst e; exact h
        · exact hI s' (by omega) x1
      have nb := nbl_iff (t := t) k hk2
      rw [← hA] at nb
      by_cases c0 : dif k A = 0
      · by_cases c1 : pc k = z
        · rw [c0, c1, if_pos (show nI 0 = 0 from rfl), if_pos rfl, if_neg (by decide)] at st
          obtain ⟨a, W, e1, e2⟩ := pc_hush h hw (set := k) (by omega) hx hN s
          rcases e2 with ⟨rfl, e3⟩ | ⟨rfl, e3⟩
          · refine Or.inr ⟨.inl (nI k, W), ?_, Or.inl ⟨k, W, rfl, hk2, ⟨nb.mp c0, e3⟩, fun s' hs' h' => ?_⟩⟩
            · rw [st]
              refine ob e1 ?_
              rw [if_neg (show ¬ (1 : Int32) = 0 by decide)]
            · have y1 := hz2 s' hs' h'
              unfold Lss
              by_cases c2 : s' < k
              · have := hI s' c2 hs' h'; omega
              · omega
          · refine Or.inl ⟨W, step (fun h => absurd h.2 e3), ?_⟩
            rw [st]
            refine ob e1 ?_
            rw [if_pos rfl]
        · rw [c0, if_pos (show nI 0 = 0 from rfl), if_neg (fun y => c1 ((nI_eq (by omega) (by omega)).mp y)), if_pos rfl] at st
          refine Or.inl ⟨s, step (fun h => ?_), st⟩
          have := hz2 k hk2 h
          omega
      · rw [if_neg (nI_ne0 (by omega) (by omega)), if_pos rfl] at st
        exact Or.inl ⟨s, step (fun h => absurd (nb.mpr h.1) c0), st⟩
  unfold f_X2_fewestToShow
  have key : ∃ r, L_X2_fewestToShow_21 T (nI x) (nI N) (nI (bln t)) 300 (0 : Int32) T2 = some r ∧ ((∃ b W, r = .inl (nI b, W) ∧ Bst (stp t x N) (2 ^ t 1 0) b) ∨ (∃ W, r = .inr W ∧ ∀ s', s' < 2 ^ t 1 0 → ¬ stp t x N s')) := by
    refine lupT (N := t 1 0 + 1) (fun n i s => L_X2_fewestToShow_21 T (nI x) (nI N) (nI (bln t)) n (nI i) s) (fun i _ => ∀ s', s' < 2 ^ t 1 0 → stp t x N s' → i ≤ pc s') (fun r => (∃ b W, r = .inl (nI b, W) ∧ Bst (stp t x N) (2 ^ t 1 0) b) ∨ (∃ W, r = .inr W ∧ ∀ s', s' < 2 ^ t 1 0 → ¬ stp t x N s')) (fun n s hI => ⟨.inr s, ?_, Or.inr ⟨s, rfl, fun s' x1 x2 => ?_⟩⟩) (fun n i s hi hI => ?_) (t 1 0 + 1) 0 300 T2 (by omega) (by omega) (fun _ _ _ => Nat.zero_le _)
    · show (if T 1 0 < nI (t 1 0 + 1) then _ else _) = _
      rw [h.n, if_pos (nI_lt (by omega) (by omega))]
    · have y1 := hI s' x1 x2
      have y2 := (pcd (t 1 0) (by omega) s' x1).2
      omega
    · obtain ⟨r, a1, a2⟩ := inner i s (by omega) hI
      have st : L_X2_fewestToShow_21 T (nI x) (nI N) (nI (bln t)) (n + 1) (nI i) s = eoS (fun q10x => L_X2_fewestToShow_21 T (nI x) (nI N) (nI (bln t)) n (nI (i + 1)) q10x) r := by
        show (if T 1 0 < nI i then _ else _) = _
        rw [h.n, if_neg (nI_nlt (by omega) (by omega))]
        refine ob a1 ?_
        rw [nI_1]
      rcases a2 with ⟨b, W, rfl, e⟩ | ⟨W, rfl, e⟩
      · exact Or.inr ⟨.inl (nI b, W), st, Or.inl ⟨b, W, rfl, e⟩⟩
      · exact Or.inl ⟨W, e, st⟩
  obtain ⟨r, e1, e2⟩ := key
  rcases e2 with ⟨b, W, rfl, e⟩ | ⟨W, rfl, e⟩
  · exact ⟨nI b, W, ob (pc_bln h hw) (ob e1 rfl), Or.inr ⟨b, rfl, e⟩⟩
  · exact ⟨(-1 : Int32), W, ob (pc_bln h hw) (ob e1 rfl), Or.inl ⟨rfl, e⟩⟩
theorem pm_stop {t : Tn} {U : TS} (h : TM t U) (hw : wf t) {x N : Nat} (hx : x < t 0 0) (hN : N ≤ 20) (V : TS) (M R : LTS) (tp : Option (Nat → Int32)) : ∃ a tp', L_X7_stop_27 U V M R (nI x) (nI N) 300 (0 : Int32) (-1 : Int32) tp = some (a, tp') ∧ Obs (stp t x N) (2 ^ t 1 0) a := by
  have h7 := hw.n7
  have h2n : 2 ^ t 1 0 ≤ 2 ^ 7 := Nat.pow_le_pow_right (by decide) h7
  have e2n : (1 : Int32) <<< ((U 10 0) &&& 31) = nI (2 ^ t 1 0) := by rw [h.n, pu_one _ (by omega)]
  refine lupTk (N := 2 ^ t 1 0) (C := _) (fun n i (s : Int32 × Option (Nat → Int32)) => L_X7_stop_27 U V M R (nI x) (nI N) n (nI i) s.1 s.2) (fun i s => Obs (stp t x N) i s.1) (fun r => Obs (stp t x N) (2 ^ t 1 0) r.1) (2 ^ t 1 0) 0 300 ((-1 : Int32), tp) (fun r h1 hQ => ⟨r.1, r.2, h1, hQ⟩) (fun n s hI => ⟨(s.1, s.2), ?_, hI⟩) (fun n i s hi hI => Or.inl ?_) (by omega) (by omega) (Or.inl ⟨rfl, fun k hk => absurd hk (Nat.not_lt_zero k)⟩)
  · show (if (1 : Int32) <<< ((U 10 0) &&& 31) ≤ nI (2 ^ t 1 0) then _ else _) = _
    rw [e2n, if_pos (yle _)]
  · have b1 := pc_le i
    have st : ∀ (r : Int32) (f : Option (Nat → Int32)), L_X7_stop_27 U V M R (nI x) (nI N) (n + 1) (nI i) r f = (if r = (-1 : Int32) then (f_X7_isStopped U V M R f (nI i) (nI x) (nI N)).bind fun q19 => if q19.2 = none then none else L_X7_stop_27 U V M R (nI x) (nI N) n (nI (i + 1)) (if q19.1 = 0 then r else nI i) q19.2 else (f_X7_bits (nI i)).bind fun q26 => (f_X7_bits r).bind fun q28 => if q28 ≤ q26 then L_X7_stop_27 U V M R (nI x) (nI N) n (nI (i + 1)) r f else (f_X7_isStopped U V M R f (nI i) (nI x) (nI N)).bind fun q31 => if q31.2 = none then none else L_X7_stop_27 U V M R (nI x) (nI N) n (nI (i + 1)) (if q31.1 = 0 then r else nI i) q31.2) := fun r f => by
      show (if (1 : Int32) <<< ((U 10 0) &&& 31) ≤ nI i then _ else _) = _
      rw [e2n, if_neg (nI_ge hi (by omega)), nI_1]
    obtain ⟨a, f, q1, q2⟩ := pm_hush h hw (set := i) (x := x) (N := N) (by omega) hx hN V M R s.2
    have more : ∀ (Q : Nat → Prop), (∀ s', s' < i → stp t x N s' → Q s') → (stp t x N i → Q i) → ∀ s', s' < i + 1 → stp t x N s' → Q s' := fun Q y1 y2 s' hs' => by
      by_cases e : s' = i
      · subst e; exact y2
      · exact y1 s' (by omega)
    rcases hI with ⟨e, hno⟩ | ⟨b, e, hb, hsb, hbest⟩
    · rcases q2 with ⟨rfl, q3, q4⟩ | ⟨rfl, q3⟩
      · refine ⟨(nI i, some f), Or.inr ⟨i, rfl, Nat.lt_succ_self i, ⟨q3, q4⟩, more _ (fun s' y1 y2 => absurd y2 (hno s' y1)) (fun _ => Or.inr ⟨rfl, Nat.le_refl _⟩)⟩, ?_⟩
        show L_X7_stop_27 U V M R (nI x) (nI N) (n + 1) (nI i) s.1 s.2 = _
        rw [e, st, if_pos rfl]
        refine ob q1 ?_
        rw [if_neg snn, if_neg (show ¬ (1 : Int32) = 0 by decide)]
      · refine ⟨((-1 : Int32), some f), Or.inl ⟨rfl, fun s' hs' y => ?_⟩, ?_⟩
        · by_cases z : s' = i
          · subst z; exact q3 y
          · exact hno s' (by omega) y
        · show L_X7_stop_27 U V M R (nI x) (nI N) (n + 1) (nI i) s.1 s.2 = _
          rw [e, st, if_pos rfl]
          refine ob q1 ?_
          rw [if_neg snn, if_pos rfl]
    · have b2 := pc_le b
      have e1 : ¬ nI b = (-1 : Int32) := neg1 (by omega)
      by_cases c : pc b ≤ pc i
      · refine ⟨(nI b, s.2), Or.inr ⟨b, rfl, by omega, hsb, more _ hbest (fun _ => ?_)⟩, ?_⟩
        · unfold Lss
          omega
        · show L_X7_stop_27 U V M R (nI x) (nI N) (n + 1) (nI i) s.1 s.2 = _
          rw [e, st, if_neg e1]
          refine ob (pm_bits (by omega)) (ob (pm_bits (by omega)) ?_)
          rw [if_pos (nI_le c (by omega))]
      · have c' : pc i < pc b := by omega
        rcases q2 with ⟨rfl, q3, q4⟩ | ⟨rfl, q3⟩
        · refine ⟨(nI i, some f), Or.inr ⟨i, rfl, Nat.lt_succ_self i, ⟨q3, q4⟩, more _ (fun s' y1 y2 => ?_) (fun _ => Or.inr ⟨rfl, Nat.le_refl _⟩)⟩, ?_⟩
          · have := hbest s' y1 y2
            unfold Lss at this ⊢
            omega
          · show L_X7_stop_27 U V M R (nI x) (nI N) (n + 1) (nI i) s.1 s.2 = _
            rw [e, st, if_neg e1]
            refine ob (pm_bits (by omega)) (ob (pm_bits (by omega)) ?_)
            rw [if_neg (nI_ge c' (by omega))]
            refine ob q1 ?_
            rw [if_neg snn, if_neg (show ¬ (1 : Int32) = 0 by decide)]
        · refine ⟨(nI b, some f), Or.inr ⟨b, rfl, by omega, hsb, more _ hbest (fun y => absurd y q3)⟩, ?_⟩
          show L_X7_stop_27 U V M R (nI x) (nI N) (n + 1) (nI i) s.1 s.2 = _
          rw [e, st, if_neg e1]
          refine ob (pm_bits (by omega)) (ob (pm_bits (by omega)) ?_)
          rw [if_neg (nI_ge c' (by omega))]
          refine ob q1 ?_
          rw [if_neg snn, if_pos rfl]
section OPS
variable {Z T1 T2 G P U V : TS} {R R' : LTS} {ku : Option TS}
theorem op_stop (h : Rl Z T1 T2 G R P U V R' ku) (T3 O B : TS) (M : LTS) (tp : Option (Nat → Int32)) (p1 : Int32) (p2 : Int32) : ∃ a Z' T3' V' tp', f_X6_stop Z T1 T2 T3 G R P O B p1 p2 = some (a, Z', T3') ∧ f_X7_stop U V M R' tp p1 p2 = some (a, V', tp') ∧ Rl Z' T1 T2 G R P U V' R' ku := by
  obtain ⟨t, ht, hs, hr, hp, hz, hk⟩ := id h
  rcases sgt_c ht p1 with ⟨x, hx, rfl, g0, m0⟩ | ⟨g0, m0⟩
  rotate_left
  · refine ⟨(-2 : Int32), rz Z 0, T3, rv V 0, tp, ?_, ?_, h.ref (by decide)⟩
    · unfold f_X6_stop
      rw [if_pos g0]
      exact ob (rc2 _ _ _ _ _ _ _ _) rfl
    · unfold f_X7_stop
      rw [if_pos m0]
      exact ob (rm2 _ _ _) rfl
  rcases rou_c p2 with ⟨k, hk20, rfl, g1, m1⟩ | ⟨g1, m1⟩
  rotate_left
  · refine ⟨(-2 : Int32), rz Z 0, T3, rv V 0, tp, ?_, ?_, h.ref (by decide)⟩
    · unfold f_X6_stop
      rw [if_neg g0, if_pos g1]
      exact ob (rc2 _ _ _ _ _ _ _ _) rfl
    · unfold f_X7_stop
      rw [if_neg m0, if_pos m1]
      exact ob (rm2 _ _ _) rfl
  obtain ⟨a, T', b1, b2⟩ := pc_stop ht.2.1 ht.1 hx hk20 T3
  obtain ⟨a', tp', c1, c2⟩ := pm_stop ht.2.2.1 ht.1 hx hk20 V M R' tp
  obtain rfl := b2.one c2
  refine ⟨a, Z, T', V, tp', ?_, ?_, h⟩
  · unfold f_X6_stop
    rw [if_neg g0, if_neg g1]
    exact ob b1 rfl
  · unfold f_X7_stop
    rw [if_neg m0, if_neg m1]
    exact ob c1 rfl
end OPS
