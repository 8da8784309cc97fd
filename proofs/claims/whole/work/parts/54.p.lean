/-! ===== pure: chains ===== -/
theorem and_ne {a b : Nat} : a &&& b ≠ 0 ↔ ∃ z, a.testBit z = true ∧ b.testBit z = true := by
  constructor
  · intro h
    apply Classical.byContradiction
    intro hn
    apply h
    apply Nat.eq_of_testBit_eq
    intro z
    rw [Nat.testBit_and, Nat.zero_testBit]
    cases ea : a.testBit z
    · rfl
    · cases eb : b.testBit z
      · rfl
      · exact absurd ⟨z, ea, eb⟩ hn
  · rintro ⟨z, ea, eb⟩ h
    have : (a &&& b).testBit z = true := by rw [Nat.testBit_and, ea, eb]; rfl
    rw [h, Nat.zero_testBit] at this
    cases this
theorem hro_bit {t : Tn} (m y : Nat) : (hro t m).testBit y = true ↔ y < t 1 0 ∧ ∃ z, (t 10 y).testBit z = true ∧ m.testBit z = true := by
  unfold hro
  rw [bld_bit, Bool.and_eq_true, decide_eq_true_iff, decide_eq_true_iff, and_ne]
theorem sm_lt {f g : Nat → Nat} : ∀ {n : Nat}, (∀ i, i < n → f i ≤ g i) → (∃ j, j < n ∧ f j < g j) → sm n f < sm n g
  | 0, _, ⟨j, hj, _⟩ => absurd hj (Nat.not_lt_zero j)
  | n + 1, h, ⟨j, hj, hl⟩ => by
    show sm n f + f n < sm n g + g n
    have hn := h n (Nat.lt_succ_self n)
    by_cases e : j = n
    · subst e
      have : sm j f ≤ sm j g := by
        have key : ∀ k, k ≤ j → sm k f ≤ sm k g := by
          intro k
          induction k with
          | zero => intro _; exact Nat.le_refl _
          | succ k ih =>
            intro hk
            have := ih (by omega)
            have := h k (by omega)
            show sm k f + f k ≤ sm k g + g k
            omega
        exact key j (Nat.le_refl j)
      omega
    · have := sm_lt (n := n) (fun i hi => h i (by omega)) ⟨j, by omega, hl⟩
      omega
theorem pc_more {a f : Nat} (hf : f < 256) (h0 : f ≠ 0) (hd : ∀ i, f.testBit i = true → a.testBit i = false) : pc a + 1 ≤ pc (a ||| f) := by
  unfold pc
  refine sm_lt (fun i _ => ?_) ⟨lo f, lo_lt f, ?_⟩
  · rw [Nat.testBit_or]
    cases a.testBit i <;> cases f.testBit i <;> decide
  · have hb := lo_bit f hf h0
    rw [Nat.testBit_or, hb, hd _ hb]
    decide
section CH
variable {Z T1 T2 G P U V T : TS} {R R' : LTS} {ku : Option TS} {t : Tn}
theorem pm_hro (ht : TM t U) (hw : wf t) {r w : Nat} (hw8 : w < 256) : L_X7_chain_71 U (nI w) 300 (0 : Int32) (nI r) = some (nI (r ||| hro t w)) := by
  have h7 := hw.n7
  unfold hro
  have := lupE (N := t 1 0) (r := nI (r ||| bld (t 1 0) (fun q => decide (t 10 q &&& w ≠ 0)))) (fun n i => L_X7_chain_71 U (nI w) n (nI i) (nI (r ||| bld i (fun q => decide (t 10 q &&& w ≠ 0))))) (fun n => by
    show (if U 10 0 ≤ nI (t 1 0) then _ else _) = _
    rw [ht.n, if_pos (yle _)]) (fun n i hi => by
    have i7 := lt7 hw hi
    have hb : t 10 i &&& w < 256 := Nat.lt_of_le_of_lt Nat.and_le_right hw8
    show (if U 10 0 ≤ nI i then _ else if nI i < 0 ∨ 7 ≤ (nI i).toNatClampNeg then _ else _) = L_X7_chain_71 U (nI w) n (nI (i + 1)) (nI (r ||| (if decide (t 10 i &&& w ≠ 0) = true then bld i (fun q => decide (t 10 q &&& w ≠ 0)) ||| 2 ^ i else bld i (fun q => decide (t 10 q &&& w ≠ 0)))))
    rw [ht.n, if_neg (nle hw hi), if_neg (in7 i7), cl7 i7, ht.hears hi, pu_and, nI_1]
    by_cases z : t 10 i &&& w = 0
    · rw [z, if_pos (show nI 0 = 0 from rfl), if_neg (by simp), show (0 : Int32) = nI 0 from rfl, pu_or, Nat.or_zero]
    · rw [if_neg (nI_ne0 (by omega) (by omega)), if_pos (by simp [z]), pu_one i (by omega), pu_or, Nat.or_assoc]) (t 1 0) 0 300 (by omega) (by omega)
  refine Eq.trans ?_ this
  show _ = L_X7_chain_71 U (nI w) 300 (nI 0) (nI (r ||| 0))
  rw [Nat.or_zero]
  rfl
def ChI (t : Tn) (B q i : Nat) (a b : Nat × Nat) : Prop := b.1 = a.1 ∧ (a.1 < 2 ^ t 1 0 ∧ a.2 < 2 ^ t 1 0 ∧ b.2 < 2 ^ t 1 0) ∧ (∀ y, a.2.testBit y = true → b.2.testBit y = true) ∧ (∀ y, a.1.testBit y = true → B.testBit y = false → b.2.testBit y = true) ∧ (∀ y, y < t 1 0 → (∃ z, (t 10 y).testBit z = true ∧ b.2.testBit z = true) → a.1.testBit y = true ∨ ∃ z, (t 10 y).testBit z = true ∧ a.2.testBit z = true) ∧ (i + 1 ≤ pc a.1 ∨ (a.1.testBit q = false ∧ a.2 = 0))
theorem ChI.eqR {B q i : Nat} {a b : Nat × Nat} (h : ChI t B q i a b) : b.1 ||| hro t b.2 = a.1 ||| dif (hro t a.2) a.1 := by
  obtain ⟨h1, h2, h3, h4, h5, h6⟩ := h
  rw [h1]
  apply Nat.eq_of_testBit_eq
  intro y
  rw [Nat.testBit_or, Nat.testBit_or, dif_bit]
  cases e : a.1.testBit y
  · rw [Bool.false_or, Bool.false_or, Bool.not_false, Bool.and_true]
    have : ((hro t b.2).testBit y = true) ↔ ((hro t a.2).testBit y = true) := by
      rw [hro_bit, hro_bit]
      constructor
      · rintro ⟨x1, x2⟩
        rcases h5 y x1 x2 with z | z
        · rw [e] at z; cases z
        · exact ⟨x1, z⟩
      · rintro ⟨x1, z, x2, x3⟩
        exact ⟨x1, z, x2, h3 z x3⟩
    cases f : (hro t b.2).testBit y <;> cases g : (hro t a.2).testBit y
    · rfl
    · rw [f, g] at this; exact absurd (this.mpr rfl) (by decide)
    · rw [f, g] at this; exact absurd (this.mp rfl) (by decide)
    · rfl
  · rw [Bool.true_or, Bool.true_or]
theorem ChI.step {B q i : Nat} (hw : wf t) {a b : Nat × Nat} (h : ChI t B q i a b) (hq : a.1.testBit q = false) (hq2 : q < t 1 0) : ChI t B q (i + 1) (a.1 ||| dif (hro t a.2) a.1, dif (dif (hro t a.2) a.1) B) (b.1 ||| hro t b.2, b.2 ||| dif (b.1 ||| hro t b.2) B) := by
  have eR := h.eqR
  obtain ⟨h1, h2, h3, h4, h5, h6⟩ := h
  have hh : ∀ m, hro t m < 2 ^ t 1 0 := fun m => bld_lt _ _
  have h8 : 2 ^ t 1 0 ≤ 2 ^ 8 := Nat.pow_le_pow_right (by decide) (by have := hw.n7; omega)
  refine ⟨eR, ⟨Nat.or_lt_two_pow h2.1 (dif_lt (hh _)), dif_lt (dif_lt (hh _)), Nat.or_lt_two_pow h2.2.2 (dif_lt (Nat.or_lt_two_pow (by rw [h1]; exact h2.1) (hh _)))⟩, fun y hy => ?_, fun y hy hB => ?_, fun y hy hz => ?_, ?_⟩
  · show (b.2 ||| dif (b.1 ||| hro t b.2) B).testBit y = true
    have hy : (dif (dif (hro t a.2) a.1) B).testBit y = true := hy
    rw [eR, Nat.testBit_or, dif_bit, Nat.testBit_or]
    rw [dif_bit] at hy
    rw [Bool.and_eq_true] at hy
    rw [hy.1, hy.2]
    simp
  · show (b.2 ||| dif (b.1 ||| hro t b.2) B).testBit y = true
    have hy : (a.1 ||| dif (hro t a.2) a.1).testBit y = true := hy
    rw [eR, Nat.testBit_or, dif_bit, hy, hB]
    simp
  · show (a.1 ||| dif (hro t a.2) a.1).testBit y = true ∨ ∃ z, (t 10 y).testBit z = true ∧ (dif (dif (hro t a.2) a.1) B).testBit z = true
    obtain ⟨z, z1, z2⟩ := hz
    have z2 : (b.2 ||| dif (b.1 ||| hro t b.2) B).testBit z = true := z2
    have old : ∀ z, (t 10 y).testBit z = true → b.2.testBit z = true → (a.1 ||| dif (hro t a.2) a.1).testBit y = true := fun z x1 x2 => by
      rw [Nat.testBit_or, dif_bit]
      rcases h5 y hy ⟨z, x1, x2⟩ with c | c
      · rw [c]; rfl
      · rw [(hro_bit a.2 y).mpr ⟨hy, c⟩]
        cases a.1.testBit y <;> rfl
    rw [eR, Nat.testBit_or, dif_bit, Nat.testBit_or] at z2
    cases c1 : b.2.testBit z
    · cases c2 : a.1.testBit z
      · rw [c1, c2, Bool.false_or, Bool.false_or] at z2
        exact Or.inr ⟨z, z1, by rw [dif_bit]; exact z2⟩
      · cases c3 : B.testBit z
        · exact Or.inl (old z z1 (h4 z c2 c3))
        · rw [c1, c3] at z2
          simp at z2
    · exact Or.inl (old z z1 c1)
  · show i + 1 + 1 ≤ pc (a.1 ||| dif (hro t a.2) a.1) ∨ ((a.1 ||| dif (hro t a.2) a.1).testBit q = false ∧ dif (dif (hro t a.2) a.1) B = 0)
    have stay : dif (hro t a.2) a.1 = 0 → (a.1 ||| dif (hro t a.2) a.1).testBit q = false ∧ dif (dif (hro t a.2) a.1) B = 0 := fun z => by
      rw [z, Nat.or_zero]
      exact ⟨hq, by
        apply Nat.eq_of_testBit_eq
        intro y
        rw [dif_bit, Nat.zero_testBit]
        rfl⟩
    by_cases z : dif (hro t a.2) a.1 = 0
    · exact Or.inr (stay z)
    · rcases h6 with c | c
      · left
        have := pc_more (a := a.1) (f := dif (hro t a.2) a.1) (Nat.lt_of_lt_of_le (dif_lt (hh _)) h8) z (fun y hy => by
          rw [dif_bit, Bool.and_eq_true] at hy
          simpa using hy.2)
        omega
      · exfalso
        apply z
        apply Nat.eq_of_testBit_eq
        intro y
        rw [dif_bit, Nat.zero_testBit, c.2]
        cases e : (hro t 0).testBit y
        · rfl
        · obtain ⟨_, w, _, w2⟩ := (hro_bit 0 y).mp e
          rw [Nat.zero_testBit] at w2
          cases w2
theorem both_chain (ht : TR t T1 U) {p q x : Nat} (hp : p < t 1 0) (hq : q < t 1 0) (hx : x < t 0 0) (V : TS) : ∃ a, f_X5_sayingsBetween T1 (nI p) (nI q) (nI x) = some a ∧ (L_X7_chain_43 U V (nI q) (nI x) 300 (0 : Int32) ((1 : Int32) <<< (nI p &&& 31)) ((1 : Int32) <<< (nI p &&& 31))).bind (eo fun q16x => some ((-1 : Int32), V)) = some (a, V) := by
  have h7 := ht.1.n7
  have h8 := ht.1.1.2.1
  have hw := ht.1
  have e8 : 2 ^ t 1 0 ≤ 2 ^ 7 := Nat.pow_le_pow_right (by decide) h7
  have hB : bad t x < 256 := bld8 hw _
  have p32 : p < 32 := by omega
  have h2p : 2 ^ p < 2 ^ t 1 0 := Nat.pow_lt_pow_right (by decide) hp
  have pc1 : pc (2 ^ p) = 1 := by
    have : ∀ k, k < 7 → pc (2 ^ k) = 1 := by decide
    exact this p (by omega)
  unfold f_X5_sayingsBetween
  rw [pu_one p p32]
  refine lup2k (N := t 1 0) (C := _) (fun n i (a : Nat × Nat) => L_X5_sayingsBetween_19 T1 (nI q) (nI (bad t x)) (n + 1) (nI i) (nI a.2) (nI a.1)) (fun n i (b : Nat × Nat) => L_X7_chain_43 U V (nI q) (nI x) (n + 1) (nI i) (nI b.2) (nI b.1)) (fun i a b => ChI t (bad t x) q i a b) (fun r s => ∃ a, eo (fun q6x => some (-1 : Int32)) r = some a ∧ eo (fun q16x => some ((-1 : Int32), V)) s = some (a, V)) (t 1 0) 0 299 (2 ^ p, 2 ^ p) (2 ^ p, 2 ^ p) (fun r s h1 h2 hQ => ?_) (fun n a b hI => ?_) (fun n i a b hi hI => ?_) (by omega) (by omega) ⟨rfl, ⟨h2p, h2p, h2p⟩, fun y hy => hy, fun y hy _ => hy, fun y _ hz => Or.inr hz, Or.inl (by rw [pc1]; omega)⟩
  · obtain ⟨a, e1, e2⟩ := hQ
    exact ⟨a, ob (pc_bad ht.2.1 hw (by omega)) (ob h1 e1), ob h2 e2⟩
  · have hno : a.1.testBit q = false := by
      rcases hI.2.2.2.2.2 with c | c
      · have := (pcd (t 1 0) (by omega) a.1 hI.2.1.1).2
        omega
      · exact c.1
    refine ⟨.inr (), .inr (), ?_, ?_, (-1 : Int32), rfl, rfl⟩
    · show (if T1 1 0 ≤ nI (t 1 0) then _ else _) = _
      rw [ht.2.1.n, if_pos (yle _)]
    · have hb1 : b.1 < 2 ^ t 1 0 := by rw [hI.1]; exact hI.2.1.1
      have hb2 := hI.2.1.2.2
      show (if U 10 0 < nI (t 1 0) then _ else _) = _
      rw [ht.2.2.1.n, if_neg (nI_nlt (Nat.le_refl _) (by omega)), if_pos ((pm_has0 (by omega) (by omega)).mpr (by rw [hI.1]; exact hno))]
      refine ob (pm_hro ht.2.2.1 hw (r := b.1) (w := b.2) (by omega)) (ob (pm_bad ht.2.2.1 hw (by omega)) ?_)
      rw [nI_1]
      show (if U 10 0 < nI (t 1 0 + 1) then _ else _) = _
      rw [ht.2.2.1.n, if_pos (nI_lt (by omega) (by omega))]
  · have hb1 : b.1 < 2 ^ t 1 0 := by rw [hI.1]; exact hI.2.1.1
    have ha1 := hI.2.1.1
    have ha2 := hI.2.1.2.1
    have hb2 := hI.2.1.2.2
    cases e : a.1.testBit q
    · refine Or.inl ⟨_, _, hI.step hw e hq, ?_, ?_⟩
      · show (if T1 1 0 ≤ nI i then _ else _) = _
        rw [ht.2.1.n, if_neg (nle hw hi), if_pos ((pu_has0 (by omega) (by omega)).mpr e)]
        refine ob (pc_hro ht.2.1 hw (m := a.2) (by omega)) ?_
        rw [pu_dif, pu_dif, pu_or, nI_1]
      · show (if U 10 0 < nI i then _ else _) = _
        rw [ht.2.2.1.n, if_neg (nI_nlt (by omega) (by omega)), if_pos ((pm_has0 (by omega) (by omega)).mpr (by rw [hI.1]; exact e))]
        refine ob (pm_hro ht.2.2.1 hw (r := b.1) (w := b.2) (by omega)) (ob (pm_bad ht.2.2.1 hw (by omega)) ?_)
        rw [pu_dif, pu_or, nI_1]
    · refine Or.inr ⟨.inl (nI i), .inl (nI i, V), ?_, ?_, nI i, rfl, rfl⟩
      · show (if T1 1 0 ≤ nI i then _ else _) = _
        rw [ht.2.1.n, if_neg (nle hw hi), if_neg (fun z => by rw [(pu_has0 (by omega) (by omega)).mp z] at e; cases e)]
      · show (if U 10 0 < nI i then _ else _) = _
        rw [ht.2.2.1.n, if_neg (nI_nlt (by omega) (by omega)), if_neg (fun z => by
          have := (pm_has0 (by omega) (by omega)).mp z
          rw [hI.1, e] at this
          cases this)]
theorem op_chain (h : Rl Z T1 T2 G R P U V R' ku) (T3 O B : TS) (M : LTS) (p1 : Int32) (p2 : Int32) (p3 : Int32) : ∃ a Z' V', f_X6_chain Z T1 T2 T3 G R P O B p1 p2 p3 = some (a, Z') ∧ f_X7_chain U V M R' p1 p2 p3 = some (a, V') ∧ Rl Z' T1 T2 G R P U V' R' ku := by
  obtain ⟨t, ht, hs, hr, hp, hz, hk⟩ := id h
  rcases one_c ht p1 with ⟨p, hp1, rfl, g0, m0⟩ | ⟨g0, m0⟩
  rotate_left
  · refine ⟨(-2 : Int32), rz Z 0, rv V 0, ?_, ?_, h.ref (by decide)⟩
    · unfold f_X6_chain
      rw [if_pos g0]
      exact ob (rc2 _ _ _ _ _ _ _ _) rfl
    · unfold f_X7_chain
      rw [if_pos m0]
      exact ob (rm2 _ _ _) rfl
  rcases one_c ht p2 with ⟨q, hq, rfl, g1, m1⟩ | ⟨g1, m1⟩
  rotate_left
  · refine ⟨(-2 : Int32), rz Z 0, rv V 0, ?_, ?_, h.ref (by decide)⟩
    · unfold f_X6_chain
      rw [if_neg g0, if_pos g1]
      exact ob (rc2 _ _ _ _ _ _ _ _) rfl
    · unfold f_X7_chain
      rw [if_neg m0, if_pos m1]
      exact ob (rm2 _ _ _) rfl
  rcases sgt_c ht p3 with ⟨x, hx, rfl, g2, m2⟩ | ⟨g2, m2⟩
  rotate_left
  · refine ⟨(-2 : Int32), rz Z 0, rv V 0, ?_, ?_, h.ref (by decide)⟩
    · unfold f_X6_chain
      rw [if_neg g0, if_neg g1, if_pos g2]
      exact ob (rc2 _ _ _ _ _ _ _ _) rfl
    · unfold f_X7_chain
      rw [if_neg m0, if_neg m1, if_pos m2]
      exact ob (rm2 _ _ _) rfl
  obtain ⟨a, b1, b2⟩ := both_chain ht hp1 hq hx V
  refine ⟨a, Z, V, ?_, ?_, h⟩
  · unfold f_X6_chain
    rw [if_neg g0, if_neg g1, if_neg g2]
    exact ob b1 rfl
  · unfold f_X7_chain
    rw [if_neg m0, if_neg m1, if_neg m2]
    exact b2
end CH
