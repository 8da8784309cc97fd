/-! ===== pure: sets asked, sets shown ===== -/
def wx (x : Int64) : Nat := x.toBitVec.toNat
theorem wx_lN (x : Int64) : x = lN (wx x) := by
  apply Int64.toBitVec_inj.mp
  apply BitVec.eq_of_toNat_eq
  show x.toBitVec.toNat = (BitVec.ofNat 64 x.toBitVec.toNat).toNat
  rw [BitVec.toNat_ofNat, Nat.mod_eq_of_lt x.toBitVec.isLt]
theorem lN_and (a b : Nat) : lN a &&& lN b = lN (a &&& b) := by
  apply Int64.toBitVec_inj.1
  show BitVec.ofNat 64 a &&& BitVec.ofNat 64 b = BitVec.ofNat 64 (a &&& b)
  apply BitVec.eq_of_getLsbD_eq
  intro i hi
  simp [hi]
theorem lw_zero (x : Int64) {m : Nat} (hm : m < 2 ^ 31) : lg_cmp (x &&& (nI m).toInt64) (0 : Int64) = 0 ↔ wx x &&& m = 0 := by
  have e : x &&& lN m = lN (wx x &&& m) := by
    rw [← lN_and, ← wx_lN x]
  have hb : wx x &&& m < 2 ^ 31 := Nat.lt_of_le_of_lt Nat.and_le_right hm
  rw [lg_cmp_eq, nI_l hm, e]
  exact pk_lEQ (b := 0) (by omega) (by decide)
theorem iw_and (x : Int64) (m : Nat) : x.toInt32 &&& nI m = nI (wx x &&& m) := by
  have e : x.toInt32 = nI (wx x) := (congrArg Int64.toInt32 (wx_lN x)).trans (lN_i _)
  rw [e, pu_and]
def okk (R : LTS) (s all set i k : Nat) : Prop := wx (R s i ^^^ R s k) &&& all ≠ 0 → wx (R s i ^^^ R s k) &&& set ≠ 0
def apt (R : LTS) (s l all set : Nat) : Prop := ∀ i, i < l → ∀ k, k < i → okk R s all set i k
theorem apt_all (R : LTS) (s l all : Nat) : apt R s l all all := fun _ _ _ _ h => h
section ST
variable {Z T1 T2 G P U V T : TS} {R R' : LTS} {ku : Option TS} {n : Nat} {t : Tn}
theorem pc_apt {s m l all set : Nat} (hs8 : s < 8) (hm : m ≤ 40) (hl : l ≤ m) (eG : G 1 s = nI m) (ha : all < 128) (hs : set < 128) : ∃ a, f_X3_isApart G R (nI s) (nI l) (nI set) (nI all) = some a ∧ ((a = 1 ∧ apt R s l all set) ∨ (a = 0 ∧ ¬ apt R s l all set)) := by
  have inner : ∀ i, i < l → ∃ r, L_X3_isApart_12 G R (nI s) (nI set) (nI all) (nI i) 300 (0 : Int32) = some r ∧ ((r = .inr () ∧ ∀ k, k < i → okk R s all set i k) ∨ (r = .inl (0 : Int32) ∧ ∃ k, k < i ∧ ¬ okk R s all set i k)) := by
    intro i hi
    refine lupT (N := i) (fun n k (_ : Unit) => L_X3_isApart_12 G R (nI s) (nI set) (nI all) (nI i) n (nI k)) (fun k _ => ∀ k', k' < k → okk R s all set i k') (fun r => (r = .inr () ∧ ∀ k, k < i → okk R s all set i k) ∨ (r = .inl (0 : Int32) ∧ ∃ k, k < i ∧ ¬ okk R s all set i k)) (fun n _ hI => ⟨.inr (), ?_, Or.inl ⟨rfl, hI⟩⟩) (fun n k _ hk hI => ?_) i 0 300 () (by omega) (by omega) (fun k hk => absurd hk (Nat.not_lt_zero k))
    · show (if nI i ≤ nI i then _ else _) = _
      rw [if_pos (yle _)]
    · have st : L_X3_isApart_12 G R (nI s) (nI set) (nI all) (nI i) (n + 1) (nI k) = (if lg_cmp ((R s i ^^^ R s k) &&& (nI all).toInt64) (0 : Int64) = 0 then L_X3_isApart_12 G R (nI s) (nI set) (nI all) (nI i) n (nI (k + 1)) else if lg_cmp ((R s i ^^^ R s k) &&& (nI set).toInt64) (0 : Int64) = 0 then some (.inl (0 : Int32)) else L_X3_isApart_12 G R (nI s) (nI set) (nI all) (nI i) n (nI (k + 1))) := by
        show (if nI i ≤ nI k then _ else _) = _
        rw [if_neg (nI_ge hk (by omega))]
        refine ob (elem_c hs8 hm eG (by omega)) (ob (elem_c hs8 hm eG (by omega)) ?_)
        rw [nI_1]
      have step : okk R s all set i k → ∀ k', k' < k + 1 → okk R s all set i k' := fun h k' hk' => by
        by_cases e : k' = k
        · subst e; exact h
        · exact hI k' (by omega)
      by_cases c1 : wx (R s i ^^^ R s k) &&& all = 0
      · refine Or.inl ⟨(), step (fun z => absurd c1 z), ?_⟩
        rw [st, if_pos ((lw_zero _ (by omega)).mpr c1)]
      · by_cases c2 : wx (R s i ^^^ R s k) &&& set = 0
        · refine Or.inr ⟨.inl (0 : Int32), ?_, Or.inr ⟨rfl, k, hk, fun h => h c1 c2⟩⟩
          rw [st, if_neg (fun z => c1 ((lw_zero _ (by omega)).mp z)), if_pos ((lw_zero _ (by omega)).mpr c2)]
        · refine Or.inl ⟨(), step (fun _ => c2), ?_⟩
          rw [st, if_neg (fun z => c1 ((lw_zero _ (by omega)).mp z)), if_neg (fun z => c2 ((lw_zero _ (by omega)).mp z))]
  unfold f_X3_isApart
  refine lupTk (N := l) (C := _) (fun n i (_ : Unit) => L_X3_isApart_3 G R (nI s) (nI l) (nI set) (nI all) n (nI i)) (fun i _ => ∀ i', i' < i → ∀ k, k < i' → okk R s all set i' k) (fun r => (r = .inr () ∧ apt R s l all set) ∨ (r = .inl (0 : Int32) ∧ ¬ apt R s l all set)) l 0 300 () (fun r h1 hQ => ?_) (fun n _ hI => ⟨.inr (), ?_, Or.inl ⟨rfl, hI⟩⟩) (fun n i _ hi hI => ?_) (by omega) (by omega) (fun k hk => absurd hk (Nat.not_lt_zero k))
  · rcases hQ with ⟨rfl, e⟩ | ⟨rfl, e⟩
    · exact ⟨1, ob h1 rfl, Or.inl ⟨rfl, e⟩⟩
    · exact ⟨0, ob h1 rfl, Or.inr ⟨rfl, e⟩⟩
  · show (if nI l ≤ nI l then _ else _) = _
    rw [if_pos (yle _)]
  · obtain ⟨r, a1, a2⟩ := inner i hi
    have st : L_X3_isApart_3 G R (nI s) (nI l) (nI set) (nI all) (n + 1) (nI i) = eoS (fun _ => L_X3_isApart_3 G R (nI s) (nI l) (nI set) (nI all) n (nI (i + 1))) r := by
      show (if nI l ≤ nI i then _ else _) = _
      rw [if_neg (nI_ge hi (by omega))]
      refine ob a1 ?_
      rw [nI_1]
    rcases a2 with ⟨rfl, e⟩ | ⟨rfl, k, hk, e⟩
    · refine Or.inl ⟨(), fun i' hi' k hk => ?_, st⟩
      by_cases f : i' = i
      · subst f; exact e k hk
      · exact hI i' (by omega) k hk
    · exact Or.inr ⟨.inl (0 : Int32), st, Or.inr ⟨rfl, fun h => e (h i hi k hk)⟩⟩
theorem sub_and {w set k : Nat} (h : set < 2 ^ k) : w &&& (2 ^ k - 1) &&& set = w &&& set := by
  apply Nat.eq_of_testBit_eq
  intro i
  rw [Nat.testBit_and, Nat.testBit_and, Nat.testBit_and, Nat.testBit_two_pow_sub_one]
  by_cases e : i < k
  · rw [decide_eq_true e, Bool.and_true]
  · rw [Nat.testBit_lt_two_pow (Nat.lt_of_lt_of_le h (Nat.pow_le_pow_right (by decide) (by omega)))]; simp
theorem pm_apt (ht : TM t U) (hw : wf t) (hR : RoR R R') {s m l set : Nat} (hs8 : s < 8) (hm : m ≤ 40) (hl : l ≤ m) (hs : set ≤ alP t) (V : TS) (M : LTS) : ∃ a, f_X7_doesPart U V M R' (nI s) (nI l) (nI set) = some a ∧ ((a = 1 ∧ apt R s l (alP t) set) ∨ (a = 0 ∧ ¬ apt R s l (alP t) set)) := by
  have ha := alP_lt hw
  have hs2 : set < 2 ^ t 1 0 := by
    have := Nat.two_pow_pos (t 1 0)
    unfold alP at hs
    omega
  have inner : ∀ i, i < l → ∃ r, L_X7_doesPart_22 U R' (nI s) (nI set) (nI i) 300 (0 : Int32) = some r ∧ ((r = .inr () ∧ ∀ k, k < i → okk R s (alP t) set i k) ∨ (r = .inl (0 : Int32) ∧ ∃ k, k < i ∧ ¬ okk R s (alP t) set i k)) := by
    intro i hi
    refine lupT (N := i) (fun n k (_ : Unit) => L_X7_doesPart_22 U R' (nI s) (nI set) (nI i) n (nI k)) (fun k _ => ∀ k', k' < k → okk R s (alP t) set i k') (fun r => (r = .inr () ∧ ∀ k, k < i → okk R s (alP t) set i k) ∨ (r = .inl (0 : Int32) ∧ ∃ k, k < i ∧ ¬ okk R s (alP t) set i k)) (fun n _ hI => ⟨.inr (), ?_, Or.inl ⟨rfl, hI⟩⟩) (fun n k _ hk hI => ?_) i 0 300 () (by omega) (by omega) (fun k hk => absurd hk (Nat.not_lt_zero k))
    · show (if nI i ≤ nI i then _ else _) = _
      rw [if_pos (yle _)]
    · have i40 : i < 40 := by omega
      have k40 : k < 40 := by omega
      have st : L_X7_doesPart_22 U R' (nI s) (nI set) (nI i) (n + 1) (nI k) = (if nI (wx (R s i ^^^ R s k) &&& alP t) = 0 then L_X7_doesPart_22 U R' (nI s) (nI set) (nI i) n (nI (k + 1)) else if nI (wx (R s i ^^^ R s k) &&& set) = 0 then some (.inl (0 : Int32)) else L_X7_doesPart_22 U R' (nI s) (nI set) (nI i) n (nI (k + 1))) := by
        show (if nI i ≤ nI k then _ else if nI s < 0 ∨ 8 ≤ (nI s).toNatClampNeg then _ else if nI i < 0 ∨ 40 ≤ (nI i).toNatClampNeg then _ else if nI k < 0 ∨ 40 ≤ (nI k).toNatClampNeg then _ else _) = _
        rw [if_neg (nI_ge hk (by omega)), if_neg (in8 hs8), if_neg (in40 i40), if_neg (in40 k40), nI_clamp (show s < 2 ^ 31 by omega), nI_clamp (show i < 2 ^ 31 by omega), nI_clamp (show k < 2 ^ 31 by omega), ← hR s i hs8 i40, ← hR s k hs8 k40, pm_allP ht hw, iw_and, pu_and, show wx (R s i ^^^ R s k) &&& alP t &&& set = wx (R s i ^^^ R s k) &&& set from sub_and hs2, nI_1]
      have z0 : ∀ m, m < 128 → (nI (wx (R s i ^^^ R s k) &&& m) = 0 ↔ wx (R s i ^^^ R s k) &&& m = 0) := fun m hm => by
        have hb : wx (R s i ^^^ R s k) &&& m ≤ m := Nat.and_le_right
        exact nI_eq (b := 0) (by omega) (by decide)
      have step : okk R s (alP t) set i k → ∀ k', k' < k + 1 → okk R s (alP t) set i k' := fun h k' hk' => by
        by_cases e : k' = k
        · subst e; exact h
        · exact hI k' (by omega)
      by_cases c1 : wx (R s i ^^^ R s k) &&& alP t = 0
      · refine Or.inl ⟨(), step (fun z => absurd c1 z), ?_⟩
        rw [st, if_pos ((z0 _ ha).mpr c1)]
      · by_cases c2 : wx (R s i ^^^ R s k) &&& set = 0
        · refine Or.inr ⟨.inl (0 : Int32), ?_, Or.inr ⟨rfl, k, hk, fun h => h c1 c2⟩⟩
          rw [st, if_neg (fun z => c1 ((z0 _ ha).mp z)), if_pos ((z0 _ (by omega)).mpr c2)]
        · refine Or.inl ⟨(), step (fun _ => c2), ?_⟩
          rw [st, if_neg (fun z => c1 ((z0 _ ha).mp z)), if_neg (fun z => c2 ((z0 _ (by omega)).mp z))]
  unfold f_X7_doesPart
  refine lupTk (N := l) (C := _) (fun n i (_ : Unit) => L_X7_doesPart_13 U R' (nI s) (nI l) (nI set) n (nI i)) (fun i _ => ∀ i', i' < i → ∀ k, k < i' → okk R s (alP t) set i' k) (fun r => (r = .inr () ∧ apt R s l (alP t) set) ∨ (r = .inl (0 : Int32) ∧ ¬ apt R s l (alP t) set)) l 0 300 () (fun r h1 hQ => ?_) (fun n _ hI => ⟨.inr (), ?_, Or.inl ⟨rfl, hI⟩⟩) (fun n i _ hi hI => ?_) (by omega) (by omega) (fun k hk => absurd hk (Nat.not_lt_zero k))
  · rcases hQ with ⟨rfl, e⟩ | ⟨rfl, e⟩
    · exact ⟨1, ob h1 rfl, Or.inl ⟨rfl, e⟩⟩
    · exact ⟨0, ob h1 rfl, Or.inr ⟨rfl, e⟩⟩
  · show (if nI l ≤ nI l then _ else _) = _
    rw [if_pos (yle _)]
  · obtain ⟨r, a1, a2⟩ := inner i hi
    have st : L_X7_doesPart_13 U R' (nI s) (nI l) (nI set) (n + 1) (nI i) = eoS (fun _ => L_X7_doesPart_13 U R' (nI s) (nI l) (nI set) n (nI (i + 1))) r := by
      show (if nI l ≤ nI i then _ else _) = _
      rw [if_neg (nI_ge hi (by omega))]
      refine ob a1 ?_
      rw [nI_1]
    rcases a2 with ⟨rfl, e⟩ | ⟨rfl, k, hk, e⟩
    · refine Or.inl ⟨(), fun i' hi' k hk => ?_, st⟩
      by_cases f : i' = i
      · subst f; exact e k hk
      · exact hI i' (by omega) k hk
    · exact Or.inr ⟨.inl (0 : Int32), st, Or.inr ⟨rfl, fun h => e (h i hi k hk)⟩⟩
/-- the fewest, of several the least -/
def Lss (a b : Nat) : Prop := pc a < pc b ∨ (pc a = pc b ∧ a ≤ b)
def Bst (Pr : Nat → Prop) (N b : Nat) : Prop := b < N ∧ Pr b ∧ ∀ s, s < N → Pr s → Lss b s
theorem Bst.one {Pr : Nat → Prop} {N a b : Nat} (ha : Bst Pr N a) (hb : Bst Pr N b) : a = b := by
  have h1 := ha.2.2 b hb.1 hb.2.1
  have h2 := hb.2.2 a ha.1 ha.2.1
  unfold Lss at h1 h2
  omega
theorem pc_7 : ∀ s, s < 128 → 7 ≤ pc s → s = 127 := by decide +kernel
theorem pc_few {s m l all : Nat} (hs8 : s < 8) (hm : m ≤ 40) (hl : l ≤ m) (eG : G 1 s = nI m) (ha : all < 128) : ∃ b, f_X3_fewestApart G R (nI s) (nI l) (nI all) = some (nI b) ∧ Bst (apt R s l all) (all + 1) b := by
  unfold f_X3_fewestApart
  have inner : ∀ z, z < 7 → (∀ s', s' < all + 1 → apt R s l all s' → z ≤ pc s') → ∃ r, L_X3_fewestApart_13 G R (nI s) (nI l) (nI all) (nI z) 300 (0 : Int32) = some r ∧ ((∃ b, r = .inl (nI b) ∧ Bst (apt R s l all) (all + 1) b) ∨ (r = .inr () ∧ ∀ s', s' < all + 1 → apt R s l all s' → z + 1 ≤ pc s')) := by
    intro z hz hz2
    refine lupT (N := all + 1) (fun n k (_ : Unit) => L_X3_fewestApart_13 G R (nI s) (nI l) (nI all) (nI z) n (nI k)) (fun k _ => ∀ s', s' < k → apt R s l all s' → z + 1 ≤ pc s') (fun r => (∃ b, r = .inl (nI b) ∧ Bst (apt R s l all) (all + 1) b) ∨ (r = .inr () ∧ ∀ s', s' < all + 1 → apt R s l all s' → z + 1 ≤ pc s')) (fun n _ hI => ⟨.inr (), ?_, Or.inr ⟨rfl, hI⟩⟩) (fun n k _ hk hI => ?_) (all + 1) 0 300 () (by omega) (by omega) (fun k hk => absurd hk (Nat.not_lt_zero k))
    · show (if nI all < nI (all + 1) then _ else _) = _
      rw [if_pos (nI_lt (by omega) (by omega))]
    · obtain ⟨a, e1, e2⟩ := pc_apt (R := R) (set := k) hs8 hm hl eG ha (by omega)
      have b1 := pc_le k
      have st : L_X3_fewestApart_13 G R (nI s) (nI l) (nI all) (nI z) (n + 1) (nI k) = (if nI (pc k) = nI z then (if a = 0 then L_X3_fewestApart_13 G R (nI s) (nI l) (nI all) (nI z) n (nI (k + 1)) else some (.inl (nI k))) else L_X3_fewestApart_13 G R (nI s) (nI l) (nI all) (nI z) n (nI (k + 1))) := by
        show (if nI all < nI k then _ else _) = _
        rw [if_neg (nI_nlt (by omega) (by omega)), pu_bc k (by omega), nI_1]
        by_cases e : nI (pc k) = nI z
        · rw [if_pos e, if_pos e]
          exact ob e1 rfl
        · rw [if_neg e, if_neg e]
      have step : (apt R s l all k → z + 1 ≤ pc k) → ∀ s', s' < k + 1 → apt R s l all s' → z + 1 ≤ pc s' := fun h s' hs' => by
        by_cases e : s' = k
        · subst e; exact h
        · exact hI s' (by omega)
      by_cases c1 : pc k = z
      · rw [if_pos (by rw [c1])] at st
        rcases e2 with ⟨rfl, e3⟩ | ⟨rfl, e3⟩
        · refine Or.inr ⟨.inl (nI k), by rw [st, if_neg (by decide)], Or.inl ⟨k, rfl, hk, e3, fun s' hs' h' => ?_⟩⟩
          have h1 := hz2 s' hs' h'
          unfold Lss
          by_cases c2 : s' < k
          · have := hI s' c2 h'; omega
          · omega
        · refine Or.inl ⟨(), step (fun h => absurd h e3), by rw [st, if_pos rfl]⟩
      · rw [if_neg (fun y => c1 ((nI_eq (by omega) (by omega)).mp y))] at st
        refine Or.inl ⟨(), step (fun h => ?_), st⟩
        have := hz2 k hk h
        omega
  refine lupTk (N := 7) (C := _) (fun n i (_ : Unit) => L_X3_fewestApart_3 G R (nI s) (nI l) (nI all) n (nI i)) (fun i _ => ∀ s', s' < all + 1 → apt R s l all s' → i ≤ pc s') (fun r => (∃ b, r = .inl (nI b) ∧ Bst (apt R s l all) (all + 1) b) ∨ (r = .inr () ∧ ∀ s', s' < all + 1 → apt R s l all s' → 7 ≤ pc s')) 7 0 300 () (fun r h1 hQ => ?_) (fun n _ hI => ⟨.inr (), ?_, Or.inr ⟨rfl, hI⟩⟩) (fun n i _ hi hI => ?_) (by omega) (by omega) (fun k _ _ => Nat.zero_le _)
  · rcases hQ with ⟨b, rfl, e⟩ | ⟨rfl, e⟩
    · exact ⟨b, ob h1 rfl, e⟩
    · refine ⟨all, ob h1 rfl, Nat.lt_succ_self all, apt_all R s l all, fun s' hs' h' => ?_⟩
      have x1 := pc_7 all ha (e all (Nat.lt_succ_self all) (apt_all R s l all))
      have x2 := pc_7 s' (by omega) (e s' hs' h')
      rw [x1, x2]
      exact Or.inr ⟨rfl, Nat.le_refl _⟩
  · show (if (7 : Int32) ≤ nI 7 then _ else _) = _
    rw [if_pos (by decide)]
  · obtain ⟨r, a1, a2⟩ := inner i hi hI
    have st : L_X3_fewestApart_3 G R (nI s) (nI l) (nI all) (n + 1) (nI i) = eoS (fun _ => L_X3_fewestApart_3 G R (nI s) (nI l) (nI all) n (nI (i + 1))) r := by
      show (if (7 : Int32) ≤ nI i then _ else _) = _
      rw [if_neg (show ¬ (7 : Int32) ≤ nI i from nI_ge (b := 7) hi (by decide))]
      refine ob a1 ?_
      rw [nI_1]
    rcases a2 with ⟨b, rfl, e⟩ | ⟨rfl, e⟩
    · exact Or.inr ⟨.inl (nI b), st, Or.inl ⟨b, rfl, e⟩⟩
    · exact Or.inl ⟨(), e, st⟩
def ix : Nat → Int32
  | 0 => -1
  | d + 1 => nI d
theorem ix_s (d : Nat) : nI d + (-1 : Int32) = ix d := by
  cases d with
  | zero => decide
  | succ d => exact pk_m1 d
theorem pm_few (ht : TM t U) (hw : wf t) (hR : RoR R R') {s m l : Nat} (hs8 : s < 8) (hm : m ≤ 40) (hl : l ≤ m) (M : LTS) (q2 : Int32 × TS) : ∃ b, L_X7_whom_27 U M R' (nI s) (nI l) q2 300 (nI (alP t)) (nI (alP t)) = some (nI b) ∧ Bst (apt R s l (alP t)) (alP t + 1) b := by
  have ha := alP_lt hw
  have key : ∀ (d n b : Nat), d ≤ alP t + 1 → d < n → b < alP t + 1 → apt R s l (alP t) b → (∀ s', s' < alP t + 1 → d ≤ s' → apt R s l (alP t) s' → Lss b s') → ∃ c, L_X7_whom_27 U M R' (nI s) (nI l) q2 n (ix d) (nI b) = some (nI c) ∧ Bst (apt R s l (alP t)) (alP t + 1) c := by
    intro d
    induction d with
    | zero =>
      intro n b h1 h2 h3 h4 h5
      obtain ⟨n, rfl⟩ : ∃ k, n = k + 1 := ⟨n - 1, by omega⟩
      refine ⟨b, ?_, h3, h4, fun s' hs' h' => h5 s' hs' (Nat.zero_le _) h'⟩
      show (if (-1 : Int32) < 0 then _ else _) = _
      rw [if_pos (by decide)]
    | succ d ih =>
      intro n b h1 h2 h3 h4 h5
      obtain ⟨n, rfl⟩ : ∃ k, n = k + 1 := ⟨n - 1, by omega⟩
      obtain ⟨a, e1, e2⟩ := pm_apt (R := R) (set := d) ht hw hR hs8 hm hl (by omega) q2.2 M
      have b1 := pc_le d
      have b2 := pc_le b
      have st : L_X7_whom_27 U M R' (nI s) (nI l) q2 (n + 1) (nI d) (nI b) = (if nI (pc b) < nI (pc d) then L_X7_whom_27 U M R' (nI s) (nI l) q2 n (ix d) (nI b) else L_X7_whom_27 U M R' (nI s) (nI l) q2 n (ix d) (if a = 0 then nI b else nI d)) := by
        show (if nI d < 0 then _ else _) = _
        rw [if_neg (nI_pos (by omega))]
        refine ob (pm_bits (by omega)) (ob (pm_bits (by omega)) ?_)
        by_cases e : nI (pc b) < nI (pc d)
        · rw [if_pos e, if_pos e, ix_s]
        · rw [if_neg e, if_neg e]
          refine ob e1 ?_
          rw [ix_s]
      have keep : (apt R s l (alP t) d → Lss b d) → ∀ s', s' < alP t + 1 → d ≤ s' → apt R s l (alP t) s' → Lss b s' := fun h s' x1 x2 x3 => by
        by_cases e : s' = d
        · subst e; exact h x3
        · exact h5 s' x1 (by omega) x3
      show ∃ c, L_X7_whom_27 U M R' (nI s) (nI l) q2 (n + 1) (nI d) (nI b) = some (nI c) ∧ _
      rw [st]
      by_cases c1 : pc b < pc d
      · rw [if_pos (nI_lt c1 (by omega))]
        exact ih n b (by omega) (by omega) h3 h4 (keep (fun _ => Or.inl c1))
      · rw [if_neg (nI_nlt (by omega) (by omega))]
        rcases e2 with ⟨rfl, e3⟩ | ⟨rfl, e3⟩
        · rw [if_neg (by decide)]
          refine ih n d (by omega) (by omega) (by omega) e3 (fun s' x1 x2 x3 => ?_)
          by_cases e : s' = d
          · subst e; exact Or.inr ⟨rfl, Nat.le_refl _⟩
          · have := h5 s' x1 (by omega) x3
            unfold Lss at this ⊢
            omega
        · rw [if_pos rfl]
          exact ih n b (by omega) (by omega) h3 h4 (keep (fun h => absurd h e3))
  exact key (alP t + 1) 300 (alP t) (Nat.le_refl _) (by omega) (Nat.lt_succ_self _) (apt_all _ _ _ _) (fun s' x1 x2 _ => by omega)
theorem set_c (hs : ShR n G V) (hn : n ≤ 7) (x p2 : Int32) (U : TS) (M Rm : LTS) : (∃ c : Nat, c < 3 ∧ (if f_X6_isWithin p2 (1 : Int32) (10 : Int32) = 0 then some (-2 : Int32) else f_X3_troubleWithRow G R x p2) = some (nm c) ∧ f_X7_noSets U V M Rm x p2 = some (nm c, rv V c)) ∨ (∃ s m l : Nat, s < 8 ∧ x = nI s ∧ p2 = nI l ∧ l ≤ m ∧ m ≤ 40 ∧ G 1 s = nI m ∧ ¬ f_X6_isWithin p2 (1 : Int32) (10 : Int32) = 0 ∧ f_X3_troubleWithRow G R x p2 = some (0 : Int32) ∧ f_X7_noSets U V M Rm x p2 = some ((0 : Int32), V)) := by
  unfold f_X7_noSets
  rcases she_c x with ⟨s, hs8, rfl, g, m⟩ | ⟨g, m⟩
  · rcases wi_c p2 1 10 (a := (1 : Int32)) (b := (10 : Int32)) (A := (1 : Int64)) (B := (10 : Int64)) rfl rfl (by decide) (by decide) (by decide) (by decide) with ⟨l, l0, l40, rfl, g2, m2⟩ | ⟨g2, m2⟩
    · rw [if_neg g2, if_neg m, if_neg m2]
      rcases row_c (R := R) hs hn (nI s) (nI l) U M Rm with ⟨c, hc, a6, a7⟩ | ⟨s', k, m', hs8', es, hk5, hm, e1, e2, e3, e4, e5, a6, a7⟩
      · left
        refine ⟨c, hc, a6, ob a7 ?_⟩
        exact if_neg (nm_ne c (by omega))
      · obtain rfl : s = s' := (nI_eq (by omega) (by omega)).mp es
        by_cases z : l ≤ m'
        · right
          refine ⟨s, m', l, hs8, rfl, rfl, z, hm, e4, g2, ?_, ob a7 ?_⟩
          · rw [if_pos (nI_le z (by omega))] at a6
            exact a6
          · show (if (0 : Int32) = 0 then (if nI s < 0 ∨ 8 ≤ (nI s).toNatClampNeg then _ else if nI l ≤ V 2 (nI s).toNatClampNeg then _ else _) else _) = _
            rw [if_pos rfl, if_neg (in8 hs8), nI_clamp (show s < 2 ^ 31 by omega), e5, if_pos (nI_le z (by omega))]
        · left
          refine ⟨0, by decide, ?_, ob a7 ?_⟩
          · rw [if_neg (nI_ge (by omega) (by omega))] at a6
            exact a6
          · show (if (0 : Int32) = 0 then (if nI s < 0 ∨ 8 ≤ (nI s).toNatClampNeg then _ else if nI l ≤ V 2 (nI s).toNatClampNeg then _ else _) else _) = _
            rw [if_pos rfl, if_neg (in8 hs8), nI_clamp (show s < 2 ^ 31 by omega), e5, if_neg (nI_ge (by omega) (by omega))]
            exact ob (rm2 _ _ _) rfl
    · left
      refine ⟨0, by decide, by rw [if_pos g2]; rfl, ?_⟩
      rw [if_neg m, if_pos m2]
      exact ob (rm2 _ _ _) rfl
  · left
    refine ⟨0, by decide, ?_, ?_⟩
    · by_cases z : f_X6_isWithin p2 (1 : Int32) (10 : Int32) = 0
      · rw [if_pos z]; rfl
      · rw [if_neg z]
        unfold f_X3_troubleWithRow
        rw [if_pos g]
        rfl
    · rw [if_pos m]
      exact ob (rm2 _ _ _) rfl
theorem op_whom (h : Rl Z T1 T2 G R P U V R' ku) (T3 O B : TS) (M : LTS) (p1 : Int32) (p2 : Int32) : ∃ a Z' V', f_X6_whom Z T1 T2 T3 G R P O B p1 p2 = some (a, Z') ∧ f_X7_whom U V M R' p1 p2 = some (a, V') ∧ Rl Z' T1 T2 G R P U V' R' ku := by
  obtain ⟨t, ht, hs, hr, hp, hz, hk⟩ := id h
  have ha := alP_lt ht.1
  rcases set_c (R := R) hs ht.1.n7 p1 p2 U M R' with ⟨c, hc, a6, a7⟩ | ⟨s, m, l, hs8, rfl, rfl, hl, hm, eG, g2, a6, a7⟩
  · refine ⟨nm c, rz Z c, rv V c, ?_, ?_, h.ref (by omega)⟩
    · unfold f_X6_whom
      by_cases z : f_X6_isWithin p2 (1 : Int32) (10 : Int32) = 0
      · rw [if_pos z] at a6
        rw [if_pos z, if_neg (by decide), Option.some.inj a6]
        exact ob (rcn hc _ _ _ _ _ _ _ _) rfl
      · rw [if_neg z] at a6
        rw [if_neg z]
        refine ob a6 ?_
        rw [if_neg (nm_ne c (by omega))]
        exact ob (rcn hc _ _ _ _ _ _ _ _) rfl
    · exact ob a7 (if_neg (nm_ne c (by omega)))
  · obtain ⟨b, e1, e2⟩ := pc_few (R := R) (all := alP t) hs8 hm hl eG ha
    obtain ⟨b', f1, f2⟩ := pm_few ht.2.2.1 ht.1 hr hs8 hm hl M ((0 : Int32), V)
    obtain rfl := e2.one f2
    refine ⟨nI b, Z, V, ?_, ?_, h⟩
    · unfold f_X6_whom
      rw [if_neg g2]
      refine ob a6 ?_
      rw [if_pos rfl, pc_allP ht.2.1 ht.1]
      exact ob e1 rfl
    · refine ob a7 ?_
      show (if (0 : Int32) = 0 then _ else _) = _
      rw [if_pos rfl, pm_allP ht.2.2.1 ht.1]
      exact ob f1 rfl
theorem op_parts (h : Rl Z T1 T2 G R P U V R' ku) (T3 O B : TS) (M : LTS) (p1 : Int32) (p2 : Int32) (p3 : Int32) : ∃ a Z' V', f_X6_parts Z T1 T2 T3 G R P O B p1 p2 p3 = some (a, Z') ∧ f_X7_parts U V M R' p1 p2 p3 = some (a, V') ∧ Rl Z' T1 T2 G R P U V' R' ku := by
  obtain ⟨t, ht, hs, hr, hp, hz, hk⟩ := id h
  have ha := alP_lt ht.1
  have bad6 : (f_X6_isWithin p2 (1 : Int32) (10 : Int32) = 0 ∨ f_X6_isWithin p3 (0 : Int32) (f_X5_allPeople T1) = 0) → f_X6_parts Z T1 T2 T3 G R P O B p1 p2 p3 = some ((-2 : Int32), rz Z 0) := fun z => by
    unfold f_X6_parts
    have e : (if (f_X6_isWithin p2 (1 : Int32) (10 : Int32)) = 0 then (0 : Int32) else (if (f_X6_isWithin p3 (0 : Int32) (f_X5_allPeople T1)) = 0 then (0 : Int32) else (1 : Int32))) = 0 := by
      by_cases y : f_X6_isWithin p2 (1 : Int32) (10 : Int32) = 0
      · rw [if_pos y]
      · rw [if_neg y, if_pos (z.resolve_left y)]
    rw [if_pos e, if_neg (by decide)]
    exact ob (rc2 _ _ _ _ _ _ _ _) rfl
  rcases wi_c p3 0 (alP t) (a := (0 : Int32)) (b := f_X5_allPeople T1) (A := (0 : Int64)) (B := (((1 : Int32) <<< ((U 10 0) &&& 31)) - (1 : Int32)).toInt64) rfl (pc_allP ht.2.1 ht.1) (by decide) (by rw [pm_allP ht.2.2.1 ht.1, pc_allP ht.2.1 ht.1]) (Nat.zero_le _) (by omega) with ⟨k, _, hka, rfl, g3, m3⟩ | ⟨g3, m3⟩
  · rcases set_c (R := R) hs ht.1.n7 p1 p2 U M R' with ⟨c, hc, a6, a7⟩ | ⟨s, m, l, hs8, rfl, rfl, hl, hm, eG, g2, a6, a7⟩
    · have m7 : f_X7_parts U V M R' p1 p2 (nI k) = some (nm c, rv V c) := by
        unfold f_X7_parts
        by_cases z1 : f_X7_in p1.toInt64 (0 : Int64) (7 : Int64) = 0
        · unfold f_X7_noSets at a7
          rw [if_pos z1] at a7 ⊢
          exact a7
        · by_cases z2 : f_X7_in p2.toInt64 (1 : Int64) (10 : Int64) = 0
          · unfold f_X7_noSets at a7
            rw [if_neg z1, if_pos z2] at a7 ⊢
            exact a7
          · rw [if_neg z1, if_neg z2, if_neg m3]
            exact ob a7 (if_neg (nm_ne c (by omega)))
      refine ⟨nm c, rz Z c, rv V c, ?_, m7, h.ref (by omega)⟩
      by_cases z : f_X6_isWithin p2 (1 : Int32) (10 : Int32) = 0
      · rw [if_pos z] at a6
        have e := Option.some.inj a6
        have hc0 : c = 0 := by
          rcases (show c = 0 ∨ c = 1 ∨ c = 2 by omega) with rfl | rfl | rfl
          · rfl
          · exact absurd e (by decide)
          · exact absurd e (by decide)
        subst hc0
        exact bad6 (Or.inl z)
      · rw [if_neg z] at a6
        unfold f_X6_parts
        rw [if_neg z, if_neg g3, if_neg (by decide)]
        refine ob a6 ?_
        rw [if_neg (nm_ne c (by omega))]
        exact ob (rcn hc _ _ _ _ _ _ _ _) rfl
    · obtain ⟨a, e1, e2⟩ := pc_apt (R := R) (all := alP t) (set := k) hs8 hm hl eG ha (by omega)
      obtain ⟨a', f1, f2⟩ := pm_apt (R := R) (set := k) ht.2.2.1 ht.1 hr hs8 hm hl hka V M
      have ea : a = a' := by
        rcases e2 with ⟨rfl, x⟩ | ⟨rfl, x⟩ <;> rcases f2 with ⟨rfl, y⟩ | ⟨rfl, y⟩
        · rfl
        · exact absurd x y
        · exact absurd y x
        · rfl
      subst ea
      refine ⟨(if a = 0 then (0 : Int32) else (1 : Int32)), Z, V, ?_, ?_, h⟩
      · unfold f_X6_parts
        rw [if_neg g2, if_neg g3, if_neg (by decide)]
        refine ob a6 ?_
        rw [if_pos rfl, pc_allP ht.2.1 ht.1]
        exact ob e1 rfl
      · have z1 : ¬ f_X7_in (nI s).toInt64 (0 : Int64) (7 : Int64) = 0 := by
          rcases she_c (nI s) with ⟨_, _, _, _, z⟩ | ⟨z, _⟩
          · exact z
          · exact absurd z (shelf_y hs8)
        have z2 : ¬ f_X7_in (nI l).toInt64 (1 : Int64) (10 : Int64) = 0 := by rw [in_c (nI l) (1 : Int32) (10 : Int32) (by decide) (by decide)]; exact g2
        unfold f_X7_parts
        rw [if_neg z1, if_neg z2, if_neg m3]
        refine ob a7 ?_
        show (if (0 : Int32) = 0 then _ else _) = _
        rw [if_pos rfl]
        exact ob f1 rfl
  · refine ⟨(-2 : Int32), rz Z 0, rv V 0, bad6 (Or.inr g3), ?_, h.ref (by decide)⟩
    unfold f_X7_parts
    by_cases z1 : f_X7_in p1.toInt64 (0 : Int64) (7 : Int64) = 0
    · rw [if_pos z1]
      exact ob (rm2 _ _ _) rfl
    · by_cases z2 : f_X7_in p2.toInt64 (1 : Int64) (10 : Int64) = 0
      · rw [if_neg z1, if_pos z2]
        exact ob (rm2 _ _ _) rfl
      · rw [if_neg z1, if_neg z2, if_pos m3]
        exact ob (rm2 _ _ _) rfl
end ST
