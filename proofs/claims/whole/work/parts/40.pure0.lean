/-! ===== pure: masks as natural numbers ===== -/
theorem pu_or (a b : Nat) : nI a ||| nI b = nI (a ||| b) := by
  apply Int32.toBitVec_inj.1
  show BitVec.ofNat 32 a ||| BitVec.ofNat 32 b = BitVec.ofNat 32 (a ||| b)
  apply BitVec.eq_of_getLsbD_eq
  intro i hi
  simp [hi]
theorem pu_and (a b : Nat) : nI a &&& nI b = nI (a &&& b) := by
  apply Int32.toBitVec_inj.1
  show BitVec.ofNat 32 a &&& BitVec.ofNat 32 b = BitVec.ofNat 32 (a &&& b)
  apply BitVec.eq_of_getLsbD_eq
  intro i hi
  simp [hi]
theorem pu_xor (a b : Nat) : nI a ^^^ nI b = nI (a ^^^ b) := by
  apply Int32.toBitVec_inj.1
  show BitVec.ofNat 32 a ^^^ BitVec.ofNat 32 b = BitVec.ofNat 32 (a ^^^ b)
  apply BitVec.eq_of_getLsbD_eq
  intro i hi
  simp [hi]
theorem nI_ext {a b : Nat} (h : ∀ i, i < 32 → a.testBit i = b.testBit i) : nI a = nI b := by
  apply Int32.toBitVec_inj.1
  show BitVec.ofNat 32 a = BitVec.ofNat 32 b
  apply BitVec.eq_of_getLsbD_eq
  intro i hi
  rw [BitVec.getLsbD_ofNat, BitVec.getLsbD_ofNat, h i hi]
/-- the bits of a that b has not -/
def dif (a b : Nat) : Nat := a ^^^ (a &&& b)
theorem dif_bit (a b i : Nat) : (dif a b).testBit i = (a.testBit i && !b.testBit i) := by
  unfold dif
  rw [Nat.testBit_xor, Nat.testBit_and]
  cases a.testBit i <;> cases b.testBit i <;> rfl
theorem dif_lt {a b n : Nat} (h : a < 2 ^ n) : dif a b < 2 ^ n := Nat.xor_lt_two_pow h (Nat.lt_of_le_of_lt Nat.and_le_left h)
theorem or_lt8 {a b : Nat} (ha : a < 256) (hb : b < 256) : a ||| b < 256 := Nat.or_lt_two_pow (n := 8) ha hb
theorem and_lt8 {a : Nat} (b : Nat) (ha : a < 256) : a &&& b < 256 := Nat.lt_of_le_of_lt Nat.and_le_left ha
theorem dif_lt8 {a : Nat} (b : Nat) (ha : a < 256) : dif a b < 256 := dif_lt (n := 8) ha
theorem pu_dif (a b : Nat) : nI a &&& (nI b ^^^ (-1 : Int32)) = nI (dif a b) := by
  have e : (-1 : Int32) = nI (2 ^ 32 - 1) := by decide
  rw [e, pu_xor, pu_and]
  apply nI_ext
  intro i hi
  rw [dif_bit, Nat.testBit_and, Nat.testBit_xor, Nat.testBit_two_pow_sub_one, decide_eq_true hi]
  cases b.testBit i <;> simp
theorem pu_one : ∀ k, k < 32 → (1 : Int32) <<< (nI k &&& 31) = nI (2 ^ k) := by decide +kernel
theorem pu_smod : ∀ k, k < 32 → ((nI k &&& 31).toBitVec.smod 32).toNat = k := by decide +kernel
theorem pu_all : ∀ k, k < 31 → ((1 : Int32) <<< (nI k &&& 31)) - (1 : Int32) = nI (2 ^ k - 1) := by decide +kernel
theorem pu_bit {m k : Nat} (hm : m < 2 ^ 31) (hk : k < 32) : (nI m >>> (nI k &&& 31)) &&& (1 : Int32) = nI (m.testBit k).toNat := by
  rw [pk_shrN hm _ k (pu_smod k hk), pk_andN (Nat.lt_of_le_of_lt (Nat.div_le_self _ _) (Nat.lt_trans hm (by decide))) 1 (by decide), Nat.testBit_eq_decide_div_mod_eq]
  rcases Nat.mod_two_eq_zero_or_one (m / 2 ^ k) with h | h <;> rw [show (2 : Nat) ^ 1 = 2 from rfl, h] <;> rfl
theorem pu_has {m k : Nat} (hm : m < 2 ^ 31) (hk : k < 32) : f_X6_has (nI m) (nI k) = if m.testBit k then 1 else 0 := by
  unfold f_X6_has
  rw [pu_bit hm hk]
  cases m.testBit k <;> rfl
theorem pm_has {m k : Nat} (hm : m < 2 ^ 31) (hk : k < 32) : f_X7_has (nI m) (nI k) = if m.testBit k then 1 else 0 := by
  unfold f_X7_has
  rw [pu_bit hm hk]
  cases m.testBit k <;> rfl
theorem pu_has0 {m k : Nat} (hm : m < 2 ^ 31) (hk : k < 32) : f_X6_has (nI m) (nI k) = 0 ↔ m.testBit k = false := by
  rw [pu_has hm hk]
  cases m.testBit k <;> decide
theorem pm_has0 {m k : Nat} (hm : m < 2 ^ 31) (hk : k < 32) : f_X7_has (nI m) (nI k) = 0 ↔ m.testBit k = false := by
  rw [pm_has hm hk]
  cases m.testBit k <;> decide
/-- a mask with one bit put so -/
def wb (m k : Nat) (b : Bool) : Nat := if b then m ||| 2 ^ k else dif m (2 ^ k)
theorem pu_with1 {m k : Nat} (hk : k < 32) : f_X6_with (nI m) (nI k) 1 = nI (m ||| 2 ^ k) := by
  unfold f_X6_with
  rw [if_neg (by decide), pu_one k hk, pu_or]
theorem pu_with0 {m k : Nat} (hk : k < 32) : f_X6_with (nI m) (nI k) 0 = nI (dif m (2 ^ k)) := by
  unfold f_X6_with
  rw [if_pos rfl, pu_one k hk, pu_dif]
theorem pu_with {m k : Nat} (hk : k < 32) (b : Bool) : f_X6_with (nI m) (nI k) (if b then 1 else 0) = nI (wb m k b) := by
  cases b
  · exact pu_with0 hk
  · exact pu_with1 hk
theorem wb_bit (m k : Nat) (b : Bool) (i : Nat) : (wb m k b).testBit i = if i = k then b else m.testBit i := by
  unfold wb
  cases b
  · rw [if_neg (by decide), dif_bit, Nat.testBit_two_pow]
    by_cases h : i = k
    · subst h; simp
    · rw [if_neg h, decide_eq_false (Ne.symm h)]; simp
  · rw [if_pos rfl, Nat.testBit_or, Nat.testBit_two_pow]
    by_cases h : i = k
    · subst h; simp
    · rw [if_neg h, decide_eq_false (Ne.symm h)]; simp
theorem wb_lt {m k n : Nat} (b : Bool) (hm : m < 2 ^ n) (hk : k < n) : wb m k b < 2 ^ n := by
  unfold wb
  cases b
  · exact dif_lt hm
  · exact Nat.or_lt_two_pow hm (Nat.pow_lt_pow_right (by decide) hk)
/-- sums, joins, masks built by places -/
def sm : Nat → (Nat → Nat) → Nat
  | 0, _ => 0
  | n + 1, f => sm n f + f n
def orr : Nat → (Nat → Nat) → Nat
  | 0, _ => 0
  | n + 1, f => orr n f ||| f n
def bld : Nat → (Nat → Bool) → Nat
  | 0, _ => 0
  | n + 1, b => if b n then bld n b ||| 2 ^ n else bld n b
theorem sm_le {n B : Nat} {f : Nat → Nat} (h : ∀ i, i < n → f i ≤ B) : sm n f ≤ n * B := by
  induction n with
  | zero => exact Nat.zero_le _
  | succ n ih =>
    have := ih (fun i hi => h i (by omega))
    have := h n (by omega)
    rw [Nat.succ_mul]
    show sm n f + f n ≤ _
    omega
theorem sm_congr {n : Nat} {f g : Nat → Nat} (h : ∀ i, i < n → f i = g i) : sm n f = sm n g := by
  induction n with
  | zero => rfl
  | succ n ih => show sm n f + f n = sm n g + g n; rw [ih (fun i hi => h i (by omega)), h n (by omega)]
theorem orr_congr {n : Nat} {f g : Nat → Nat} (h : ∀ i, i < n → f i = g i) : orr n f = orr n g := by
  induction n with
  | zero => rfl
  | succ n ih => show orr n f ||| f n = orr n g ||| g n; rw [ih (fun i hi => h i (by omega)), h n (by omega)]
theorem bld_congr {n : Nat} {f g : Nat → Bool} (h : ∀ i, i < n → f i = g i) : bld n f = bld n g := by
  induction n with
  | zero => rfl
  | succ n ih => show (if f n then bld n f ||| 2 ^ n else bld n f) = (if g n then bld n g ||| 2 ^ n else bld n g); rw [ih (fun i hi => h i (by omega)), h n (by omega)]
theorem orr_lt {n k : Nat} {f : Nat → Nat} (h : ∀ i, i < n → f i < 2 ^ k) : orr n f < 2 ^ k := by
  induction n with
  | zero => exact Nat.two_pow_pos k
  | succ n ih => exact Nat.or_lt_two_pow (ih (fun i hi => h i (by omega))) (h n (by omega))
theorem orr_bit (n : Nat) (f : Nat → Nat) (j : Nat) : (orr n f).testBit j = true ↔ ∃ i, i < n ∧ (f i).testBit j = true := by
  induction n with
  | zero => exact ⟨(fun h => by rw [show orr 0 f = 0 from rfl, Nat.zero_testBit] at h; cases h), fun ⟨i, h, _⟩ => absurd h (Nat.not_lt_zero i)⟩
  | succ n ih =>
    show (orr n f ||| f n).testBit j = true ↔ _
    rw [Nat.testBit_or, Bool.or_eq_true, ih]
    constructor
    · rintro (⟨i, h1, h2⟩ | h)
      · exact ⟨i, by omega, h2⟩
      · exact ⟨n, by omega, h⟩
    · rintro ⟨i, h1, h2⟩
      by_cases e : i = n
      · subst e; exact Or.inr h2
      · exact Or.inl ⟨i, by omega, h2⟩
theorem bld_lt (n : Nat) (b : Nat → Bool) : bld n b < 2 ^ n := by
  induction n with
  | zero => exact Nat.one_pos
  | succ n ih =>
    have h2 : (2 : Nat) ^ n < 2 ^ (n + 1) := Nat.pow_lt_pow_right (by decide) (by omega)
    show (if b n then bld n b ||| 2 ^ n else bld n b) < _
    split
    · exact Nat.or_lt_two_pow (Nat.lt_trans ih h2) h2
    · exact Nat.lt_trans ih h2
theorem bld_bit (n : Nat) (b : Nat → Bool) (j : Nat) : (bld n b).testBit j = (decide (j < n) && b j) := by
  induction n with
  | zero => rw [show bld 0 b = 0 from rfl, Nat.zero_testBit]; simp
  | succ n ih =>
    show (if b n then bld n b ||| 2 ^ n else bld n b).testBit j = _
    by_cases e : j = n
    · subst e
      by_cases hb : b j = true
      · rw [if_pos hb, Nat.testBit_or, Nat.testBit_two_pow_self]; simp [hb]
      · rw [if_neg hb, ih]; simp at hb; simp [hb]
    · have h1 : decide (j < n + 1) = decide (j < n) := by rw [decide_eq_decide]; omega
      rw [h1, ← ih]
      split
      · rw [Nat.testBit_or, Nat.testBit_two_pow, decide_eq_false (Ne.symm e), Bool.or_false]
      · rfl
/-- a mask below a place: putting the place is adding it or nothing -/
theorem wb_bld (n : Nat) (b : Nat → Bool) : wb (bld n b) n (b n) = bld (n + 1) b := by
  apply Nat.eq_of_testBit_eq
  intro i
  rw [wb_bit, bld_bit, bld_bit]
  by_cases e : i = n
  · subst e; simp
  · rw [if_neg e, show decide (i < n + 1) = decide (i < n) by rw [decide_eq_decide]; omega]
/-- how many bits, the lowest bit, the lowest bits -/
def pc (m : Nat) : Nat := sm 8 (fun i => (m.testBit i).toNat)
def lo (m : Nat) : Nat := if m.testBit 0 then 0 else if m.testBit 1 then 1 else if m.testBit 2 then 2 else if m.testBit 3 then 3 else if m.testBit 4 then 4 else if m.testBit 5 then 5 else if m.testBit 6 then 6 else 7
def fbs : Nat → Nat → Nat
  | 0, _ => 0
  | c + 1, m => if m = 0 then 0 else 2 ^ lo m ||| fbs c (dif m (2 ^ lo m))
theorem pc_le (m : Nat) : pc m ≤ 8 := sm_le (n := 8) (B := 1) (fun i _ => by cases m.testBit i <;> decide)
theorem pu_bc : ∀ m, m < 256 → f_J6_bitCount_0f7a4 (nI m) = nI (pc m) := by decide +kernel
theorem pc_0 : ∀ m, m < 256 → pc m = 0 → m = 0 := by decide +kernel
theorem lo_lt (m : Nat) : lo m < 8 := by unfold lo; repeat (first | decide | split)
theorem lo_bit : ∀ m, m < 256 → m ≠ 0 → m.testBit (lo m) = true := by decide +kernel
theorem lo_least : ∀ m, m < 256 → ∀ i, i < 8 → i < lo m → m.testBit i = false := by decide +kernel
theorem lo_low : ∀ m, m < 256 → nI m &&& -(nI m) = nI (if m = 0 then 0 else 2 ^ lo m) := by decide +kernel
theorem fbs_lt : ∀ (c m : Nat), fbs c m < 256
  | 0, _ => (by decide : 0 < 256)
  | c + 1, m => by
    show (if m = 0 then 0 else 2 ^ lo m ||| fbs c (dif m (2 ^ lo m))) < 256
    split
    · decide
    · exact or_lt8 (Nat.pow_lt_pow_right (n := 8) (by decide) (lo_lt m)) (fbs_lt c _)
/-- loops -/
theorem lupE {R : Type} {N : Nat} {r : R} (L : Nat → Nat → Option R) (hx : ∀ n, L (n + 1) N = some r) (hs : ∀ n i, i < N → L (n + 1) i = L n (i + 1)) : ∀ d i n : Nat, i + d = N → d < n → L n i = some r
  | 0, i, n, h, h2 => by
    obtain ⟨n, rfl⟩ : ∃ k, n = k + 1 := ⟨n - 1, by omega⟩
    obtain rfl : i = N := by omega
    exact hx n
  | d + 1, i, n, h, h2 => by
    obtain ⟨n, rfl⟩ : ∃ k, n = k + 1 := ⟨n - 1, by omega⟩
    rw [hs n i (by omega)]
    exact lupE L hx hs d (i + 1) n (by omega) (by omega)
/-- the helpers of both sides -/
theorem pm_bits {m : Nat} (hm : m < 256) : f_X7_bits (nI m) = some (nI (pc m)) := by
  unfold f_X7_bits
  refine ob (q := nI (pc m)) ?_ rfl
  refine lupE (N := 8) (fun n i => L_X7_bits_4 (nI m) n (nI i) (nI (sm i (fun i => (m.testBit i).toNat)))) (fun n => ?_) (fun n i hi => ?_) 8 0 300 rfl (by decide)
  · show (if (8 : Int32) ≤ nI 8 then _ else _) = _
    rw [if_pos (by decide)]; rfl
  · show (if (8 : Int32) ≤ nI i then _ else _) = _
    rw [if_neg (show ¬ (8 : Int32) ≤ nI i from nI_ge (b := 8) hi (by decide)), pu_bit (by omega) (by omega), nI_add, nI_1]
    rfl
theorem pu_firstBits {m c : Nat} (hm : m < 256) (hc : c < 256) : f_X6_firstBits (nI m) (nI c) = some (nI (fbs c m)) := by
  unfold f_X6_firstBits
  have key : ∀ (d i n a m : Nat), i + d = c → d < n → m < 256 → L_X6_firstBits_7 (nI c) n (nI i) (nI a) (nI m) = some (nI (a ||| fbs d m)) := by
    intro d
    induction d with
    | zero =>
      intro i n a m h h2 hm
      obtain ⟨n, rfl⟩ : ∃ k, n = k + 1 := ⟨n - 1, by omega⟩
      obtain rfl : i = c := by omega
      show (if nI i ≤ nI i then _ else _) = _
      rw [if_pos (nI_le (Nat.le_refl i) (by omega))]
      show some (nI a) = some (nI (a ||| 0))
      rw [Nat.or_zero]
    | succ d ih =>
      intro i n a m h h2 hm
      obtain ⟨n, rfl⟩ : ∃ k, n = k + 1 := ⟨n - 1, by omega⟩
      show (if nI c ≤ nI i then _ else _) = _
      rw [if_neg (nI_ge (by omega) (by omega))]
      show (if nI m = 0 then _ else _) = some (nI (a ||| (if m = 0 then 0 else _)))
      by_cases e : m = 0
      · subst e
        rw [if_pos (show nI 0 = 0 from rfl), if_pos rfl, Nat.or_zero]
      · rw [if_neg (nI_ne0 (by omega) (by omega)), if_neg e, lo_low m hm, if_neg e, pu_or, pu_dif, nI_1, ih (i + 1) n _ _ (by omega) (by omega) (dif_lt8 _ hm), Nat.or_assoc]
  refine ob (key c 0 300 0 m (by omega) (by omega) hm) ?_
  rw [Nat.zero_or]
/-- the first bit as both tell it -/
def fst1 (m : Nat) : Int32 := if m = 0 then (-1 : Int32) else nI (lo m)
theorem pu_firstOf {m : Nat} (hm : m < 256) : f_X6_firstOf (nI m) = some (fst1 m) := by
  unfold f_X6_firstOf
  by_cases e : m = 0
  · subst e
    refine ob (q := .inr ()) (lupE (N := 32) (fun n i => L_X6_firstOf_2 (nI 0) n (nI i)) (fun n => ?_) (fun n i hi => ?_) 32 0 300 rfl (by decide)) ?_
    · show (if (32 : Int32) ≤ nI 32 then _ else _) = _
      rw [if_pos (by decide)]
    · show (if (32 : Int32) ≤ nI i then _ else _) = _
      rw [if_neg (show ¬ (32 : Int32) ≤ nI i from nI_ge (b := 32) hi (by decide)), if_pos ((pu_has0 (by decide) hi).mpr (Nat.zero_testBit i)), nI_1]
    · rfl
  · have hl := lo_lt m
    refine ob (q := .inl (nI (lo m))) (lupE (N := lo m) (fun n i => L_X6_firstOf_2 (nI m) n (nI i)) (fun n => ?_) (fun n i hi => ?_) (lo m) 0 300 (by omega) (by omega)) ?_
    · show (if (32 : Int32) ≤ nI (lo m) then _ else _) = _
      rw [if_neg (show ¬ (32 : Int32) ≤ nI (lo m) from nI_ge (b := 32) (by omega) (by decide)), if_neg (by rw [pu_has0 (by omega) (by omega), lo_bit m hm e]; decide)]
    · show (if (32 : Int32) ≤ nI i then _ else _) = _
      rw [if_neg (show ¬ (32 : Int32) ≤ nI i from nI_ge (b := 32) (by omega) (by decide)), if_pos ((pu_has0 (by omega) (by omega)).mpr (lo_least m hm i (by omega) hi)), nI_1]
    · show some (nI (lo m)) = _
      unfold fst1
      rw [if_neg e]
theorem pm_firstOf {m : Nat} (hm : m < 256) : f_X7_firstOf (nI m) = some (fst1 m) := by
  unfold f_X7_firstOf
  by_cases e : m = 0
  · subst e
    refine ob (q := .inr ()) (lupE (N := 8) (fun n i => L_X7_firstOf_2 (nI 0) n (nI i)) (fun n => ?_) (fun n i hi => ?_) 8 0 300 rfl (by decide)) ?_
    · show (if (8 : Int32) ≤ nI 8 then _ else _) = _
      rw [if_pos (by decide)]
    · show (if (8 : Int32) ≤ nI i then _ else _) = _
      rw [if_neg (show ¬ (8 : Int32) ≤ nI i from nI_ge (b := 8) hi (by decide)), if_pos ((pm_has0 (by decide) (by omega)).mpr (Nat.zero_testBit i)), nI_1]
    · rfl
  · have hl := lo_lt m
    refine ob (q := .inl (nI (lo m))) (lupE (N := lo m) (fun n i => L_X7_firstOf_2 (nI m) n (nI i)) (fun n => ?_) (fun n i hi => ?_) (lo m) 0 300 (by omega) (by omega)) ?_
    · show (if (8 : Int32) ≤ nI (lo m) then _ else _) = _
      rw [if_neg (show ¬ (8 : Int32) ≤ nI (lo m) from nI_ge (b := 8) (by omega) (by decide)), if_neg (by rw [pm_has0 (by omega) (by omega), lo_bit m hm e]; decide)]
    · show (if (8 : Int32) ≤ nI i then _ else _) = _
      rw [if_neg (show ¬ (8 : Int32) ≤ nI i from nI_ge (b := 8) (by omega) (by decide)), if_pos ((pm_has0 (by omega) (by omega)).mpr (lo_least m hm i (by omega) hi)), nI_1]
    · show some (nI (lo m)) = _
      unfold fst1
      rw [if_neg e]
/-- the lowest bits, found place by place -/
def scs (m i : Nat) (s : Nat × Nat) : Nat × Nat :=
  match s with
  | (a, l) => if 0 < l ∧ m.testBit i = true then (a ||| 2 ^ i, l - 1) else (a, l)
def scn (m c : Nat) : Nat → Nat × Nat
  | 0 => (0, c)
  | i + 1 => scs m i (scn m c i)
theorem scn_1 {m c i : Nat} (h : 0 < (scn m c i).2 ∧ m.testBit i = true) : scn m c (i + 1) = ((scn m c i).1 ||| 2 ^ i, (scn m c i).2 - 1) := by
  show scs m i (scn m c i) = _
  unfold scs
  exact if_pos h
theorem scn_0 {m c i : Nat} (h : ¬ (0 < (scn m c i).2 ∧ m.testBit i = true)) : scn m c (i + 1) = scn m c i := by
  show scs m i (scn m c i) = _
  unfold scs
  exact if_neg h
theorem scn_fbs : ∀ k, k < 9 → ∀ m, m < 2 ^ k → ∀ c, c < 10 → (scn m c k).1 = fbs c m ∧ (scn m c k).2 + pc (fbs c m) = c := by decide +kernel
theorem fbs_0 (m : Nat) : fbs 0 m = 0 := rfl
theorem lup2 {σ τ R S : Type} {N : Nat} (L : Nat → Nat → σ → Option R) (M : Nat → Nat → τ → Option S) (I : Nat → σ → τ → Prop) (Q : R → S → Prop) (hx : ∀ n s u, I N s u → ∃ r q, L (n + 1) N s = some r ∧ M (n + 1) N u = some q ∧ Q r q) (hs : ∀ n i s u, i < N → I i s u → (∃ s' u', I (i + 1) s' u' ∧ L (n + 1) i s = L n (i + 1) s' ∧ M (n + 1) i u = M n (i + 1) u') ∨ ∃ r q, L (n + 1) i s = some r ∧ M (n + 1) i u = some q ∧ Q r q) : ∀ (d i n : Nat) (s : σ) (u : τ), i + d = N → d < n → I i s u → ∃ r q, L n i s = some r ∧ M n i u = some q ∧ Q r q
  | 0, i, n, s, u, h, h2, hi => by
    obtain ⟨n, rfl⟩ : ∃ k, n = k + 1 := ⟨n - 1, by omega⟩
    obtain rfl : i = N := by omega
    exact hx n s u hi
  | d + 1, i, n, s, u, h, h2, hi => by
    obtain ⟨n, rfl⟩ : ∃ k, n = k + 1 := ⟨n - 1, by omega⟩
    rcases hs n i s u (by omega) hi with ⟨s', u', h3, h4, h5⟩ | h3
    · rw [h4, h5]
      exact lup2 L M I Q hx hs d (i + 1) n s' u' (by omega) (by omega) h3
    · exact h3
/-- a choice at a literal -/
theorem ifL {α : Type} {n c : Nat} {x y : α} (e : ¬ n = c) (hn : n < 2 ^ 31) (hc : c < 2 ^ 31) : (if nI n = (OfNat.ofNat c : Int32) then x else y) = y := if_neg (fun z => e ((nI_eq hn hc).mp z))
theorem ifY {α : Type} (c : Nat) {x y : α} : (if nI c = (OfNat.ofNat c : Int32) then x else y) = x := if_pos rfl
theorem and_pow (h q : Nat) : h &&& 2 ^ q = if h.testBit q = true then 2 ^ q else 0 := by
  apply Nat.eq_of_testBit_eq
  intro i
  rw [Nat.testBit_and, Nat.testBit_two_pow]
  by_cases e : q = i
  · subst e
    rw [decide_eq_true rfl, Bool.and_true]
    by_cases b : h.testBit q = true
    · rw [if_pos b, b, Nat.testBit_two_pow_self]
    · rw [if_neg b, Nat.zero_testBit]; simpa using b
  · rw [decide_eq_false e, Bool.and_false]
    split
    · rw [Nat.testBit_two_pow, decide_eq_false e]
    · rw [Nat.zero_testBit]
theorem lupTk {σ R : Type} {N : Nat} {C : Prop} (L : Nat → Nat → σ → Option R) (I : Nat → σ → Prop) (Q : R → Prop) (d i n : Nat) (s : σ) (K : ∀ r, L n i s = some r → Q r → C) (hx : ∀ n s, I N s → ∃ r, L (n + 1) N s = some r ∧ Q r) (hs : ∀ n i s, i < N → I i s → (∃ s', I (i + 1) s' ∧ L (n + 1) i s = L n (i + 1) s') ∨ ∃ r, L (n + 1) i s = some r ∧ Q r) (e1 : i + d = N) (e2 : d < n) (hI : I i s) : C := by
  obtain ⟨r, h1, h2⟩ := lupT L I Q hx hs d i n s e1 e2 hI
  exact K r h1 h2
theorem lup2k {σ τ R S : Type} {N : Nat} {C : Prop} (L : Nat → Nat → σ → Option R) (M : Nat → Nat → τ → Option S) (I : Nat → σ → τ → Prop) (Q : R → S → Prop) (d i n : Nat) (s : σ) (u : τ) (K : ∀ r q, L n i s = some r → M n i u = some q → Q r q → C) (hx : ∀ n s u, I N s u → ∃ r q, L (n + 1) N s = some r ∧ M (n + 1) N u = some q ∧ Q r q) (hs : ∀ n i s u, i < N → I i s u → (∃ s' u', I (i + 1) s' u' ∧ L (n + 1) i s = L n (i + 1) s' ∧ M (n + 1) i u = M n (i + 1) u') ∨ ∃ r q, L (n + 1) i s = some r ∧ M (n + 1) i u = some q ∧ Q r q) (e1 : i + d = N) (e2 : d < n) (hI : I i s u) : C := by
  obtain ⟨r, q, h1, h2, h3⟩ := lup2 L M I Q hx hs d i n s u e1 e2 hI
  exact K r q h1 h2 h3
theorem lupEk {R : Type} {N : Nat} {r : R} {C : Prop} (L : Nat → Nat → Option R) (d i n : Nat) (K : L n i = some r → C) (hx : ∀ n, L (n + 1) N = some r) (hs : ∀ n i, i < N → L (n + 1) i = L n (i + 1)) (e1 : i + d = N) (e2 : d < n) : C := K (lupE L hx hs d i n e1 e2)
