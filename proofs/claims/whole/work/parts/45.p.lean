/-! ===== pure: both sides together, refusals, guards ===== -/
def TR (t : Tn) (T U : TS) : Prop := wf t ∧ TC t T ∧ TM t U ∧ T 5 0 = U 18 0 ∧ T 6 0 = U 19 0
def ShE (n : Nat) (G V : TS) (s : Nat) : Prop := (G 0 s = -1 ∧ V 0 s = 0 ∧ G 1 s = 0) ∨ (∃ k m : Nat, k < 5 ∧ m ≤ 40 ∧ G 0 s = nI k ∧ V 0 s = 1 ∧ V 1 s = nI k ∧ G 1 s = nI m ∧ V 2 s = nI m) ∨ (∃ p : Nat, p < n ∧ G 0 s = nI (10 + p) ∧ V 0 s = 2 ∧ V 5 s = nI p ∧ G 1 s = 0)
def ShR (n : Nat) (G V : TS) : Prop := ∀ s, s < 8 → ShE n G V s
def RoR (R R' : LTS) : Prop := ∀ s i : Nat, s < 8 → i < 40 → R s i = R' s i
def TaR (P V : TS) : Prop := ∃ n : Nat, n ≤ 250 ∧ P 0 0 = nI n ∧ V 7 0 = nI n ∧ ∀ i, i < n → P 2 i = V 6 i
def ReR (Z V : TS) : Prop := ∀ k : Nat, k < 5 → Z 8 k = V 8 (k + 2)
def KeR (Z T2 : TS) (ku : Option TS) : Prop := (Z 9 0 = 0 ∧ ku = none) ∨ (Z 9 0 = 1 ∧ ∃ (U1 : TS) (t' : Tn), ku = some U1 ∧ TR t' T2 U1)
def Rl (Z T1 T2 G : TS) (R : LTS) (P U V : TS) (R' : LTS) (ku : Option TS) : Prop := ∃ t : Tn, TR t T1 U ∧ ShR (t 1 0) G V ∧ RoR R R' ∧ TaR P V ∧ ReR Z V ∧ KeR Z T2 ku
theorem ShR.mono {n n' : Nat} {G V : TS} (h : ShR n G V) (hn : n ≤ n') : ShR n' G V := fun s hs => by
  rcases h s hs with a | a | ⟨p, a, b⟩
  · exact Or.inl a
  · exact Or.inr (Or.inl a)
  · exact Or.inr (Or.inr ⟨p, by omega, b⟩)
theorem ShR.vm {n : Nat} {G V V' : TS} (h : ShR n G V) (h0 : V' 0 = V 0) (h1 : V' 1 = V 1) (h2 : V' 2 = V 2) (h5 : V' 5 = V 5) : ShR n G V' := fun s hs => by
  unfold ShE
  rw [h0, h1, h2, h5]
  exact h s hs
def rz (Z : TS) (k : Nat) : TS := up Z 8 (upd (Z 8) k (Z 8 k + 1))
def rv (V : TS) (k : Nat) : TS := up V 8 (upd (V 8) (k + 2) (V 8 (k + 2) + 1))
theorem rv_ne (V : TS) (k : Nat) {j : Nat} (h : j ≠ 8) : rv V k j = V j := up_ne V _ h
theorem rz_ne (Z : TS) (k : Nat) {j : Nat} (h : j ≠ 8) : rz Z k j = Z j := up_ne Z _ h
theorem TaR.vm {P V V' : TS} (h : TaR P V) (h7 : V' 7 0 = V 7 0) (h6 : V' 6 = V 6) : TaR P V' := by
  obtain ⟨n, a, b, c, d⟩ := h
  exact ⟨n, a, b, by rw [h7]; exact c, by rw [h6]; exact d⟩
section RL
variable {Z T1 T2 G P U V : TS} {R R' : LTS} {ku : Option TS} {t : Tn} {T : TS}
theorem Rl.ref (h : Rl Z T1 T2 G R P U V R' ku) {k : Nat} (hk5 : k < 5) : Rl (rz Z k) T1 T2 G R P U (rv V k) R' ku := by
  obtain ⟨t, ht, hs, hr, hp, hz, hk⟩ := h
  refine ⟨t, ht, hs.vm (rv_ne V k (by decide)) (rv_ne V k (by decide)) (rv_ne V k (by decide)) (rv_ne V k (by decide)), hr, hp.vm (by rw [rv_ne V k (by decide)]) (rv_ne V k (by decide)), fun i hi => ?_, ?_⟩
  · unfold rz rv
    rw [up_same, up_same]
    by_cases e : i = k
    · subst e; rw [pk_us, pk_us, hz i hi]
    · rw [pk_un e, pk_un (by omega), hz i hi]
  · unfold KeR
    rw [rz_ne Z k (by decide)]
    exact hk
theorem rc2 (T1 T2 T3 G4 : TS) (R4 : LTS) (P5 O7 B7 : TS) : f_X6_refuse Z T1 T2 T3 G4 R4 P5 O7 B7 (-2 : Int32) = some ((-2 : Int32), rz Z 0) := by
  unfold f_X6_refuse
  rw [if_neg (by decide), if_neg (by decide), if_neg (by decide)]
  rfl
theorem rc3 (T1 T2 T3 G4 : TS) (R4 : LTS) (P5 O7 B7 : TS) : f_X6_refuse Z T1 T2 T3 G4 R4 P5 O7 B7 (-3 : Int32) = some ((-3 : Int32), rz Z 1) := by
  unfold f_X6_refuse
  rw [if_neg (by decide), if_neg (by decide), if_neg (by decide)]
  rfl
theorem rc4 (T1 T2 T3 G4 : TS) (R4 : LTS) (P5 O7 B7 : TS) : f_X6_refuse Z T1 T2 T3 G4 R4 P5 O7 B7 (-4 : Int32) = some ((-4 : Int32), rz Z 2) := by
  unfold f_X6_refuse
  rw [if_neg (by decide), if_neg (by decide), if_neg (by decide)]
  rfl
theorem rc5 (T1 T2 T3 G4 : TS) (R4 : LTS) (P5 O7 B7 : TS) : f_X6_refuse Z T1 T2 T3 G4 R4 P5 O7 B7 (-5 : Int32) = some ((-5 : Int32), rz Z 3) := by
  unfold f_X6_refuse
  rw [if_neg (by decide), if_neg (by decide), if_neg (by decide)]
  rfl
theorem rc6 (T1 T2 T3 G4 : TS) (R4 : LTS) (P5 O7 B7 : TS) : f_X6_refuse Z T1 T2 T3 G4 R4 P5 O7 B7 (-6 : Int32) = some ((-6 : Int32), rz Z 4) := by
  unfold f_X6_refuse
  rw [if_neg (by decide), if_neg (by decide), if_neg (by decide)]
  rfl
theorem rm2 (U : TS) (M R : LTS) : f_X7_refuse U V M R (-2 : Int32) = some ((-2 : Int32), rv V 0) := by
  unfold f_X7_refuse
  rw [if_neg (by decide)]
  rfl
theorem rm3 (U : TS) (M R : LTS) : f_X7_refuse U V M R (-3 : Int32) = some ((-3 : Int32), rv V 1) := by
  unfold f_X7_refuse
  rw [if_neg (by decide)]
  rfl
theorem rm4 (U : TS) (M R : LTS) : f_X7_refuse U V M R (-4 : Int32) = some ((-4 : Int32), rv V 2) := by
  unfold f_X7_refuse
  rw [if_neg (by decide)]
  rfl
theorem rm5 (U : TS) (M R : LTS) : f_X7_refuse U V M R (-5 : Int32) = some ((-5 : Int32), rv V 3) := by
  unfold f_X7_refuse
  rw [if_neg (by decide)]
  rfl
theorem rm6 (U : TS) (M R : LTS) : f_X7_refuse U V M R (-6 : Int32) = some ((-6 : Int32), rv V 4) := by
  unfold f_X7_refuse
  rw [if_neg (by decide)]
  rfl
/-- guards -/
theorem in_eq (x a b : Int32) : f_X7_in x.toInt64 a.toInt64 b.toInt64 = f_X6_isWithin x a b := by
  have l : ∀ u v : Int32, u.toInt64 < v.toInt64 ↔ u < v := fun u v => by
    rw [Int64.lt_iff_toInt_lt, Int32.lt_iff_toInt_lt, Int32.toInt_toInt64, Int32.toInt_toInt64]
  unfold f_X7_in f_X6_isWithin
  by_cases h1 : x < a
  · rw [if_pos ((lg_cmp_lt _ _).mpr ((l x a).mpr h1)), if_pos h1]
  · rw [if_neg (fun z => h1 ((l x a).mp ((lg_cmp_lt _ _).mp z))), if_neg h1]
    by_cases h2 : b < x
    · rw [if_pos ((lg_cmp_gt _ _).mpr ((l b x).mpr h2)), if_pos h2]
    · rw [if_neg (fun z => h2 ((l b x).mp ((lg_cmp_gt _ _).mp z))), if_neg h2]
theorem in_c (x a b : Int32) {A B : Int64} (hA : A = a.toInt64) (hB : B = b.toInt64) : f_X7_in x.toInt64 A B = f_X6_isWithin x a b := by
  subst hA
  subst hB
  exact in_eq x a b
theorem wi_1 (x : Int32) (lo hi : Nat) {a b : Int32} (ha : a = nI lo) (hb : b = nI hi) (h1 : lo ≤ hi) (h2 : hi < 2 ^ 31) : (∃ k, lo ≤ k ∧ k ≤ hi ∧ x = nI k ∧ ¬ f_X6_isWithin x a b = 0) ∨ f_X6_isWithin x a b = 0 := by
  subst ha
  subst hb
  unfold f_X6_isWithin
  by_cases c1 : x < nI lo
  · right; rw [if_pos c1]
  · by_cases c2 : nI hi < x
    · right; rw [if_neg c1, if_pos c2]
    · left
      have c1' := c1
      have c2' := c2
      rw [Int32.lt_iff_toInt_lt, nI_toInt (by omega)] at c1' c2'
      have e : x = nI x.toInt.toNat := Int32.toInt_inj.mp (by rw [nI_toInt (by omega)]; omega)
      exact ⟨x.toInt.toNat, by omega, by omega, e, by rw [if_neg c1, if_neg c2]; decide⟩
theorem wi_c (x : Int32) (lo hi : Nat) {a b : Int32} {A B : Int64} (ha : a = nI lo) (hb : b = nI hi) (hA : A = a.toInt64) (hB : B = b.toInt64) (h1 : lo ≤ hi) (h2 : hi < 2 ^ 31) : (∃ k, lo ≤ k ∧ k ≤ hi ∧ x = nI k ∧ ¬ f_X6_isWithin x a b = 0 ∧ ¬ f_X7_in x.toInt64 A B = 0) ∨ (f_X6_isWithin x a b = 0 ∧ f_X7_in x.toInt64 A B = 0) := by
  rw [in_c x a b hA hB]
  rcases wi_1 x lo hi ha hb h1 h2 with ⟨k, h3, h4, h5, h6⟩ | h6
  · exact Or.inl ⟨k, h3, h4, h5, h6, h6⟩
  · exact Or.inr ⟨h6, h6⟩
theorem bel_c (x : Int32) {n : Nat} (hn : n < 2 ^ 29) : (∃ j, j < n ∧ x = nI j ∧ ¬ (if x < 0 then (0 : Int32) else (if nI n ≤ x then (0 : Int32) else (1 : Int32))) = 0 ∧ ¬ f_X6_isWithin x (0 : Int32) (nI n - (1 : Int32)) = 0) ∨ ((if x < 0 then (0 : Int32) else (if nI n ≤ x then (0 : Int32) else (1 : Int32))) = 0 ∧ f_X6_isWithin x (0 : Int32) (nI n - (1 : Int32)) = 0) := by
  unfold f_X6_isWithin
  have hs : (nI n - (1 : Int32)).toInt = (n : Int) - 1 := pk_sub_toInt (a := n) (b := 1) (by omega) (by decide)
  rcases pk_ix x (show n < 2 ^ 31 by omega) with h | h | ⟨j, hj, rfl⟩
  · right; rw [if_pos h, if_pos h]; exact ⟨rfl, rfl⟩
  · right
    by_cases h0 : x < 0
    · rw [if_pos h0, if_pos h0]; exact ⟨rfl, rfl⟩
    · rw [if_neg h0, if_neg h0, if_pos h, if_pos (by
        rw [Int32.lt_iff_toInt_lt, hs]
        have := Int32.le_iff_toInt_le.mp h
        rw [nI_toInt (by omega)] at this
        omega)]
      exact ⟨rfl, rfl⟩
  · left
    refine ⟨j, hj, rfl, ?_, ?_⟩
    · rw [if_neg (nI_pos (by omega)), if_neg (nI_ge hj (by omega))]; decide
    · rw [if_neg (nI_pos (by omega)), if_neg (fun z => by
        rw [Int32.lt_iff_toInt_lt, hs, nI_toInt (by omega)] at z
        omega)]
      decide
theorem one_c (ht : TR t T U) (x : Int32) : (∃ p, p < t 1 0 ∧ x = nI p ∧ ¬ f_X5_isOne T x = 0 ∧ ¬ f_X7_isOne U x = 0) ∨ (f_X5_isOne T x = 0 ∧ f_X7_isOne U x = 0) := by
  have h7 := ht.1.n7
  unfold f_X5_isOne f_X7_isOne
  rw [in_c x (0 : Int32) (U 10 0 - (1 : Int32)) (by decide) rfl, ht.2.1.n, ht.2.2.1.n]
  exact bel_c x (by omega)
theorem sgt_c (ht : TR t T U) (x : Int32) : (∃ p, p < t 0 0 ∧ x = nI p ∧ ¬ f_X5_isSight T x = 0 ∧ ¬ f_X7_isSight U x = 0) ∨ (f_X5_isSight T x = 0 ∧ f_X7_isSight U x = 0) := by
  have h8 := ht.1.1.2.1
  unfold f_X5_isSight f_X7_isSight
  rw [in_c x (0 : Int32) (U 9 0 - (1 : Int32)) (by decide) rfl, ht.2.1.1 0 (by decide), ht.2.2.1.1]
  exact bel_c x (by omega)
theorem rou_c (x : Int32) : (∃ k, k ≤ 20 ∧ x = nI k ∧ ¬ f_X6_isRounds x = 0 ∧ ¬ f_X7_isRounds x = 0) ∨ (f_X6_isRounds x = 0 ∧ f_X7_isRounds x = 0) := by
  unfold f_X6_isRounds f_X7_isRounds
  rcases wi_c x 0 20 (a := (0 : Int32)) (b := (20 : Int32)) (A := (0 : Int64)) (B := (20 : Int64)) rfl rfl (by decide) (by decide) (by decide) (by decide) with ⟨k, h1, h2, h3, h4⟩ | h
  · exact Or.inl ⟨k, h2, h3, h4⟩
  · exact Or.inr h
theorem she_c (x : Int32) : (∃ k, k < 8 ∧ x = nI k ∧ ¬ f_X6_isShelf x = 0 ∧ ¬ f_X7_in x.toInt64 (0 : Int64) (7 : Int64) = 0) ∨ (f_X6_isShelf x = 0 ∧ f_X7_in x.toInt64 (0 : Int64) (7 : Int64) = 0) := by
  unfold f_X6_isShelf
  rcases wi_c x 0 7 (a := (0 : Int32)) (b := (7 : Int32)) (A := (0 : Int64)) (B := (7 : Int64)) rfl rfl (by decide) (by decide) (by decide) (by decide) with ⟨k, h1, h2, h3, h4⟩ | h
  · exact Or.inl ⟨k, by omega, h3, h4⟩
  · exact Or.inr h
theorem in8 {p : Nat} (h : p < 8) : ¬ (nI p < 0 ∨ 8 ≤ (nI p).toNatClampNeg) := nI_in h (by decide)
theorem in40 {p : Nat} (h : p < 40) : ¬ (nI p < 0 ∨ 40 ≤ (nI p).toNatClampNeg) := nI_in h (by decide)
theorem clx {p : Nat} (h : p < 2 ^ 20) : (nI p).toNatClampNeg = p := nI_clamp (by omega)
/-- the town changed -/
theorem TR.put (h : TR t T U) {j p m : Nat} (h1 : 7 ≤ j) (h2 : j ≤ 12) (hm : m < bnd t j) : TR (upn t j (updn (t j) p m)) (up T j (upd (T j) p (nI m))) (up U (mj j) (upd (U (mj j)) p (nI m))) := by
  have l := mj_lt h1 h2
  refine ⟨h.1.put h1 (fun q hq => ?_), h.2.1.put h1 (upd_n (fun q hq => h.2.1.2 j q h1 h2 hq)), h.2.2.1.put h1 h2 (upd_n (fun q hq => h.2.2.1.2.2.2 j q h1 h2 hq)), ?_, ?_⟩
  · show (if q = p then m else t j q) < bnd t j
    by_cases e : q = p
    · rw [if_pos e]; exact hm
    · rw [if_neg e]; exact h.1.2 j q h1 h2 hq
  · rw [up_ne T _ (by omega), up_ne U _ (by omega)]; exact h.2.2.2.1
  · rw [up_ne T _ (by omega), up_ne U _ (by omega)]; exact h.2.2.2.2
theorem bnd_9 (t : Tn) : bnd t 9 = 2 ^ t 0 0 := rfl
theorem bnd_8 (t : Tn) : bnd t 8 = 2 ^ t 0 0 := rfl
theorem bnd_7 (t : Tn) : bnd t 7 = 2 ^ t 0 0 := rfl
theorem bnd_10 (t : Tn) : bnd t 10 = 2 ^ t 1 0 := rfl
theorem TR.via (h : TR t T U) {t' : Tn} {T' U' : TS} (hw : wf t') (hc : TC t' T') (hm : TM t' U') (a5 : T' 5 0 = T 5 0) (a6 : T' 6 0 = T 6 0) (b18 : U' 18 0 = U 18 0) (b19 : U' 19 0 = U 19 0) : TR t' T' U' := ⟨hw, hc, hm, by rw [a5, b18]; exact h.2.2.2.1, by rw [a6, b19]; exact h.2.2.2.2⟩
/-- become -/
theorem become_ok (T0 T1 : TS) : ∃ T', f_X5_become T0 T1 = some T' ∧ (∀ j : Nat, j < 7 → T' j 0 = T1 j 0) ∧ ∀ j p : Nat, 7 ≤ j → j ≤ 12 → p < 7 → T' j p = T1 j p := by
  unfold f_X5_become
  refine ⟨_, rfl, fun j hj => ?_, fun j p a b hp => ?_⟩
  · rcases (show j = 0 ∨ j = 1 ∨ j = 2 ∨ j = 3 ∨ j = 4 ∨ j = 5 ∨ j = 6 by omega) with rfl | rfl | rfl | rfl | rfl | rfl | rfl <;> rfl
  · have cp : ∀ f g : Nat → Int32, va_cpy f g ((0 : Int32)).toNatClampNeg ((0 : Int32)).toNatClampNeg ((7 : Int32)).toNatClampNeg p = f p := fun f g => by
      show va_cpy f g 0 0 7 p = f p
      rw [pk_cpy_in (Nat.zero_le p) (by omega), Nat.sub_zero, Nat.zero_add]
    rcases (show j = 7 ∨ j = 8 ∨ j = 9 ∨ j = 10 ∨ j = 11 ∨ j = 12 by omega) with rfl | rfl | rfl | rfl | rfl | rfl
    all_goals exact cp _ _
theorem TC.like {T' : TS} (h : TC t T) (hw : wf t) (h1 : ∀ j : Nat, j < 7 → T' j 0 = T j 0) (h2 : ∀ j p : Nat, 7 ≤ j → j ≤ 12 → p < 7 → T' j p = T j p) : TC t T' :=
  ⟨fun j hj => by rw [h1 j (by omega)]; exact h.1 j hj, fun j p a b c => by rw [h2 j p a b (lt7 hw c)]; exact h.2 j p a b c⟩
theorem pc_become (h : TC t T) (hw : wf t) (T0 : TS) : ∃ T', f_X5_become T0 T = some T' ∧ TC t T' ∧ T' 5 0 = T 5 0 ∧ T' 6 0 = T 6 0 := by
  obtain ⟨T', a, b, c⟩ := become_ok T0 T
  exact ⟨T', a, h.like hw b c, b 5 (by decide), b 6 (by decide)⟩
theorem fr0_tm (h : TM t U) (tp : Option (Nat → Int32)) : TM t (fr0 U tp) := h.junk (by decide)
theorem fr0_ne (U : TS) (tp : Option (Nat → Int32)) {j : Nat} (h : j ≠ 29) : fr0 U tp j = U j := up_ne U _ h
end RL
