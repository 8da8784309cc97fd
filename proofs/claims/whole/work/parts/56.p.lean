/-! ===== pure: the tape's tokens ===== -/
theorem srt_eq (x : Int32) : f_X4_sortOf x = (if f_X7_isLetter x = 0 then (if f_X7_isDigit x = 0 then (if x = (59 : Int32) then (3 : Int32) else (4 : Int32)) else (2 : Int32)) else (1 : Int32)) := by
  have h1 : ¬ (1 : Int32) = 0 := by decide
  unfold f_X4_sortOf f_X7_isLetter f_X7_isDigit
  by_cases c1 : x < (97 : Int32)
  · rw [if_pos c1, if_pos c1, if_pos rfl]
    by_cases c2 : x < (48 : Int32)
    · rw [if_pos c2, if_pos c2, if_pos rfl]
    · rw [if_neg c2, if_neg c2]
      by_cases c3 : (57 : Int32) < x
      · rw [if_pos c3, if_pos c3, if_pos rfl]
      · rw [if_neg c3, if_neg c3, if_neg h1]
  · rw [if_neg c1, if_neg c1]
    by_cases c4 : (122 : Int32) < x
    · rw [if_pos c4, if_pos c4, if_pos rfl]
      by_cases c2 : x < (48 : Int32)
      · rw [if_pos c2, if_pos c2, if_pos rfl]
      · rw [if_neg c2, if_neg c2]
        by_cases c3 : (57 : Int32) < x
        · rw [if_pos c3, if_pos c3, if_pos rfl]
        · rw [if_neg c3, if_neg c3, if_neg h1]
    · rw [if_neg c4, if_neg c4, if_neg h1]
theorem dig_c {x : Int32} (h : ¬ f_X7_isDigit x = 0) : f_X7_isLetter x = 0 ∧ ∃ d : Nat, d ≤ 9 ∧ x = nI (48 + d) := by
  unfold f_X7_isDigit at h
  by_cases c2 : x < (48 : Int32)
  · rw [if_pos c2] at h; exact absurd rfl h
  · rw [if_neg c2] at h
    by_cases c3 : (57 : Int32) < x
    · rw [if_pos c3] at h; exact absurd rfl h
    · rw [Int32.lt_iff_toInt_lt, show (48 : Int32).toInt = 48 from by decide] at c2
      rw [Int32.lt_iff_toInt_lt, show (57 : Int32).toInt = 57 from by decide] at c3
      constructor
      · unfold f_X7_isLetter
        rw [if_pos (by rw [Int32.lt_iff_toInt_lt, show (97 : Int32).toInt = 97 from by decide]; omega)]
      · exact ⟨x.toInt.toNat - 48, by omega, Int32.toInt_inj.mp (by rw [nI_toInt (by omega)]; omega)⟩
def TpR (n : Nat) (P V : TS) : Prop := n ≤ 250 ∧ P 0 0 = nI n ∧ V 7 0 = nI n ∧ ∀ i, i < n → P 2 i = V 6 i
theorem lett {n i : Nat} {P : TS} (hn : n ≤ 250) (e : P 0 0 = nI n) (hi : i < n) : f_X4_letterAt P (nI i) = some (P 2 i) := by
  unfold f_X4_letterAt
  rw [if_neg (nI_pos (by omega)), e, if_neg (nI_ge hi (by omega)), if_neg (show ¬ (250 : Int32) ≤ nI i from nI_ge (b := 250) (by omega) (by decide)), if_neg (nI_in (show i < 250 by omega) (by decide)), nI_clamp (by omega)]
def Fk (V V' : TS) : Prop := ∀ j, j < 22 ∨ 25 < j → V' j = V j
def FigR (st en : Nat) (P V : TS) : Prop := V 23 0 = 2 → (en - st ≤ 2 ∧ ∃ v : Nat, v ≤ 99 ∧ V 25 0 = nI v ∧ L_X4_takeNumber_9 P 300 (nI st) (0 : Int32) = some (nI v)) ∨ (2 < en - st ∧ V 25 0 = nI 100000)
def TkR (n st en : Nat) (P V : TS) : Prop := TpR n P V ∧ (st ≤ en ∧ en ≤ n) ∧ (P 4 0 = nI st ∧ V 24 0 = nI st ∧ P 5 0 = nI en ∧ V 22 0 = nI en) ∧ P 3 0 = V 23 0 ∧ (V 23 0 = 0 ∨ st < en) ∧ FigR st en P V
section TK
variable {n : Nat} {P V : TS}
theorem in250 {p : Nat} (h : p < 250) : ¬ (nI p < 0 ∨ 250 ≤ (nI p).toNatClampNeg) := nI_in h (by decide)
/-- words, letter by letter -/
theorem wrd_c {i : Nat} {p v : TS} (hT : TpR n p v) (hi : i ≤ n) (h3 : p 3 0 = 1) (h5 : p 5 0 = nI i) (h22 : v 22 0 = nI i) : ∃ p' v' en, L_X4_advance_111 300 p = some p' ∧ L_X7_look_90 299 v = some v' ∧ i ≤ en ∧ en ≤ n ∧ p' 5 0 = nI en ∧ (∀ j, j ≠ 5 → p' j = p j) ∧ v' 22 0 = nI en ∧ ∀ j, j ≠ 22 → v' j = v j := by
  have hn := hT.1
  refine lup2k (N := n) (C := _) (fun k _ s => L_X4_advance_111 (k + 1) s) (fun k _ s => L_X7_look_90 k s) (fun c s u => i ≤ c ∧ s 5 0 = nI c ∧ (∀ j, j ≠ 5 → s j = p j) ∧ u 22 0 = nI c ∧ ∀ j, j ≠ 22 → u j = v j) (fun s u => ∃ en, i ≤ en ∧ en ≤ n ∧ s 5 0 = nI en ∧ (∀ j, j ≠ 5 → s j = p j) ∧ u 22 0 = nI en ∧ ∀ j, j ≠ 22 → u j = v j) (n - i) i 299 p v (fun r q h1 h2 hQ => ?_) (fun k s u hI => ?_) (fun k c s u hc hI => ?_) (by omega) (by omega) ⟨Nat.le_refl i, h5, fun _ _ => rfl, h22, fun _ _ => rfl⟩
  · obtain ⟨en, e⟩ := hQ
    exact ⟨r, q, en, h1, h2, e⟩
  · obtain ⟨a, b, c, d, e⟩ := hI
    refine ⟨s, u, ?_, ?_, n, a, Nat.le_refl n, b, c, d, e⟩
    · show (if s 0 0 ≤ s 5 0 then _ else _) = _
      rw [c 0 (by decide), hT.2.1, b, if_pos (yle _)]
    · show (if u 7 0 ≤ u 22 0 then _ else _) = _
      rw [e 7 (by decide), hT.2.2.1, d, if_pos (yle _)]
  · obtain ⟨a, b, cc, d, e⟩ := hI
    have hs0 : s 0 0 = nI n := by rw [cc 0 (by decide)]; exact hT.2.1
    have s6 : L_X4_advance_111 (k + 1 + 1) s = (if f_X4_sortOf (v 6 c) = 1 then L_X4_advance_111 (k + 1) (up s 5 (fun _ => nI (c + 1))) else some s) := by
      show (if s 0 0 ≤ s 5 0 then _ else _) = _
      rw [hs0, b, if_neg (nI_ge hc (by omega))]
      refine ob (lett hn hs0 hc) ?_
      rw [cc 2 (by decide), hT.2.2.2 c hc, cc 3 (by decide), h3, nI_1]
    have s7 : L_X7_look_90 (k + 1) u = (if f_X7_isLetter (v 6 c) = 0 then some u else L_X7_look_90 k (up u 22 (fun _ => nI (c + 1)))) := by
      show (if u 7 0 ≤ u 22 0 then _ else _) = _
      rw [e 7 (by decide), hT.2.2.1, d, if_neg (nI_ge hc (by omega)), if_neg (in250 (by omega)), nI_clamp (show c < 2 ^ 31 by omega), e 6 (by decide), nI_1]
    by_cases z : f_X7_isLetter (v 6 c) = 0
    · refine Or.inr ⟨s, u, ?_, by rw [s7, if_pos z], c, a, by omega, b, cc, d, e⟩
      show L_X4_advance_111 (k + 1 + 1) s = _
      rw [s6, if_neg]
      rw [srt_eq, if_pos z]
      split
      · split <;> decide
      · decide
    · refine Or.inl ⟨up s 5 (fun _ => nI (c + 1)), up u 22 (fun _ => nI (c + 1)), ⟨by omega, rfl, fun j hj => by rw [up_ne _ _ hj]; exact cc j hj, rfl, fun j hj => by rw [up_ne _ _ hj]; exact e j hj⟩, ?_, ?_⟩
      · show L_X4_advance_111 (k + 1 + 1) s = _
        rw [s6, if_pos (by rw [srt_eq, if_neg z])]
      · rw [s7, if_neg z]
/-- numbers, digit by digit -/
theorem sub48 (d : Nat) (x : Nat) : (nI x * (10 : Int32) + nI (48 + d)) - (48 : Int32) = nI (10 * x + d) := by
  rw [show (10 : Int32) = nI 10 from rfl, show (48 : Int32) = nI 48 from rfl, pk_mul, nI_add, pk_sub (by omega)]
  congr 1
  omega
def DgI (st c : Nat) (v u : TS) : Prop := (∀ k, st ≤ k → k < c → ∃ d : Nat, d ≤ 9 ∧ v 6 k = nI (48 + d)) ∧ (c = st + 1 → ∃ d : Nat, d ≤ 9 ∧ v 6 st = nI (48 + d) ∧ u 25 0 = nI d) ∧ (c = st + 2 → ∃ d e : Nat, d ≤ 9 ∧ e ≤ 9 ∧ v 6 st = nI (48 + d) ∧ v 6 (st + 1) = nI (48 + e) ∧ u 25 0 = nI (10 * d + e)) ∧ (st + 2 < c → u 25 0 = nI 100000)
theorem num_d {st : Nat} {p v : TS} (hT : TpR n p v) (hi : st + 1 ≤ n) (h3 : p 3 0 = 2) (h5 : p 5 0 = nI (st + 1)) (h22 : v 22 0 = nI (st + 1)) (h24 : v 24 0 = nI st) (hD : DgI st (st + 1) v v) : ∃ p' v' en, L_X4_advance_111 300 p = some p' ∧ L_X7_look_149 299 v = some v' ∧ st + 1 ≤ en ∧ en ≤ n ∧ p' 5 0 = nI en ∧ (∀ j, j ≠ 5 → p' j = p j) ∧ v' 22 0 = nI en ∧ (∀ j, j ≠ 22 → j ≠ 25 → v' j = v j) ∧ DgI st en v v' := by
  have hn := hT.1
  refine lup2k (N := n) (C := _) (fun k _ s => L_X4_advance_111 (k + 1) s) (fun k _ s => L_X7_look_149 k s) (fun c s u => st + 1 ≤ c ∧ s 5 0 = nI c ∧ (∀ j, j ≠ 5 → s j = p j) ∧ u 22 0 = nI c ∧ (∀ j, j ≠ 22 → j ≠ 25 → u j = v j) ∧ DgI st c v u) (fun s u => ∃ en, st + 1 ≤ en ∧ en ≤ n ∧ s 5 0 = nI en ∧ (∀ j, j ≠ 5 → s j = p j) ∧ u 22 0 = nI en ∧ (∀ j, j ≠ 22 → j ≠ 25 → u j = v j) ∧ DgI st en v u) (n - (st + 1)) (st + 1) 299 p v (fun r q h1 h2 hQ => ?_) (fun k s u hI => ?_) (fun k c s u hc hI => ?_) (by omega) (by omega) ⟨Nat.le_refl _, h5, fun _ _ => rfl, h22, fun _ _ _ => rfl, hD⟩
  · obtain ⟨en, e⟩ := hQ
    exact ⟨r, q, en, h1, h2, e⟩
  · obtain ⟨a, b, c, d, e, f⟩ := hI
    refine ⟨s, u, ?_, ?_, n, a, Nat.le_refl n, b, c, d, e, f⟩
    · show (if s 0 0 ≤ s 5 0 then _ else _) = _
      rw [c 0 (by decide), hT.2.1, b, if_pos (yle _)]
    · show (if u 7 0 ≤ u 22 0 then _ else _) = _
      rw [e 7 (by decide) (by decide), hT.2.2.1, d, if_pos (yle _)]
  · obtain ⟨a, b, cc, d, e, f⟩ := hI
    have hs0 : s 0 0 = nI n := by rw [cc 0 (by decide)]; exact hT.2.1
    have s6 : L_X4_advance_111 (k + 1 + 1) s = (if f_X4_sortOf (v 6 c) = 2 then L_X4_advance_111 (k + 1) (up s 5 (fun _ => nI (c + 1))) else some s) := by
      show (if s 0 0 ≤ s 5 0 then _ else _) = _
      rw [hs0, b, if_neg (nI_ge hc (by omega))]
      refine ob (lett hn hs0 hc) ?_
      rw [cc 2 (by decide), hT.2.2.2 c hc, cc 3 (by decide), h3, nI_1]
    have s7 : L_X7_look_149 (k + 1) u = (if f_X7_isDigit (v 6 c) = 0 then some u else L_X7_look_149 k (up (up u 25 (fun _ => (if (2 : Int32) ≤ nI (c - st) then (100000 : Int32) else (((u 25 0) * (10 : Int32)) + v 6 c) - (48 : Int32)))) 22 (fun _ => nI (c + 1)))) := by
      show (if u 7 0 ≤ u 22 0 then _ else _) = _
      rw [e 7 (by decide) (by decide), hT.2.2.1, d, if_neg (nI_ge hc (by omega)), if_neg (in250 (by omega)), nI_clamp (show c < 2 ^ 31 by omega), e 6 (by decide) (by decide), e 24 (by decide) (by decide), h24, pk_sub (show st ≤ c by omega), nI_1]
    by_cases z : f_X7_isDigit (v 6 c) = 0
    · refine Or.inr ⟨s, u, ?_, by rw [s7, if_pos z], c, a, by omega, b, cc, d, e, f⟩
      show L_X4_advance_111 (k + 1 + 1) s = _
      rw [s6, if_neg]
      rw [srt_eq, if_pos z]
      split
      · split <;> decide
      · decide
    · obtain ⟨z1, dg, z2, z3⟩ := dig_c z
      refine Or.inl ⟨up s 5 (fun _ => nI (c + 1)), up (up u 25 (fun _ => (if (2 : Int32) ≤ nI (c - st) then (100000 : Int32) else (((u 25 0) * (10 : Int32)) + v 6 c) - (48 : Int32)))) 22 (fun _ => nI (c + 1)), ⟨by omega, rfl, fun j hj => by rw [up_ne _ _ hj]; exact cc j hj, rfl, fun j h1 h2 => by rw [up_ne _ _ h1, up_ne _ _ h2]; exact e j h1 h2, ?_⟩, ?_, ?_⟩
      · obtain ⟨f1, f2, f3, f4⟩ := f
        refine ⟨fun k h1 h2 => ?_, fun h => by omega, fun h => ?_, fun h => ?_⟩
        · by_cases w : k = c
          · subst w; exact ⟨dg, z2, z3⟩
          · exact f1 k h1 (by omega)
        · have hc1 : c = st + 1 := by omega
          obtain ⟨d0, x1, x2, x3⟩ := f2 hc1
          refine ⟨d0, dg, x1, z2, x2, by rw [← hc1]; exact z3, ?_⟩
          show (if (2 : Int32) ≤ nI (c - st) then (100000 : Int32) else (((u 25 0) * (10 : Int32)) + v 6 c) - (48 : Int32)) = _
          rw [if_neg (show ¬ (2 : Int32) ≤ nI (c - st) from nI_ge (b := 2) (by omega) (by decide)), x3, z3, sub48]
        · show (if (2 : Int32) ≤ nI (c - st) then (100000 : Int32) else (((u 25 0) * (10 : Int32)) + v 6 c) - (48 : Int32)) = _
          rw [if_pos (show (2 : Int32) ≤ nI (c - st) from nI_le (a := 2) (by omega) (by omega))]
          rfl
      · show L_X4_advance_111 (k + 1 + 1) s = _
        rw [s6, if_pos (by rw [srt_eq, if_pos z1, if_neg z])]
      · rw [s7, if_neg z]
theorem take_ex {st en : Nat} {P : TS} (hn : n ≤ 250) (h0 : P 0 0 = nI n) (h4 : P 4 0 = nI st) (h5 : P 5 0 = nI en) (hen : en ≤ n) (hst : st ≤ en) : ∃ v, L_X4_takeNumber_9 P 300 (nI st) (0 : Int32) = some v ∧ (en = st + 1 → ∀ d : Nat, P 2 st = nI (48 + d) → v = nI d) ∧ (en = st + 2 → ∀ d e : Nat, P 2 st = nI (48 + d) → P 2 (st + 1) = nI (48 + e) → v = nI (10 * d + e)) := by
  have st1 : ∀ k c a, c < en → c < st + 2 → L_X4_takeNumber_9 P (k + 1) (nI c) a = L_X4_takeNumber_9 P k (nI (c + 1)) ((a * (10 : Int32) + P 2 c) - (48 : Int32)) := fun k c a h1 h2 => by
    show (if P 5 0 ≤ nI c then _ else if (P 4 0 + (2 : Int32)) ≤ nI c then _ else _) = _
    rw [h5, if_neg (nI_ge h1 (by omega)), h4, show nI st + (2 : Int32) = nI (st + 2) from nI_add st 2, if_neg (nI_ge h2 (by omega))]
    refine ob (lett hn h0 (by omega)) ?_
    rw [nI_1]
  have st0 : ∀ k c a, (en ≤ c ∨ st + 2 ≤ c) → c < 2 ^ 20 → L_X4_takeNumber_9 P (k + 1) (nI c) a = some a := fun k c a h1 h2 => by
    show (if P 5 0 ≤ nI c then _ else if (P 4 0 + (2 : Int32)) ≤ nI c then _ else _) = _
    rw [h5, h4, show nI st + (2 : Int32) = nI (st + 2) from nI_add st 2]
    by_cases z : en ≤ c
    · rw [if_pos (nI_le z (by omega))]
    · rw [if_neg (nI_ge (by omega) (by omega)), if_pos (nI_le (by omega) (by omega))]
  by_cases c0 : en = st
  · exact ⟨0, st0 299 st 0 (Or.inl (by omega)) (by omega), fun h => by omega, fun h => by omega⟩
  · rw [st1 299 st 0 (by omega) (by omega)]
    by_cases c1 : en = st + 1
    · refine ⟨_, st0 298 (st + 1) _ (Or.inl (by omega)) (by omega), fun _ d hd => ?_, fun h => by omega⟩
      rw [hd]
      have := sub48 d 0
      rw [show 10 * 0 + d = d by omega] at this
      exact this
    · rw [st1 298 (st + 1) _ (by omega) (by omega)]
      refine ⟨_, st0 297 (st + 1 + 1) _ (Or.inr (by omega)) (by omega), fun h => by omega, fun _ d e hd he => ?_⟩
      rw [hd, he]
      have := sub48 d 0
      rw [show 10 * 0 + d = d by omega] at this
      rw [show (((0 : Int32) * (10 : Int32) + nI (48 + d)) - (48 : Int32)) = nI d from this]
      exact sub48 e d
theorem adv_c {en : Nat} (hT : TpR n P V) (hen : en ≤ n) (e5 : P 5 0 = nI en) (e22 : V 22 0 = nI en) (U : TS) (M R : LTS) : ∃ P' V' st' en', f_X4_advance P = some P' ∧ f_X7_look U V M R = some V' ∧ TkR n st' en' P' V' ∧ en ≤ st' ∧ (∀ j, j ≠ 3 → j ≠ 4 → j ≠ 5 → P' j = P j) ∧ Fk V V' := by
  have hn := hT.1
  have blanks : ∃ p v st, L_X4_advance_8 300 (up P 4 (fun _ => (P 5 0))) = some p ∧ L_X7_look_0 300 V = some v ∧ en ≤ st ∧ st ≤ n ∧ p 4 0 = nI st ∧ (∀ j, j ≠ 4 → p j = P j) ∧ v 22 0 = nI st ∧ ∀ j, j ≠ 22 → v j = V j := by
    refine lup2k (N := n) (C := _) (fun k _ s => L_X4_advance_8 k s) (fun k _ s => L_X7_look_0 k s) (fun c s u => en ≤ c ∧ s 4 0 = nI c ∧ (∀ j, j ≠ 4 → s j = P j) ∧ u 22 0 = nI c ∧ ∀ j, j ≠ 22 → u j = V j) (fun s u => ∃ st, en ≤ st ∧ st ≤ n ∧ s 4 0 = nI st ∧ (∀ j, j ≠ 4 → s j = P j) ∧ u 22 0 = nI st ∧ ∀ j, j ≠ 22 → u j = V j) (n - en) en 300 (up P 4 (fun _ => (P 5 0))) V (fun r q h1 h2 hQ => ?_) (fun k s u hI => ?_) (fun k c s u hc hI => ?_) (by omega) (by omega) ⟨Nat.le_refl en, e5, fun j hj => up_ne _ _ hj, e22, fun _ _ => rfl⟩
    · obtain ⟨st, e⟩ := hQ
      exact ⟨r, q, st, h1, h2, e⟩
    · obtain ⟨a, b, c, d, e⟩ := hI
      refine ⟨s, u, ?_, ?_, n, a, Nat.le_refl n, b, c, d, e⟩
      · show (if s 0 0 ≤ s 4 0 then _ else _) = _
        rw [c 0 (by decide), hT.2.1, b, if_pos (yle _)]
      · show (if u 7 0 ≤ u 22 0 then _ else _) = _
        rw [e 7 (by decide), hT.2.2.1, d, if_pos (yle _)]
    · obtain ⟨a, b, cc, d, e⟩ := hI
      have hs0 : s 0 0 = nI n := by rw [cc 0 (by decide)]; exact hT.2.1
      have s6 : L_X4_advance_8 (k + 1) s = (if V 6 c = (32 : Int32) then L_X4_advance_8 k (up s 4 (fun _ => nI (c + 1))) else some s) := by
        show (if s 0 0 ≤ s 4 0 then _ else _) = _
        rw [hs0, b, if_neg (nI_ge hc (by omega))]
        refine ob (lett hn hs0 hc) ?_
        rw [cc 2 (by decide), hT.2.2.2 c hc, nI_1]
      have s7 : L_X7_look_0 (k + 1) u = (if V 6 c = (32 : Int32) then L_X7_look_0 k (up u 22 (fun _ => nI (c + 1))) else some u) := by
        show (if u 7 0 ≤ u 22 0 then _ else _) = _
        rw [e 7 (by decide), hT.2.2.1, d, if_neg (nI_ge hc (by omega)), if_neg (in250 (by omega)), nI_clamp (show c < 2 ^ 31 by omega), e 6 (by decide), nI_1]
      by_cases z : V 6 c = (32 : Int32)
      · exact Or.inl ⟨up s 4 (fun _ => nI (c + 1)), up u 22 (fun _ => nI (c + 1)), ⟨by omega, rfl, fun j hj => by rw [up_ne _ _ hj]; exact cc j hj, rfl, fun j hj => by rw [up_ne _ _ hj]; exact e j hj⟩, by rw [s6, if_pos z], by rw [s7, if_pos z]⟩
      · exact Or.inr ⟨s, u, by rw [s6, if_neg z], by rw [s7, if_neg z], c, a, by omega, b, cc, d, e⟩
  obtain ⟨p, v, st, a1, a2, a3, a4, a5, a6, a7, a8⟩ := blanks
  have p0 : p 0 0 = nI n := by rw [a6 0 (by decide)]; exact hT.2.1
  have v7 : v 7 0 = nI n := by rw [a8 7 (by decide)]; exact hT.2.2.1
  unfold f_X4_advance f_X7_look
  rw [a1, a2]
  show ∃ P' V' st' en', (if p 4 0 < p 0 0 then _ else _) = some P' ∧ (if v 22 0 = v 7 0 then _ else _) = some V' ∧ _
  rw [a5, p0, a7, v7]
  by_cases c0 : st = n
  · subst c0
    refine ⟨up (up p 5 (fun _ => nI st)) 3 (fun _ => (0 : Int32)), up (up (up v 24 (fun _ => nI st)) 25 (fun _ => (0 : Int32))) 23 (fun _ => (0 : Int32)), st, st, by rw [if_neg (nI_nlt (Nat.le_refl _) (by omega))], by rw [if_pos rfl], ⟨⟨hn, p0, v7, fun i hi => ?_⟩, ⟨Nat.le_refl _, Nat.le_refl _⟩, ⟨a5, rfl, rfl, a7⟩, rfl, Or.inl rfl, fun z => absurd (show (0 : Int32) = 2 from z) (by decide)⟩, a3, fun j h3 h4 h5 => ?_, fun j hj => ?_⟩
    · show p 2 i = v 6 i
      rw [a6 2 (by decide), a8 6 (by decide)]
      exact hT.2.2.2 i hi
    · rw [up_ne _ _ h3, up_ne _ _ h5, a6 j h4]
    · rw [up_ne _ _ (by omega), up_ne _ _ (by omega), up_ne _ _ (by omega), a8 j (by omega)]
  · have hst : st < n := by omega
    have let6 : f_X4_letterAt (up p 5 (fun _ => nI st)) (nI st) = some (V 6 st) := by
      rw [lett (P := up p 5 (fun _ => nI st)) hn p0 hst]
      show some (p 2 st) = _
      rw [a6 2 (by decide), hT.2.2.2 st hst]
    have vst : v 6 st = V 6 st := by rw [a8 6 (by decide)]
    rw [if_pos (nI_lt hst (by omega)), if_neg (fun z => c0 ((nI_eq (by omega) (by omega)).mp z)), if_neg (in250 (by omega)), nI_clamp (show st < 2 ^ 31 by omega), vst, let6]
    show ∃ P' V' st' en', (if f_X4_sortOf (V 6 st) = 1 then (L_X4_advance_111 300 (up (up p 3 (fun _ => f_X4_sortOf (V 6 st))) 5 (fun _ => nI st + (1 : Int32)))).bind _ else if f_X4_sortOf (V 6 st) = 2 then (L_X4_advance_111 300 (up (up p 3 (fun _ => f_X4_sortOf (V 6 st))) 5 (fun _ => nI st + (1 : Int32)))).bind _ else some (up (up p 3 (fun _ => f_X4_sortOf (V 6 st))) 5 (fun _ => nI st + (1 : Int32)))) = some P' ∧ _
    rw [nI_1, srt_eq]
    by_cases c1 : f_X7_isLetter (V 6 st) = 0
    · by_cases c2 : f_X7_isDigit (V 6 st) = 0
      · rw [if_pos c1, if_pos c2, if_pos c1, if_pos c2]
        have sv : ¬ (if V 6 st = (59 : Int32) then (3 : Int32) else (4 : Int32)) = 1 ∧ ¬ (if V 6 st = (59 : Int32) then (3 : Int32) else (4 : Int32)) = 2 := by
          by_cases z : V 6 st = (59 : Int32)
          · rw [if_pos z]; decide
          · rw [if_neg z]; decide
        rw [if_neg sv.1, if_neg sv.2]
        refine ⟨_, _, st, st + 1, rfl, rfl, ⟨⟨hn, p0, v7, fun i hi => ?_⟩, ⟨Nat.le_succ _, hst⟩, ⟨a5, rfl, rfl, rfl⟩, rfl, Or.inr (Nat.lt_succ_self _), fun z => absurd z sv.2⟩, a3, fun j h3 h4 h5 => ?_, fun j hj => ?_⟩
        · show p 2 i = v 6 i
          rw [a6 2 (by decide), a8 6 (by decide)]
          exact hT.2.2.2 i hi
        · rw [up_ne _ _ h5, up_ne _ _ h3, a6 j h4]
        · rw [up_ne _ _ (by omega), up_ne _ _ (by omega), up_ne _ _ (by omega), up_ne _ _ (by omega), a8 j (by omega)]
      · obtain ⟨_, dg, z2, z3⟩ := dig_c c2
        rw [if_pos c1, if_neg c2, if_pos c1, if_neg c2, if_neg (show ¬ (2 : Int32) = 1 by decide), if_pos rfl]
        have first : L_X7_look_149 300 (up (up (up v 24 (fun _ => nI st)) 25 (fun _ => (0 : Int32))) 23 (fun _ => (2 : Int32))) = L_X7_look_149 299 (up (up (up (up (up v 24 (fun _ => nI st)) 25 (fun _ => (0 : Int32))) 23 (fun _ => (2 : Int32))) 25 (fun _ => nI dg)) 22 (fun _ => nI (st + 1))) := by
          show (if v 7 0 ≤ v 22 0 then _ else if v 22 0 < 0 ∨ 250 ≤ (v 22 0).toNatClampNeg then _ else if f_X7_isDigit (v 6 (v 22 0).toNatClampNeg) = 0 then _ else L_X7_look_149 299 (up (up (up (up (up v 24 (fun _ => nI st)) 25 (fun _ => (0 : Int32))) 23 (fun _ => (2 : Int32))) 25 (fun _ => (if (2 : Int32) ≤ v 22 0 - nI st then (100000 : Int32) else (((0 : Int32) * (10 : Int32)) + v 6 (v 22 0).toNatClampNeg) - (48 : Int32)))) 22 (fun _ => v 22 0 + (1 : Int32)))) = _
          have h0 := sub48 dg 0
          rw [show 10 * 0 + dg = dg by omega] at h0
          have h0 : (((0 : Int32) * (10 : Int32)) + nI (48 + dg)) - (48 : Int32) = nI dg := h0
          rw [a7, v7, if_neg (nI_ge hst (by omega)), if_neg (in250 (by omega)), nI_clamp (show st < 2 ^ 31 by omega), vst, if_neg c2, pk_sub (Nat.le_refl st), Nat.sub_self, if_neg (by decide), z3, h0, nI_1]
        obtain ⟨p', v', en', b1, b2, b3, b4, b5, b6, b7, b8, b9⟩ := num_d (n := n) (st := st) (p := up (up p 3 (fun _ => (2 : Int32))) 5 (fun _ => nI (st + 1))) (v := up (up (up (up (up v 24 (fun _ => nI st)) 25 (fun _ => (0 : Int32))) 23 (fun _ => (2 : Int32))) 25 (fun _ => nI dg)) 22 (fun _ => nI (st + 1))) ⟨hn, p0, v7, fun i hi => by
            show p 2 i = v 6 i
            rw [a6 2 (by decide), a8 6 (by decide)]
            exact hT.2.2.2 i hi⟩ hst rfl rfl rfl rfl ⟨fun k h1 h2 => by
              obtain rfl : k = st := by omega
              exact ⟨dg, z2, by show v 6 k = _; rw [vst]; exact z3⟩, fun _ => ⟨dg, z2, by show v 6 st = _; rw [vst]; exact z3, rfl⟩, fun h => by omega, fun h => by omega⟩
        have q0 : p' 0 0 = nI n := by rw [b6 0 (by decide)]; exact p0
        have q4 : p' 4 0 = nI st := by rw [b6 4 (by decide)]; exact a5
        have w7 : v' 7 0 = nI n := by rw [b8 7 (by decide) (by decide)]; exact v7
        have qv : ∀ i, i < n → p' 2 i = v' 6 i := fun i hi => by
          rw [b6 2 (by decide), b8 6 (by decide) (by decide)]
          show p 2 i = v 6 i
          rw [a6 2 (by decide), a8 6 (by decide)]
          exact hT.2.2.2 i hi
        refine ⟨p', v', st, en', ob b1 rfl, by rw [first]; exact ob b2 rfl, ⟨⟨hn, q0, w7, qv⟩, ⟨by omega, b4⟩, ⟨q4, by rw [b8 24 (by decide) (by decide)]; rfl, b5, b7⟩, ?_, Or.inr (by omega), fun _ => ?_⟩, a3, fun j h3 h4 h5 => ?_, fun j hj => ?_⟩
        · rw [b6 3 (by decide), b8 23 (by decide) (by decide)]
          rfl
        · obtain ⟨tv, t1, t2, t3⟩ := take_ex (n := n) hn q0 q4 b5 b4 (by omega)
          obtain ⟨d1, d2, d3, d4⟩ := b9
          have p2v : ∀ k, k < n → p' 2 k = v 6 k := fun k hk => by rw [qv k hk, b8 6 (by decide) (by decide)]; rfl
          by_cases e1 : en' = st + 1
          · obtain ⟨x, x1, x2, x3⟩ := d2 e1
            left
            refine ⟨by omega, x, by omega, x3, ?_⟩
            rw [t1, t2 e1 x (by rw [p2v st hst]; exact x2)]
          · by_cases e2 : en' = st + 2
            · obtain ⟨x, y, x1, y1, x2, y2, x3⟩ := d3 e2
              left
              refine ⟨by omega, 10 * x + y, by omega, x3, ?_⟩
              rw [t1, t3 e2 x y (by rw [p2v st hst]; exact x2) (by rw [p2v (st + 1) (by omega)]; exact y2)]
            · right
              exact ⟨by omega, d4 (by omega)⟩
        · rw [b6 j h5]
          show up (up p 3 _) 5 _ j = _
          rw [up_ne _ _ h5, up_ne _ _ h3, a6 j h4]
        · rw [b8 j (by omega) (by omega)]
          show up (up (up (up (up v 24 _) 25 _) 23 _) 25 _) 22 _ j = _
          rw [up_ne _ _ (by omega), up_ne _ _ (by omega), up_ne _ _ (by omega), up_ne _ _ (by omega), up_ne _ _ (by omega), a8 j (by omega)]
    · rw [if_neg c1, if_neg c1, if_pos rfl]
      have first : L_X7_look_90 300 (up (up (up v 24 (fun _ => nI st)) 25 (fun _ => (0 : Int32))) 23 (fun _ => (1 : Int32))) = L_X7_look_90 299 (up (up (up (up v 24 (fun _ => nI st)) 25 (fun _ => (0 : Int32))) 23 (fun _ => (1 : Int32))) 22 (fun _ => nI (st + 1))) := by
        show (if v 7 0 ≤ v 22 0 then _ else if v 22 0 < 0 ∨ 250 ≤ (v 22 0).toNatClampNeg then _ else if f_X7_isLetter (v 6 (v 22 0).toNatClampNeg) = 0 then _ else L_X7_look_90 299 (up (up (up (up v 24 (fun _ => nI st)) 25 (fun _ => (0 : Int32))) 23 (fun _ => (1 : Int32))) 22 (fun _ => v 22 0 + (1 : Int32)))) = _
        rw [a7, v7, if_neg (nI_ge hst (by omega)), if_neg (in250 (by omega)), nI_clamp (show st < 2 ^ 31 by omega), vst, if_neg c1, nI_1]
      obtain ⟨p', v', en', b1, b2, b3, b4, b5, b6, b7, b8⟩ := wrd_c (n := n) (i := st + 1) (p := up (up p 3 (fun _ => (1 : Int32))) 5 (fun _ => nI (st + 1))) (v := up (up (up (up v 24 (fun _ => nI st)) 25 (fun _ => (0 : Int32))) 23 (fun _ => (1 : Int32))) 22 (fun _ => nI (st + 1))) ⟨hn, p0, v7, fun i hi => by
          show p 2 i = v 6 i
          rw [a6 2 (by decide), a8 6 (by decide)]
          exact hT.2.2.2 i hi⟩ hst rfl rfl rfl
      refine ⟨p', v', st, en', ob b1 rfl, by rw [first]; exact ob b2 rfl, ⟨⟨hn, by rw [b6 0 (by decide)]; exact p0, by rw [b8 7 (by decide)]; exact v7, fun i hi => ?_⟩, ⟨by omega, b4⟩, ⟨by rw [b6 4 (by decide)]; exact a5, by rw [b8 24 (by decide)]; rfl, b5, b7⟩, ?_, Or.inr (by omega), fun z => ?_⟩, a3, fun j h3 h4 h5 => ?_, fun j hj => ?_⟩
      · rw [b6 2 (by decide), b8 6 (by decide)]
        show p 2 i = v 6 i
        rw [a6 2 (by decide), a8 6 (by decide)]
        exact hT.2.2.2 i hi
      · rw [b6 3 (by decide), b8 23 (by decide)]
        rfl
      · rw [b8 23 (by decide)] at z
        exact absurd (show (1 : Int32) = 2 from z) (by decide)
      · rw [b6 j h5]
        show up (up p 3 _) 5 _ j = _
        rw [up_ne _ _ h5, up_ne _ _ h3, a6 j h4]
      · rw [b8 j (by omega)]
        show up (up (up (up v 24 _) 25 _) 23 _) 22 _ j = _
        rw [up_ne _ _ (by omega), up_ne _ _ (by omega), up_ne _ _ (by omega), up_ne _ _ (by omega), a8 j (by omega)]
/-- a word -/
theorem wrd_is {st en : Nat} (h : TkR n st en P V) (U : TS) (M R : LTS) : ∀ i, i < 9 → ∃ a, f_X4_isWord P i = some a ∧ f_X7_isWord U V M R i = some a ∧ (¬ a = 0 → V 23 0 = 1 ∧ en = st + lenS.getD i 0) := by
  intro i hi
  obtain ⟨⟨hn, h0, h7, hl⟩, ⟨h1, h2⟩, ⟨h4, h24, h5, h22⟩, h3, _, _⟩ := h
  have hL : lenS.getD i 0 ≤ 6 := by
    have : ∀ i, i < 9 → lenS.getD i 0 ≤ 6 := by decide
    exact this i hi
  unfold f_X4_isWord f_X7_isWord
  rw [h3, h5, h4, h22, h24]
  by_cases c1 : V 23 0 = 1
  · rw [if_pos c1, if_pos c1, pk_sub h1]
    by_cases c2 : en - st = lenS.getD i 0
    · have e2 : nI (en - st) = nI (lenS.getD i 0) := by rw [c2]
      rw [if_pos e2, if_pos e2]
      refine lup2k (N := lenS.getD i 0) (C := _) (fun k c (_ : Unit) => L_X4_isWord_28 P i k (nI c)) (fun k c (_ : Unit) => L_X7_isWord_28 V i k (nI c)) (fun _ _ _ => True) (fun r q => (r = .inr () ∧ q = .inr ()) ∨ (r = .inl (0 : Int32) ∧ q = .inl (0 : Int32))) (lenS.getD i 0) 0 300 () () (fun r q e1 e2 hQ => ?_) (fun k _ _ _ => ?_) (fun k c _ _ hc _ => ?_) (by omega) (by omega) trivial
      · rcases hQ with ⟨rfl, rfl⟩ | ⟨rfl, rfl⟩
        · exact ⟨1, ob e1 rfl, ob e2 rfl, fun _ => ⟨c1, by omega⟩⟩
        · exact ⟨0, ob e1 rfl, ob e2 rfl, fun z => absurd rfl z⟩
      · refine ⟨.inr (), .inr (), ?_, ?_, Or.inl ⟨rfl, rfl⟩⟩
        · show (if nI (lenS.getD i 0) ≤ nI (lenS.getD i 0) then _ else _) = _
          rw [if_pos (yle _)]
        · show (if nI (lenS.getD i 0) ≤ nI (lenS.getD i 0) then _ else _) = _
          rw [if_pos (yle _)]
      · have s6 : L_X4_isWord_28 P i (k + 1) (nI c) = (if V 6 (st + c) = ((bytS.getD i []).getD c 0 &&& 255) then L_X4_isWord_28 P i k (nI (c + 1)) else some (.inl (0 : Int32))) := by
          show (if nI (lenS.getD i 0) ≤ nI c then _ else (f_X4_letterAt P (P 4 0 + nI c)).bind _) = _
          rw [if_neg (nI_ge hc (by omega)), h4, nI_add]
          refine ob (lett hn h0 (show st + c < n by omega)) ?_
          rw [if_neg (nI_in hc (by omega)), hl (st + c) (by omega), nI_clamp (show c < 2 ^ 31 by omega), nI_1]
        have s7 : L_X7_isWord_28 V i (k + 1) (nI c) = (if V 6 (st + c) = ((bytS.getD i []).getD c 0 &&& 255) then L_X7_isWord_28 V i k (nI (c + 1)) else some (.inl (0 : Int32))) := by
          show (if nI (lenS.getD i 0) ≤ nI c then _ else if (V 24 0 + nI c) < 0 ∨ 250 ≤ (V 24 0 + nI c).toNatClampNeg then _ else _) = _
          rw [if_neg (nI_ge hc (by omega)), h24, nI_add, if_neg (in250 (by omega)), if_neg (nI_in hc (by omega)), nI_clamp (show st + c < 2 ^ 31 by omega), nI_clamp (show c < 2 ^ 31 by omega), nI_1]
        by_cases z : V 6 (st + c) = ((bytS.getD i []).getD c 0 &&& 255)
        · exact Or.inl ⟨(), (), trivial, by rw [s6, if_pos z], by rw [s7, if_pos z]⟩
        · exact Or.inr ⟨.inl (0 : Int32), .inl (0 : Int32), by rw [s6, if_neg z], by rw [s7, if_neg z], Or.inr ⟨rfl, rfl⟩⟩
    · have e2 : ¬ nI (en - st) = nI (lenS.getD i 0) := fun z => c2 ((nI_eq (by omega) (by omega)).mp z)
      rw [if_neg e2, if_neg e2]
      exact ⟨0, rfl, rfl, fun z => absurd rfl z⟩
  · rw [if_neg c1, if_neg c1]
    exact ⟨0, rfl, rfl, fun z => absurd rfl z⟩
/-- a number -/
def Gd (V : TS) (lo hi : Int32) : Prop := V 23 0 = 2 ∧ ¬ f_X6_isWithin (V 25 0) lo hi = 0
theorem gd_or (V : TS) (lo hi : Int32) : Gd V lo hi ∨ ¬ Gd V lo hi := Classical.em _
theorem tk_good {st en : Nat} (h : TkR n st en P V) {lo hi ex : Int32} (hh : hi.toInt < 1000) (g : Gd V lo hi) : ∃ v : Nat, v ≤ 99 ∧ V 25 0 = nI v ∧ f_X4_takeNumber P lo hi ex = (if f_X6_has ex (nI v) = 0 then (f_X4_advance P).bind fun q16 => some (nI v, q16) else some ((-1 : Int32), (up P 1 (fun _ => P 4 0)))) := by
  obtain ⟨⟨hn, h0, h7, hl⟩, ⟨h1, h2⟩, ⟨h4, h24, h5, h22⟩, h3, _, hf⟩ := h
  rcases hf g.1 with ⟨a, v, b, c, d⟩ | ⟨a, b⟩
  · refine ⟨v, b, c, ?_⟩
    have gw := g.2
    rw [c] at gw
    unfold f_X4_takeNumber
    rw [h4]
    refine ob d ?_
    rw [h3, g.1, h5, pk_sub h1]
    rw [if_neg (show ¬ (if (2 : Int32) = 2 then (if (2 : Int32) < nI (en - st) then (0 : Int32) else (if (f_X6_isWithin (nI v) lo hi) = 0 then (0 : Int32) else (1 : Int32))) else (0 : Int32)) = 0 by
      rw [if_pos rfl, if_neg (show ¬ (2 : Int32) < nI (en - st) from nI_nlt (a := 2) (by omega) (by decide)), if_neg gw]
      decide)]
  · exfalso
    have gw := g.2
    rw [b] at gw
    unfold f_X6_isWithin at gw
    by_cases z : nI 100000 < lo
    · rw [if_pos z] at gw; exact gw rfl
    · rw [if_neg z, if_pos (by rw [Int32.lt_iff_toInt_lt, nI_toInt (by decide)]; omega)] at gw
      exact gw rfl
theorem tk_bad {st en : Nat} (h : TkR n st en P V) {lo hi ex : Int32} (g : ¬ Gd V lo hi) : f_X4_takeNumber P lo hi ex = some ((-1 : Int32), (up P 1 (fun _ => P 4 0))) := by
  obtain ⟨⟨hn, h0, h7, hl⟩, ⟨h1, h2⟩, ⟨h4, h24, h5, h22⟩, h3, _, hf⟩ := h
  obtain ⟨tv, t1, _, _⟩ := take_ex (n := n) hn h0 h4 h5 h2 h1
  unfold f_X4_takeNumber
  rw [h4]
  refine ob t1 ?_
  rw [h3, h5, pk_sub h1]
  refine if_pos ?_
  by_cases c1 : V 23 0 = 2
  · rw [if_pos c1]
    by_cases c2 : 2 < en - st
    · rw [if_pos (show (2 : Int32) < nI (en - st) from nI_lt (a := 2) c2 (by omega))]
    · rw [if_neg (show ¬ (2 : Int32) < nI (en - st) from nI_nlt (a := 2) (by omega) (by decide))]
      rcases hf c1 with ⟨a, v, b, c, d⟩ | ⟨a, b⟩
      · rw [t1] at d
        have e : tv = V 25 0 := by rw [c]; exact Option.some.inj d
        rw [e]
        refine if_pos ?_
        apply Classical.byContradiction
        intro z
        exact g ⟨c1, z⟩
      · omega
  · rw [if_neg c1]
theorem nb_good {lo hi : Int32} (g : Gd V lo hi) (U : TS) (M R : LTS) {i : Nat} (hi2 : i < 2) : f_X7_number U V M R (nI i) lo hi = (f_X7_look U (up V 27 (upd (V 27) i (V 25 0))) M R).bind fun q8 => some ((1 : Int32), q8) := by
  unfold f_X7_number
  rw [if_pos g.1, in_eq, if_neg g.2, if_neg (nI_in hi2 (by decide)), nI_clamp (by omega)]
theorem nb_bad {lo hi : Int32} (g : ¬ Gd V lo hi) (U : TS) (M R : LTS) (i : Int32) : f_X7_number U V M R i lo hi = some ((0 : Int32), (up V 26 (fun _ => V 24 0))) := by
  unfold f_X7_number
  by_cases c1 : V 23 0 = 2
  · rw [if_pos c1, in_eq, if_pos (by
      apply Classical.byContradiction
      intro z
      exact g ⟨c1, z⟩)]
    rfl
  · rw [if_neg c1]
    rfl
end TK
