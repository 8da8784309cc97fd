/-! ===== pure: rows copied, evenings ===== -/
section CP
variable {Z T1 T2 G P U V : TS} {R R' : LTS} {ku : Option TS}
theorem part_c (x n : Int32) {l : Nat} (hl : l ≤ 40) : (∃ a b : Nat, x = nI a ∧ n = nI b ∧ a + b ≤ l ∧ ¬ f_X6_isPart x n (nI l) = 0) ∨ (f_X6_isPart x n (nI l) = 0 ∧ (x < 0 ∨ n < 0 ∨ nI l < n ∨ nI l - n < x)) := by
  unfold f_X6_isPart
  by_cases c1 : x < 0
  · right; rw [if_pos c1]; exact ⟨rfl, Or.inl c1⟩
  · by_cases c2 : n < 0
    · right; rw [if_neg c1, if_pos c2]; exact ⟨rfl, Or.inr (Or.inl c2)⟩
    · obtain ⟨a, ha, rfl⟩ := nI_of c1
      obtain ⟨b, hb, rfl⟩ := nI_of c2
      rw [if_neg c1, if_neg c2]
      by_cases e : a + b ≤ l
      · left
        refine ⟨a, b, rfl, rfl, e, ?_⟩
        rw [if_neg (nI_nlt (by omega) (by omega)), pk_sub (by omega), if_neg (nI_nlt (by omega) (by omega))]
        decide
      · right
        constructor
        · by_cases f : l < a
          · rw [if_pos (nI_lt f ha)]
          · rw [if_neg (nI_nlt (by omega) (by omega)), pk_sub (by omega), if_pos (nI_lt (by omega) hb)]
        · by_cases f : l < b
          · exact Or.inr (Or.inr (Or.inl (nI_lt f hb)))
          · refine Or.inr (Or.inr (Or.inr ?_))
            rw [pk_sub (by omega)]
            exact nI_lt (by omega) ha
theorem chain7 {α : Type} {a b c d e f g : Prop} [Decidable a] [Decidable b] [Decidable c] [Decidable d] [Decidable e] [Decidable f] [Decidable g] {X S : α} (h : (b ∨ a ∨ d ∨ f) ∨ (c ∨ a ∨ e ∨ ¬ g)) : (if a then X else if b then X else if c then X else if d then X else if e then X else if f then X else if g then S else X) = X := by
  by_cases ha : a
  · rw [if_pos ha]
  · by_cases hb : b
    · rw [if_neg ha, if_pos hb]
    · by_cases hc : c
      · rw [if_neg ha, if_neg hb, if_pos hc]
      · by_cases hd : d
        · rw [if_neg ha, if_neg hb, if_neg hc, if_pos hd]
        · by_cases he : e
          · rw [if_neg ha, if_neg hb, if_neg hc, if_neg hd, if_pos he]
          · by_cases hf : f
            · rw [if_neg ha, if_neg hb, if_neg hc, if_neg hd, if_neg he, if_pos hf]
            · by_cases hg : g
              · rcases h with (h | h | h | h) | (h | h | h | h) <;> contradiction
              · rw [if_neg ha, if_neg hb, if_neg hc, if_neg hd, if_neg he, if_neg hf, if_neg hg]
theorem pm_mv {s a b : Nat} (hs : s < 8) (hab : a + b ≤ 40) (R' M : LTS) : ∃ M', L_X7_copy_191 R' (nI s) (nI a) (nI b) 300 (0 : Int32) M = some M' ∧ ∀ k, k < b → M' 4 k = R' s (a + k) := by
  obtain ⟨r, h1, h2⟩ := lupT (N := b) (fun n i m => L_X7_copy_191 R' (nI s) (nI a) (nI b) n (nI i) m) (fun i m => ∀ k, k < i → m 4 k = R' s (a + k)) (fun m => ∀ k, k < b → m 4 k = R' s (a + k)) (fun n m hm => ⟨m, by
    show (if nI b ≤ nI b then _ else _) = _
    rw [if_pos (yle _)], hm⟩) (fun n i m hi hm => Or.inl ⟨upL m 4 (vp_updL (m 4) i (R' s (a + i))), fun k hk => by
      rw [upL_same]
      by_cases e : k = i
      · subst e; rw [pk_uLs]
      · rw [pk_uLn e]; exact hm k (by omega), by
      show (if nI b ≤ nI i then _ else if nI a + nI i < 0 ∨ 40 ≤ (nI a + nI i).toNatClampNeg then _ else if nI i < 0 ∨ 40 ≤ (nI i).toNatClampNeg then _ else _) = _
      rw [if_neg (nI_ge hi (by omega)), nI_add, if_neg (in40 (by omega)), if_neg (in40 (by omega)), nI_clamp (show i < 2 ^ 31 by omega), nI_clamp (show s < 2 ^ 31 by omega), nI_clamp (show a + i < 2 ^ 31 by omega), nI_1]⟩) b 0 300 M (by omega) (by omega) (fun k hk => absurd hk (Nat.not_lt_zero k))
  exact ⟨r, h1, h2⟩
theorem pm_pt {u c b : Nat} (hu : u < 8) (hcb : c + b ≤ 40) (R' M : LTS) : ∃ Q, L_X7_copy_225 (nI u) (nI c) (nI b) M 300 (0 : Int32) R' = some Q ∧ (∀ k, k ≠ u → Q k = R' k) ∧ ∀ x, Q u x = if c ≤ x ∧ x < c + b then M 4 (x - c) else R' u x := by
  obtain ⟨r, h1, h2, h3⟩ := lupT (N := b) (fun n i q => L_X7_copy_225 (nI u) (nI c) (nI b) M n (nI i) q) (fun i q => (∀ k, k ≠ u → q k = R' k) ∧ ∀ x, q u x = if c ≤ x ∧ x < c + i then M 4 (x - c) else R' u x) (fun q => (∀ k, k ≠ u → q k = R' k) ∧ ∀ x, q u x = if c ≤ x ∧ x < c + b then M 4 (x - c) else R' u x) (fun n q hq => ⟨q, by
    show (if nI b ≤ nI b then _ else _) = _
    rw [if_pos (yle _)], hq⟩) (fun n i q hi hq => Or.inl ⟨upL q u (vp_updL (q u) (c + i) (M 4 i)), ⟨fun k hk => by rw [upL_ne q _ hk]; exact hq.1 k hk, fun x => by
      rw [upL_same]
      by_cases e : x = c + i
      · subst e
        rw [pk_uLs, if_pos ⟨by omega, by omega⟩, Nat.add_sub_cancel_left]
      · rw [pk_uLn e, hq.2 x]
        by_cases f : c ≤ x ∧ x < c + i
        · rw [if_pos f, if_pos ⟨f.1, by omega⟩]
        · rw [if_neg f, if_neg (fun z => f ⟨z.1, by omega⟩)]⟩, by
      show (if nI b ≤ nI i then _ else if nI i < 0 ∨ 40 ≤ (nI i).toNatClampNeg then _ else if nI c + nI i < 0 ∨ 40 ≤ (nI c + nI i).toNatClampNeg then _ else _) = _
      rw [if_neg (nI_ge hi (by omega)), nI_add, if_neg (in40 (by omega)), if_neg (in40 (by omega)), nI_clamp (show i < 2 ^ 31 by omega), nI_clamp (show u < 2 ^ 31 by omega), nI_clamp (show c + i < 2 ^ 31 by omega), nI_1]⟩) b 0 300 R' (by omega) (by omega) ⟨fun _ _ => rfl, fun x => by rw [if_neg (by omega)]⟩
  exact ⟨r, h1, h2, h3⟩
theorem op_copy (h : Rl Z T1 T2 G R P U V R' ku) (T3 O B : TS) (M : LTS) (p1 : Int32) (p2 : Int32) (p3 : Int32) (p4 : Int32) (p5 : Int32) : ∃ a Z' Rn V' M' Rm, f_X6_copy Z T1 T2 T3 G R P O B p1 p2 p3 p4 p5 = some (a, Z', Rn) ∧ f_X7_copy U V M R' p1 p2 p3 p4 p5 = some (a, V', M', Rm) ∧ Rl Z' T1 T2 G Rn P U V' Rm ku := by
  obtain ⟨t, ht, hs, hr, hp, hz, hk⟩ := id h
  rcases she_c p1 with ⟨s, hs8, rfl, g1, m1⟩ | ⟨g1, m1⟩
  rotate_left
  · refine ⟨(-2 : Int32), rz Z 0, R, rv V 0, M, R', ?_, ?_, h.ref (by decide)⟩
    · refine ob (q := (-2 : Int32)) ?_ (by rw [if_neg (by decide)]; exact ob (rc2 _ _ _ _ _ _ _ _) rfl)
      unfold f_X3_troubleWithRows
      rw [if_pos g1]
    · unfold f_X7_copy
      rw [if_pos m1]
      exact ob (rm2 _ _ _) rfl
  rcases she_c p2 with ⟨u, hu8, rfl, g2, m2⟩ | ⟨g2, m2⟩
  rotate_left
  · refine ⟨(-2 : Int32), rz Z 0, R, rv V 0, M, R', ?_, ?_, h.ref (by decide)⟩
    · refine ob (q := (-2 : Int32)) ?_ (by rw [if_neg (by decide)]; exact ob (rc2 _ _ _ _ _ _ _ _) rfl)
      unfold f_X3_troubleWithRows
      rw [if_neg g1, if_pos g2]
    · unfold f_X7_copy
      rw [if_neg m1, if_pos m2]
      exact ob (rm2 _ _ _) rfl
  have h7 := ht.1.n7
  have n10 : ∀ k, k < 7 → ¬ nI (10 + k) < (10 : Int32) := fun k hk => nI_nlt (b := 10) (by omega) (by omega)
  have y10 : ∀ k, k < 7 → (10 : Int32) ≤ nI (10 + k) := fun k hk => nI_le (a := 10) (by omega) (by omega)
  have l10 : ∀ k, k < 7 → nI k < (10 : Int32) := fun k hk => nI_lt (b := 10) (by omega) (by omega)
  have g10 : ∀ k, k < 7 → ¬ (10 : Int32) ≤ nI k := fun k hk => nI_ge (b := 10) (by omega) (by omega)
  rcases hs s hs8 with ⟨a, b, c⟩ | ⟨k, l, a, b, c, d, e, f, i⟩ | ⟨p, a, b, c, d, e⟩
  · rcases hs u hu8 with ⟨a', b', c'⟩ | ⟨k', l', a', b', c', d', e', f', i'⟩ | ⟨p', a', b', c', d', e'⟩
    · refine ⟨(-4 : Int32), rz Z 2, R, rv V 2, M, R', ?_, ?_, h.ref (by decide)⟩
      · refine ob (q := (-4 : Int32)) ?_ (by rw [if_neg (by decide)]; exact ob (rc4 _ _ _ _ _ _ _ _) rfl)
        unfold f_X3_troubleWithRows
        rw [if_neg g1, if_neg g2, if_neg (in8 hs8), nI_clamp (show s < 2 ^ 31 by omega), a, if_neg (by decide), if_neg (in8 hu8), nI_clamp (show u < 2 ^ 31 by omega), a', if_pos (by decide), if_pos rfl]
      · unfold f_X7_copy
        rw [if_neg m1, if_neg m2, if_neg (in8 hs8), nI_clamp (show s < 2 ^ 31 by omega), b, if_neg (by decide), if_neg (in8 hu8), nI_clamp (show u < 2 ^ 31 by omega), b', if_neg (by decide), if_neg (by decide), if_pos rfl]
        exact ob (rm4 _ _ _) rfl
    · refine ⟨(-4 : Int32), rz Z 2, R, rv V 2, M, R', ?_, ?_, h.ref (by decide)⟩
      · refine ob (q := (-4 : Int32)) ?_ (by rw [if_neg (by decide)]; exact ob (rc4 _ _ _ _ _ _ _ _) rfl)
        unfold f_X3_troubleWithRows
        rw [if_neg g1, if_neg g2, if_neg (in8 hs8), nI_clamp (show s < 2 ^ 31 by omega), a, if_neg (by decide), if_neg (in8 hu8), nI_clamp (show u < 2 ^ 31 by omega), c', if_pos (l10 k' (by omega)), if_pos rfl]
      · unfold f_X7_copy
        rw [if_neg m1, if_neg m2, if_neg (in8 hs8), nI_clamp (show s < 2 ^ 31 by omega), b, if_neg (by decide), if_neg (in8 hu8), nI_clamp (show u < 2 ^ 31 by omega), d', if_neg (by decide), if_neg (by decide), if_pos rfl]
        exact ob (rm4 _ _ _) rfl
    · refine ⟨(-3 : Int32), rz Z 1, R, rv V 1, M, R', ?_, ?_, h.ref (by decide)⟩
      · refine ob (q := (-3 : Int32)) ?_ (by rw [if_neg (by decide)]; exact ob (rc3 _ _ _ _ _ _ _ _) rfl)
        unfold f_X3_troubleWithRows
        rw [if_neg g1, if_neg g2, if_neg (in8 hs8), nI_clamp (show s < 2 ^ 31 by omega), a, if_neg (by decide), if_neg (in8 hu8), nI_clamp (show u < 2 ^ 31 by omega), b', if_neg (n10 p' (by omega))]
      · unfold f_X7_copy
        rw [if_neg m1, if_neg m2, if_neg (in8 hs8), nI_clamp (show s < 2 ^ 31 by omega), b, if_neg (by decide), if_neg (in8 hu8), nI_clamp (show u < 2 ^ 31 by omega), c', if_pos rfl]
        exact ob (rm3 _ _ _) rfl
  · rcases hs u hu8 with ⟨a', b', c'⟩ | ⟨k', l', a', b', c', d', e', f', i'⟩ | ⟨p', a', b', c', d', e'⟩
    · refine ⟨(-4 : Int32), rz Z 2, R, rv V 2, M, R', ?_, ?_, h.ref (by decide)⟩
      · refine ob (q := (-4 : Int32)) ?_ (by rw [if_neg (by decide)]; exact ob (rc4 _ _ _ _ _ _ _ _) rfl)
        unfold f_X3_troubleWithRows
        rw [if_neg g1, if_neg g2, if_neg (in8 hs8), nI_clamp (show s < 2 ^ 31 by omega), c, if_neg (g10 k (by omega)), if_neg (in8 hu8), nI_clamp (show u < 2 ^ 31 by omega), a', if_pos (by decide), if_neg (neg1 (by omega)), if_pos rfl]
      · unfold f_X7_copy
        rw [if_neg m1, if_neg m2, if_neg (in8 hs8), nI_clamp (show s < 2 ^ 31 by omega), d, if_neg (by decide), if_neg (in8 hu8), nI_clamp (show u < 2 ^ 31 by omega), b', if_neg (by decide), if_pos rfl, if_neg (by decide), if_neg (by decide), if_pos rfl]
        exact ob (rm4 _ _ _) rfl
    · by_cases ek : k = k'
      · subst ek
        have tw : f_X3_troubleWithRows G R (nI s) (nI u) = some (0 : Int32) := by
          unfold f_X3_troubleWithRows
          rw [if_neg g1, if_neg g2, if_neg (in8 hs8), nI_clamp (show s < 2 ^ 31 by omega), c, if_neg (g10 k (by omega)), if_neg (in8 hu8), nI_clamp (show u < 2 ^ 31 by omega), c', if_pos (l10 k (by omega)), if_neg (neg1 (by omega)), if_neg (neg1 (by omega)), if_pos rfl]
        have z1 : f_X3_sizeOf G R (nI s) = some (nI l) := by
          unfold f_X3_sizeOf
          rw [if_neg g1, if_neg (in8 hs8), nI_clamp (show s < 2 ^ 31 by omega), f]
        have z2 : f_X3_sizeOf G R (nI u) = some (nI l') := by
          unfold f_X3_sizeOf
          rw [if_neg g2, if_neg (in8 hu8), nI_clamp (show u < 2 ^ 31 by omega), f']
        have ref : f_X6_isPart p3 p5 (nI l) = 0 ∨ f_X6_isPart p4 p5 (nI l') = 0 → f_X6_copy Z T1 T2 T3 G R P O B (nI s) (nI u) p3 p4 p5 = some ((-2 : Int32), rz Z 0, R) := fun z => by
          refine ob tw ?_
          rw [if_pos rfl]
          refine ob z1 ?_
          by_cases y : f_X6_isPart p3 p5 (nI l) = 0
          · rw [if_pos y]
            exact ob (rc2 _ _ _ _ _ _ _ _) rfl
          · rw [if_neg y]
            refine ob z2 ?_
            rw [if_pos (z.resolve_left y)]
            exact ob (rc2 _ _ _ _ _ _ _ _) rfl
        have mref : ((p3 < 0 ∨ p5 < 0 ∨ nI l < p5 ∨ nI l - p5 < p3) ∨ (p4 < 0 ∨ p5 < 0 ∨ nI l' < p5 ∨ ¬ p4 ≤ nI l' - p5)) → f_X7_copy U V M R' (nI s) (nI u) p3 p4 p5 = some ((-2 : Int32), rv V 0, M, R') := fun z => by
          unfold f_X7_copy
          rw [if_neg m1, if_neg m2, if_neg (in8 hs8), nI_clamp (show s < 2 ^ 31 by omega), d, if_neg (by decide), if_neg (in8 hu8), nI_clamp (show u < 2 ^ 31 by omega), d', if_neg (by decide), if_pos rfl, if_pos rfl, e, e', if_pos rfl, if_neg (by decide), if_neg (by decide), i, i']
          refine (chain7 z).trans ?_
          exact ob (rm2 _ _ _) rfl
        rcases part_c p3 p5 (l := l) (by omega) with ⟨a1, b1, rfl, rfl, q1, q2⟩ | ⟨q1, q2⟩
        · rcases part_c p4 (nI b1) (l := l') (by omega) with ⟨a2, b2, rfl, q3, q4, q5⟩ | ⟨q3, q4⟩
          · have eb : b1 = b2 := by
              have hb1 : b1 < 2 ^ 31 := by omega
              exact (nI_eq hb1 (by omega)).mp q3
            subst eb
            obtain ⟨M', x1, x2⟩ := pm_mv (s := s) (a := a1) (b := b1) hs8 (by omega) R' M
            obtain ⟨Q, y1, y2, y3⟩ := pm_pt (u := u) (c := a2) (b := b1) hu8 (by omega) R' M'
            refine ⟨nI b1, Z, upL R u (va_cpy (R s) (R u) a1 a2 b1), V, M', Q, ?_, ?_, t, ht, hs, ?_, hp, hz, hk⟩
            · refine ob tw ?_
              rw [if_pos rfl]
              refine ob z1 ?_
              rw [if_neg q2]
              refine ob z2 ?_
              rw [if_neg q5]
              refine ob (q := upL R u (va_cpy (R s) (R u) a1 a2 b1)) ?_ rfl
              unfold f_X3_copyElements
              rw [if_neg (in8 hs8), if_neg (in8 hu8), nI_clamp (show s < 2 ^ 31 by omega), nI_clamp (show u < 2 ^ 31 by omega), nI_clamp (show a1 < 2 ^ 31 by omega), nI_clamp (show a2 < 2 ^ 31 by omega), nI_clamp (show b1 < 2 ^ 31 by omega), if_neg]
              rintro (z | z | z | z | z)
              · exact nI_pos (by omega) z
              · exact nI_pos (by omega) z
              · exact nI_pos (by omega) z
              · omega
              · omega
            · unfold f_X7_copy
              rw [if_neg m1, if_neg m2, if_neg (in8 hs8), nI_clamp (show s < 2 ^ 31 by omega), d, if_neg (by decide), if_neg (in8 hu8), nI_clamp (show u < 2 ^ 31 by omega), d', if_neg (by decide), if_pos rfl, if_pos rfl, e, e', if_pos rfl, if_neg (by decide), if_neg (by decide), i, i', if_neg (nI_pos (by omega)), if_neg (nI_pos (by omega)), if_neg (nI_pos (by omega)), if_neg (nI_nlt (by omega) (by omega)), if_neg (nI_nlt (by omega) (by omega)), pk_sub (show b1 ≤ l by omega), if_neg (nI_nlt (by omega) (by omega)), pk_sub (show b1 ≤ l' by omega), if_pos (nI_le (by omega) (by omega))]
              exact ob x1 (ob y1 rfl)
            · intro w x hw8 hx
              by_cases ew : w = u
              · subst ew
                rw [upL_same, y3 x]
                by_cases z : a2 ≤ x ∧ x < a2 + b1
                · rw [if_pos z, pk_cpy_in z.1 z.2, x2 (x - a2) (by omega), hr s (a1 + (x - a2)) hs8 (by omega)]
                · rw [if_neg z, pk_cpy_out (by omega), hr w x hw8 hx]
              · rw [upL_ne R _ ew, y2 w ew, hr w x hw8 hx]
          · refine ⟨(-2 : Int32), rz Z 0, R, rv V 0, M, R', ref (Or.inr q3), mref (Or.inr ?_), h.ref (by decide)⟩
            rcases q4 with z | z | z | z
            · exact Or.inl z
            · exact Or.inr (Or.inl z)
            · exact Or.inr (Or.inr (Or.inl z))
            · exact Or.inr (Or.inr (Or.inr (Int32.not_le.mpr z)))
        · exact ⟨(-2 : Int32), rz Z 0, R, rv V 0, M, R', ref (Or.inl q1), mref (Or.inl q2), h.ref (by decide)⟩
      · have ek2 : ¬ nI k = nI k' := fun z => ek ((nI_eq (by omega) (by omega)).mp z)
        refine ⟨(-3 : Int32), rz Z 1, R, rv V 1, M, R', ?_, ?_, h.ref (by decide)⟩
        · refine ob (q := (-3 : Int32)) ?_ (by rw [if_neg (by decide)]; exact ob (rc3 _ _ _ _ _ _ _ _) rfl)
          unfold f_X3_troubleWithRows
          rw [if_neg g1, if_neg g2, if_neg (in8 hs8), nI_clamp (show s < 2 ^ 31 by omega), c, if_neg (g10 k (by omega)), if_neg (in8 hu8), nI_clamp (show u < 2 ^ 31 by omega), c', if_pos (l10 k' (by omega)), if_neg (neg1 (by omega)), if_neg (neg1 (by omega)), if_neg ek2]
        · unfold f_X7_copy
          rw [if_neg m1, if_neg m2, if_neg (in8 hs8), nI_clamp (show s < 2 ^ 31 by omega), d, if_neg (by decide), if_neg (in8 hu8), nI_clamp (show u < 2 ^ 31 by omega), d', if_neg (by decide), if_pos rfl, if_pos rfl, e, e', if_neg ek2]
          exact ob (rm3 _ _ _) rfl
    · refine ⟨(-3 : Int32), rz Z 1, R, rv V 1, M, R', ?_, ?_, h.ref (by decide)⟩
      · refine ob (q := (-3 : Int32)) ?_ (by rw [if_neg (by decide)]; exact ob (rc3 _ _ _ _ _ _ _ _) rfl)
        unfold f_X3_troubleWithRows
        rw [if_neg g1, if_neg g2, if_neg (in8 hs8), nI_clamp (show s < 2 ^ 31 by omega), c, if_neg (g10 k (by omega)), if_neg (in8 hu8), nI_clamp (show u < 2 ^ 31 by omega), b', if_neg (n10 p' (by omega))]
      · unfold f_X7_copy
        rw [if_neg m1, if_neg m2, if_neg (in8 hs8), nI_clamp (show s < 2 ^ 31 by omega), d, if_neg (by decide), if_neg (in8 hu8), nI_clamp (show u < 2 ^ 31 by omega), c', if_pos rfl]
        exact ob (rm3 _ _ _) rfl
  · refine ⟨(-3 : Int32), rz Z 1, R, rv V 1, M, R', ?_, ?_, h.ref (by decide)⟩
    · refine ob (q := (-3 : Int32)) ?_ (by rw [if_neg (by decide)]; exact ob (rc3 _ _ _ _ _ _ _ _) rfl)
      unfold f_X3_troubleWithRows
      rw [if_neg g1, if_neg g2, if_neg (in8 hs8), nI_clamp (show s < 2 ^ 31 by omega), b, if_pos (y10 p (by omega))]
    · unfold f_X7_copy
      rw [if_neg m1, if_neg m2, if_neg (in8 hs8), nI_clamp (show s < 2 ^ 31 by omega), c, if_pos rfl]
      exact ob (rm3 _ _ _) rfl
end CP
