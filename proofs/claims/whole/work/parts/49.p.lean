/-! ===== pure: shelves ===== -/
def nm (c : Nat) : Int32 := (-2 : Int32) - nI c
theorem nm_0 : nm 0 = -2 := by decide
theorem nm_1 : nm 1 = -3 := by decide
theorem nm_2 : nm 2 = -4 := by decide
theorem nm_ne : ∀ c, c < 5 → ¬ nm c = 0 := by decide
section SH
variable {Z T1 T2 G P U V : TS} {R R' : LTS} {ku : Option TS} {n : Nat}
theorem rcn {c : Nat} (hc : c < 3) (T1 T2 T3 G4 : TS) (R4 : LTS) (P5 O7 B7 : TS) : f_X6_refuse Z T1 T2 T3 G4 R4 P5 O7 B7 (nm c) = some (nm c, rz Z c) := by
  rcases (show c = 0 ∨ c = 1 ∨ c = 2 by omega) with rfl | rfl | rfl
  · exact rc2 _ _ _ _ _ _ _ _
  · exact rc3 _ _ _ _ _ _ _ _
  · exact rc4 _ _ _ _ _ _ _ _
theorem neg1 {k : Nat} (hk : k < 2 ^ 31) : ¬ nI k = (-1 : Int32) := fun y => by
  have := congrArg Int32.toInt y
  rw [nI_toInt hk, show (-1 : Int32).toInt = -1 from by decide] at this
  omega
theorem shelf_y {s : Nat} (h : s < 8) : ¬ f_X6_isShelf (nI s) = 0 := by
  revert s
  decide
theorem row_c (hs : ShR n G V) (hn : n ≤ 7) (x p2 : Int32) (U : TS) (M : LTS) (Rm : LTS) : (∃ c : Nat, c < 3 ∧ f_X3_troubleWithRow G R x p2 = some (nm c) ∧ f_X7_noRow U V M Rm x = some (nm c, rv V c)) ∨ (∃ s k m : Nat, s < 8 ∧ x = nI s ∧ k < 5 ∧ m ≤ 40 ∧ G 0 s = nI k ∧ V 0 s = 1 ∧ V 1 s = nI k ∧ G 1 s = nI m ∧ V 2 s = nI m ∧ f_X3_troubleWithRow G R x p2 = some (if p2 ≤ nI m then (0 : Int32) else (-2 : Int32)) ∧ f_X7_noRow U V M Rm x = some ((0 : Int32), V)) := by
  unfold f_X3_troubleWithRow f_X7_noRow
  rcases she_c x with ⟨s, hs8, rfl, g, m⟩ | ⟨g, m⟩
  · rw [if_neg g, if_neg m, if_neg (in8 hs8), if_neg (in8 hs8), nI_clamp (by omega)]
    rcases hs s hs8 with ⟨a, b, c⟩ | ⟨k, l, a, b, c, d, e, f, i⟩ | ⟨p, a, b, c, d, e⟩
    · left
      refine ⟨2, by decide, ?_, ?_⟩
      · rw [a, if_pos (by decide), if_pos rfl]; rfl
      · rw [b, if_neg (by decide), if_pos rfl]
        exact ob (rm4 _ _ _) rfl
    · right
      refine ⟨s, k, l, hs8, rfl, a, b, c, d, e, f, i, ?_, ?_⟩
      · rw [c, f, if_pos (show nI k < (10 : Int32) from nI_lt (b := 10) (by omega) (by decide)), if_neg (neg1 (by omega))]
      · rw [d, if_neg (by decide), if_neg (by decide)]
    · left
      refine ⟨1, by decide, ?_, ?_⟩
      · rw [b, if_neg (show ¬ nI (10 + p) < (10 : Int32) from nI_nlt (b := 10) (by omega) (by omega))]; rfl
      · rw [c, if_pos rfl]
        exact ob (rm3 _ _ _) rfl
  · left
    refine ⟨0, by decide, ?_, ?_⟩
    · rw [if_pos g]; rfl
    · rw [if_pos m]
      exact ob (rm2 _ _ _) rfl
theorem RoR.upd (h : RoR R R') {s i : Nat} (x : Int64) : RoR (upL R s (vp_updL (R s) i x)) (upL R' s (vp_updL (R' s) i x)) := fun a b ha hb => by
  by_cases e : a = s
  · subst e
    rw [upL_same, upL_same]
    by_cases f : b = i
    · subst f; rw [pk_uLs, pk_uLs]
    · rw [pk_uLn f, pk_uLn f]; exact h a b ha hb
  · rw [upL_ne R _ e, upL_ne R' _ e]; exact h a b ha hb
theorem both_row (h : RoR R R') {s : Nat} (hs : s < 8) : ∃ Q Q', L_X3_putRow_17 (nI s) 300 (0 : Int32) R = some Q ∧ L_X7_row_67 (nI s) 300 (0 : Int32) R' = some Q' ∧ RoR Q Q' := by
  refine lup2 (N := 40) (fun k i s0 => L_X3_putRow_17 (nI s) k (nI i) s0) (fun k i s0 => L_X7_row_67 (nI s) k (nI i) s0) (fun _ a b => RoR a b) (fun a b => RoR a b) (fun k a b hab => ⟨a, b, ?_, ?_, hab⟩) (fun k i a b hi hab => Or.inl ⟨_, _, hab.upd (s := s) (i := i) 0, ?_, ?_⟩) 40 0 300 R R' rfl (by decide) h
  · show (if (40 : Int32) ≤ nI 40 then _ else _) = _
    rw [if_pos (by decide)]
  · show (if (40 : Int32) ≤ nI 40 then _ else _) = _
    rw [if_pos (by decide)]
  · show (if (40 : Int32) ≤ nI i then _ else if nI i < 0 ∨ 40 ≤ (nI i).toNatClampNeg then _ else _) = _
    rw [if_neg (show ¬ (40 : Int32) ≤ nI i from nI_ge (b := 40) hi (by decide)), if_neg (in40 hi), nI_clamp (show i < 2 ^ 31 by omega), nI_clamp (show s < 2 ^ 31 by omega), nI_1]
  · show (if (40 : Int32) ≤ nI i then _ else if nI i < 0 ∨ 40 ≤ (nI i).toNatClampNeg then _ else _) = _
    rw [if_neg (show ¬ (40 : Int32) ≤ nI i from nI_ge (b := 40) hi (by decide)), if_neg (in40 hi), nI_clamp (show i < 2 ^ 31 by omega), nI_clamp (show s < 2 ^ 31 by omega), nI_1]
theorem op_row (h : Rl Z T1 T2 G R P U V R' ku) (T3 O B : TS) (M : LTS) (p1 : Int32) (p2 : Int32) (p3 : Int32) : ∃ a Z' G' Rn V' Rm, f_X6_row Z T1 T2 T3 G R P O B p1 p2 p3 = some (a, Z', G', Rn) ∧ f_X7_row U V M R' p1 p2 p3 = some (a, V', Rm) ∧ Rl Z' T1 T2 G' Rn P U V' Rm ku := by
  obtain ⟨t, ht, hs, hr, hp, hz, hk⟩ := id h
  rcases she_c p1 with ⟨s, hs8, rfl, g0, m0⟩ | ⟨g0, m0⟩
  rotate_left
  · refine ⟨(-2 : Int32), rz Z 0, G, R, rv V 0, R', ?_, ?_, h.ref (by decide)⟩
    · unfold f_X6_row
      rw [if_pos g0]
      exact ob (rc2 _ _ _ _ _ _ _ _) rfl
    · unfold f_X7_row
      rw [if_pos m0]
      exact ob (rm2 _ _ _) rfl
  rcases wi_c p2 0 4 (a := (0 : Int32)) (b := (4 : Int32)) (A := (0 : Int64)) (B := (4 : Int64)) rfl rfl (by decide) (by decide) (by decide) (by decide) with ⟨k, k0, hk4, rfl, g1, m1⟩ | ⟨g1, m1⟩
  rotate_left
  · refine ⟨(-2 : Int32), rz Z 0, G, R, rv V 0, R', ?_, ?_, h.ref (by decide)⟩
    · unfold f_X6_row
      rw [if_neg g0, if_pos g1]
      exact ob (rc2 _ _ _ _ _ _ _ _) rfl
    · unfold f_X7_row
      rw [if_neg m0, if_pos m1]
      exact ob (rm2 _ _ _) rfl
  rcases wi_c p3 0 40 (a := (0 : Int32)) (b := (40 : Int32)) (A := (0 : Int64)) (B := (40 : Int64)) rfl rfl (by decide) (by decide) (by decide) (by decide) with ⟨m, m00, hm40, rfl, g2, m2⟩ | ⟨g2, m2⟩
  rotate_left
  · refine ⟨(-2 : Int32), rz Z 0, G, R, rv V 0, R', ?_, ?_, h.ref (by decide)⟩
    · unfold f_X6_row
      rw [if_neg g0, if_neg g1, if_pos g2]
      exact ob (rc2 _ _ _ _ _ _ _ _) rfl
    · unfold f_X7_row
      rw [if_neg m0, if_neg m1, if_pos m2]
      exact ob (rm2 _ _ _) rfl
  obtain ⟨Q, Q', b1, b2, b3⟩ := both_row hr hs8
  refine ⟨(1 : Int32), Z, up (up G 0 (upd (G 0) s (nI k))) 1 (upd (G 1) s (nI m)), Q, up (up (up V 0 (upd (V 0) s (1 : Int32))) 1 (upd (V 1) s (nI k))) 2 (upd (V 2) s (nI m)), Q', ?_, ?_, t, ht, fun c hc => ?_, b3, hp.vm rfl rfl, hz, hk⟩
  · unfold f_X6_row
    rw [if_neg g0, if_neg g1, if_neg g2]
    refine ob (q := (up (up G 0 (upd (G 0) s (nI k))) 1 (upd (G 1) s (nI m)), Q)) ?_ rfl
    unfold f_X3_putRow
    rw [if_neg (in8 hs8), nI_clamp (show s < 2 ^ 31 by omega)]
    exact ob b1 rfl
  · unfold f_X7_row
    rw [if_neg m0, if_neg m1, if_neg m2, if_neg (in8 hs8), nI_clamp (show s < 2 ^ 31 by omega)]
    exact ob b2 rfl
  · by_cases e : c = s
    · subst e
      exact Or.inr (Or.inl ⟨k, m, by omega, hm40, pk_us, pk_us, pk_us, pk_us, pk_us⟩)
    · have u : ∀ (f : Nat → Int32) (y : Int32), upd f s y c = f c := fun f y => pk_un e
      have h9 := hs c hc
      unfold ShE at h9 ⊢
      rw [show up (up G 0 (upd (G 0) s (nI k))) 1 (upd (G 1) s (nI m)) 0 c = G 0 c from u _ _, show up (up G 0 (upd (G 0) s (nI k))) 1 (upd (G 1) s (nI m)) 1 c = G 1 c from u _ _, show up (up (up V 0 (upd (V 0) s (1 : Int32))) 1 (upd (V 1) s (nI k))) 2 (upd (V 2) s (nI m)) 0 c = V 0 c from u _ _, show up (up (up V 0 (upd (V 0) s (1 : Int32))) 1 (upd (V 1) s (nI k))) 2 (upd (V 2) s (nI m)) 1 c = V 1 c from u _ _, show up (up (up V 0 (upd (V 0) s (1 : Int32))) 1 (upd (V 1) s (nI k))) 2 (upd (V 2) s (nI m)) 2 c = V 2 c from u _ _]
      exact h9
theorem fit_eq (v : Int64) : ∀ k, k < 5 → f_X3_lowestBits (nI k) v = f_X7_fit (nI k) v := fun k hk => by
  rcases (show k = 0 ∨ k = 1 ∨ k = 2 ∨ k = 3 ∨ k = 4 by omega) with rfl | rfl | rfl | rfl | rfl <;> rfl
theorem op_set (h : Rl Z T1 T2 G R P U V R' ku) (T3 O B : TS) (M : LTS) (p1 : Int32) (p2 : Int32) (p3 : Int64) : ∃ a Z' Rn V' Rm, f_X6_set Z T1 T2 T3 G R P O B p1 p2 p3 = some (a, Z', Rn) ∧ f_X7_set U V M R' p1 p2 p3 = some (a, V', Rm) ∧ Rl Z' T1 T2 G Rn P U V' Rm ku := by
  obtain ⟨t, ht, hs, hr, hp, hz, hk⟩ := id h
  rcases row_c (R := R) hs ht.1.n7 p1 (0 : Int32) U M R' with ⟨c, hc, a6, a7⟩ | ⟨s, k, m, hs8, rfl, hk5, hm, e1, e2, e3, e4, e5, a6, a7⟩
  · refine ⟨nm c, rz Z c, R, rv V c, R', ?_, ?_, h.ref (by omega)⟩
    · refine ob a6 ?_
      rw [if_neg (nm_ne c (by omega))]
      exact ob (rcn hc _ _ _ _ _ _ _ _) rfl
    · refine ob a7 ?_
      exact if_neg (nm_ne c (by omega))
  · rw [if_pos (show (0 : Int32) ≤ nI m from nI_pos' (by omega))] at a6
    have hsz : f_X3_sizeOf G R (nI s) = some (nI m) := by
      unfold f_X3_sizeOf
      rcases she_c (nI s) with ⟨_, _, _, g, _⟩ | ⟨g, _⟩
      · rw [if_neg g, if_neg (in8 hs8), nI_clamp (by omega), e4]
      · exact absurd g (shelf_y hs8)
    have hin : f_X7_in p2.toInt64 (0 : Int64) (((V 2 s) - (1 : Int32)).toInt64) = f_X6_isWithin p2 (0 : Int32) (nI m - (1 : Int32)) := by rw [e5]; exact in_c p2 _ _ (by decide) rfl
    rcases bel_c p2 (n := m) (by omega) with ⟨j, hj, rfl, _, g⟩ | ⟨_, g⟩
    · refine ⟨(1 : Int32), Z, upL R s (vp_updL (R s) j (f_X3_lowestBits (nI k) p3)), V, upL R' s (vp_updL (R' s) j (f_X3_lowestBits (nI k) p3)), ?_, ?_, t, ht, hs, hr.upd _, hp, hz, hk⟩
      · refine ob a6 ?_
        rw [if_pos rfl]
        refine ob hsz ?_
        rw [if_neg g]
        refine ob (q := upL R s (vp_updL (R s) j (f_X3_lowestBits (nI k) p3))) ?_ rfl
        unfold f_X3_putElement
        rw [if_neg (in8 hs8), if_neg (in40 (by omega)), nI_clamp (show s < 2 ^ 31 by omega), nI_clamp (show j < 2 ^ 31 by omega), e1]
      · refine ob a7 ?_
        show (if (0 : Int32) = 0 then (if nI s < 0 ∨ 8 ≤ (nI s).toNatClampNeg then _ else _) else _) = _
        rw [if_pos rfl, if_neg (in8 hs8), nI_clamp (show s < 2 ^ 31 by omega)]
        show (if f_X7_in (nI j).toInt64 (0 : Int64) (((V 2 s) - (1 : Int32)).toInt64) = 0 then _ else _) = _
        rw [hin, if_neg g, if_neg (in40 (by omega)), nI_clamp (show j < 2 ^ 31 by omega)]
        show some ((1 : Int32), V, upL R' s (vp_updL (R' s) j (f_X7_fit (V 1 s) p3))) = _
        rw [e3, fit_eq _ _ hk5]
    · refine ⟨(-2 : Int32), rz Z 0, R, rv V 0, R', ?_, ?_, h.ref (by decide)⟩
      · refine ob a6 ?_
        rw [if_pos rfl]
        refine ob hsz ?_
        rw [if_pos g]
        exact ob (rc2 _ _ _ _ _ _ _ _) rfl
      · refine ob a7 ?_
        show (if (0 : Int32) = 0 then (if nI s < 0 ∨ 8 ≤ (nI s).toNatClampNeg then _ else _) else _) = _
        rw [if_pos rfl, if_neg (in8 hs8), nI_clamp (show s < 2 ^ 31 by omega)]
        show (if f_X7_in p2.toInt64 (0 : Int64) (((V 2 s) - (1 : Int32)).toInt64) = 0 then _ else _) = _
        rw [hin, if_pos g]
        exact ob (rm2 _ _ _) rfl
theorem elem_c {s i : Nat} (hs8 : s < 8) {m : Nat} (hm : m ≤ 40) (e : G 1 s = nI m) (hi : i < m) : f_X3_elementOf G R (nI s) (nI i) = some (R s i) := by
  unfold f_X3_elementOf
  rw [if_neg (shelf_y hs8), if_neg (nI_pos (by omega)), if_neg (in8 hs8), nI_clamp (show s < 2 ^ 31 by omega), e, if_neg (nI_ge hi (by omega)), if_neg (in40 (by omega)), nI_clamp (show i < 2 ^ 31 by omega)]
theorem op_element (h : Rl Z T1 T2 G R P U V R' ku) (T3 O B : TS) (M : LTS) (p1 : Int32) (p2 : Int32) : ∃ a, f_X6_element Z T1 T2 T3 G R P O B p1 p2 = some a ∧ f_X7_element U V M R' p1 p2 = some a ∧ Rl Z T1 T2 G R P U V R' ku := by
  obtain ⟨t, ht, hs, hr, hp, hz, hk⟩ := id h
  unfold f_X6_element f_X3_elementOf f_X7_element
  rcases she_c p1 with ⟨s, hs8, rfl, g, m⟩ | ⟨g, m⟩
  · rw [if_neg g, if_neg m, if_neg (in8 hs8), if_neg (in8 hs8), nI_clamp (show s < 2 ^ 31 by omega)]
    rcases hs s hs8 with ⟨a, b, c⟩ | ⟨k, l, a, b, c, d, e, f, i⟩ | ⟨p, a, b, c, d, e⟩
    · refine ⟨(0 : Int64), ?_, by rw [b, if_neg (by decide)], h⟩
      rw [c]
      by_cases z : p2 < 0
      · rw [if_pos z]; rfl
      · rw [if_neg z, if_pos (Int32.not_lt.mp z)]; rfl
    · rw [d, if_pos rfl, f, i, show f_X7_in p2.toInt64 (0 : Int64) ((nI l - (1 : Int32)).toInt64) = f_X6_isWithin p2 (0 : Int32) (nI l - (1 : Int32)) from in_c p2 _ _ (by decide) rfl]
      rcases bel_c p2 (n := l) (by omega) with ⟨j, hj, rfl, g1, g2⟩ | ⟨g1, g2⟩
      · refine ⟨R s j, ?_, ?_, h⟩
        · rw [if_neg (nI_pos (by omega)), if_neg (nI_ge hj (by omega)), if_neg (in40 (by omega)), nI_clamp (show j < 2 ^ 31 by omega)]; rfl
        · rw [if_neg g2, if_neg (in40 (by omega)), nI_clamp (show j < 2 ^ 31 by omega), hr s j hs8 (by omega)]
      · refine ⟨(0 : Int64), ?_, by rw [if_pos g2], h⟩
        by_cases z : p2 < 0
        · rw [if_pos z]; rfl
        · rw [if_neg z] at g1
          by_cases y : nI l ≤ p2
          · rw [if_neg z, if_pos y]; rfl
          · rw [if_neg y] at g1; exact absurd g1 (by decide)
    · refine ⟨(0 : Int64), ?_, by rw [c, if_neg (by decide)], h⟩
      rw [e]
      by_cases z : p2 < 0
      · rw [if_pos z]; rfl
      · rw [if_neg z, if_pos (Int32.not_lt.mp z)]; rfl
  · exact ⟨(0 : Int64), by rw [if_pos g]; rfl, by rw [if_pos m], h⟩
theorem op_holds (h : Rl Z T1 T2 G R P U V R' ku) (T3 O B : TS) (M : LTS) (p1 : Int32) : ∃ a, f_X6_holds Z T1 T2 T3 G R P O B p1 = some a ∧ f_X7_holds U V M R' p1 = some a ∧ Rl Z T1 T2 G R P U V R' ku := by
  obtain ⟨t, ht, hs, hr, hp, hz, hk⟩ := id h
  unfold f_X6_holds f_X3_heldBy f_X7_holds
  rcases she_c p1 with ⟨s, hs8, rfl, g, m⟩ | ⟨g, m⟩
  · rw [if_neg g, if_neg m, if_neg (in8 hs8), if_neg (in8 hs8), nI_clamp (show s < 2 ^ 31 by omega)]
    rcases hs s hs8 with ⟨a, b, c⟩ | ⟨k, l, a, b, c, d, e, f, i⟩ | ⟨p, a, b, c, d, e⟩
    · exact ⟨(-1 : Int32), by rw [a]; rfl, by rw [b, if_pos rfl], h⟩
    · exact ⟨nI k, by rw [c]; rfl, by rw [d, if_neg (by decide), if_pos rfl, e], h⟩
    · refine ⟨nI (10 + p), by rw [b]; rfl, ?_, h⟩
      rw [c, if_neg (by decide), if_neg (by decide), d, show (10 : Int32) = nI 10 from rfl, nI_add]
  · exact ⟨(-1 : Int32), by rw [if_pos g]; rfl, by rw [if_pos m], h⟩
theorem ShR.set {n : Nat} (hs : ShR n G V) {s : Nat} {x y z w : Int32} (hE : ShE n (fun j _ => if j = 0 then x else if j = 1 then y else 0) (fun j _ => if j = 0 then z else if j = 5 then w else 0) s) (hz : z = 0 ∨ z = 2) : ShR n (up (up G 0 (upd (G 0) s x)) 1 (upd (G 1) s y)) (up (up V 0 (upd (V 0) s z)) 5 (upd (V 5) s w)) := fun c hc => by
  by_cases e : c = s
  · subst e
    rcases hE with ⟨a, b, d⟩ | ⟨k, l, a, b, d, e, _⟩ | ⟨p, a, b, d, e, f⟩
    · exact Or.inl ⟨(show up (up G 0 (upd (G 0) c x)) 1 (upd (G 1) c y) 0 c = x from pk_us).trans a, (show up (up V 0 (upd (V 0) c z)) 5 (upd (V 5) c w) 0 c = z from pk_us).trans b, (show up (up G 0 (upd (G 0) c x)) 1 (upd (G 1) c y) 1 c = y from pk_us).trans d⟩
    · have e : z = 1 := e
      rcases hz with rfl | rfl
      · exact absurd e (by decide)
      · exact absurd e (by decide)
    · exact Or.inr (Or.inr ⟨p, a, (show up (up G 0 (upd (G 0) c x)) 1 (upd (G 1) c y) 0 c = x from pk_us).trans b, (show up (up V 0 (upd (V 0) c z)) 5 (upd (V 5) c w) 0 c = z from pk_us).trans d, (show up (up V 0 (upd (V 0) c z)) 5 (upd (V 5) c w) 5 c = w from pk_us).trans e, (show up (up G 0 (upd (G 0) c x)) 1 (upd (G 1) c y) 1 c = y from pk_us).trans f⟩)
  · have u : ∀ (f : Nat → Int32) (y : Int32), upd f s y c = f c := fun f y => pk_un e
    have h9 := hs c hc
    unfold ShE at h9 ⊢
    rw [show up (up G 0 (upd (G 0) s x)) 1 (upd (G 1) s y) 0 c = G 0 c from u _ _, show up (up G 0 (upd (G 0) s x)) 1 (upd (G 1) s y) 1 c = G 1 c from u _ _, show up (up V 0 (upd (V 0) s z)) 5 (upd (V 5) s w) 0 c = V 0 c from u _ _, show up (up V 0 (upd (V 0) s z)) 5 (upd (V 5) s w) 5 c = V 5 c from u _ _]
    exact h9
theorem op_show (h : Rl Z T1 T2 G R P U V R' ku) (T3 O B : TS) (M : LTS) (p1 : Int32) (p2 : Int32) : ∃ a Z' G' V', f_X6_show Z T1 T2 T3 G R P O B p1 p2 = some (a, Z', G') ∧ f_X7_show U V M R' p1 p2 = some (a, V') ∧ Rl Z' T1 T2 G' R P U V' R' ku := by
  obtain ⟨t, ht, hs, hr, hp, hz, hk⟩ := id h
  rcases she_c p1 with ⟨s, hs8, rfl, g0, m0⟩ | ⟨g0, m0⟩
  rotate_left
  · refine ⟨(-2 : Int32), rz Z 0, G, rv V 0, ?_, ?_, h.ref (by decide)⟩
    · unfold f_X6_show
      rw [if_pos g0]
      exact ob (rc2 _ _ _ _ _ _ _ _) rfl
    · unfold f_X7_show
      rw [if_pos m0]
      exact ob (rm2 _ _ _) rfl
  by_cases e : p2 = (-1 : Int32)
  · subst e
    refine ⟨(1 : Int32), Z, up (up G 0 (upd (G 0) s (-1 : Int32))) 1 (upd (G 1) s (0 : Int32)), up (up V 0 (upd (V 0) s (0 : Int32))) 5 (upd (V 5) s (-1 : Int32)), ?_, ?_, t, ht, hs.set (Or.inl ⟨rfl, rfl, rfl⟩) (Or.inl rfl), hr, hp.vm rfl rfl, hz, hk⟩
    · unfold f_X6_show
      rw [if_neg g0, if_pos rfl]
      refine ob (q := up (up G 0 (upd (G 0) s (-1 : Int32))) 1 (upd (G 1) s (0 : Int32))) ?_ rfl
      unfold f_X3_putOne
      rw [if_neg (in8 hs8), nI_clamp (show s < 2 ^ 31 by omega), if_pos rfl]
    · unfold f_X7_show
      rw [if_neg m0, if_pos rfl, if_neg (in8 hs8), nI_clamp (show s < 2 ^ 31 by omega), if_pos rfl]
  · rcases one_c ht p2 with ⟨p, hp1, rfl, g1, m1⟩ | ⟨g1, m1⟩
    · have h7 := ht.1.n7
      refine ⟨(1 : Int32), Z, up (up G 0 (upd (G 0) s (nI (10 + p)))) 1 (upd (G 1) s (0 : Int32)), up (up V 0 (upd (V 0) s (2 : Int32))) 5 (upd (V 5) s (nI p)), ?_, ?_, t, ht, hs.set (Or.inr (Or.inr ⟨p, hp1, rfl, rfl, rfl, rfl⟩)) (Or.inr rfl), hr, hp.vm rfl rfl, hz, hk⟩
      · unfold f_X6_show
        rw [if_neg g0, if_neg e, if_neg g1]
        refine ob (q := up (up G 0 (upd (G 0) s (nI (10 + p)))) 1 (upd (G 1) s (0 : Int32))) ?_ rfl
        unfold f_X3_putOne
        rw [if_neg (in8 hs8), nI_clamp (show s < 2 ^ 31 by omega), if_neg e, show (10 : Int32) = nI 10 from rfl, nI_add]
      · unfold f_X7_show
        rw [if_neg m0, if_neg e, if_neg m1, if_neg (in8 hs8), nI_clamp (show s < 2 ^ 31 by omega), if_neg e]
    · refine ⟨(-2 : Int32), rz Z 0, G, rv V 0, ?_, ?_, h.ref (by decide)⟩
      · unfold f_X6_show
        rw [if_neg g0, if_neg e, if_pos g1]
        exact ob (rc2 _ _ _ _ _ _ _ _) rfl
      · unfold f_X7_show
        rw [if_neg m0, if_neg e, if_pos m1]
        exact ob (rm2 _ _ _) rfl
theorem pcd : ∀ k, k < 9 → ∀ m, m < 2 ^ k → pc (dif (2 ^ k - 1) m) = k - pc m ∧ pc m ≤ k := by decide +kernel
theorem und_eq {t : Tn} {T : TS} (h : TC t T) (hw : wf t) {p : Nat} (hp : p < t 1 0) {k : Nat} (hk : k < 6) : f_X5_isOfKind T (nI p) (nI k) = some (f_X7_isUnder (nI (t 11 p)) (nI k)) := by
  have p7 := lt7 hw hp
  have hd := hw.kind hp
  unfold f_X5_isOfKind
  rw [if_neg (in7 p7), cl7 p7, h.kind hp]
  congr 1
  have key : ∀ d, d < 6 → ∀ k, k < 6 → (if nI k = nI d then (1 : Int32) else (if nI k = 0 then (1 : Int32) else (if nI k = (2 : Int32) then (if nI d = (3 : Int32) then (1 : Int32) else (0 : Int32)) else (0 : Int32)))) = f_X7_isUnder (nI d) (nI k) := by decide +kernel
  exact key _ hd _ hk
theorem op_says (h : Rl Z T1 T2 G R P U V R' ku) (T3 O B : TS) (M : LTS) (p1 : Int32) (p2 : Int32) : ∃ a Z' V', f_X6_says Z T1 T2 T3 G R P O B p1 p2 = some (a, Z') ∧ f_X7_says U V M R' p1 p2 = some (a, V') ∧ Rl Z' T1 T2 G R P U V' R' ku := by
  obtain ⟨t, ht, hs, hr, hp, hz, hk⟩ := id h
  rcases she_c p1 with ⟨s, hs8, rfl, g0, m0⟩ | ⟨g0, m0⟩
  rotate_left
  · refine ⟨(-2 : Int32), rz Z 0, rv V 0, ?_, ?_, h.ref (by decide)⟩
    · unfold f_X6_says f_X6_isKind
      rw [if_pos g0]
      exact ob (rc2 _ _ _ _ _ _ _ _) rfl
    · unfold f_X7_says
      rw [if_pos m0]
      exact ob (rm2 _ _ _) rfl
  rcases wi_c p2 0 5 (a := (0 : Int32)) (b := (5 : Int32)) (A := (0 : Int64)) (B := (5 : Int64)) rfl rfl (by decide) (by decide) (by decide) (by decide) with ⟨k, k0, hk5, rfl, g1, m1⟩ | ⟨g1, m1⟩
  rotate_left
  · refine ⟨(-2 : Int32), rz Z 0, rv V 0, ?_, ?_, h.ref (by decide)⟩
    · unfold f_X6_says f_X6_isKind
      rw [if_neg g0, if_pos g1]
      exact ob (rc2 _ _ _ _ _ _ _ _) rfl
    · unfold f_X7_says
      rw [if_neg m0, if_pos m1]
      exact ob (rm2 _ _ _) rfl
  have h7 := ht.1.n7
  have held : f_X3_heldBy G R (nI s) = some (G 0 s) := by
    unfold f_X3_heldBy
    rw [if_neg g0, if_neg (in8 hs8), nI_clamp (show s < 2 ^ 31 by omega)]
  rcases hs s hs8 with ⟨a, b, c⟩ | ⟨j, l, a, b, c, d, e, f, i⟩ | ⟨p, a, b, c, d, e⟩
  · refine ⟨(-4 : Int32), rz Z 2, rv V 2, ?_, ?_, h.ref (by decide)⟩
    · unfold f_X6_says f_X6_isKind
      rw [if_neg g0, if_neg g1]
      refine ob held ?_
      rw [if_pos a]
      exact ob (rc4 _ _ _ _ _ _ _ _) rfl
    · unfold f_X7_says
      rw [if_neg m0, if_neg m1, if_neg (in8 hs8), nI_clamp (show s < 2 ^ 31 by omega)]
      rw [b, if_neg (by decide), if_neg (by decide), if_pos rfl]
      exact ob (rm4 _ _ _) rfl
  · have one0 : f_X5_isOne T1 (G 0 s - (10 : Int32)) = 0 := by
      unfold f_X5_isOne
      rw [c, if_pos (show nI j - (10 : Int32) < 0 from pk_sneg (b := 10) (by decide) (by omega))]
    refine ⟨(-3 : Int32), rz Z 1, rv V 1, ?_, ?_, h.ref (by decide)⟩
    · unfold f_X6_says f_X6_isKind
      rw [if_neg g0, if_neg g1]
      refine ob held ?_
      rw [if_neg (by rw [c]; exact neg1 (by omega)), if_pos one0]
      exact ob (rc3 _ _ _ _ _ _ _ _) rfl
    · unfold f_X7_says
      rw [if_neg m0, if_neg m1, if_neg (in8 hs8), nI_clamp (show s < 2 ^ 31 by omega)]
      rw [d, if_pos rfl]
      exact ob (rm3 _ _ _) rfl
  · have p7 := lt7 ht.1 a
    have hd := ht.1.kind a
    have e10 : G 0 s - (10 : Int32) = nI p := by rw [b, show (10 : Int32) = nI 10 from rfl, pk_sub (by omega), Nat.add_sub_cancel_left]
    have ok6 := isOne_y ht.2.1 ht.1 a
    have und := und_eq ht.2.1 ht.1 a (k := k) (by omega)
    by_cases un : f_X7_isUnder (nI (t 11 p)) (nI k) = 0
    · refine ⟨(-3 : Int32), rz Z 1, rv V 1, ?_, ?_, h.ref (by decide)⟩
      · unfold f_X6_says f_X6_isKind
        rw [if_neg g0, if_neg g1]
        refine ob held ?_
        rw [if_neg (by rw [b]; exact neg1 (by omega)), e10, if_neg ok6]
        refine ob und ?_
        rw [if_pos un]
        exact ob (rc3 _ _ _ _ _ _ _ _) rfl
      · unfold f_X7_says
        rw [if_neg m0, if_neg m1, if_neg (in8 hs8), nI_clamp (show s < 2 ^ 31 by omega)]
        rw [c, if_neg (by decide), if_pos rfl, d, if_neg (in7 p7), cl7 p7, ht.2.2.1.kind a, if_pos un]
        exact ob (rm3 _ _ _) rfl
    · have h8 := ht.1.1.2.1
      have b7 := k8 ht.1 (ht.1.see a)
      have b9 := k8 ht.1 (ht.1.heard a)
      have b10 : t 10 p < 256 := ht.1.lt8 (by decide) (by decide) a
      have bb := k8 ht.1 (bar_lt ht.1 a)
      have pcb := pcd (t 0 0) (by omega) (bar t p) (bar_lt ht.1 a)
      refine ⟨(if k = 0 then nI (say t p) else if k = 1 then nI (pc (t 10 p)) else if k = 2 then nI (t 0 0 - pc (bar t p)) else if k = 3 then fst1 (bar t p) else if k = 4 then nI (pc (t 9 p)) else fst1 (t 7 p)), Z, V, ?_, ?_, h⟩
      · unfold f_X6_says f_X6_isKind
        rw [if_neg g0, if_neg g1]
        refine ob held ?_
        rw [if_neg (by rw [b]; exact neg1 (by omega)), e10, if_neg ok6]
        refine ob und ?_
        rw [if_neg un]
        refine ob (q := (if k = 0 then nI (say t p) else if k = 1 then nI (pc (t 10 p)) else if k = 2 then nI (t 0 0 - pc (bar t p)) else if k = 3 then fst1 (bar t p) else if k = 4 then nI (pc (t 9 p)) else fst1 (t 7 p))) ?_ rfl
        clear g0 m0 g1 m1 und un held
        unfold f_X5_sayingAs
        rw [if_neg (in7 p7), if_neg (in7 p7), if_neg (in7 p7), cl7 p7, pc_bar ht.2.1 ht.1 a, pc_say ht.2.1 ht.1 a, ht.2.1.hears a, ht.2.1.heard a, ht.2.1.see a, pu_bc _ b10, pu_bc _ b9, pu_firstOf b7, ht.2.1.1 0 (by decide)]
        rcases (show k = 0 ∨ k = 1 ∨ k = 2 ∨ k = 3 ∨ k = 4 ∨ k = 5 by omega) with rfl | rfl | rfl | rfl | rfl | rfl
        · rfl
        · rfl
        · show some (nI (t 0 0) - f_J6_bitCount_0f7a4 (nI (bar t p))) = some (nI (t 0 0 - pc (bar t p)))
          rw [pu_bc _ bb, pk_sub pcb.2]
        · show (f_X6_firstOf (nI (bar t p))).bind _ = some (fst1 (bar t p))
          rw [pu_firstOf bb]
          rfl
        · rfl
        · rfl
      · unfold f_X7_says
        rw [if_neg m0, if_neg m1, if_neg (in8 hs8), nI_clamp (show s < 2 ^ 31 by omega), c, if_neg (by decide), if_pos rfl, d, if_neg (in7 p7), cl7 p7, ht.2.2.1.kind a, if_neg un, if_neg (by decide)]
        clear g0 m0 g1 m1 und un held
        rw [pm_bar ht.2.2.1 ht.1 a, pm_say ht.2.2.1 ht.1 a, ht.2.2.1.hears a, ht.2.2.1.heard a, ht.2.2.1.see a, pm_bits b10, pm_bits b9, pm_firstOf b7, pm_allSights ht.2.2.1 ht.1]
        rcases (show k = 0 ∨ k = 1 ∨ k = 2 ∨ k = 3 ∨ k = 4 ∨ k = 5 by omega) with rfl | rfl | rfl | rfl | rfl | rfl
        · rfl
        · rfl
        · rw [if_neg (by decide), if_neg (by decide), if_pos (by decide)]
          refine ob (q := nI (bar t p)) rfl ?_
          rw [pu_dif, pm_bits (dif_lt8 _ (k8 ht.1 (alS_lt t))), show pc (dif (alS t) (bar t p)) = t 0 0 - pc (bar t p) from pcb.1]
          rfl
        · show (f_X7_firstOf (nI (bar t p))).bind _ = some (fst1 (bar t p), V)
          rw [pm_firstOf bb]
          rfl
        · rfl
        · rfl
end SH
