/-! ===== pure: somebody told, a town read ===== -/
theorem bind_eta (o : Option (Int32 × TS × TS)) : (o.bind fun q => some (q.1, q.2.1, q.2.2)) = o := by cases o <;> rfl
section PM
variable {n st en : Nat} {P V T U : TS} {t : Tn}
theorem tail_c (h : TkR n st en P V) (ht : TR t T U) (M R : LTS) {p : Nat} (hp : p < t 1 0) : ∃ P1, f_X4_advance P = some P1 ∧ ((∃ x P' V' s' e', x < t 0 0 ∧ f_X4_readSightHeard P1 T (nI p) = some ((1 : Int32), P', up T 9 (upd (T 9) p (nI (wb (t 9 p) x true)))) ∧ f_X7_tells U V M R (0 : Int32) ((U 9 0) - (1 : Int32)) = some ((1 : Int32), V') ∧ TkR n s' e' P' V' ∧ st ≤ s' ∧ V' 27 0 = nI x ∧ Fn V V') ∨ (∃ P' V', f_X4_readSightHeard P1 T (nI p) = some ((0 : Int32), P', T) ∧ f_X7_tells U V M R (0 : Int32) ((U 9 0) - (1 : Int32)) = some ((0 : Int32), V') ∧ P' 1 0 = V' 26 0 ∧ Fn V V')) := by
  obtain ⟨P1, V1, s1, e1, a1, a2, a3, a4, a5⟩ := adv_t h U M R
  refine ⟨P1, a1, ?_⟩
  rcases sh_c (i := 0) a3 ht M R hp (by decide) with ⟨x, P3, V3, s3, e3, hx, c1, c2, c3, c4, c5, c6, c7⟩ | ⟨c1, c2⟩
  · exact Or.inl ⟨x, P3, V3, s3, e3, hx, c1, ob a2 (ob c2 rfl), c3, by omega, c5, a5.trans c7⟩
  · exact Or.inr ⟨_, _, c1, ob a2 (ob c2 rfl), flt a3, a5.up26 _⟩
theorem hp_put (ht : TR t T U) {p x : Nat} (hp : p < t 1 0) (hx : x < t 0 0) : TR (upn t 9 (updn (t 9) p (wb (t 9 p) x true))) (up T 9 (upd (T 9) p (nI (wb (t 9 p) x true)))) (up U 15 (upd (U 15) p ((U 15 p) ||| ((1 : Int32) <<< (nI x &&& 31))))) := by
  have h8 := ht.1.1.2.1
  have := ht.put (j := 9) (p := p) (m := wb (t 9 p) x true) (by decide) (by decide) (wb_lt true (ht.1.heard hp) hx)
  rw [ht.2.2.1.heard hp, pu_one x (by omega), pu_or]
  exact this
theorem st_person (h : TkR n st en P V) (ht : TR t T U) (hfull : t 1 0 < 7) (M R : LTS) : StR n st t V (f_X4_readPerson P T) (f_X7_personTold U V M R) := by
  obtain ⟨P1, V1, s1, e1, a1, a2, a3, a4, a5⟩ := adv_t h U M R
  unfold f_X4_readPerson f_X7_personTold
  rw [a1, show f_X7_tells U V M R (0 : Int32) (5 : Int32) = (f_X7_number U V1 M R (nI 0) (nI 0) (5 : Int32)).bind fun q4 => some (q4.1, q4.2) from ob a2 rfl]
  show StR n st t V ((f_X4_takeNumber P1 (nI 0) (5 : Int32) (0 : Int32)).bind _) _
  rcases num_c (i := 0) a3 (a := 0) (hi := (5 : Int32)) (by decide) (by decide) U M R (by decide) with ⟨k, P2, V2, s2, e2, _, b2, b3, b4, b5, b6, b7, b8, b9⟩ | ⟨b3, b4⟩
  rotate_left
  · right; left
    rw [b3, b4]
    exact ⟨_, _, _, _, rfl, rfl, flt a3, a5.up26 _⟩
  rw [show (5 : Int32).toInt = 5 from by decide] at b2
  have hk : k < 6 := by omega
  rw [b3, b4]
  show StR n st t V (if nI k = (-1 : Int32) then _ else (f_X4_takeNumber P2 (nI 0) (9 : Int32) (0 : Int32)).bind _) ((f_X7_number U V2 M R (nI 1) (nI 0) (9 : Int32)).bind _)
  rw [if_neg (neg1 (by omega))]
  rcases num_c (i := 1) b5 (a := 0) (hi := (9 : Int32)) (by decide) (by decide) U M R (by decide) with ⟨v, P3, V3, s3, e3, _, c2, c3, c4, c5, c6, c7, c8, c9⟩ | ⟨c3, c4⟩
  rotate_left
  · right; left
    rw [c3, c4]
    exact ⟨_, _, _, _, rfl, rfl, flt b5, (a5.trans b9).up26 _⟩
  rw [show (9 : Int32).toInt = 9 from by decide] at c2
  have hv : v < 10 := by omega
  obtain ⟨T4, d1, d2, d3, d4⟩ := pc_join ht.2.1 ht.1 (k := k) (a := v) hfull
  obtain ⟨U4, f1, f2, f3, f4⟩ := pm_join ht.2.2.1 ht.1 (k := k) (a := v) hfull
  have hT4 : TR (jn t k v) T4 U4 := ht.via (jn_wf ht.1 hfull hk hv) d2 f2 (by rw [d3]) (by rw [d4]) (by rw [f3]) (by rw [f4])
  have fV : Fn V V3 := (a5.trans b9).trans c9
  have hp : t 1 0 < jn t k v 1 0 := Nat.lt_succ_self _
  have e10 : U4 10 0 - (1 : Int32) = nI (t 1 0) := by rw [f2.n, show jn t k v 1 0 = t 1 0 + 1 from rfl, nI_pred]
  have ekd : jn t k v 11 (t 1 0) = k := by rw [jn_ar t k v (by decide) (by decide)]; exact updn_same _ _ _
  obtain ⟨w2, x2, y2, z2⟩ := wrd_is c5 U4 M R 2 (by decide)
  obtain ⟨w4, x4, y4, z4⟩ := wrd_is c5 U4 M R 4 (by decide)
  rw [c3, c4]
  show StR n st t V (if nI v = (-1 : Int32) then _ else (f_X5_join T (nI k) (nI v)).bind _) ((f_X7_addOne U (V3 27 0) (V3 27 1)).bind _)
  rw [if_neg (neg1 (by omega)), c7, c8 0 (by decide), b7, d1, f1]
  show StR n st t V ((f_X4_isWord P3 2).bind _) ((f_X7_isWord U4 V3 M R 2).bind _)
  rw [x2, y2]
  show StR n st t V (if w2 = 0 then (f_X4_isWord P3 4).bind _ else _) (if w2 = 0 then (f_X7_isWord U4 V3 M R 4).bind _ else _)
  by_cases cw2 : w2 = 0
  · rw [if_pos cw2, if_pos cw2, x4, y4]
    show StR n st t V (if w4 = 0 then some ((1 : Int32), P3, T4) else (f_X4_advance P3).bind _) (if w4 = 0 then some ((1 : Int32), U4, V3) else (f_X7_tells U4 V3 M R (0 : Int32) ((U4 9 0) - (1 : Int32))).bind _)
    by_cases cw4 : w4 = 0
    · rw [if_pos cw4, if_pos cw4]
      exact Or.inl ⟨P3, T4, U4, V3, _, s3, e3, rfl, rfl, c5, by omega, hT4, Nat.le_succ _, fV⟩
    · rw [if_neg cw4, if_neg cw4]
      obtain ⟨P4, g1, g2⟩ := tail_c c5 hT4 M R hp
      rcases g2 with ⟨x, P5, V5, s5, e5, hx, i1, i2, i3, i4, i5, i6⟩ | ⟨P5, V5, i1, i2, i3, i4⟩
      · left
        rw [i2]
        refine ⟨P5, _, up U4 15 (upd (U4 15) (t 1 0) ((U4 15 (t 1 0)) ||| ((1 : Int32) <<< (nI x &&& 31)))), V5, _, s5, e5, ob g1 (ob i1 rfl), ?_, i3, by omega, hp_put hT4 hp hx, Nat.le_succ _, fV.trans i6⟩
        show (if (U4 10 0 - (1 : Int32)) < 0 ∨ 7 ≤ (U4 10 0 - (1 : Int32)).toNatClampNeg then _ else some ((1 : Int32), (up U4 15 (upd (U4 15) (U4 10 0 - (1 : Int32)).toNatClampNeg ((U4 15 (U4 10 0 - (1 : Int32)).toNatClampNeg) ||| ((1 : Int32) <<< ((V5 27 0) &&& 31))))), V5)) = _
        rw [e10, if_neg (in7 hfull), cl7 hfull, i5]
      · right; left
        rw [i2]
        exact ⟨P5, T4, U4, V5, ob g1 (ob i1 rfl), rfl, i3, fV.trans i4⟩
  · rw [if_neg cw2, if_neg cw2]
    obtain ⟨zt, zl⟩ := z2 cw2
    have zl : e3 = s3 + 3 := zl
    show StR n st t V (if nI k = (4 : Int32) then (f_X4_isFault P3).bind _ else (f_X4_advance P3).bind _) (if (U4 10 0 - (1 : Int32)) < 0 ∨ 7 ≤ (U4 10 0 - (1 : Int32)).toNatClampNeg then _ else if U4 11 (U4 10 0 - (1 : Int32)).toNatClampNeg = (4 : Int32) then (f_X7_isWord U4 V3 M R 4).bind _ else _)
    rw [e10, if_neg (in7 hfull), cl7 hfull, f2.kind hp, ekd]
    by_cases c4 : k = 4
    · subst c4
      have cw4 : w4 = 0 := by
        apply Classical.byContradiction
        intro z
        have : e3 = s3 + 5 := (z4 z).2
        omega
      rw [ifY 4, ifY 4, y4]
      right; right
      refine ⟨up P3 1 (fun _ => P3 4 0), T4, U4, V3, rfl, ?_, ?_, zt, fV⟩
      · show (if w4 = 0 then some ((1 : Int32), U4, V3) else _) = _
        rw [if_pos cw4]
      · show P3 4 0 = V3 24 0
        rw [c5.2.2.1.1, c5.2.2.1.2.1]
    · rw [ifL c4 (by omega) (by decide), ifL c4 (by omega) (by decide)]
      obtain ⟨P4, V4, s4, e4, g1, g2, g3, g4, g5⟩ := adv_t c5 U4 M R
      rw [g1, show f_X7_tells U4 V3 M R (0 : Int32) ((U4 9 0) - (1 : Int32)) = (f_X7_number U4 V4 M R (nI 0) (0 : Int32) ((U4 9 0) - (1 : Int32))).bind fun q4 => some (q4.1, q4.2) from ob g2 rfl]
      show StR n st t V ((f_X4_readSightSeen P4 T4 (nI (t 1 0)) (nI 2)).bind _) _
      rcases ss_c (i := 0) g3 hT4 M R hp (h := 2) (by decide) (by decide) with ⟨x, P5, V5, s5, e5, T5, hx, i1, i2, i3, i4, i5, i6, i7, U5, i8, i9⟩ | ⟨i1, i2⟩
      rotate_left
      · right; left
        rw [i1, i2]
        exact ⟨_, _, _, _, rfl, rfl, flt g3, (fV.trans g5).up26 _⟩
      rw [i1, i2]
      show StR n st t V ((f_X4_isWord P5 4).bind _) ((f_X7_sees U4 (nI (t 1 0)) (V5 27 0) (nI 2)).bind _)
      rw [i5, i8]
      have hp5 : t 1 0 < sn (jn t k v) (t 1 0) x 2 1 0 := by rw [sn_ne _ _ _ _ (by decide) (by decide)]; exact hp
      have hle : t 1 0 ≤ sn (jn t k v) (t 1 0) x 2 1 0 := Nat.le_of_lt hp5
      obtain ⟨w, xw, yw, zw⟩ := wrd_is i3 U5 M R 4 (by decide)
      show StR n st t V _ ((f_X7_isWord U5 V5 M R 4).bind _)
      rw [xw, yw]
      show StR n st t V (if w = 0 then some ((1 : Int32), P5, T5) else (f_X4_advance P5).bind _) (if w = 0 then some ((1 : Int32), U5, V5) else (f_X7_tells U5 V5 M R (0 : Int32) ((U5 9 0) - (1 : Int32))).bind _)
      have fV5 : Fn V V5 := (fV.trans g5).trans i7
      by_cases cw : w = 0
      · rw [if_pos cw, if_pos cw]
        exact Or.inl ⟨P5, T5, U5, V5, _, s5, e5, rfl, rfl, i3, by omega, i9, hle, fV5⟩
      · rw [if_neg cw, if_neg cw]
        obtain ⟨P6, j1, j2⟩ := tail_c i3 i9 M R hp5
        rcases j2 with ⟨x7, P7, V7, s7, e7, hx7, l1, l2, l3, l4, l5, l6⟩ | ⟨P7, V7, l1, l2, l3, l4⟩
        · left
          rw [l2]
          refine ⟨P7, _, up U5 15 (upd (U5 15) (t 1 0) ((U5 15 (t 1 0)) ||| ((1 : Int32) <<< (nI x7 &&& 31)))), V7, _, s7, e7, ob j1 (ob l1 rfl), ?_, l3, by omega, hp_put i9 hp5 hx7, hle, fV5.trans l6⟩
          rw [← l5]
          rfl
        · right; left
          rw [l2]
          exact ⟨P7, T5, U5, V7, ob j1 (ob l1 rfl), rfl, l3, fV5.trans l4⟩
theorem st_all (h : TkR n st en P V) (ht : TR t T U) (M R : LTS) : StR n st t V (f_X4_readStatement P T) (f_X7_statement U V M R) := by
  have h7 := ht.1.n7
  obtain ⟨w0, x0, y0, z0⟩ := wrd_is h U M R 0 (by decide)
  obtain ⟨w1, x1, y1, z1⟩ := wrd_is h U M R 1 (by decide)
  obtain ⟨w2, x2, y2, z2⟩ := wrd_is h U M R 2 (by decide)
  obtain ⟨w3, x3, y3, z3⟩ := wrd_is h U M R 3 (by decide)
  obtain ⟨w4, x4, y4, z4⟩ := wrd_is h U M R 4 (by decide)
  obtain ⟨w5, x5, y5, z5⟩ := wrd_is h U M R 5 (by decide)
  obtain ⟨w6, x6, y6, z6⟩ := wrd_is h U M R 6 (by decide)
  obtain ⟨w7, x7, y7, z7⟩ := wrd_is h U M R 7 (by decide)
  obtain ⟨w8, x8, y8, z8⟩ := wrd_is h U M R 8 (by decide)
  have no : StR n st t V ((f_X4_isFault P).bind fun q => some (q.1, q.2, T)) ((f_X7_wrong U V M R).bind fun q => some (q.1, U, q.2)) := by
    right; left
    exact ⟨_, _, _, _, rfl, rfl, flt h, fun j hj => up_ne _ _ (by omega)⟩
  unfold f_X4_readStatement f_X7_statement
  simp only [x0, x1, x2, x3, x4, x5, x6, x7, x8, y0, y1, y2, y3, y4, y5, y6, y7, y8, Option.bind_some, bind_eta]
  by_cases c0 : w0 = 0
  · rw [if_pos c0, if_pos c0]
    by_cases c1 : w1 = 0
    · rw [if_pos c1, if_pos c1]
      by_cases c2 : w2 = 0
      · rw [if_pos c2, if_pos c2]
        by_cases c3 : w3 = 0
        · rw [if_pos c3, if_pos c3]
          by_cases c4 : w4 = 0
          · rw [if_pos c4, if_pos c4]
            by_cases c5 : w5 = 0
            · rw [if_pos c5, if_pos c5]
              by_cases c6 : w6 = 0
              · rw [if_pos c6, if_pos c6]
                by_cases c7 : w7 = 0
                · rw [if_pos c7, if_pos c7]
                  by_cases c8 : w8 = 0
                  · rw [if_pos c8, if_pos c8]
                    exact no
                  · rw [if_neg c8, if_neg c8]
                    exact st_setting h ht (k := 2) (by decide) M R
                · rw [if_neg c7, if_neg c7]
                  exact st_setting h ht (k := 1) (by decide) M R
              · rw [if_neg c6, if_neg c6]
                exact st_setting h ht (k := 0) (by decide) M R
            · rw [if_neg c5, if_neg c5]
              exact st_hears h ht M R
          · rw [if_neg c4, if_neg c4]
            exact st_heard h ht M R
        · rw [if_neg c3, if_neg c3]
          exact st_seen h ht (k := 1) (by decide) M R
      · rw [if_neg c2, if_neg c2]
        exact st_seen h ht (k := 2) (by decide) M R
    · rw [if_neg c1, if_neg c1]
      have len : ∀ {w : Int32} (l : Nat), l ≠ 6 → (¬ w = 0 → V 23 0 = 1 ∧ en = st + l) → w = 0 := fun l hl hz => by
        apply Classical.byContradiction
        intro c
        have e1 : en = st + 6 := (z1 c1).2
        have e2 := (hz c).2
        omega
      have r2 := len 3 (by decide) z2
      have r3 := len 4 (by decide) z3
      have r4 := len 5 (by decide) z4
      have r5 := len 5 (by decide) z5
      have r6 := len 4 (by decide) z6
      have r7 := len 5 (by decide) z7
      have r8 := len 4 (by decide) z8
      by_cases cf : t 1 0 = 7
      · have e6 : ¬ f_X5_isFull T = 0 := by
          unfold f_X5_isFull
          rw [ht.2.1.n, cf]
          decide
        have e7 : (7 : Int32) ≤ U 10 0 := by rw [ht.2.2.1.n, cf]; decide
        rw [if_neg e6, if_pos e7, if_pos r2, if_pos r3, if_pos r4, if_pos r5, if_pos r6, if_pos r7, if_pos r8]
        exact no
      · have e6 : f_X5_isFull T = 0 := by
          unfold f_X5_isFull
          rw [ht.2.1.n, if_pos (show nI (t 1 0) < (7 : Int32) from nI_lt (b := 7) (by omega) (by decide))]
        have e7 : ¬ (7 : Int32) ≤ U 10 0 := by rw [ht.2.2.1.n]; exact nI_ge (b := 7) (by omega) (by decide)
        rw [if_pos e6, if_neg e7]
        exact st_person h ht (by omega) M R
  · rw [if_neg c0, if_neg c0]
    exact st_sights h ht M R
theorem st_end (h : TkR n st en P V) (U : TS) (M R : LTS) (h0 : V 23 0 = 0) : f_X7_statement U V M R = some ((0 : Int32), U, up V 26 (fun _ => V 24 0)) := by
  have z : ∀ i, i < 9 → f_X7_isWord U V M R i = some 0 := fun i hi => by
    unfold f_X7_isWord
    rw [h0, if_neg (by decide)]
  unfold f_X7_statement
  simp only [z 0 (by decide), z 1 (by decide), z 2 (by decide), z 3 (by decide), z 4 (by decide), z 5 (by decide), z 6 (by decide), z 7 (by decide), z 8 (by decide), Option.bind_some, if_true]
  rfl
end PM
theorem TkR.v28 {n st en : Nat} {P V : TS} (h : TkR n st en P V) (f : Nat → Int32) : TkR n st en P (up V 28 f) := h
def Fz (V V' : TS) : Prop := ∀ j, j < 22 → V' j = V j
theorem Fn.fz {V V' : TS} (h : Fn V V') : Fz V V' := fun j hj => h j (Or.inl hj)
theorem Fz.trans {A B C : TS} (h : Fz A B) (h2 : Fz B C) : Fz A C := fun j hj => (h2 j hj).trans (h j hj)
def eF : TS × TS → Option (Int32 × TS × TS) := fun q6x => some ((-1 : Int32), (up q6x.1 1 (fun _ => (q6x.1 4 0))), q6x.2)
def RdR (t : Tn) (V : TS) (r : Option (Int32 × TS × TS)) (q : Option ((Int32 × TS × TS) ⊕ (TS × TS))) : Prop := (∃ k P' T' U' V' t', k ≤ 250 ∧ r = some (nI k, P', T') ∧ q = some (.inr (U', V')) ∧ V' 28 0 = nI k ∧ TR t' T' U' ∧ t 1 0 ≤ t' 1 0 ∧ Fz V V') ∨ (∃ P' T' U' V', r = some ((-1 : Int32), P', T') ∧ q = some (.inl ((0 : Int32), U', V')) ∧ P' 1 0 = V' 26 0 ∧ Fz V V')
def C6 (n6 : Nat) (c : Nat) (P T : TS) : Option ((Int32 × TS × TS) ⊕ (TS × TS)) := if P 3 0 = 0 then some (.inl (nI c, P, T)) else if P 3 0 = (3 : Int32) then (f_X4_advance P).bind fun q14 => L_X4_readInto_11 n6 (nI c + (1 : Int32)) q14 T else some (.inl ((-1 : Int32), (up P 1 (fun _ => P 4 0)), T))
theorem rd_key (M R : LTS) : ∀ (d c n6 m n st en : Nat) (P V T U : TS) (t : Tn), c + d = 250 → d < n6 → d + 1 < m → TkR n st en P V → TR t T U → c ≤ st + 1 → V 28 0 = nI c → RdR t V ((C6 n6 c P T).bind (eo eF)) (L_X7_readAll_23 M R m U V) := by
  intro d
  induction d with
  | zero =>
    intro c n6 m n st en P V T U t h1 h2 h3 hk ht hst h28
    obtain ⟨n6, rfl⟩ : ∃ k, n6 = k + 1 := ⟨n6 - 1, by omega⟩
    obtain ⟨m, rfl⟩ : ∃ k, m = k + 1 := ⟨m - 1, by omega⟩
    have st7 : L_X7_readAll_23 M R (m + 1) U V = (if V 23 0 = 0 then some (.inr (U, V)) else if V 23 0 = (3 : Int32) then (f_X7_look U V M R).bind fun q12 => (f_X7_statement U q12 M R).bind fun q14 => if q14.1 = 0 then some (.inl ((0 : Int32), q14.2.1, q14.2.2)) else L_X7_readAll_23 M R m q14.2.1 (up q14.2.2 28 (fun _ => ((q14.2.2 28 0) + (1 : Int32)))) else (f_X7_wrong U V M R).bind fun q17 => some (.inl (q17.1, U, q17.2))) := rfl
    rw [st7]
    unfold C6
    rw [hk.2.2.2.1]
    by_cases c0 : V 23 0 = 0
    · rw [if_pos c0, if_pos c0]
      exact Or.inl ⟨c, P, T, U, V, t, by omega, rfl, rfl, h28, ht, Nat.le_refl _, fun _ _ => rfl⟩
    · rw [if_neg c0, if_neg c0]
      by_cases c3 : V 23 0 = (3 : Int32)
      · rw [if_pos c3, if_pos c3]
        obtain ⟨⟨hn, k0, k7, hl⟩, ⟨k1, k2⟩, ⟨k4, k24, k5, k22⟩, _, kne, hf⟩ := id hk
        obtain ⟨P1, V1, s1, e1, a1, a2, a3, a4, a5, a6⟩ := adv_c (n := n) (P := P) (V := V) ⟨hn, k0, k7, hl⟩ k2 k5 k22 U M R
        have z0 : V1 23 0 = 0 := by
          rcases a3.2.2.2.2.1 with z | z
          · exact z
          · exfalso
            have := a3.2.1.2
            rcases kne with y | y
            · exact c0 y
            · omega
        rw [a1, a2]
        right
        refine ⟨up P1 1 (fun _ => P1 4 0), T, U, up V1 26 (fun _ => V1 24 0), ?_, ?_, flt a3, (a6.fn.up26 _).fz⟩
        · show ((L_X4_readInto_11 (n6 + 1) (nI c + (1 : Int32)) P1 T).bind (eo eF)) = _
          refine ob (q := .inr (P1, T)) ?_ rfl
          show (if (250 : Int32) < nI c + (1 : Int32) then _ else _) = _
          rw [nI_1, if_pos (show (250 : Int32) < nI (c + 1) from nI_lt (a := 250) (by omega) (by omega))]
        · show (f_X7_statement U V1 M R).bind _ = _
          rw [st_end a3 U M R z0]
          rfl
      · rw [if_neg c3, if_neg c3]
        right
        exact ⟨_, _, _, _, rfl, rfl, flt hk, fun j hj => up_ne _ _ (by omega)⟩
  | succ d ih =>
    intro c n6 m n st en P V T U t h1 h2 h3 hk ht hst h28
    obtain ⟨n6, rfl⟩ : ∃ k, n6 = k + 1 := ⟨n6 - 1, by omega⟩
    obtain ⟨m, rfl⟩ : ∃ k, m = k + 1 := ⟨m - 1, by omega⟩
    have st7 : L_X7_readAll_23 M R (m + 1) U V = (if V 23 0 = 0 then some (.inr (U, V)) else if V 23 0 = (3 : Int32) then (f_X7_look U V M R).bind fun q12 => (f_X7_statement U q12 M R).bind fun q14 => if q14.1 = 0 then some (.inl ((0 : Int32), q14.2.1, q14.2.2)) else L_X7_readAll_23 M R m q14.2.1 (up q14.2.2 28 (fun _ => ((q14.2.2 28 0) + (1 : Int32)))) else (f_X7_wrong U V M R).bind fun q17 => some (.inl (q17.1, U, q17.2))) := rfl
    rw [st7]
    unfold C6
    rw [hk.2.2.2.1]
    by_cases c0 : V 23 0 = 0
    · rw [if_pos c0, if_pos c0]
      exact Or.inl ⟨c, P, T, U, V, t, by omega, rfl, rfl, h28, ht, Nat.le_refl _, fun _ _ => rfl⟩
    · rw [if_neg c0, if_neg c0]
      by_cases c3 : V 23 0 = (3 : Int32)
      · rw [if_pos c3, if_pos c3]
        obtain ⟨⟨hn, k0, k7, hl⟩, ⟨k1, k2⟩, ⟨k4, k24, k5, k22⟩, _, kne, hf⟩ := id hk
        obtain ⟨P1, V1, s1, e1, a1, a2, a3, a4, a5, a6⟩ := adv_c (n := n) (P := P) (V := V) ⟨hn, k0, k7, hl⟩ k2 k5 k22 U M R
        have hs1 : st + 1 ≤ s1 := by
          rcases kne with y | y
          · exact absurd y c0
          · omega
        have st6 : L_X4_readInto_11 (n6 + 1) (nI c + (1 : Int32)) P1 T = (f_X4_readStatement P1 T).bind fun q9 => if q9.1 = 0 then some (.inl ((-1 : Int32), q9.2.1, q9.2.2)) else C6 n6 (c + 1) q9.2.1 q9.2.2 := by
          show (if (250 : Int32) < nI c + (1 : Int32) then _ else _) = _
          rw [nI_1, if_neg (show ¬ (250 : Int32) < nI (c + 1) from nI_nlt (a := 250) (by omega) (by decide))]
          rfl
        rw [a1, a2]
        show RdR t V ((L_X4_readInto_11 (n6 + 1) (nI c + (1 : Int32)) P1 T).bind (eo eF)) ((f_X7_statement U V1 M R).bind _)
        rw [st6]
        have h28' : V1 28 0 = nI c := by rw [a6 28 (by decide)]; exact h28
        rcases st_all a3 ht M R with ⟨P2, T2, U2, V2, t2, s2, e2, b1, b2, b3, b4, b5, b6, b7⟩ | ⟨P2, T2, U2, V2, b1, b2, b3, b4⟩ | ⟨P2, T2, U2, V2, b1, b2, b3, b4, b5⟩
        · rw [b1, b2]
          have e28 : V2 28 0 + (1 : Int32) = nI (c + 1) := by rw [b7 28 (by decide), h28', nI_1]
          have := ih (c + 1) n6 m n s2 e2 P2 (up V2 28 (fun _ => V2 28 0 + (1 : Int32))) T2 U2 t2 (by omega) (by omega) (by omega) (b3.v28 _) b5 (by omega) e28
          have fr : Fz V (up V2 28 (fun _ => V2 28 0 + (1 : Int32))) := fun j hj => by rw [up_ne _ _ (by omega), b7 j (Or.inl hj), a6 j (Or.inl hj)]
          show RdR t V ((C6 n6 (c + 1) P2 T2).bind (eo eF)) (L_X7_readAll_23 M R m U2 (up V2 28 (fun _ => V2 28 0 + (1 : Int32))))
          rcases this with ⟨k, P', T', U', V', t', x1, x2, x3, x4, x5, x6, x7⟩ | ⟨P', T', U', V', x1, x2, x3, x4⟩
          · exact Or.inl ⟨k, P', T', U', V', t', x1, x2, x3, x4, x5, by omega, fr.trans x7⟩
          · exact Or.inr ⟨P', T', U', V', x1, x2, x3, fr.trans x4⟩
        · rw [b1, b2]
          exact Or.inr ⟨P2, T2, U2, V2, rfl, rfl, b3, a6.fn.fz.trans b4.fz⟩
        · rw [b1, b2]
          right
          obtain ⟨m, rfl⟩ : ∃ k, m = k + 1 := ⟨m - 1, by omega⟩
          refine ⟨P2, T2, U2, up (up V2 28 (fun _ => V2 28 0 + (1 : Int32))) 26 (fun _ => V2 24 0), rfl, ?_, b3, fun j hj => by rw [up_ne _ _ (by omega), up_ne _ _ (by omega), b5 j (Or.inl hj), a6 j (Or.inl hj)]⟩
          show (if V2 23 0 = 0 then _ else if V2 23 0 = (3 : Int32) then _ else _) = _
          rw [b4, if_neg (by decide), if_neg (by decide)]
          rfl
      · rw [if_neg c3, if_neg c3]
        right
        exact ⟨_, _, _, _, rfl, rfl, flt hk, fun j hj => up_ne _ _ (by omega)⟩
def RaR (t : Tn) (V : TS) (r q : Option (Int32 × TS × TS)) : Prop := (∃ k P' T' U' V' t', k ≤ 250 ∧ r = some (nI k, P', T') ∧ q = some ((1 : Int32), U', V') ∧ V' 28 0 = nI k ∧ TR t' T' U' ∧ t 1 0 ≤ t' 1 0 ∧ Fz V V') ∨ (∃ P' T' U' V', r = some ((-1 : Int32), P', T') ∧ q = some ((0 : Int32), U', V') ∧ P' 1 0 = V' 26 0 ∧ Fz V V')
theorem rd_all {P V T U : TS} {t : Tn} (hp : TaR P V) (ht : TR t T U) (M R : LTS) : RaR t V (f_X4_readInto P T) (f_X7_readAll U V M R) := by
  obtain ⟨n, hn, h0, h7, hl⟩ := hp
  obtain ⟨P1, V1, s1, e1, a1, a2, a3, a4, a5, a6⟩ := adv_c (n := n) (en := 0) (P := up P 5 (fun _ => (0 : Int32))) (V := up (up V 28 (fun _ => (1 : Int32))) 22 (fun _ => (0 : Int32))) ⟨hn, h0, h7, hl⟩ (Nat.zero_le _) rfl rfl U M R
  have fr1 : Fz V V1 := fun j hj => by rw [a6 j (Or.inl hj), up_ne _ _ (by omega), up_ne _ _ (by omega)]
  have h28 : V1 28 0 = nI 1 := by rw [a6 28 (by decide)]; rfl
  unfold f_X4_readInto f_X7_readAll
  rw [a1, a2]
  show RaR t V ((L_X4_readInto_11 300 (nI 1) P1 T).bind (eo eF)) ((f_X7_statement U V1 M R).bind _)
  have st6 : L_X4_readInto_11 300 (nI 1) P1 T = (f_X4_readStatement P1 T).bind fun q9 => if q9.1 = 0 then some (.inl ((-1 : Int32), q9.2.1, q9.2.2)) else C6 299 1 q9.2.1 q9.2.2 := by
    show (if (250 : Int32) < nI 1 then _ else _) = _
    rw [if_neg (by decide)]
    rfl
  rw [st6]
  rcases st_all a3 ht M R with ⟨P2, T2, U2, V2, t2, s2, e2, b1, b2, b3, b4, b5, b6, b7⟩ | ⟨P2, T2, U2, V2, b1, b2, b3, b4⟩ | ⟨P2, T2, U2, V2, b1, b2, b3, b4, b5⟩
  · rw [b1, b2]
    have := rd_key M R 249 1 299 300 n s2 e2 P2 V2 T2 U2 t2 rfl (by decide) (by decide) b3 b5 (by omega) (by rw [b7 28 (by decide)]; exact h28)
    show RaR t V ((C6 299 1 P2 T2).bind (eo eF)) ((L_X7_readAll_23 M R 300 U2 V2).bind (eo fun q8x => some ((1 : Int32), q8x.1, q8x.2)))
    rcases this with ⟨k, P', T', U', V', t', x1, x2, x3, x4, x5, x6, x7⟩ | ⟨P', T', U', V', x1, x2, x3, x4⟩
    · exact Or.inl ⟨k, P', T', U', V', t', x1, x2, ob x3 rfl, x4, x5, by omega, (fr1.trans b7.fz).trans x7⟩
    · exact Or.inr ⟨P', T', U', V', x1, ob x2 rfl, x3, (fr1.trans b7.fz).trans x4⟩
  · rw [b1, b2]
    exact Or.inr ⟨P2, T2, U2, V2, rfl, rfl, b3, fr1.trans b4.fz⟩
  · rw [b1, b2]
    right
    refine ⟨P2, T2, U2, up V2 26 (fun _ => V2 24 0), rfl, ?_, b3, fun j hj => by rw [up_ne _ _ (by omega), b5 j (Or.inl hj), fr1 j hj]⟩
    show ((L_X7_readAll_23 M R 300 U2 V2).bind (eo fun q8x => some ((1 : Int32), q8x.1, q8x.2))) = _
    refine ob (q := .inl ((0 : Int32), U2, up V2 26 (fun _ => V2 24 0))) ?_ rfl
    show (if V2 23 0 = 0 then _ else if V2 23 0 = (3 : Int32) then _ else _) = _
    rw [b4, if_neg (by decide), if_neg (by decide)]
    rfl
section OPS
variable {Z T1 T2 G P U V : TS} {R R' : LTS} {ku : Option TS}
theorem op_town (h : Rl Z T1 T2 G R P U V R' ku) (T3 O B : TS) (M : LTS) (tp : Option (Nat → Int32)) : ∃ a Z' T1' T3' P' U' V' tp', f_X6_town Z T1 T2 T3 G R P O B = some (a, Z', T1', T3', P') ∧ f_X7_town U V M R' tp = some (a, U', V', tp') ∧ Rl Z' T1' T2 G R P' U' V' R' ku := by
  obtain ⟨t, ht, hs, hr, hp, hz, hk⟩ := id h
  obtain ⟨T0, b1, b2, b3, b4⟩ := pc_become ht.2.1 ht.1 T3
  have hT0 : TR t T0 U := ⟨ht.1, b2, ht.2.2.1, by rw [b3]; exact ht.2.2.2.1, by rw [b4]; exact ht.2.2.2.2⟩
  rcases rd_all hp hT0 M R' with ⟨k, P', T', U', V', t', x1, x2, x3, x4, x5, x6, x7⟩ | ⟨P', T', U', V', x1, x2, x3, x4⟩
  · obtain ⟨T9, c1, c2, c3, c4⟩ := pc_become x5.2.1 x5.1 T1
    refine ⟨nI k, Z, T9, T', up P' 0 (fun _ => (0 : Int32)), U', up V' 7 (fun _ => (0 : Int32)), some ((fr0 U tp) 29), ?_, ?_, t', ⟨x5.1, c2, x5.2.2.1, by rw [c3]; exact x5.2.2.2.1, by rw [c4]; exact x5.2.2.2.2⟩, (hs.mono x6).vm ?_ ?_ ?_ ?_, hr, ⟨0, by decide, rfl, rfl, fun i hi => absurd hi (Nat.not_lt_zero i)⟩, ?_, hk⟩
    · unfold f_X6_town
      refine ob b1 (ob x2 ?_)
      show (if nI k = (-1 : Int32) then _ else (f_X5_become T1 T').bind _) = _
      rw [if_neg (neg1 (by omega))]
      exact ob c1 rfl
    · unfold f_X7_town
      refine ob x3 ?_
      show (if (1 : Int32) = 0 then _ else some ((V' 28 0), U', (up V' 7 (fun _ => (0 : Int32))), (some ((fr0 U tp) 29)))) = _
      rw [if_neg (show ¬ (1 : Int32) = 0 by decide), x4]
    · rw [up_ne _ _ (by decide), x7 0 (by decide)]
    · rw [up_ne _ _ (by decide), x7 1 (by decide)]
    · rw [up_ne _ _ (by decide), x7 2 (by decide)]
    · rw [up_ne _ _ (by decide), x7 5 (by decide)]
    · unfold ReR
      rw [up_ne _ _ (by decide), x7 8 (by decide)]
      exact hz
  · obtain ⟨U9, d1, d2⟩ := takeFrom_ok U' (fr0 U tp)
    have hU9 : TM t U9 := d2.tm ht.1 ((fr0_tm ht.2.2.1 tp).junk (by decide))
    have hV : Rl Z T1 T2 G R (up P' 0 (fun _ => (0 : Int32))) U9 (up V' 7 (fun _ => (0 : Int32))) R' ku := by
      refine ⟨t, ⟨ht.1, ht.2.1, hU9, ?_, ?_⟩, hs.vm ?_ ?_ ?_ ?_, hr, ⟨0, by decide, rfl, rfl, fun i hi => absurd hi (Nat.not_lt_zero i)⟩, ?_, hk⟩
      · rw [d2.1.2.2.1, up_ne _ _ (by decide), fr0_ne U tp (by decide)]; exact ht.2.2.2.1
      · rw [d2.1.2.2.2, up_ne _ _ (by decide), fr0_ne U tp (by decide)]; exact ht.2.2.2.2
      · rw [up_ne _ _ (by decide), x4 0 (by decide)]
      · rw [up_ne _ _ (by decide), x4 1 (by decide)]
      · rw [up_ne _ _ (by decide), x4 2 (by decide)]
      · rw [up_ne _ _ (by decide), x4 5 (by decide)]
      · unfold ReR
        rw [up_ne _ _ (by decide), x4 8 (by decide)]
        exact hz
    refine ⟨(-20 : Int32) - (P' 1 0), rz Z 0, T1, T', up P' 0 (fun _ => (0 : Int32)), U9, rv (up V' 7 (fun _ => (0 : Int32))) 0, some ((fr0 U tp) 29), ?_, ?_, hV.ref (by decide)⟩
    · unfold f_X6_town
      refine ob b1 (ob x1 ?_)
      show (if (-1 : Int32) = (-1 : Int32) then (f_X6_refuse Z T1 T2 T' G R (up P' 0 (fun _ => (0 : Int32))) O B (-2 : Int32)).bind _ else _) = _
      rw [if_pos rfl]
      exact ob (rc2 _ _ _ _ _ _ _ _) rfl
    · unfold f_X7_town
      refine ob x2 ?_
      show (if (0 : Int32) = 0 then (f_X7_takeFrom U' (fr0 U tp)).bind _ else _) = _
      rw [if_pos rfl]
      refine ob d1 (ob (rm2 _ _ _) ?_)
      show some ((-20 : Int32) - (V' 26 0), _, _, _) = _
      rw [x3]
end OPS
