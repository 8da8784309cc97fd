/-! ===== pure: nights, draws, what's kept, the tape, status ===== -/
def nf7 (t : Tn) (i p : Nat) : Nat := if p < i ∧ t 11 p = 5 then dif (t 7 p) (fbs 1 (t 7 p)) else t 7 p
def nf9 (t : Tn) (i p : Nat) : Nat := if p < i ∧ t 11 p = 5 then t 9 p ||| fbs 1 (t 7 p) else t 9 p
def niI (t : Tn) (i : Nat) : Tn := upn (upn t 7 (nf7 t i)) 9 (nf9 t i)
theorem upn_4 (t : Tn) (a b a' b' : Nat → Nat) : upn (upn (upn (upn t 7 a) 9 b) 7 a') 9 b' = upn (upn t 7 a') 9 b' := by
  funext j
  by_cases h9 : j = 9
  · subst h9; rw [upn_same, upn_same]
  · rw [upn_ne _ _ h9, upn_ne _ b' h9]
    by_cases h7 : j = 7
    · subst h7; rw [upn_same, upn_same]
    · rw [upn_ne _ _ h7, upn_ne _ _ h9, upn_ne _ _ h7, upn_ne _ _ h7]
theorem niI_7 (t : Tn) (i : Nat) : niI t i 7 = nf7 t i := rfl
theorem niI_9 (t : Tn) (i : Nat) : niI t i 9 = nf9 t i := rfl
theorem niI_ne (t : Tn) (i : Nat) {j : Nat} (h7 : j ≠ 7) (h9 : j ≠ 9) : niI t i j = t j := by
  unfold niI
  rw [upn_ne _ _ h9, upn_ne _ _ h7]
theorem niI_0 (t : Tn) : niI t 0 = t := by
  funext j
  by_cases h9 : j = 9
  · subst h9; rw [niI_9]; funext p; exact if_neg (fun z => Nat.not_lt_zero p z.1)
  · by_cases h7 : j = 7
    · subst h7; rw [niI_7]; funext p; exact if_neg (fun z => Nat.not_lt_zero p z.1)
    · rw [niI_ne t 0 h7 h9]
theorem fbs1_lt {t : Tn} (hw : wf t) {p : Nat} (hp : p < t 1 0) : fbs 1 (t 7 p) < 2 ^ t 0 0 := fbs_k (t 0 0) (by have := hw.1.2.1; omega) _ (hw.see hp) 1 (by decide)
theorem niI_wf {t : Tn} (hw : wf t) (i : Nat) : wf (niI t i) := by
  have a : wf (upn t 7 (nf7 t i)) := hw.put (by decide) (fun p hp => by
    show (if _ then _ else _) < 2 ^ t 0 0
    split
    · exact dif_lt (hw.see hp)
    · exact hw.see hp)
  exact a.put (by decide) (fun p hp => by
    have hp : p < t 1 0 := hp
    show (if _ then _ else _) < 2 ^ t 0 0
    split
    · exact Nat.or_lt_two_pow (hw.heard hp) (fbs1_lt hw hp)
    · exact hw.heard hp)
theorem nf7_at (t : Tn) {i p : Nat} (h : i ≤ p) : nf7 t i p = t 7 p := if_neg (fun z => by omega)
theorem nf9_at (t : Tn) {i p : Nat} (h : i ≤ p) : nf9 t i p = t 9 p := if_neg (fun z => by omega)
theorem nf7_s (t : Tn) {i : Nat} (h : t 11 i = 5) : nf7 t (i + 1) = updn (nf7 t i) i (dif (t 7 i) (fbs 1 (t 7 i))) := by
  funext p
  show (if p < i + 1 ∧ t 11 p = 5 then _ else _) = (if p = i then _ else if p < i ∧ t 11 p = 5 then _ else _)
  by_cases e : p = i
  · subst e; rw [if_pos ⟨Nat.lt_succ_self p, h⟩, if_pos rfl]
  · rw [if_neg e]
    have : (p < i + 1 ∧ t 11 p = 5) ↔ (p < i ∧ t 11 p = 5) := by constructor <;> (intro z; exact ⟨by omega, z.2⟩)
    simp only [this]
theorem nf9_s (t : Tn) {i : Nat} (h : t 11 i = 5) : nf9 t (i + 1) = updn (nf9 t i) i (t 9 i ||| fbs 1 (t 7 i)) := by
  funext p
  show (if p < i + 1 ∧ t 11 p = 5 then _ else _) = (if p = i then _ else if p < i ∧ t 11 p = 5 then _ else _)
  by_cases e : p = i
  · subst e; rw [if_pos ⟨Nat.lt_succ_self p, h⟩, if_pos rfl]
  · rw [if_neg e]
    have : (p < i + 1 ∧ t 11 p = 5) ↔ (p < i ∧ t 11 p = 5) := by constructor <;> (intro z; exact ⟨by omega, z.2⟩)
    simp only [this]
theorem niI_n (t : Tn) {i : Nat} (h : ¬ t 11 i = 5) : niI t (i + 1) = niI t i := by
  have e : ∀ p, (p < i + 1 ∧ t 11 p = 5) ↔ (p < i ∧ t 11 p = 5) := fun p => by
    constructor
    · intro z
      exact ⟨by
        by_cases q : p = i
        · subst q; exact absurd z.2 h
        · omega, z.2⟩
    · intro z; exact ⟨by omega, z.2⟩
  have e7 : nf7 t (i + 1) = nf7 t i := by funext p; unfold nf7; simp only [e p]
  have e9 : nf9 t (i + 1) = nf9 t i := by funext p; unfold nf9; simp only [e p]
  unfold niI
  rw [e7, e9]
theorem dif_0 (m : Nat) : dif m 0 = m := by
  apply Nat.eq_of_testBit_eq
  intro i
  rw [dif_bit, Nat.zero_testBit]
  cases m.testBit i <;> rfl
theorem pc_night {t : Tn} {T : TS} (h : TC t T) (hw : wf t) : ∃ T', f_X5_passNight T = some T' ∧ TC (niI t (t 1 0)) T' ∧ T' 5 0 = T 5 0 + 1 ∧ T' 6 0 = T 6 0 := by
  have h7 := hw.n7
  unfold f_X5_passNight
  refine lupTk (N := t 1 0) (fun n i s => L_X5_passNight_12 n (nI i) s) (fun i s => TC (niI t i) s ∧ ∀ j, j ≠ 7 → j ≠ 9 → s j = up T 5 (fun _ => T 5 0 + (1 : Int32)) j) (fun r => TC (niI t (t 1 0)) r ∧ ∀ j, j ≠ 7 → j ≠ 9 → r j = up T 5 (fun _ => T 5 0 + (1 : Int32)) j) (t 1 0) 0 300 (up T 5 (fun _ => T 5 0 + (1 : Int32))) (fun r h1 hQ => ?_) (fun n s hs => ?_) (fun n i s hi hs => Or.inl ?_) (by omega) (by omega) ⟨by rw [niI_0]; exact h.junk (by decide), fun _ _ _ => rfl⟩
  · obtain ⟨h2, h3⟩ := hQ
    exact ⟨r, ob h1 rfl, h2, by rw [h3 5 (by decide) (by decide)]; rfl, by rw [h3 6 (by decide) (by decide)]; rfl⟩
  · refine ⟨s, ?_, hs⟩
    have e := hs.1.n
    rw [niI_ne t _ (by decide) (by decide)] at e
    show (if s 1 0 ≤ nI (t 1 0) then _ else _) = _
    rw [e, if_pos (yle _)]
  · have i7 := lt7 hw hi
    have e := hs.1.n
    rw [niI_ne t _ (by decide) (by decide)] at e
    have hi2 : i < niI t i 1 0 := by rw [niI_ne t _ (by decide) (by decide)]; exact hi
    have ek := hs.1.kind hi2
    rw [niI_ne t _ (by decide) (by decide)] at ek
    have e7 := hs.1.see hi2
    rw [niI_7, nf7_at t (Nat.le_refl i)] at e7
    have e9 := hs.1.heard hi2
    rw [niI_9, nf9_at t (Nat.le_refl i)] at e9
    have hk := hw.kind hi
    have put : ∀ a b : Nat, TC (upn (upn (niI t i) 7 (updn (nf7 t i) i a)) 9 (updn (nf9 t i) i b)) (up (up s 7 (upd (s 7) i (nI a))) 9 (upd (s 9) i (nI b))) := fun a b =>
      (hs.1.put (j := 7) (by decide) (upd_n (fun q hq => hs.1.see hq))).put (j := 9) (by decide) (upd_n (fun q hq => hs.1.heard hq))
    by_cases z : t 11 i = 5
    · refine ⟨up (up s 7 (upd (s 7) i (nI (dif (t 7 i) (fbs 1 (t 7 i)))))) 9 (upd (s 9) i (nI (t 9 i ||| fbs 1 (t 7 i)))), ⟨?_, fun j a b => by rw [up_ne _ _ b, up_ne _ _ a]; exact hs.2 j a b⟩, ?_⟩
      · have := put (dif (t 7 i) (fbs 1 (t 7 i))) (t 9 i ||| fbs 1 (t 7 i))
        unfold niI at this
        rw [upn_4] at this
        unfold niI
        rw [nf7_s t z, nf9_s t z]
        exact this
      · show (if s 1 0 ≤ nI i then _ else _) = _
        rw [e, if_neg (nle hw hi), if_neg (in7 i7), cl7 i7, ek, z, if_pos (show nI 5 = (5 : Int32) from rfl), e7, e9]
        refine ob (pu_firstBits (c := 1) (k8 hw (hw.see hi)) (by decide)) ?_
        rw [pu_dif, pu_or, nI_1]
    · refine ⟨up (up s 7 (upd (s 7) i (nI (t 7 i)))) 9 (upd (s 9) i (nI (t 9 i))), ⟨?_, fun j a b => by rw [up_ne _ _ b, up_ne _ _ a]; exact hs.2 j a b⟩, ?_⟩
      · have := put (t 7 i) (t 9 i)
        have u7 : updn (nf7 t i) i (t 7 i) = nf7 t i := by rw [← nf7_at t (Nat.le_refl i)]; exact updn_id _ _
        have u9 : updn (nf9 t i) i (t 9 i) = nf9 t i := by rw [← nf9_at t (Nat.le_refl i)]; exact updn_id _ _
        rw [u7, u9] at this
        unfold niI at this
        rw [upn_4] at this
        rw [niI_n t z]
        exact this
      · show (if s 1 0 ≤ nI i then _ else _) = _
        rw [e, if_neg (nle hw hi), if_neg (in7 i7), cl7 i7, ek, ifL z (by omega) (by decide), e7, e9, show (0 : Int32) = nI 0 from rfl, pu_dif, pu_or, dif_0, Nat.or_zero, nI_1]
theorem fbs_1 {m : Nat} (h : m ≠ 0) : fbs 1 m = 2 ^ lo m := by
  show (if m = 0 then 0 else 2 ^ lo m ||| 0) = 2 ^ lo m
  rw [if_neg h, Nat.or_zero]
theorem pm_night {t : Tn} {T : TS} (h : TM t T) (hw : wf t) : ∃ T', L_X7_night_2 300 (0 : Int32) T = some T' ∧ TM (niI t (t 1 0)) T' ∧ ∀ j, j ≠ 13 → j ≠ 15 → T' j = T j := by
  have h7 := hw.n7
  refine lupTk (N := t 1 0) (fun n i s => L_X7_night_2 n (nI i) s) (fun i s => TM (niI t i) s ∧ ∀ j, j ≠ 13 → j ≠ 15 → s j = T j) (fun r => TM (niI t (t 1 0)) r ∧ ∀ j, j ≠ 13 → j ≠ 15 → r j = T j) (t 1 0) 0 300 T (fun r h1 hQ => ?_) (fun n s hs => ?_) (fun n i s hi hs => Or.inl ?_) (by omega) (by omega) ⟨by rw [niI_0]; exact h, fun _ _ _ => rfl⟩
  · obtain ⟨h2, h3⟩ := hQ
    exact ⟨r, h1, h2, h3⟩
  · refine ⟨s, ?_, hs⟩
    have e := hs.1.n
    rw [niI_ne t _ (by decide) (by decide)] at e
    show (if s 10 0 ≤ nI (t 1 0) then _ else _) = _
    rw [e, if_pos (yle _)]
  · have i7 := lt7 hw hi
    have e := hs.1.n
    rw [niI_ne t _ (by decide) (by decide)] at e
    have hi2 : i < niI t i 1 0 := by rw [niI_ne t _ (by decide) (by decide)]; exact hi
    have ek := hs.1.kind hi2
    rw [niI_ne t _ (by decide) (by decide)] at ek
    have e7 := hs.1.see hi2
    rw [niI_7, nf7_at t (Nat.le_refl i)] at e7
    have e9 := hs.1.heard hi2
    rw [niI_9, nf9_at t (Nat.le_refl i)] at e9
    have hk := hw.kind hi
    have b7 := k8 hw (hw.see hi)
    have put : ∀ a b : Nat, TM (upn (upn (niI t i) 7 (updn (nf7 t i) i a)) 9 (updn (nf9 t i) i b)) (up (up s 13 (upd (s 13) i (nI a))) 15 (upd (s 15) i (nI b))) := fun a b =>
      (hs.1.put (j := 7) (by decide) (by decide) (upd_n (fun q hq => hs.1.see hq))).put (j := 9) (by decide) (by decide) (upd_n (fun q hq => hs.1.heard hq))
    by_cases z : t 11 i = 5
    · by_cases m0 : t 7 i = 0
      · refine ⟨s, ⟨?_, hs.2⟩, ?_⟩
        · have u7 : nf7 t (i + 1) = nf7 t i := by
            rw [nf7_s t z, m0, show dif 0 (fbs 1 0) = 0 from by decide, ← m0]
            rw [← nf7_at t (Nat.le_refl i)]; exact updn_id _ _
          have u9 : nf9 t (i + 1) = nf9 t i := by
            rw [nf9_s t z, m0, show fbs 1 0 = 0 from rfl, Nat.or_zero]
            rw [← nf9_at t (Nat.le_refl i)]; exact updn_id _ _
          unfold niI
          rw [u7, u9]
          exact hs.1
        · show (if s 10 0 ≤ nI i then _ else _) = _
          rw [e, if_neg (nle hw hi), if_neg (in7 i7), cl7 i7, ek, z, if_pos (show nI 5 = (5 : Int32) from rfl), e7]
          refine ob (pm_firstOf b7) ?_
          unfold fst1
          rw [if_pos m0, if_pos rfl, nI_1]
      · have hl := lo_lt (t 7 i)
        refine ⟨up (up s 13 (upd (s 13) i (nI (dif (t 7 i) (fbs 1 (t 7 i)))))) 15 (upd (s 15) i (nI (t 9 i ||| fbs 1 (t 7 i)))), ⟨?_, fun j a b => by rw [up_ne _ _ b, up_ne _ _ a]; exact hs.2 j a b⟩, ?_⟩
        · have := put (dif (t 7 i) (fbs 1 (t 7 i))) (t 9 i ||| fbs 1 (t 7 i))
          unfold niI at this
          rw [upn_4] at this
          unfold niI
          rw [nf7_s t z, nf9_s t z]
          exact this
        · show (if s 10 0 ≤ nI i then _ else _) = _
          rw [e, if_neg (nle hw hi), if_neg (in7 i7), cl7 i7, ek, z, if_pos (show nI 5 = (5 : Int32) from rfl), e7, e9]
          refine ob (pm_firstOf b7) ?_
          unfold fst1
          rw [if_neg m0, if_neg (fun y => by
            have := congrArg Int32.toInt y
            rw [nI_toInt (by omega), show (-1 : Int32).toInt = -1 from by decide] at this
            omega), pu_one _ (by omega), pu_dif, pu_or, fbs_1 m0, nI_1]
    · refine ⟨s, ⟨by rw [niI_n t z]; exact hs.1, hs.2⟩, ?_⟩
      show (if s 10 0 ≤ nI i then _ else _) = _
      rw [e, if_neg (nle hw hi), if_neg (in7 i7), cl7 i7, ek, ifL z (by omega) (by decide), if_pos rfl, nI_1]
/-- draws -/
def dr (s : Int32) : Int32 := s * (1103515245 : Int32) + (12345 : Int32)
def dv (s n : Int32) : Int32 := ((dr s).toUInt32 >>> (((16 : Int32)).toUInt32 &&& Int32.toUInt32 31)).toInt32 - ((dr s).toUInt32 >>> (((16 : Int32)).toUInt32 &&& Int32.toUInt32 31)).toInt32 / n * n
theorem dv_lt (s : Int32) {n : Nat} (h0 : 0 < n) (hn : n < 2 ^ 31) : ∃ p, p < n ∧ dv s (nI n) = nI p := by
  have h := pk_ushr (dr s) 16 16 (by decide)
  have hb : (dr s).toBitVec.toNat / 2 ^ 16 < 2 ^ 16 := by
    have := (dr s).toBitVec.isLt
    omega
  have e : ((dr s).toUInt32 >>> (((16 : Int32)).toUInt32 &&& Int32.toUInt32 31)).toInt32 = nI ((dr s).toBitVec.toNat / 2 ^ 16) := by
    apply Int32.toBitVec_inj.1
    apply BitVec.eq_of_toNat_eq
    rw [h, pk_tn (by omega)]
  unfold dv
  rw [e, pk_rem (by omega) h0 hn]
  exact ⟨_, Nat.mod_lt _ h0, rfl⟩
theorem pc_draw (T : TS) {n : Nat} (h0 : 0 < n) (hn : n < 2 ^ 31) : f_X5_drawBelow T (nI n) = some (dv (T 6 0) (nI n), up T 6 (fun _ => dr (T 6 0))) := by
  unfold f_X5_drawBelow
  rw [if_neg (nI_nle h0 hn), if_neg (nI_ne0 h0 hn)]
  rfl
theorem pm_draw (T : TS) {n : Nat} (h0 : 0 < n) (hn : n < 2 ^ 31) : f_X7_below T (nI n) = some (dv (T 19 0) (nI n), up T 19 (fun _ => dr (T 19 0))) := by
  unfold f_X7_below
  rw [if_neg (nI_ne0 h0 hn)]
  rfl
theorem isOne_y {t : Tn} {T : TS} (h : TC t T) (hw : wf t) {p : Nat} (hp : p < t 1 0) : ¬ f_X5_isOne T (nI p) = 0 := by
  have h7 := hw.n7
  unfold f_X5_isOne
  rw [h.n, if_neg (nI_pos (by omega)), if_neg (nI_ge hp (by omega))]
  decide
theorem both_talk {t : Tn} {T U : TS} (h : TR t T U) (h0 : 0 < t 1 0) {N : Nat} (hN : N < 300) : ∃ r q, L_X5_sayByDraws_4 (nI N) 300 (0 : Int32) (0 : Int32) T = some r ∧ L_X7_talk_37 (nI N) 300 (0 : Int32) (0 : Int32) U = some q ∧ r.1 = q.1 ∧ ∃ t', t' 1 = t 1 ∧ TR t' r.2 q.2 := by
  refine lup2 (N := N) (fun n i (s : Int32 × TS) => L_X5_sayByDraws_4 (nI N) n (nI i) s.1 s.2) (fun n i (s : Int32 × TS) => L_X7_talk_37 (nI N) n (nI i) s.1 s.2) (fun i s u => s.1 = u.1 ∧ ∃ t', t' 1 = t 1 ∧ TR t' s.2 u.2) (fun r q => r.1 = q.1 ∧ ∃ t', t' 1 = t 1 ∧ TR t' r.2 q.2) (fun n s u hs => ?_) (fun n i s u hi hs => Or.inl ?_) N 0 300 ((0 : Int32), T) ((0 : Int32), U) (by omega) hN ⟨rfl, t, rfl, h⟩
  · refine ⟨(s.1, s.2), (u.1, u.2), ?_, ?_, hs⟩
    · show (if nI N ≤ nI N then _ else _) = _
      rw [if_pos (yle _)]
    · show (if nI N ≤ nI N then _ else _) = _
      rw [if_pos (yle _)]
  · obtain ⟨e1, t', et, hT⟩ := hs
    have h0' : 0 < t' 1 0 := by rw [et]; exact h0
    have h7 := hT.1.n7
    have h8 := hT.1.1.2.1
    have h4 := hT.1.1.1
    obtain ⟨p, hp, ep⟩ := dv_lt (s.2 6 0) h0' (by omega)
    obtain ⟨x, hx, ex⟩ := dv_lt (dr (s.2 6 0)) (n := t' 0 0) (by omega) (by omega)
    have hT2 : TR t' (up (up s.2 6 (fun _ => dr (s.2 6 0))) 6 (fun _ => dr (dr (s.2 6 0)))) (up (up u.2 19 (fun _ => dr (u.2 19 0))) 19 (fun _ => dr (dr (u.2 19 0)))) :=
      ⟨hT.1, (hT.2.1.junk (by decide)).junk (by decide), (hT.2.2.1.junk (by decide)).junk (by decide), hT.2.2.2.1, by show dr (dr (s.2 6 0)) = dr (dr (u.2 19 0)); rw [hT.2.2.2.2]⟩
    have c1 := pc_draw s.2 h0' (by omega)
    have c2 := pc_draw (up s.2 6 (fun _ => dr (s.2 6 0))) (n := t' 0 0) (by omega) (by omega)
    have d1 := pm_draw u.2 h0' (by omega)
    have d2 := pm_draw (up u.2 19 (fun _ => dr (u.2 19 0))) (n := t' 0 0) (by omega) (by omega)
    rw [ep] at c1
    have ex' : dv (up s.2 6 (fun _ => dr (s.2 6 0)) 6 0) (nI (t' 0 0)) = nI x := ex
    rw [ex'] at c2
    rw [← hT.2.2.2.2, ep] at d1
    have ey' : dv (up u.2 19 (fun _ => dr (u.2 19 0)) 19 0) (nI (t' 0 0)) = nI x := by
      show dv (dr (u.2 19 0)) (nI (t' 0 0)) = nI x
      rw [← hT.2.2.2.2]; exact ex
    rw [ey'] at d2
    have g6 : s.2 1 0 = nI (t' 1 0) := hT.2.1.n
    have g7 : u.2 10 0 = nI (t' 1 0) := hT.2.2.1.n
    have g60 : up s.2 6 (fun _ => dr (s.2 6 0)) 0 0 = nI (t' 0 0) := hT.2.1.1 0 (by decide)
    have g70 : up u.2 19 (fun _ => dr (u.2 19 0)) 9 0 = nI (t' 0 0) := hT.2.2.1.1
    rw [hT.2.2.2.2] at d1
    have st6 : L_X5_sayByDraws_4 (nI N) (n + 1) (nI i) s.1 s.2 = (if f_X6_has (nI (say t' p)) (nI x) = 0 then L_X5_sayByDraws_4 (nI N) n (nI (i + 1)) s.1 (up (up s.2 6 (fun _ => dr (s.2 6 0))) 6 (fun _ => dr (dr (s.2 6 0)))) else (f_X5_tell (up (up s.2 6 (fun _ => dr (s.2 6 0))) 6 (fun _ => dr (dr (s.2 6 0)))) (nI p) (nI (2 ^ x))).bind fun q17 => L_X5_sayByDraws_4 (nI N) n (nI (i + 1)) (s.1 + (1 : Int32)) q17.2) := by
      show (if nI N ≤ nI i then _ else (f_X5_drawBelow s.2 (s.2 1 0)).bind _) = _
      rw [if_neg (nI_ge hi (by omega)), g6]
      refine ob c1 ?_
      show (f_X5_drawBelow (up s.2 6 (fun _ => dr (s.2 6 0))) (up s.2 6 (fun _ => dr (s.2 6 0)) 0 0)).bind _ = _
      rw [g60]
      refine ob c2 ?_
      show (if (f_X5_isOne (up (up s.2 6 (fun _ => dr (s.2 6 0))) 6 (fun _ => dr (dr (s.2 6 0)))) (nI p)) = 0 then _ else (f_X5_sayableBy (up (up s.2 6 (fun _ => dr (s.2 6 0))) 6 (fun _ => dr (dr (s.2 6 0)))) (nI p)).bind _) = _
      rw [if_neg (isOne_y hT2.2.1 hT.1 hp)]
      refine ob (pc_say hT2.2.1 hT.1 hp) ?_
      rw [nI_1, pu_one x (by omega)]
      rfl
    have st7 : L_X7_talk_37 (nI N) (n + 1) (nI i) u.1 u.2 = (if f_X6_has (nI (say t' p)) (nI x) = 0 then L_X7_talk_37 (nI N) n (nI (i + 1)) u.1 (up (up u.2 19 (fun _ => dr (u.2 19 0))) 19 (fun _ => dr (dr (u.2 19 0)))) else (f_X7_isSaid (up (up u.2 19 (fun _ => dr (u.2 19 0))) 19 (fun _ => dr (dr (u.2 19 0)))) (nI p) (nI (2 ^ x))).bind fun q17 => L_X7_talk_37 (nI N) n (nI (i + 1)) (u.1 + (1 : Int32)) q17.2) := by
      show (if nI N ≤ nI i then _ else (f_X7_below u.2 (u.2 10 0)).bind _) = _
      rw [if_neg (nI_ge hi (by omega)), g7]
      refine ob d1 ?_
      show (f_X7_below (up u.2 19 (fun _ => dr (u.2 19 0))) (up u.2 19 (fun _ => dr (u.2 19 0)) 9 0)).bind _ = _
      rw [g70]
      refine ob d2 ?_
      refine ob (pm_say hT2.2.2.1 hT.1 hp) ?_
      rw [nI_1, pu_one x (by omega)]
      rfl
    by_cases z : f_X6_has (nI (say t' p)) (nI x) = 0
    · refine ⟨(s.1, up (up s.2 6 (fun _ => dr (s.2 6 0))) 6 (fun _ => dr (dr (s.2 6 0)))), (u.1, up (up u.2 19 (fun _ => dr (u.2 19 0))) 19 (fun _ => dr (dr (u.2 19 0)))), ⟨e1, t', et, hT2⟩, ?_, ?_⟩
      · rw [st6, if_pos z]
      · rw [st7, if_pos z]
    · obtain ⟨T', b1, b2, b3⟩ := pc_tell hT2.2.1 hT.1 (p := p) (m := 2 ^ x) (by omega) (Nat.pow_lt_pow_right (by decide) hx)
      obtain ⟨U', f1, f2, f3⟩ := pm_tell hT2.2.2.1 hT.1 (p := p) (m := 2 ^ x) (by omega) (Nat.pow_lt_pow_right (by decide) hx)
      refine ⟨(s.1 + 1, T'), (u.1 + 1, U'), ⟨by rw [e1], tl t' p (2 ^ x), by rw [tl_ne t' p _ 1 (by decide), et], hT2.via (tl_wf hT.1 (Nat.pow_lt_pow_right (by decide) hx)) b2 f2 (by show T' 5 0 = _; rw [b3 5 (by decide)]) (by show T' 6 0 = _; rw [b3 6 (by decide)]) (by show U' 18 0 = _; rw [f3 18 (by decide)]) (by show U' 19 0 = _; rw [f3 19 (by decide)])⟩, ?_, ?_⟩
      · rw [st6, if_neg z]
        exact ob b1 rfl
      · rw [st7, if_neg z]
        exact ob f1 rfl
section OPS
variable {Z T1 T2 G P U V : TS} {R R' : LTS} {ku : Option TS}
theorem op_night (h : Rl Z T1 T2 G R P U V R' ku) (T3 O B : TS) (M : LTS) : ∃ a T1' U', f_X6_night Z T1 T2 T3 G R P O B  = some (a, T1') ∧ f_X7_night U V M R'  = some (a, U') ∧ Rl Z T1' T2 G R P U' V R' ku := by
  obtain ⟨t, ht, hs, hr, hp, hz, hk⟩ := id h
  obtain ⟨T', b1, b2, b3, b4⟩ := pc_night ht.2.1 ht.1
  obtain ⟨U', c1, c2, c3⟩ := pm_night ht.2.2.1 ht.1
  refine ⟨_, T', up U' 18 (fun _ => U' 18 0 + (1 : Int32)), ob b1 rfl, ?_, niI t (t 1 0), ⟨niI_wf ht.1 _, b2, c2.junk (by decide), ?_, ?_⟩, ?_, hr, hp, hz, hk⟩
  · unfold f_X7_night
    refine ob c1 ?_
    rw [b3, ht.2.2.2.1, ← c3 18 (by decide) (by decide)]
  · show T' 5 0 = U' 18 0 + 1
    rw [b3, c3 18 (by decide) (by decide), ht.2.2.2.1]
  · show T' 6 0 = U' 19 0
    rw [b4, c3 19 (by decide) (by decide), ht.2.2.2.2]
  · rw [niI_ne t _ (by decide) (by decide)]
    exact hs
theorem op_talk (h : Rl Z T1 T2 G R P U V R' ku) (T3 O B : TS) (M : LTS) (p1 : Int32) : ∃ a Z' T1' U' V', f_X6_talk Z T1 T2 T3 G R P O B p1 = some (a, Z', T1') ∧ f_X7_talk U V M R' p1 = some (a, U', V') ∧ Rl Z' T1' T2 G R P U' V' R' ku := by
  obtain ⟨t, ht, hs, hr, hp, hz, hk⟩ := id h
  rcases wi_c p1 1 40 (a := (1 : Int32)) (b := (40 : Int32)) (A := (1 : Int64)) (B := (40 : Int64)) rfl rfl (by decide) (by decide) (by decide) (by decide) with ⟨k, k0, hk2, rfl, g0, m0⟩ | ⟨g0, m0⟩
  rotate_left
  · refine ⟨(-2 : Int32), rz Z 0, T1, U, rv V 0, ?_, ?_, h.ref (by decide)⟩
    · unfold f_X6_talk
      rw [if_pos g0]
      exact ob (rc2 _ _ _ _ _ _ _ _) rfl
    · unfold f_X7_talk
      rw [if_pos m0]
      exact ob (rm2 _ _ _) rfl
  have h7 := ht.1.n7
  by_cases n0 : t 1 0 = 0
  · have e6 : T1 1 0 = 0 := by rw [ht.2.1.n, n0]; rfl
    have e7 : U 10 0 = 0 := by rw [ht.2.2.1.n, n0]; rfl
    refine ⟨(-5 : Int32), rz Z 3, T1, U, rv V 3, ?_, ?_, h.ref (by decide)⟩
    · unfold f_X6_talk
      rw [if_neg g0, if_pos e6]
      exact ob (rc5 _ _ _ _ _ _ _ _) rfl
    · unfold f_X7_talk
      rw [if_neg m0, if_pos e7]
      exact ob (rm5 _ _ _) rfl
  · have e6 : ¬ T1 1 0 = 0 := by rw [ht.2.1.n]; exact nI_ne0 (by omega) (by omega)
    have e7 : ¬ U 10 0 = 0 := by rw [ht.2.2.1.n]; exact nI_ne0 (by omega) (by omega)
    obtain ⟨r, q, b1, b2, b3, t', et, hT⟩ := both_talk ht (by omega) (N := k) (by omega)
    refine ⟨r.1, Z, r.2, q.2, V, ?_, ?_, t', hT, by rw [et]; exact hs, hr, hp, hz, hk⟩
    · unfold f_X6_talk
      rw [if_neg g0, if_neg e6]
      exact ob (q := (r.1, r.2)) (ob b1 rfl) rfl
    · unfold f_X7_talk
      rw [if_neg m0, if_neg e7, b3]
      exact ob b2 rfl
theorem op_wipe (h : Rl Z T1 T2 G R P U V R' ku) (T3 O B : TS) (M : LTS) : ∃ a P' V', f_X6_wipe Z T1 T2 T3 G R P O B = some (a, P') ∧ f_X7_wipe U V M R' = some (a, V') ∧ Rl Z T1 T2 G R P' U V' R' ku := by
  obtain ⟨t, ht, hs, hr, hp, hz, hk⟩ := id h
  obtain ⟨n, h1, h2, h3, h4⟩ := hp
  refine ⟨nI n, up P 0 (fun _ => (0 : Int32)), up V 7 (fun _ => (0 : Int32)), ?_, ?_, t, ht, hs.vm rfl rfl rfl rfl, hr, ⟨0, by decide, rfl, rfl, fun i hi => absurd hi (Nat.not_lt_zero i)⟩, hz, hk⟩
  · unfold f_X6_wipe; rw [h2]
  · unfold f_X7_wipe; rw [h3]
theorem op_feed (h : Rl Z T1 T2 G R P U V R' ku) (T3 O B : TS) (M : LTS) (p1 : Int32) : ∃ a Z' P' V', f_X6_feed Z T1 T2 T3 G R P O B p1 = some (a, Z', P') ∧ f_X7_feed U V M R' p1 = some (a, V') ∧ Rl Z' T1 T2 G R P' U V' R' ku := by
  obtain ⟨t, ht, hs, hr, hp, hz, hk⟩ := id h
  obtain ⟨n, h1, h2, h3, h4⟩ := hp
  rcases wi_c p1 0 255 (a := (0 : Int32)) (b := (255 : Int32)) (A := (0 : Int64)) (B := (255 : Int64)) rfl rfl (by decide) (by decide) (by decide) (by decide) with ⟨k, k0, hk2, rfl, g0, m0⟩ | ⟨g0, m0⟩
  rotate_left
  · refine ⟨(-2 : Int32), rz Z 0, P, rv V 0, ?_, ?_, h.ref (by decide)⟩
    · unfold f_X6_feed
      rw [if_pos g0]
      exact ob (rc2 _ _ _ _ _ _ _ _) rfl
    · unfold f_X7_feed
      rw [if_pos m0]
      exact ob (rm2 _ _ _) rfl
  by_cases full : n = 250
  · have e6 : ¬ P 0 0 < (250 : Int32) := by rw [h2, full]; decide
    have e7 : V 7 0 = (250 : Int32) := by rw [h3, full]; rfl
    refine ⟨(-6 : Int32), rz Z 4, P, rv V 4, ?_, ?_, h.ref (by decide)⟩
    · unfold f_X6_feed
      rw [if_neg g0, if_neg e6]
      exact ob (rc6 _ _ _ _ _ _ _ _) rfl
    · unfold f_X7_feed
      rw [if_neg m0, if_pos e7]
      exact ob (rm6 _ _ _) rfl
  · have e6 : P 0 0 < (250 : Int32) := by rw [h2]; exact nI_lt (b := 250) (by omega) (by decide)
    have e7 : ¬ V 7 0 = (250 : Int32) := by rw [h3]; exact fun z => full ((nI_eq (b := 250) (by omega) (by decide)).mp z)
    refine ⟨nI (n + 1), Z, up (up P 2 (upd (P 2) n (nI k))) 0 (fun _ => nI (n + 1)), up (up V 7 (fun _ => nI (n + 1))) 6 (upd (V 6) n (nI k)), ?_, ?_, t, ht, hs.vm rfl rfl rfl rfl, hr, ⟨n + 1, by omega, rfl, rfl, fun i hi => ?_⟩, hz, hk⟩
    · unfold f_X6_feed
      rw [if_neg g0, if_pos e6]
      refine ob (q := up (up P 2 (upd (P 2) n (nI k))) 0 (fun _ => nI (n + 1))) ?_ rfl
      unfold f_X4_put
      rw [h2, if_neg (show ¬ (250 : Int32) ≤ nI n from nI_ge (b := 250) (by omega) (by decide)), if_neg (nI_in (show n < 250 by omega) (by decide)), nI_clamp (by omega), nI_1]
    · unfold f_X7_feed
      rw [if_neg m0, if_neg e7, h3, if_neg (nI_in (show n < 250 by omega) (by decide)), nI_clamp (by omega), nI_1]
    · show upd (P 2) n (nI k) i = upd (V 6) n (nI k) i
      by_cases e : i = n
      · subst e; rw [pk_us, pk_us]
      · rw [pk_un e, pk_un e, h4 i (by omega)]
theorem op_image (h : Rl Z T1 T2 G R P U V R' ku) (T3 O B : TS) (tp : Option (Nat → Int32)) : ∃ Z' T2', f_X6_image Z T1 T2 T3 G R P O B = some ((1 : Int32), Z', T2') ∧ Rl Z' T1 T2' G R P U V R' (some (fr0 U tp)) := by
  obtain ⟨t, ht, hs, hr, hp, hz, hk⟩ := id h
  obtain ⟨T', b1, b2, b3, b4⟩ := pc_become ht.2.1 ht.1 T2
  refine ⟨up Z 9 (fun _ => (1 : Int32)), T', ob b1 rfl, t, ht, hs, hr, hp, hz, Or.inr ⟨rfl, _, t, rfl, ht.1, b2, fr0_tm ht.2.2.1 tp, ?_, ?_⟩⟩
  · rw [b3, fr0_ne U tp (by decide)]; exact ht.2.2.2.1
  · rw [b4, fr0_ne U tp (by decide)]; exact ht.2.2.2.2
theorem op_back0 (h : Rl Z T1 T2 G R P U V R' none) (T3 O B : TS) (M : LTS) : f_X6_back Z T1 T2 T3 G R P O B = some ((-5 : Int32), rz Z 3, T1, G) ∧ f_X7_refuse U V M R' (-5 : Int32) = some ((-5 : Int32), rv V 3) ∧ Rl (rz Z 3) T1 T2 G R P U (rv V 3) R' none := by
  obtain ⟨t, ht, hs, hr, hp, hz, hk⟩ := id h
  rcases hk with ⟨k0, _⟩ | ⟨_, _, _, k1, _⟩
  · refine ⟨?_, rm5 _ _ _, h.ref (by decide)⟩
    unfold f_X6_back
    rw [if_pos k0]
    exact ob (rc5 _ _ _ _ _ _ _ _) rfl
  · cases k1
theorem AgT.tm {t : Tn} {A B : TS} (h : AgT A B) (hw : wf t) (hB : TM t B) : TM t A := by
  refine ⟨by rw [h.1.1]; exact hB.1, by rw [h.1.2.1]; exact hB.2.1, fun j hj => by rw [h.2.2.1 j hj]; exact hB.2.2.1 j hj, fun j p a b c => ?_⟩
  have l := mj_lt a b
  rw [h.2.1 (mj j) p l.1 l.2 (lt7 hw c)]
  exact hB.2.2.2 j p a b c
theorem keep_both {n n' : Nat} {G V : TS} (hs : ShR n G V) (hn' : n' ≤ 7) {U2 : TS} (hU : U2 10 0 = nI n') (hn : n ≤ 7) : ∃ G' V', L_X3_keepPeopleBelow_2 (nI n') 300 (0 : Int32) G = some G' ∧ L_X7_back_24 U2 300 (0 : Int32) V = some V' ∧ ShR n' G' V' ∧ (∀ j, j ≠ 0 → V' j = V j) := by
  refine lup2k (N := 8) (fun k i s => L_X3_keepPeopleBelow_2 (nI n') k (nI i) s) (fun k i s => L_X7_back_24 U2 k (nI i) s) (fun i G' V' => (∀ s, s < 8 → if s < i then ShE n' G' V' s else ShE n G' V' s) ∧ ∀ j, j ≠ 0 → V' j = V j) (fun G' V' => ShR n' G' V' ∧ ∀ j, j ≠ 0 → V' j = V j) 8 0 300 G V (fun r q h1 h2 hQ => ?_) (fun k s u hs => ?_) (fun k i s u hi hs => Or.inl ?_) rfl (by decide) ⟨fun s hs8 => by rw [if_neg (Nat.not_lt_zero s)]; exact hs s hs8, fun _ _ => rfl⟩
  · obtain ⟨h3, h4⟩ := hQ
    exact ⟨r, q, h1, h2, h3, h4⟩
  · refine ⟨s, u, ?_, ?_, fun c hc => by have := hs.1 c hc; rwa [if_pos hc] at this, hs.2⟩
    · show (if (8 : Int32) ≤ nI 8 then _ else _) = _
      rw [if_pos (by decide)]
    · show (if (8 : Int32) ≤ nI 8 then _ else _) = _
      rw [if_pos (by decide)]
  · have hi8 := hs.1 i hi
    rw [if_neg (Nat.lt_irrefl i)] at hi8
    have st6 : L_X3_keepPeopleBelow_2 (nI n') (k + 1) (nI i) s = if s 0 i < (10 : Int32) + nI n' then L_X3_keepPeopleBelow_2 (nI n') k (nI (i + 1)) s else L_X3_keepPeopleBelow_2 (nI n') k (nI (i + 1)) (up s 0 (upd (s 0) i (-1 : Int32))) := by
      show (if (8 : Int32) ≤ nI i then _ else if nI i < 0 ∨ 8 ≤ (nI i).toNatClampNeg then _ else _) = _
      rw [if_neg (show ¬ (8 : Int32) ≤ nI i from nI_ge (b := 8) hi (by decide)), if_neg (in8 hi), nI_clamp (by omega), nI_1]
    have st7 : L_X7_back_24 U2 (k + 1) (nI i) u = if u 0 i = (2 : Int32) then (if u 5 i < nI n' then L_X7_back_24 U2 k (nI (i + 1)) u else L_X7_back_24 U2 k (nI (i + 1)) (up u 0 (upd (u 0) i (0 : Int32)))) else L_X7_back_24 U2 k (nI (i + 1)) u := by
      show (if (8 : Int32) ≤ nI i then _ else if nI i < 0 ∨ 8 ≤ (nI i).toNatClampNeg then _ else _) = _
      rw [if_neg (show ¬ (8 : Int32) ≤ nI i from nI_ge (b := 8) hi (by decide)), if_neg (in8 hi), nI_clamp (by omega), nI_1, hU]
    have e10 : (10 : Int32) + nI n' = nI (10 + n') := nI_add 10 n'
    have same : (∃ x, ShE n' s u i ∧ s 0 i = x ∧ x < (10 : Int32) + nI n' ∧ (u 0 i = 2 → u 5 i < nI n')) → ∃ s' u', ((∀ c, c < 8 → if c < i + 1 then ShE n' s' u' c else ShE n s' u' c) ∧ ∀ j, j ≠ 0 → u' j = V j) ∧ L_X3_keepPeopleBelow_2 (nI n') (k + 1) (nI i) s = L_X3_keepPeopleBelow_2 (nI n') k (nI (i + 1)) s' ∧ L_X7_back_24 U2 (k + 1) (nI i) u = L_X7_back_24 U2 k (nI (i + 1)) u' := by
      rintro ⟨x, a, rfl, c, d⟩
      refine ⟨s, u, ⟨fun y hy => ?_, hs.2⟩, ?_, ?_⟩
      · by_cases e : y = i
        · subst e; rw [if_pos (Nat.lt_succ_self y)]; exact a
        · have := hs.1 y hy
          by_cases f : y < i
          · rw [if_pos f] at this; rw [if_pos (by omega)]; exact this
          · rw [if_neg f] at this; rw [if_neg (by omega)]; exact this
      · rw [st6, if_pos c]
      · rw [st7]
        by_cases e : u 0 i = 2
        · rw [if_pos e, if_pos (d e)]
        · rw [if_neg e]
    rcases hi8 with ⟨a, b, c⟩ | ⟨m, l, a, b, c, d, e⟩ | ⟨p, a, b, c, d, e⟩
    · refine same ⟨_, Or.inl ⟨a, b, c⟩, rfl, ?_, fun z => by rw [b] at z; exact absurd z (by decide)⟩
      rw [a, e10, Int32.lt_iff_toInt_lt, nI_toInt (by omega), show (-1 : Int32).toInt = -1 from by decide]
      omega
    · refine same ⟨_, Or.inr (Or.inl ⟨m, l, a, b, c, d, e⟩), rfl, ?_, fun z => by rw [d] at z; exact absurd z (by decide)⟩
      rw [c, e10]
      exact nI_lt (by omega) (by omega)
    · by_cases f : p < n'
      · refine same ⟨_, Or.inr (Or.inr ⟨p, f, b, c, d, e⟩), rfl, ?_, fun _ => by rw [d]; exact nI_lt f (by omega)⟩
        rw [b, e10]
        exact nI_lt (by omega) (by omega)
      · refine ⟨up s 0 (upd (s 0) i (-1 : Int32)), up u 0 (upd (u 0) i (0 : Int32)), ⟨fun y hy => ?_, fun j hj => by rw [up_ne _ _ hj]; exact hs.2 j hj⟩, ?_, ?_⟩
        · by_cases g : y = i
          · subst g
            rw [if_pos (Nat.lt_succ_self y)]
            exact Or.inl ⟨pk_us, pk_us, e⟩
          · have h9 := hs.1 y hy
            have sh : ∀ N, ShE N s u y → ShE N (up s 0 (upd (s 0) i (-1 : Int32))) (up u 0 (upd (u 0) i (0 : Int32))) y := fun N hN => by
              have z6 : up s 0 (upd (s 0) i (-1 : Int32)) 0 y = s 0 y := pk_un g
              have z7 : up u 0 (upd (u 0) i (0 : Int32)) 0 y = u 0 y := pk_un g
              unfold ShE
              rw [z6, z7]
              exact hN
            by_cases f2 : y < i
            · rw [if_pos f2] at h9; rw [if_pos (by omega)]; exact sh _ h9
            · rw [if_neg f2] at h9; rw [if_neg (by omega)]; exact sh _ h9
        · rw [st6, b, e10, if_neg (nI_nlt (by omega) (by omega))]
        · rw [st7, if_pos c, d, if_neg (nI_nlt (by omega) (by omega))]
theorem op_back {U1 : TS} (h : Rl Z T1 T2 G R P U V R' (some U1)) (T3 O B : TS) (M : LTS) : ∃ a Z' T1' G' U' V', f_X6_back Z T1 T2 T3 G R P O B = some (a, Z', T1', G') ∧ f_X7_back U V M R' U1 = some (a, U', V') ∧ Rl Z' T1' T2 G' R P U' V' R' (some U1) := by
  obtain ⟨t, ht, hs, hr, hp, hz, hk⟩ := id h
  rcases id hk with ⟨_, k0⟩ | ⟨k9, W1, t', k1, k2⟩
  · cases k0
  · cases k1
    obtain ⟨T', b1, b2, b3, b4⟩ := pc_become k2.2.1 k2.1 T1
    obtain ⟨U', c1, c2⟩ := takeFrom_ok U U1
    have c3 : TM t' U' := c2.tm k2.1 (k2.2.2.1.junk (by decide))
    obtain ⟨G', V', d1, d2, d3, d4⟩ := keep_both hs k2.1.n7 (U2 := U') c3.n ht.1.n7
    refine ⟨(1 : Int32), Z, T', G', U', V', ?_, ?_, t', ⟨k2.1, b2, c3, ?_, ?_⟩, d3, hr, hp.vm (by rw [d4 7 (by decide)]) (d4 6 (by decide)), ?_, hk⟩
    · unfold f_X6_back
      rw [if_neg (by rw [k9]; decide)]
      refine ob b1 ?_
      rw [b2.n]
      exact ob (ob d1 rfl) rfl
    · exact ob c1 (ob d2 rfl)
    · rw [b3, c2.1.2.2.1, k2.2.2.2.1]
      rfl
    · rw [b4, c2.1.2.2.2, k2.2.2.2.2]
      rfl
    · unfold ReR
      rw [d4 8 (by decide)]
      exact hz
theorem filled_both {n : Nat} (hs : ShR n G V) (hn : n ≤ 7) : ∃ a, f_X3_filled G R = some a ∧ L_X7_status_96 V 300 (0 : Int32) (0 : Int32) = some a := by
  refine lup2k (N := 8) (fun k i s => L_X3_filled_4 G k (nI i) s) (fun k i s => L_X7_status_96 V k (nI i) s) (fun i s u => s = u) (fun s u => s = u) 8 0 300 (0 : Int32) (0 : Int32) (fun r q h1 h2 hQ => ?_) (fun k s u hs => ?_) (fun k i s u hi hs2 => Or.inl ?_) rfl (by decide) rfl
  · have h3 := hQ
    subst h3
    exact ⟨r, ob h1 rfl, h2⟩
  · subst hs
    refine ⟨s, s, ?_, ?_, rfl⟩
    · show (if (8 : Int32) ≤ nI 8 then _ else _) = _
      rw [if_pos (by decide)]
    · show (if (8 : Int32) ≤ nI 8 then _ else _) = _
      rw [if_pos (by decide)]
  · subst hs2
    refine ⟨(if G 0 i = (-1 : Int32) then s else s + 1), _, rfl, ?_, ?_⟩
    · show (if (8 : Int32) ≤ nI i then _ else if nI i < 0 ∨ 8 ≤ (nI i).toNatClampNeg then _ else _) = _
      rw [if_neg (show ¬ (8 : Int32) ≤ nI i from nI_ge (b := 8) hi (by decide)), if_neg (in8 hi), nI_clamp (by omega), nI_1]
    · show (if (8 : Int32) ≤ nI i then _ else if nI i < 0 ∨ 8 ≤ (nI i).toNatClampNeg then _ else _) = _
      rw [if_neg (show ¬ (8 : Int32) ≤ nI i from nI_ge (b := 8) hi (by decide)), if_neg (in8 hi), nI_clamp (by omega), nI_1]
      have m1 : ∀ k, k < 2 ^ 31 → ¬ nI k = (-1 : Int32) := fun k hk y => by
        have := congrArg Int32.toInt y
        rw [nI_toInt hk, show (-1 : Int32).toInt = -1 from by decide] at this
        omega
      rcases hs i hi with ⟨a, b, c⟩ | ⟨m, l, a, b, c, d, e⟩ | ⟨p, a, b, c, d, e⟩
      · rw [a, b, if_pos rfl, if_pos rfl, Int32.add_zero]
      · rw [c, d, if_neg (by decide), if_neg (m1 m (by omega))]
      · rw [b, c, if_neg (by decide), if_neg (m1 _ (by omega))]
theorem op_status (h : Rl Z T1 T2 G R P U V R' ku) (T3 O B : TS) (M : LTS) (p1 : Int32) : ∃ a, f_X6_status Z T1 T2 T3 G R P O B p1 = some a ∧ f_X7_status U V M R' p1 = some a ∧ Rl Z T1 T2 G R P U V R' ku := by
  obtain ⟨t, ht, hs, hr, hp, hz, hk⟩ := id h
  obtain ⟨n, h1, h2, h3, h4⟩ := hp
  obtain ⟨f, f6, f7⟩ := filled_both (R := R) hs ht.1.n7
  have a6 := pc_kal ht.2.1 ht.1
  have a7 := pm_kal ht.2.2.1 ht.1
  have b6 := pc_prs ht.2.1 ht.1
  have b7 := pm_prs ht.2.2.1 ht.1
  unfold f_X6_status f_X7_status
  by_cases c0 : p1 = (0 : Int32)
  · subst c0; exact ⟨_, rfl, by rw [if_pos rfl, ht.2.2.1.1, ht.2.1.1 0 (by decide)], h⟩
  rw [if_neg c0, if_neg c0]
  by_cases c1 : p1 = (1 : Int32)
  · subst c1; exact ⟨_, rfl, by rw [if_pos rfl, ht.2.2.1.n, ht.2.1.n], h⟩
  rw [if_neg c1, if_neg c1]
  by_cases c2 : p1 = (2 : Int32)
  · subst c2; exact ⟨_, rfl, by rw [if_pos rfl, if_neg (by decide)]; show some (U 17 0) = _; rw [ht.2.2.1.2.2.1 0 (by decide), ht.2.1.1 2 (by decide)], h⟩
  rw [if_neg c2, if_neg c2]
  by_cases c3 : p1 = (3 : Int32)
  · subst c3; exact ⟨_, rfl, by rw [if_pos rfl, if_neg (by decide)]; show some (U 17 1) = _; rw [ht.2.2.1.2.2.1 1 (by decide), ht.2.1.1 3 (by decide)], h⟩
  rw [if_neg c3, if_neg c3]
  by_cases c4 : p1 = (4 : Int32)
  · subst c4; exact ⟨_, rfl, by rw [if_pos rfl, if_neg (by decide)]; show some (U 17 2) = _; rw [ht.2.2.1.2.2.1 2 (by decide), ht.2.1.1 4 (by decide)], h⟩
  rw [if_neg c4, if_neg c4]
  by_cases c5 : p1 = (5 : Int32)
  · subst c5; exact ⟨_, rfl, by rw [if_pos rfl, ht.2.2.2.1], h⟩
  rw [if_neg c5, if_neg c5]
  by_cases c6 : p1 = (6 : Int32)
  · subst c6; exact ⟨_, rfl, by rw [if_pos rfl, h2, h3], h⟩
  rw [if_neg c6, if_neg c6]
  by_cases c7 : p1 = (7 : Int32)
  · subst c7; exact ⟨_, rfl, by rw [if_pos rfl, ht.2.2.2.2], h⟩
  rw [if_neg c7, if_neg c7]
  by_cases c8 : p1 = (8 : Int32)
  · subst c8; exact ⟨f, by rw [if_pos rfl]; exact ob f6 rfl, by rw [if_pos rfl]; exact ob f7 rfl, h⟩
  rw [if_neg c8, if_neg c8]
  by_cases c9 : p1 = (9 : Int32)
  · subst c9; exact ⟨_, by rw [if_pos rfl]; exact ob a6 rfl, by rw [if_pos rfl]; exact ob a7 rfl, h⟩
  rw [if_neg c9, if_neg c9]
  by_cases c10 : p1 = (10 : Int32)
  · subst c10; exact ⟨_, by rw [if_pos rfl]; exact ob b6 rfl, by rw [if_pos rfl]; exact ob b7 rfl, h⟩
  rw [if_neg c10, if_neg c10]
  rcases wi_c p1 12 16 (a := (12 : Int32)) (b := (16 : Int32)) (A := (12 : Int64)) (B := (16 : Int64)) rfl rfl (by decide) (by decide) (by decide) (by decide) with ⟨k, k0, k1, rfl, g, m⟩ | ⟨g, m⟩
  · refine ⟨_, by rw [if_neg g, show nI k - (12 : Int32) = nI (k - 12) from pk_sub (b := 12) k0, if_neg (nI_in (show k - 12 < 5 by omega) (by decide)), nI_clamp (by omega)], ?_, h⟩
    rw [if_neg m, show nI k - (10 : Int32) = nI (k - 10) from pk_sub (b := 10) (by omega), if_neg (nI_in (show k - 10 < 8 by omega) (by decide)), nI_clamp (by omega), hz (k - 12) (by omega), show k - 12 + 2 = k - 10 by omega]
  · exact ⟨_, by rw [if_pos g], by rw [if_pos m], h⟩
end OPS
