/-! ===== pure: speaking, telling, rounds ===== -/
theorem TC.at {t : Tn} {T : TS} (h : TC t T) {j p : Nat} (a : 7 ≤ j) (b : j ≤ 12) (hp : p < t 1 0) : T j p = nI (t j p) := h.2 j p a b hp
theorem TM.see {t : Tn} {T : TS} (h : TM t T) {p : Nat} (hp : p < t 1 0) : T 13 p = nI (t 7 p) := h.2.2.2 7 p (by decide) (by decide) hp
theorem TM.half {t : Tn} {T : TS} (h : TM t T) {p : Nat} (hp : p < t 1 0) : T 14 p = nI (t 8 p) := h.2.2.2 8 p (by decide) (by decide) hp
theorem TM.heard {t : Tn} {T : TS} (h : TM t T) {p : Nat} (hp : p < t 1 0) : T 15 p = nI (t 9 p) := h.2.2.2 9 p (by decide) (by decide) hp
theorem TM.hears {t : Tn} {T : TS} (h : TM t T) {p : Nat} (hp : p < t 1 0) : T 16 p = nI (t 10 p) := h.2.2.2 10 p (by decide) (by decide) hp
theorem TM.kind {t : Tn} {T : TS} (h : TM t T) {p : Nat} (hp : p < t 1 0) : T 11 p = nI (t 11 p) := h.2.2.2 11 p (by decide) (by decide) hp
theorem TM.mark {t : Tn} {T : TS} (h : TM t T) {p : Nat} (hp : p < t 1 0) : T 12 p = nI (t 12 p) := h.2.2.2 12 p (by decide) (by decide) hp
theorem TC.see {t : Tn} {T : TS} (h : TC t T) {p : Nat} (hp : p < t 1 0) : T 7 p = nI (t 7 p) := h.2 7 p (by decide) (by decide) hp
theorem TC.half {t : Tn} {T : TS} (h : TC t T) {p : Nat} (hp : p < t 1 0) : T 8 p = nI (t 8 p) := h.2 8 p (by decide) (by decide) hp
theorem TC.heard {t : Tn} {T : TS} (h : TC t T) {p : Nat} (hp : p < t 1 0) : T 9 p = nI (t 9 p) := h.2 9 p (by decide) (by decide) hp
theorem TC.hears {t : Tn} {T : TS} (h : TC t T) {p : Nat} (hp : p < t 1 0) : T 10 p = nI (t 10 p) := h.2 10 p (by decide) (by decide) hp
theorem TC.kind {t : Tn} {T : TS} (h : TC t T) {p : Nat} (hp : p < t 1 0) : T 11 p = nI (t 11 p) := h.2 11 p (by decide) (by decide) hp
theorem TC.mark {t : Tn} {T : TS} (h : TC t T) {p : Nat} (hp : p < t 1 0) : T 12 p = nI (t 12 p) := h.2 12 p (by decide) (by decide) hp
theorem lt7 {t : Tn} (hw : wf t) {p : Nat} (hp : p < t 1 0) : p < 7 := Nat.lt_of_lt_of_le hp hw.n7
theorem nle {t : Tn} (hw : wf t) {i : Nat} (hi : i < t 1 0) : ¬ nI (t 1 0) ≤ nI i := nI_ge hi (by have := hw.n7; omega)
theorem yle (n : Nat) : nI n ≤ nI n := Int32.le_refl _
theorem pc_vch {t : Tn} {T : TS} (h : TC t T) (hw : wf t) {p : Nat} (hp : p < t 1 0) : f_X5_vouchedFor T (nI p) = some (nI (vch t p)) := by
  have h7 := hw.n7
  unfold f_X5_vouchedFor vch
  refine ob (q := nI (orr (t 1 0) (fun q => if (t 10 p).testBit q then t 9 q ||| t 7 q else 0))) ?_ rfl
  refine lupE (N := t 1 0) (fun n i => L_X5_vouchedFor_4 T (nI p) n (nI i) (nI (orr i (fun q => if (t 10 p).testBit q then t 9 q ||| t 7 q else 0)))) (fun n => ?_) (fun n i hi => ?_) (t 1 0) 0 300 (by omega) (by omega)
  · show (if T 1 0 ≤ nI (t 1 0) then _ else _) = _
    rw [h.n, if_pos (yle _)]
  · show (if T 1 0 ≤ nI i then _ else _) = L_X5_vouchedFor_4 T (nI p) n (nI (i + 1)) (nI (orr i (fun q => if (t 10 p).testBit q then t 9 q ||| t 7 q else 0) ||| (if (t 10 p).testBit i then t 9 i ||| t 7 i else 0)))
    have i7 := lt7 hw hi
    rw [h.n, if_neg (nle hw hi), if_neg (in7 (lt7 hw hp)), cl7 (lt7 hw hp), h.hears hp, nI_1]
    by_cases e : (t 10 p).testBit i = true
    · rw [if_neg (fun z => by rw [(pu_tb0 (hw.lt8 (by decide) (by decide) hp) (by omega)).mp z] at e; cases e), if_neg (in7 i7), cl7 i7, h.heard hi, h.see hi, pu_or, pu_or, if_pos e]
    · rw [if_pos ((pu_tb0 (hw.lt8 (by decide) (by decide) hp) (by omega)).mpr (by simpa using e)), if_neg e, Nat.or_zero]
theorem pc_say {t : Tn} {T : TS} (h : TC t T) (hw : wf t) {p : Nat} (hp : p < t 1 0) : f_X5_sayableBy T (nI p) = some (nI (say t p)) := by
  unfold f_X5_sayableBy say
  have hk := hw.kind hp
  refine ob (pc_bar h hw hp) ?_
  rw [if_neg (in7 (lt7 hw hp)), cl7 (lt7 hw hp), h.kind hp, pc_allSights h hw, h.heard hp, pu_dif, pu_and]
  have e4 : T 4 0 = nI (t 4 0) := h.1 4 (by decide)
  have hb := k8 hw (bar_lt hw hp)
  have h4 := hw.1.2.2.2.2.2
  by_cases e1 : t 11 p = 1
  · rw [e1, ifY 1, if_pos rfl]
    refine ob (pc_vch h hw hp) ?_
    rw [pu_and]
  · rw [ifL e1 (by omega) (by decide), if_neg e1]
    by_cases e2 : t 11 p = 2
    · rw [e2, ifY 2, if_pos rfl]
    · rw [ifL e2 (by omega) (by decide), if_neg e2]
      by_cases e3 : t 11 p = 3
      · rw [e3, ifY 3, if_pos rfl, e4]
        refine ob (pu_firstBits hb (by omega)) ?_
        rw [pu_or]
      · rw [ifL e3 (by omega) (by decide), if_neg e3]
theorem pm_vch {t : Tn} {T : TS} (h : TM t T) (hw : wf t) {p : Nat} (hp : p < t 1 0) : L_X7_mayOf_60 T (nI p) 300 (0 : Int32) (0 : Int32) = some (nI (vch t p)) := by
  have h7 := hw.n7
  unfold vch
  refine lupE (N := t 1 0) (fun n i => L_X7_mayOf_60 T (nI p) n (nI i) (nI (orr i (fun q => if (t 10 p).testBit q then t 9 q ||| t 7 q else 0)))) (fun n => ?_) (fun n i hi => ?_) (t 1 0) 0 300 (by omega) (by omega)
  · show (if T 10 0 ≤ nI (t 1 0) then _ else _) = _
    rw [h.n, if_pos (yle _)]
  · show (if T 10 0 ≤ nI i then _ else _) = L_X7_mayOf_60 T (nI p) n (nI (i + 1)) (nI (orr i (fun q => if (t 10 p).testBit q then t 9 q ||| t 7 q else 0) ||| (if (t 10 p).testBit i then t 9 i ||| t 7 i else 0)))
    have i7 := lt7 hw hi
    have h8 : t 10 p < 256 := hw.lt8 (by decide) (by decide) hp
    rw [h.n, if_neg (nle hw hi), cl7 (lt7 hw hp), h.hears hp, nI_1]
    by_cases e : (t 10 p).testBit i = true
    · rw [if_neg (fun z => by rw [(pm_has0 (by omega) (by omega)).mp z] at e; cases e), if_neg (in7 i7), cl7 i7, h.heard hi, h.see hi, pu_or, pu_or, if_pos e]
    · rw [if_pos ((pm_has0 (by omega) (by omega)).mpr (by simpa using e)), if_neg e, show (0 : Int32) = nI 0 from rfl, pu_or]
theorem pm_scn {t : Tn} {T : TS} (h : TM t T) (hw : wf t) {a m c : Nat} (hm : m < 256) (hc : c < 10) : ∀ (d i n : Nat), i + d = t 0 0 → d < n → L_X7_mayOf_139 T (nI m) n (nI i) (nI (scn m c i).2) (nI (a ||| (scn m c i).1)) = some (nI (a ||| (scn m c (t 0 0)).1)) := by
  have h8 := hw.1.2.1
  intro d
  induction d with
  | zero =>
    intro i n e1 e2
    obtain ⟨n, rfl⟩ : ∃ k, n = k + 1 := ⟨n - 1, by omega⟩
    obtain rfl : i = t 0 0 := by omega
    show (if T 9 0 ≤ nI (t 0 0) then _ else _) = _
    rw [h.1, if_pos (yle _)]
  | succ d ih =>
    intro i n e1 e2
    obtain ⟨n, rfl⟩ : ∃ k, n = k + 1 := ⟨n - 1, by omega⟩
    show (if T 9 0 ≤ nI i then _ else if nI (scn m c i).2 ≤ 0 then _ else _) = _
    rw [h.1, if_neg (nI_ge (by omega) (by omega))]
    have hl : ∀ j, (scn m c j).2 ≤ c := by
      intro j
      induction j with
      | zero => exact Nat.le_refl c
      | succ j ih2 =>
        by_cases z : 0 < (scn m c j).2 ∧ m.testBit j = true
        · rw [scn_1 z]; show (scn m c j).2 - 1 ≤ c; omega
        · rw [scn_0 z]; exact ih2
    have hli := hl i
    by_cases e : (scn m c i).2 = 0
    · rw [e, if_pos (by decide)]
      have stay : ∀ j, (scn m c (i + j)).1 = (scn m c i).1 ∧ (scn m c (i + j)).2 = 0 := by
        intro j
        induction j with
        | zero => exact ⟨rfl, e⟩
        | succ j ih2 => rw [show i + (j + 1) = (i + j) + 1 from rfl, scn_0 (fun z => by omega)]; exact ih2
      rw [show t 0 0 = i + (d + 1) by omega, (stay (d + 1)).1]
    · rw [if_neg (nI_nle (by omega) (by omega)), nI_1]
      by_cases b : m.testBit i = true
      · rw [if_neg (fun z => by rw [(pm_has0 (by omega) (by omega)).mp z] at b; cases b), if_neg (fun z => by rw [(pm_has0 (by omega) (by omega)).mp z] at b; cases b), pu_one i (by omega), pu_or]
        have s1 := scn_1 (m := m) (c := c) (i := i) ⟨by omega, b⟩
        have := ih (i + 1) n (by omega) (by omega)
        rw [s1] at this
        rw [← this]
        obtain ⟨l, hl2⟩ : ∃ l, (scn m c i).2 = l + 1 := ⟨(scn m c i).2 - 1, by omega⟩
        rw [hl2, pk_m1, Nat.or_assoc]
        rfl
      · have b2 : f_X7_has (nI m) (nI i) = 0 := (pm_has0 (by omega) (by omega)).mpr (by simpa using b)
        rw [if_pos b2, if_pos b2]
        have := ih (i + 1) n (by omega) (by omega)
        rw [scn_0 (fun z => b z.2)] at this
        exact this
theorem and_dif_all {t : Tn} {a b : Nat} (ha : a < 2 ^ t 0 0) : dif a b = a &&& dif (alS t) b := by
  apply Nat.eq_of_testBit_eq
  intro i
  rw [dif_bit, Nat.testBit_and, dif_bit]
  unfold alS
  rw [Nat.testBit_two_pow_sub_one]
  by_cases h : i < t 0 0
  · rw [decide_eq_true h]; cases a.testBit i <;> simp
  · rw [Nat.testBit_lt_two_pow (Nat.lt_of_lt_of_le ha (Nat.pow_le_pow_right (by decide) (by omega)))]; simp
theorem pm_say {t : Tn} {T : TS} (h : TM t T) (hw : wf t) {p : Nat} (hp : p < t 1 0) : f_X7_mayOf T (nI p) = some (nI (say t p)) := by
  unfold f_X7_mayOf say
  have hk := hw.kind hp
  refine ob (pm_bar h hw hp) ?_
  rw [if_neg (in7 (lt7 hw hp)), cl7 (lt7 hw hp), h.kind hp, pm_allSights h hw, h.heard hp]
  have e4 : T 17 2 = nI (t 4 0) := h.2.2.1 2 (by decide)
  have hb := k8 hw (bar_lt hw hp)
  have h4 := hw.1.2.2.2.2.2
  have h8 := hw.1.2.1
  have hd : dif (t 9 p) (bar t p) = t 9 p &&& dif (alS t) (bar t p) := and_dif_all (hw.heard hp)
  by_cases e1 : t 11 p = 1
  · rw [e1, ifY 1, if_pos rfl]
    refine ob (pm_vch h hw hp) ?_
    rw [if_neg (by decide), if_neg (by decide), if_neg (by decide), pu_dif, pu_and, hd]
  · rw [ifL e1 (by omega) (by decide), if_neg e1]
    by_cases e2 : t 11 p = 2
    · rw [e2, if_neg (by decide), ifY 2, if_pos rfl, pu_dif]
    · have n2 : ¬ nI (t 11 p) = 2 := fun z => e2 ((nI_eq (by omega) (by decide)).mp z)
      rw [if_neg n2, if_neg e2]
      by_cases e3 : t 11 p = 3
      · rw [e3, ifY 3, ifY 3, pu_dif, show ((2 : Int32)).toNatClampNeg = 2 from rfl, e4]
        have := pm_scn h hw (a := dif (alS t) (bar t p)) hb (c := t 4 0) (by omega) (t 0 0) 0 300 (by omega) (by omega)
        rw [(scn_fbs (t 0 0) (by omega) (bar t p) (bar_lt hw hp) (t 4 0) (by omega)).1, show (scn (bar t p) (t 4 0) 0).1 = 0 from rfl, Nat.or_zero] at this
        exact ob this rfl
      · have n3 : ¬ nI (t 11 p) = 3 := fun z => e3 ((nI_eq (by omega) (by decide)).mp z)
        rw [if_neg n3, if_neg n3, if_neg e3, pu_dif, hd]
/-- telling -/
theorem pc_tell {t : Tn} {T : TS} (h : TC t T) (hw : wf t) {p m : Nat} (hp : p < 32) (hm : m < 2 ^ t 0 0) : ∃ T', f_X5_tell T (nI p) (nI m) = some (nI (tlc t p m), T') ∧ TC (tl t p m) T' ∧ ∀ j, j ≠ 9 → T' j = T j := by
  have h7 := hw.n7
  have m8 := k8 hw hm
  unfold f_X5_tell
  refine lupTk (N := t 1 0) (fun n i s => L_X5_tell_5 (nI p) (nI m) n (nI i) (nI (sm i (tlq t p m))) s) (fun i s => TC (tlI t p m i) s ∧ ∀ j, j ≠ 9 → s j = T j) (fun r => r.1 = nI (tlc t p m) ∧ TC (tl t p m) r.2 ∧ ∀ j, j ≠ 9 → r.2 j = T j) (t 1 0) 0 300 T (fun r h1 hQ => ?_) (fun n s hs => ?_) (fun n i s hi hs => Or.inl ?_) (by omega) (by omega) ⟨by rw [tlI_0]; exact h, fun j _ => rfl⟩
  · obtain ⟨h2, h3, h4⟩ := hQ
    obtain ⟨r1, r2⟩ := r
    cases h2
    exact ⟨r2, ob h1 rfl, h3, h4⟩
  · refine ⟨(nI (sm (t 1 0) (tlq t p m)), s), ?_, rfl, hs.1, hs.2⟩
    have e := hs.1.n
    rw [tlI_ne (by decide)] at e
    show (if s 1 0 ≤ nI (t 1 0) then _ else _) = _
    rw [e, if_pos (yle _)]
  · have e := hs.1.n
    have i7 := lt7 hw hi
    have hi2 : i < tlI t p m i 1 0 := by rw [tlI_ne (by decide)]; exact hi
    have eh : s 10 i = nI (t 10 i) := by rw [hs.1.hears hi2, tlI_ne (by decide)]
    have e9 : s 9 i = nI (t 9 i) := by rw [hs.1.heard hi2, tlI_at (Nat.le_refl i)]
    have h10 : t 10 i < 256 := hw.lt8 (by decide) (by decide) hi
    have h9 : t 9 i < 256 := hw.lt8 (by decide) (by decide) hi
    rw [tlI_ne (by decide)] at e
    by_cases b : (t 10 i).testBit p = true
    · refine ⟨up s 9 (upd (s 9) i (nI (t 9 i ||| m))), ⟨?_, fun j hj => ?_⟩, ?_⟩
      · rw [tlI_s1 b]
        exact hs.1.put (by decide) (upd_n (fun q hq => hs.1.heard hq))
      · rw [up_ne s _ hj, hs.2 j hj]
      · show (if s 1 0 ≤ nI i then _ else _) = L_X5_tell_5 (nI p) (nI m) n (nI (i + 1)) (nI (sm i (tlq t p m) + tlq t p m i)) _
        rw [e, if_neg (nle hw hi), if_neg (in7 i7), cl7 i7, eh, if_neg (fun z => by rw [(pu_has0 (by omega) (by omega)).mp z] at b; cases b), e9, pu_dif, pu_or, pu_bc _ (dif_lt8 _ m8), nI_add, nI_1]
        unfold tlq
        rw [if_pos b]
    · refine ⟨s, ⟨?_, hs.2⟩, ?_⟩
      · rw [tlI_s0 (by simpa using b)]; exact hs.1
      · show (if s 1 0 ≤ nI i then _ else _) = L_X5_tell_5 (nI p) (nI m) n (nI (i + 1)) (nI (sm i (tlq t p m) + tlq t p m i)) _
        rw [e, if_neg (nle hw hi), if_neg (in7 i7), cl7 i7, eh, if_pos ((pu_has0 (by omega) (by omega)).mpr (by simpa using b)), nI_1]
        rw [show tlq t p m i = 0 from if_neg b]
        rfl
theorem pm_tell {t : Tn} {T : TS} (h : TM t T) (hw : wf t) {p m : Nat} (hp : p < 32) (hm : m < 2 ^ t 0 0) : ∃ T', f_X7_isSaid T (nI p) (nI m) = some (nI (tlc t p m), T') ∧ TM (tl t p m) T' ∧ ∀ j, j ≠ 15 → T' j = T j := by
  have h7 := hw.n7
  have m8 := k8 hw hm
  unfold f_X7_isSaid
  refine lupTk (N := t 1 0) (fun n i s => L_X7_isSaid_5 (nI p) (nI m) n (nI i) (nI (sm i (tlq t p m))) s) (fun i s => TM (tlI t p m i) s ∧ ∀ j, j ≠ 15 → s j = T j) (fun r => r.1 = nI (tlc t p m) ∧ TM (tl t p m) r.2 ∧ ∀ j, j ≠ 15 → r.2 j = T j) (t 1 0) 0 300 T (fun r h1 hQ => ?_) (fun n s hs => ?_) (fun n i s hi hs => Or.inl ?_) (by omega) (by omega) ⟨by rw [tlI_0]; exact h, fun j _ => rfl⟩
  · obtain ⟨h2, h3, h4⟩ := hQ
    obtain ⟨r1, r2⟩ := r
    cases h2
    exact ⟨r2, ob h1 rfl, h3, h4⟩
  · refine ⟨(nI (sm (t 1 0) (tlq t p m)), s), ?_, rfl, hs.1, hs.2⟩
    have e := hs.1.n
    rw [tlI_ne (by decide)] at e
    show (if s 10 0 ≤ nI (t 1 0) then _ else _) = _
    rw [e, if_pos (yle _)]
  · have e := hs.1.n
    have i7 := lt7 hw hi
    have hi2 : i < tlI t p m i 1 0 := by rw [tlI_ne (by decide)]; exact hi
    have eh : s 16 i = nI (t 10 i) := by rw [hs.1.hears hi2, tlI_ne (by decide)]
    have e9 : s 15 i = nI (t 9 i) := by rw [hs.1.heard hi2, tlI_at (Nat.le_refl i)]
    have h10 : t 10 i < 256 := hw.lt8 (by decide) (by decide) hi
    have h9 : t 9 i < 256 := hw.lt8 (by decide) (by decide) hi
    rw [tlI_ne (by decide)] at e
    by_cases b : (t 10 i).testBit p = true
    · refine ⟨up s 15 (upd (s 15) i (nI (t 9 i ||| m))), ⟨?_, fun j hj => ?_⟩, ?_⟩
      · rw [tlI_s1 b]
        exact hs.1.put (j := 9) (by decide) (by decide) (upd_n (fun q hq => hs.1.heard hq))
      · rw [up_ne s _ hj, hs.2 j hj]
      · show (if s 10 0 ≤ nI i then _ else _) = L_X7_isSaid_5 (nI p) (nI m) n (nI (i + 1)) (nI (sm i (tlq t p m) + tlq t p m i)) _
        rw [e, if_neg (nle hw hi), if_neg (in7 i7), cl7 i7, eh, if_neg (fun z => by rw [(pm_has0 (by omega) (by omega)).mp z] at b; cases b), e9, pu_dif, pm_bits (dif_lt8 _ m8), pu_or]
        show L_X7_isSaid_5 (nI p) (nI m) n (nI i + 1) (nI (sm i (tlq t p m)) + nI (pc (dif m (t 9 i)))) _ = _
        rw [nI_add, nI_1]
        unfold tlq
        rw [if_pos b]
    · refine ⟨s, ⟨?_, hs.2⟩, ?_⟩
      · rw [tlI_s0 (by simpa using b)]; exact hs.1
      · show (if s 10 0 ≤ nI i then _ else _) = L_X7_isSaid_5 (nI p) (nI m) n (nI (i + 1)) (nI (sm i (tlq t p m) + tlq t p m i)) _
        rw [e, if_neg (nle hw hi), if_neg (in7 i7), cl7 i7, eh, if_pos ((pm_has0 (by omega) (by omega)).mpr (by simpa using b)), nI_1]
        rw [show tlq t p m i = 0 from if_neg b]
        rfl
