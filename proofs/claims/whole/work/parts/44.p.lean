/-! ===== pure: what is told of a town ===== -/
def kal (t : Tn) : Nat := sm (t 1 0) (fun p => pc (knw t p))
def mou (t : Tn) (x : Nat) : Nat := bld (t 1 0) (fun p => (say t p).testBit x)
def bad (t : Tn) (x : Nat) : Nat := bld (t 1 0) (fun p => (bar t p).testBit x)
def kno (t : Tn) (x : Nat) : Nat := bld (t 1 0) (fun p => (knw t p).testBit x)
def hro (t : Tn) (m : Nat) : Nat := bld (t 1 0) (fun q => decide (t 10 q &&& m ≠ 0))
def bln (t : Tn) : Nat := bld (t 1 0) (fun p => decide (t 11 p = 4))
def aln (t : Tn) : Nat := orr (t 1 0) (t 10)
def pr1 (t : Tn) (p q : Nat) : Nat := if (t 10 p).testBit q = true ∧ (t 10 q).testBit p = true then 1 else 0
def prs (t : Tn) : Nat := sm (t 1 0) (fun p => sm p (pr1 t p))
theorem bld8 {t : Tn} (hw : wf t) (b : Nat → Bool) : bld (t 1 0) b < 256 := Nat.lt_of_lt_of_le (bld_lt _ b) (Nat.pow_le_pow_right (n := 2) (j := 8) (by decide) (by have := hw.n7; omega))
theorem kal_le {t : Tn} (hw : wf t) : kal t ≤ 56 := by
  have h : kal t ≤ t 1 0 * 8 := sm_le (fun i _ => pc_le _)
  have := hw.n7
  omega
theorem pc_kal {t : Tn} {T : TS} (h : TC t T) (hw : wf t) : f_X5_knownInAll T = some (nI (kal t)) := by
  have h7 := hw.n7
  unfold f_X5_knownInAll kal
  refine ob (lupE (N := t 1 0) (fun n i => L_X5_knownInAll_4 T n (nI i) (nI (sm i (fun p => pc (knw t p))))) (fun n => ?_) (fun n i hi => ?_) (t 1 0) 0 300 (by omega) (by omega)) rfl
  · show (if T 1 0 ≤ nI (t 1 0) then _ else _) = _
    rw [h.n, if_pos (yle _)]
  · show (if T 1 0 ≤ nI i then _ else _) = L_X5_knownInAll_4 T n (nI (i + 1)) (nI (sm i (fun p => pc (knw t p)) + pc (knw t i)))
    rw [h.n, if_neg (nle hw hi)]
    refine ob (pc_knw h hw hi) ?_
    rw [pu_bc _ (k8 hw (knw_lt hw hi)), nI_add, nI_1]
theorem pm_kal {t : Tn} {T : TS} (h : TM t T) (hw : wf t) : f_X7_knownNow T = some (nI (kal t)) := by
  have h7 := hw.n7
  unfold f_X7_knownNow kal
  refine ob (lupE (N := t 1 0) (fun n i => L_X7_knownNow_4 T n (nI i) (nI (sm i (fun p => pc (knw t p))))) (fun n => ?_) (fun n i hi => ?_) (t 1 0) 0 300 (by omega) (by omega)) rfl
  · show (if T 10 0 ≤ nI (t 1 0) then _ else _) = _
    rw [h.n, if_pos (yle _)]
  · show (if T 10 0 ≤ nI i then _ else _) = L_X7_knownNow_4 T n (nI (i + 1)) (nI (sm i (fun p => pc (knw t p)) + pc (knw t i)))
    rw [h.n, if_neg (nle hw hi)]
    refine ob (pm_knw h hw hi) (ob (pm_bits (k8 hw (knw_lt hw hi))) ?_)
    rw [nI_add, nI_1]
theorem pc_msk {t : Tn} {T : TS} (h : TC t T) (hw : wf t) {x : Nat} (hx : x < 32) (f : Int32 → Option Int32) (v : Nat → Nat) (hf : ∀ p, p < t 1 0 → f (nI p) = some (nI (v p)) ∧ v p < 256) (L : Nat → Int32 → Int32 → Option Int32) (hL : ∀ n i a, L (n + 1) i a = if T 1 0 ≤ i then some a else (f i).bind fun q => L n (i + (1 : Int32)) (f_X6_with a i (f_X6_has q (nI x)))) : L 300 (0 : Int32) (0 : Int32) = some (nI (bld (t 1 0) (fun p => (v p).testBit x))) := by
  have h7 := hw.n7
  refine lupE (N := t 1 0) (fun n i => L n (nI i) (nI (bld i (fun p => (v p).testBit x)))) (fun n => ?_) (fun n i hi => ?_) (t 1 0) 0 300 (by omega) (by omega)
  · show L (n + 1) _ _ = _
    rw [hL, h.n, if_pos (yle _)]
  · show L (n + 1) _ _ = L n (nI (i + 1)) (nI (bld (i + 1) (fun p => (v p).testBit x)))
    rw [hL, h.n, if_neg (nle hw hi)]
    refine ob (hf i hi).1 ?_
    rw [pu_has (by have := (hf i hi).2; omega) hx, pu_with (by omega), nI_1]
    have := wb_bld i (fun p => (v p).testBit x)
    rw [← this]
theorem pm_msk {t : Tn} {T : TS} (h : TM t T) (hw : wf t) {x : Nat} (hx : x < 32) (f : Int32 → Option Int32) (v : Nat → Nat) (hf : ∀ p, p < t 1 0 → f (nI p) = some (nI (v p)) ∧ v p < 256) (L : Nat → Int32 → Int32 → Option Int32) (hL : ∀ n i a, L (n + 1) i a = if T 10 0 ≤ i then some a else (f i).bind fun q => L n (i + (1 : Int32)) (a ||| (if (f_X7_has q (nI x)) = 0 then (0 : Int32) else ((1 : Int32) <<< (i &&& 31))))) : L 300 (0 : Int32) (0 : Int32) = some (nI (bld (t 1 0) (fun p => (v p).testBit x))) := by
  have h7 := hw.n7
  refine lupE (N := t 1 0) (fun n i => L n (nI i) (nI (bld i (fun p => (v p).testBit x)))) (fun n => ?_) (fun n i hi => ?_) (t 1 0) 0 300 (by omega) (by omega)
  · show L (n + 1) _ _ = _
    rw [hL, h.n, if_pos (yle _)]
  · show L (n + 1) _ _ = L n (nI (i + 1)) (nI (if (v i).testBit x then bld i (fun p => (v p).testBit x) ||| 2 ^ i else bld i (fun p => (v p).testBit x)))
    rw [hL, h.n, if_neg (nle hw hi)]
    refine ob (hf i hi).1 ?_
    have hv := (hf i hi).2
    by_cases b : (v i).testBit x = true
    · rw [if_neg (fun z => by rw [(pm_has0 (by omega) hx).mp z] at b; cases b), if_pos b, pu_one i (by omega), pu_or, nI_1]
    · rw [if_pos ((pm_has0 (by omega) hx).mpr (by simpa using b)), if_neg b, nI_1, show (0 : Int32) = nI 0 from rfl, pu_or, Nat.or_zero]
theorem pc_mou {t : Tn} {T : TS} (h : TC t T) (hw : wf t) {x : Nat} (hx : x < 32) : f_X5_whoMaySay T (nI x) = some (nI (mou t x)) :=
  ob (pc_msk h hw hx (f_X5_sayableBy T) (say t) (fun p hp => ⟨pc_say h hw hp, k8 hw (say_lt hw hp)⟩) (L_X5_whoMaySay_4 T (nI x)) (fun _ _ _ => rfl)) rfl
theorem pm_mou {t : Tn} {T : TS} (h : TM t T) (hw : wf t) {x : Nat} (hx : x < 32) : f_X7_mouthsOf T (nI x) = some (nI (mou t x)) :=
  ob (pm_msk h hw hx (f_X7_mayOf T) (say t) (fun p hp => ⟨pm_say h hw hp, k8 hw (say_lt hw hp)⟩) (L_X7_mouthsOf_4 T (nI x)) (fun _ _ _ => rfl)) rfl
theorem pc_bad {t : Tn} {T : TS} (h : TC t T) (hw : wf t) {x : Nat} (hx : x < 32) : f_X5_whoIsBarred T (nI x) = some (nI (bad t x)) :=
  ob (pc_msk h hw hx (f_X5_barredTo T) (bar t) (fun p hp => ⟨pc_bar h hw hp, k8 hw (bar_lt hw hp)⟩) (L_X5_whoIsBarred_4 T (nI x)) (fun _ _ _ => rfl)) rfl
theorem pm_bad {t : Tn} {T : TS} (h : TM t T) (hw : wf t) {x : Nat} (hx : x < 32) : f_X7_barredOf T (nI x) = some (nI (bad t x)) :=
  ob (pm_msk h hw hx (f_X7_barredBy T) (bar t) (fun p hp => ⟨pm_bar h hw hp, k8 hw (bar_lt hw hp)⟩) (L_X7_barredOf_4 T (nI x)) (fun _ _ _ => rfl)) rfl
theorem pc_kno {t : Tn} {T : TS} (h : TC t T) (hw : wf t) {x : Nat} (hx : x < 32) : f_X5_whoKnows T (nI x) = some (nI (kno t x)) :=
  ob (pc_msk h hw hx (f_X5_knownTo T) (knw t) (fun p hp => ⟨pc_knw h hw hp, k8 hw (knw_lt hw hp)⟩) (L_X5_whoKnows_4 T (nI x)) (fun _ _ _ => rfl)) rfl
theorem pc_hro {t : Tn} {T : TS} (h : TC t T) (hw : wf t) {m : Nat} (hm : m < 256) : f_X5_hearersOf T (nI m) = some (nI (hro t m)) := by
  have h7 := hw.n7
  unfold f_X5_hearersOf hro
  refine ob (lupE (N := t 1 0) (fun n i => L_X5_hearersOf_4 T (nI m) n (nI i) (nI (bld i (fun q => decide (t 10 q &&& m ≠ 0))))) (fun n => ?_) (fun n i hi => ?_) (t 1 0) 0 300 (by omega) (by omega)) rfl
  · show (if T 1 0 ≤ nI (t 1 0) then _ else _) = _
    rw [h.n, if_pos (yle _)]
  · show (if T 1 0 ≤ nI i then _ else _) = L_X5_hearersOf_4 T (nI m) n (nI (i + 1)) (nI (bld (i + 1) (fun q => decide (t 10 q &&& m ≠ 0))))
    have i7 := lt7 hw hi
    rw [h.n, if_neg (nle hw hi), if_neg (in7 i7), cl7 i7, h.hears hi, pu_and, nI_1, ← wb_bld]
    have hb : t 10 i &&& m < 256 := and_lt8 _ (hw.lt8 (by decide) (by decide) hi)
    by_cases z : t 10 i &&& m = 0
    · rw [z, if_pos (show nI 0 = 0 from rfl), pu_with0 (by omega)]
      simp only [z, ne_eq, not_true, decide_false]
      rfl
    · rw [if_neg (nI_ne0 (by omega) (by omega)), pu_with1 (by omega)]
      simp only [z, ne_eq, not_false_eq_true, decide_true]
      rfl
theorem pc_bln {t : Tn} {T : TS} (h : TC t T) (hw : wf t) : f_X5_allBlind T = some (nI (bln t)) := by
  have h7 := hw.n7
  unfold f_X5_allBlind bln
  refine ob (lupE (N := t 1 0) (fun n i => L_X5_allBlind_4 T n (nI i) (nI (bld i (fun p => decide (t 11 p = 4))))) (fun n => ?_) (fun n i hi => ?_) (t 1 0) 0 300 (by omega) (by omega)) rfl
  · show (if T 1 0 ≤ nI (t 1 0) then _ else _) = _
    rw [h.n, if_pos (yle _)]
  · show (if T 1 0 ≤ nI i then _ else _) = L_X5_allBlind_4 T n (nI (i + 1)) (nI (bld (i + 1) (fun p => decide (t 11 p = 4))))
    have i7 := lt7 hw hi
    have hk := hw.kind hi
    rw [h.n, if_neg (nle hw hi), if_neg (in7 i7), cl7 i7, h.kind hi, nI_1, ← wb_bld]
    by_cases z : t 11 i = 4
    · rw [z, if_pos (show nI 4 = 4 from rfl), pu_with1 (by omega)]
      simp only [z, decide_true]
      rfl
    · rw [ifL z (by omega) (by decide), pu_with0 (by omega)]
      simp only [z, decide_false]
      rfl
theorem pc_allP {t : Tn} {T : TS} (h : TC t T) (hw : wf t) : f_X5_allPeople T = nI (alP t) := by
  unfold f_X5_allPeople alP
  rw [h.n, pu_all _ (by have := hw.n7; omega)]
theorem pm_allP {t : Tn} {T : TS} (h : TM t T) (hw : wf t) : ((1 : Int32) <<< ((T 10 0) &&& 31)) - (1 : Int32) = nI (alP t) := by
  unfold alP
  rw [h.n, pu_all _ (by have := hw.n7; omega)]
theorem alP_lt {t : Tn} (hw : wf t) : alP t < 128 := by
  have h2 : 2 ^ t 1 0 ≤ 2 ^ 7 := Nat.pow_le_pow_right (by decide) hw.n7
  have := Nat.two_pow_pos (t 1 0)
  unfold alP
  omega
theorem aln_lt {t : Tn} (hw : wf t) : aln t < 2 ^ t 1 0 := orr_lt (fun i hi => hw.hears hi)
theorem pc_aln {t : Tn} {T : TS} (h : TC t T) (hw : wf t) : f_X5_whoIsUnheard T = some (nI (dif (alP t) (aln t))) := by
  have h7 := hw.n7
  unfold f_X5_whoIsUnheard
  refine ob (q := nI (aln t)) (lupE (N := t 1 0) (fun n i => L_X5_whoIsUnheard_4 T n (nI i) (nI (orr i (t 10)))) (fun n => ?_) (fun n i hi => ?_) (t 1 0) 0 300 (by omega) (by omega)) ?_
  · show (if T 1 0 ≤ nI (t 1 0) then _ else _) = _
    rw [h.n, if_pos (yle _)]
    rfl
  · show (if T 1 0 ≤ nI i then _ else _) = L_X5_whoIsUnheard_4 T n (nI (i + 1)) (nI (orr i (t 10) ||| t 10 i))
    have i7 := lt7 hw hi
    rw [h.n, if_neg (nle hw hi), if_neg (in7 i7), cl7 i7, h.hears hi, pu_or, nI_1]
  · rw [pc_allP h hw, pu_dif]
theorem pm_aln {t : Tn} {T : TS} (h : TM t T) (hw : wf t) (V : TS) (M R : LTS) : f_X7_alone T V M R = some (nI (dif (alP t) (aln t))) := by
  have h7 := hw.n7
  unfold f_X7_alone
  refine ob (q := nI (aln t)) (lupE (N := t 1 0) (fun n i => L_X7_alone_4 T n (nI i) (nI (orr i (t 10)))) (fun n => ?_) (fun n i hi => ?_) (t 1 0) 0 300 (by omega) (by omega)) ?_
  · show (if T 10 0 ≤ nI (t 1 0) then _ else _) = _
    rw [h.n, if_pos (yle _)]
    rfl
  · show (if T 10 0 ≤ nI i then _ else _) = L_X7_alone_4 T n (nI (i + 1)) (nI (orr i (t 10) ||| t 10 i))
    have i7 := lt7 hw hi
    rw [h.n, if_neg (nle hw hi), if_neg (in7 i7), cl7 i7, h.hears hi, pu_or, nI_1]
  · rw [pm_allP h hw, pu_dif]
theorem pc_prs {t : Tn} {T : TS} (h : TC t T) (hw : wf t) : f_X5_pairsHearing T = some (nI (prs t)) := by
  have h7 := hw.n7
  unfold f_X5_pairsHearing prs
  refine ob (lupE (N := t 1 0) (fun n i => L_X5_pairsHearing_4 T n (nI i) (nI (sm i (fun p => sm p (pr1 t p))))) (fun n => ?_) (fun n i hi => ?_) (t 1 0) 0 300 (by omega) (by omega)) rfl
  · show (if T 1 0 ≤ nI (t 1 0) then _ else _) = _
    rw [h.n, if_pos (yle _)]
  · show (if T 1 0 ≤ nI i then _ else _) = L_X5_pairsHearing_4 T n (nI (i + 1)) (nI (sm i (fun p => sm p (pr1 t p)) + sm i (pr1 t i)))
    have i7 := lt7 hw hi
    have b10 : t 10 i < 256 := hw.lt8 (by decide) (by decide) hi
    rw [h.n, if_neg (nle hw hi)]
    refine ob (q := nI (sm i (fun p => sm p (pr1 t p)) + sm i (pr1 t i))) (lupE (N := i) (fun n j => L_X5_pairsHearing_14 T (nI i) n (nI j) (nI (sm i (fun p => sm p (pr1 t p)) + sm j (pr1 t i)))) (fun n => ?_) (fun n j hj => ?_) i 0 300 (by omega) (by omega)) ?_
    · show (if nI i ≤ nI i then _ else _) = _
      rw [if_pos (yle _)]
    · show (if nI i ≤ nI j then _ else _) = L_X5_pairsHearing_14 T (nI i) n (nI (j + 1)) (nI (sm i (fun p => sm p (pr1 t p)) + (sm j (pr1 t i) + pr1 t i j)))
      have j7 : j < 7 := by omega
      have b11 : t 10 j < 256 := hw.lt8 (by decide) (by decide) (by omega)
      rw [if_neg (nI_ge hj (by omega)), if_neg (in7 i7), cl7 i7, h.hears hi, ← Nat.add_assoc]
      unfold pr1
      by_cases b : (t 10 i).testBit j = true
      · rw [if_neg (fun z => by rw [(pu_has0 (by omega) (by omega)).mp z] at b; cases b), if_neg (in7 j7), cl7 j7, h.hears (p := j) (by omega)]
        by_cases c : (t 10 j).testBit i = true
        · rw [if_neg (fun z => by rw [(pu_has0 (by omega) (by omega)).mp z] at c; cases c), if_pos ⟨b, c⟩, nI_1, nI_1]
        · rw [if_pos ((pu_has0 (by omega) (by omega)).mpr (by simpa using c)), if_neg (fun z => c z.2), nI_1]
          rfl
      · rw [if_pos ((pu_has0 (by omega) (by omega)).mpr (by simpa using b)), if_neg (fun z => b z.1), nI_1]
        rfl
    · rw [nI_1]
theorem pm_prs {t : Tn} {T : TS} (h : TM t T) (hw : wf t) : f_X7_pairsNow T = some (nI (prs t)) := by
  have h7 := hw.n7
  unfold f_X7_pairsNow prs
  refine ob (lupE (N := t 1 0) (fun n i => L_X7_pairsNow_4 T n (nI i) (nI (sm i (fun p => sm p (pr1 t p))))) (fun n => ?_) (fun n i hi => ?_) (t 1 0) 0 300 (by omega) (by omega)) rfl
  · show (if T 10 0 ≤ nI (t 1 0) then _ else _) = _
    rw [h.n, if_pos (yle _)]
  · show (if T 10 0 ≤ nI i then _ else _) = L_X7_pairsNow_4 T n (nI (i + 1)) (nI (sm i (fun p => sm p (pr1 t p)) + sm i (pr1 t i)))
    have i7 := lt7 hw hi
    have b10 : t 10 i < 256 := hw.lt8 (by decide) (by decide) hi
    rw [h.n, if_neg (nle hw hi)]
    refine ob (q := nI (sm i (fun p => sm p (pr1 t p)) + sm i (pr1 t i))) (lupE (N := i) (fun n j => L_X7_pairsNow_14 T (nI i) n (nI j) (nI (sm i (fun p => sm p (pr1 t p)) + sm j (pr1 t i)))) (fun n => ?_) (fun n j hj => ?_) i 0 300 (by omega) (by omega)) ?_
    · show (if nI i ≤ nI i then _ else _) = _
      rw [if_pos (yle _)]
    · show (if nI i ≤ nI j then _ else _) = L_X7_pairsNow_14 T (nI i) n (nI (j + 1)) (nI (sm i (fun p => sm p (pr1 t p)) + (sm j (pr1 t i) + pr1 t i j)))
      have j7 : j < 7 := by omega
      have b11 : t 10 j < 256 := hw.lt8 (by decide) (by decide) (by omega)
      rw [if_neg (nI_ge hj (by omega)), if_neg (in7 i7), cl7 i7, h.hears hi, ← Nat.add_assoc]
      unfold pr1
      by_cases b : (t 10 i).testBit j = true
      · rw [if_neg (fun z => by rw [(pm_has0 (by omega) (by omega)).mp z] at b; cases b), if_neg (in7 j7), cl7 j7, h.hears (p := j) (by omega)]
        by_cases c : (t 10 j).testBit i = true
        · rw [if_neg (fun z => by rw [(pm_has0 (by omega) (by omega)).mp z] at c; cases c), if_pos ⟨b, c⟩, nI_1, nI_1]
        · rw [if_pos ((pm_has0 (by omega) (by omega)).mpr (by simpa using c)), if_neg (fun z => c z.2), nI_1, Nat.add_zero, show (0 : Int32) = nI 0 from rfl, nI_add, Nat.add_zero]
      · rw [if_pos ((pm_has0 (by omega) (by omega)).mpr (by simpa using b)), if_neg (fun z => b z.1), nI_1, Nat.add_zero, show (0 : Int32) = nI 0 from rfl, nI_add, Nat.add_zero]
    · rw [nI_1]
/-- the first of the greatest -/
def am (f : Nat → Nat) : Nat → Nat
  | 0 => 0
  | i + 1 => if f i ≤ f (am f i) then am f i else i
theorem am_lt (f : Nat → Nat) : ∀ i, 0 < i → am f i < i
  | 0, h => absurd h (Nat.lt_irrefl 0)
  | 1, _ => by show (if f 0 ≤ f 0 then 0 else 0) < 1; rw [if_pos (Nat.le_refl _)]; decide
  | i + 2, _ => by
    have := am_lt f (i + 1) (by omega)
    show (if f (i + 1) ≤ f (am f (i + 1)) then am f (i + 1) else i + 1) < i + 2
    split <;> omega
theorem am_1 (f : Nat → Nat) : am f 1 = 0 := by show (if f 0 ≤ f 0 then 0 else 0) = 0; rw [if_pos (Nat.le_refl _)]
theorem am_up {f : Nat → Nat} {i : Nat} (h : f i ≤ f (am f i)) : am f (i + 1) = am f i := if_pos h
theorem am_new {f : Nat → Nat} {i : Nat} (h : ¬ f i ≤ f (am f i)) : am f (i + 1) = i := if_neg h
def lou (t : Tn) : Nat := am (fun p => pc (say t p)) (t 1 0)
theorem pc_lou {t : Tn} {T : TS} (h : TC t T) (hw : wf t) (h0 : 0 < t 1 0) : f_X5_whoMaySayMost T = some (nI (lou t)) := by
  have h7 := hw.n7
  have st : ∀ n i (a b : Int32), i < t 1 0 → L_X5_whoMaySayMost_6 T (n + 1) (nI i) a b = L_X5_whoMaySayMost_6 T n (nI (i + 1)) (if nI (pc (say t i)) ≤ a then a else nI (pc (say t i))) (if nI (pc (say t i)) ≤ a then b else nI i) := by
    intro n i a b hi
    show (if T 1 0 ≤ nI i then _ else _) = _
    rw [h.n, if_neg (nle hw hi)]
    refine ob (pc_say h hw hi) ?_
    rw [pu_bc _ (k8 hw (say_lt hw hi)), nI_1]
  unfold f_X5_whoMaySayMost
  refine ob (q := nI (lou t)) ?_ rfl
  have b0 := pc_le (say t 0)
  have e1 := st 299 0 (-1 : Int32) (-1 : Int32) h0
  have n1 : ¬ nI (pc (say t 0)) ≤ (-1 : Int32) := fun z => by
    have := Int32.le_iff_toInt_le.mp z
    rw [nI_toInt (by omega), show (-1 : Int32).toInt = -1 from by decide] at this
    omega
  rw [if_neg n1, if_neg n1] at e1
  refine e1.trans ?_
  refine lupEk (N := t 1 0) (r := nI (lou t)) (fun n i => L_X5_whoMaySayMost_6 T n (nI i) (nI (pc (say t (am (fun p => pc (say t p)) i)))) (nI (am (fun p => pc (say t p)) i))) (t 1 0 - 1) 1 299 (fun this => ?_) (fun n => ?_) (fun n i hi => ?_) (by omega) (by omega)
  · rw [am_1] at this
    exact this
  · show (if T 1 0 ≤ nI (t 1 0) then _ else _) = _
    rw [h.n, if_pos (yle _)]
    rfl
  · rw [st n i _ _ hi]
    have b1 := pc_le (say t i)
    have b2 := pc_le (say t (am (fun p => pc (say t p)) i))
    by_cases z : pc (say t i) ≤ pc (say t (am (fun p => pc (say t p)) i))
    · rw [if_pos (nI_le z (by omega)), if_pos (nI_le z (by omega)), am_up (f := fun p => pc (say t p)) z]
    · rw [if_neg (nI_ge (by omega) (by omega)), if_neg (nI_ge (by omega) (by omega)), am_new (f := fun p => pc (say t p)) z]
theorem pm_lou {t : Tn} {T : TS} (h : TM t T) (hw : wf t) (h0 : 0 < t 1 0) : L_X7_loudest_18 T 300 (1 : Int32) (0 : Int32) = some (nI (lou t)) := by
  have h7 := hw.n7
  refine lupEk (N := t 1 0) (r := nI (lou t)) (fun n i => L_X7_loudest_18 T n (nI i) (nI (am (fun p => pc (say t p)) i))) (t 1 0 - 1) 1 300 (fun this => ?_) (fun n => ?_) (fun n i hi => ?_) (by omega) (by omega)
  · rw [am_1] at this
    exact this
  · show (if T 10 0 ≤ nI (t 1 0) then _ else _) = _
    rw [h.n, if_pos (yle _)]
    rfl
  · by_cases i0 : i = 0
    · subst i0
      have e : am (fun p => pc (say t p)) 0 = 0 := rfl
      show (if T 10 0 ≤ nI 0 then _ else _) = L_X7_loudest_18 T n (nI (0 + 1)) (nI (am (fun p => pc (say t p)) (0 + 1)))
      rw [h.n, if_neg (nle hw hi)]
      refine ob (pm_say h hw hi) (ob (pm_bits (k8 hw (say_lt hw hi))) (ob (pm_say h hw hi) (ob (pm_bits (k8 hw (say_lt hw hi))) ?_)))
      rw [e, if_pos (yle _), am_1, nI_1]
    · have hb := am_lt (fun p => pc (say t p)) i (by omega)
      show (if T 10 0 ≤ nI i then _ else _) = L_X7_loudest_18 T n (nI (i + 1)) (nI (am (fun p => pc (say t p)) (i + 1)))
      rw [h.n, if_neg (nle hw hi)]
      have hb2 : am (fun p => pc (say t p)) i < t 1 0 := by omega
      refine ob (pm_say h hw hi) (ob (pm_bits (k8 hw (say_lt hw hi))) (ob (pm_say h hw hb2) (ob (pm_bits (k8 hw (say_lt hw hb2))) ?_)))
      have b1 := pc_le (say t i)
      have b2 := pc_le (say t (am (fun p => pc (say t p)) i))
      by_cases z : pc (say t i) ≤ pc (say t (am (fun p => pc (say t p)) i))
      · rw [if_pos (nI_le z (by omega)), am_up (f := fun p => pc (say t p)) z, nI_1]
      · rw [if_neg (nI_ge (by omega) (by omega)), am_new (f := fun p => pc (say t p)) z, nI_1]
