/-! ===== pure: the town by natural numbers, and how each side keeps it ===== -/
abbrev Tn : Type := Nat → Nat → Nat
def upn (t : Tn) (k : Nat) (f : Nat → Nat) : Tn := fun i => if i = k then f else t i
def updn (f : Nat → Nat) (k x : Nat) : Nat → Nat := fun j => if j = k then x else f j
theorem upn_same (t : Tn) (k : Nat) (f : Nat → Nat) : upn t k f k = f := if_pos rfl
theorem upn_ne (t : Tn) {k j : Nat} (f : Nat → Nat) (h : j ≠ k) : upn t k f j = t j := if_neg h
theorem upn_id (t : Tn) (k : Nat) : upn t k (t k) = t := by
  funext j
  by_cases h : j = k
  · subst h; exact upn_same t j _
  · exact upn_ne t _ h
theorem upn_upn (t : Tn) (k : Nat) (f g : Nat → Nat) : upn (upn t k f) k g = upn t k g := by
  funext j
  by_cases h : j = k
  · subst h; rw [upn_same, upn_same]
  · rw [upn_ne _ _ h, upn_ne _ _ h, upn_ne _ _ h]
/-- 0 sights, 1 people, 2 dusk, 3 signs, 4 lies; 7 seen, 8 half, 9 heard, 10 hears, 11 kinds, 12 marks -/
def bnd (t : Tn) (j : Nat) : Nat := if j = 10 then 2 ^ t 1 0 else if j = 11 then 6 else if j = 12 then 10 else 2 ^ t 0 0
def wf (t : Tn) : Prop := (4 ≤ t 0 0 ∧ t 0 0 ≤ 8 ∧ t 1 0 ≤ 7 ∧ t 2 0 ≤ 1 ∧ t 3 0 ≤ 9 ∧ t 4 0 ≤ 9) ∧ ∀ j p : Nat, 7 ≤ j → j ≤ 12 → p < t 1 0 → t j p < bnd t j
def TC (t : Tn) (T : TS) : Prop := (∀ j : Nat, j < 5 → T j 0 = nI (t j 0)) ∧ ∀ j p : Nat, 7 ≤ j → j ≤ 12 → p < t 1 0 → T j p = nI (t j p)
def mj (j : Nat) : Nat := if j ≤ 10 then j + 6 else j
def TM (t : Tn) (U : TS) : Prop := U 9 0 = nI (t 0 0) ∧ U 10 0 = nI (t 1 0) ∧ (∀ j : Nat, j < 3 → U 17 j = nI (t (j + 2) 0)) ∧ ∀ j p : Nat, 7 ≤ j → j ≤ 12 → p < t 1 0 → U (mj j) p = nI (t j p)
theorem bnd_le {t : Tn} (hw : wf t) (j : Nat) : bnd t j ≤ 256 := by
  have h1 : 2 ^ t 0 0 ≤ 2 ^ 8 := Nat.pow_le_pow_right (by decide) hw.1.2.1
  have h2 : 2 ^ t 1 0 ≤ 2 ^ 8 := Nat.pow_le_pow_right (by decide) (by have := hw.1.2.2.1; omega)
  unfold bnd
  repeat (first | omega | split)
theorem wf.lt8 {t : Tn} (hw : wf t) {j p : Nat} (h1 : 7 ≤ j) (h2 : j ≤ 12) (hp : p < t 1 0) : t j p < 256 := Nat.lt_of_lt_of_le (hw.2 j p h1 h2 hp) (bnd_le hw j)
theorem wf.n7 {t : Tn} (hw : wf t) : t 1 0 ≤ 7 := hw.1.2.2.1
theorem wf.see {t : Tn} (hw : wf t) {p : Nat} (hp : p < t 1 0) : t 7 p < 2 ^ t 0 0 := hw.2 7 p (by decide) (by decide) hp
theorem wf.half {t : Tn} (hw : wf t) {p : Nat} (hp : p < t 1 0) : t 8 p < 2 ^ t 0 0 := hw.2 8 p (by decide) (by decide) hp
theorem wf.heard {t : Tn} (hw : wf t) {p : Nat} (hp : p < t 1 0) : t 9 p < 2 ^ t 0 0 := hw.2 9 p (by decide) (by decide) hp
theorem wf.hears {t : Tn} (hw : wf t) {p : Nat} (hp : p < t 1 0) : t 10 p < 2 ^ t 1 0 := hw.2 10 p (by decide) (by decide) hp
theorem wf.kind {t : Tn} (hw : wf t) {p : Nat} (hp : p < t 1 0) : t 11 p < 6 := hw.2 11 p (by decide) (by decide) hp
theorem wf.put {t : Tn} (hw : wf t) {j : Nat} {f : Nat → Nat} (h1 : 7 ≤ j) (hf : ∀ p, p < t 1 0 → f p < bnd t j) : wf (upn t j f) := by
  have e : ∀ i, i < 7 → upn t j f i = t i := fun i hi => upn_ne t f (by omega)
  refine ⟨by rw [e 0 (by decide), e 1 (by decide), e 2 (by decide), e 3 (by decide), e 4 (by decide)]; exact hw.1, fun i p a b c => ?_⟩
  rw [e 1 (by decide)] at c
  have hb : bnd (upn t j f) i = bnd t i := by unfold bnd; rw [e 1 (by decide), e 0 (by decide)]
  rw [hb]
  by_cases hij : i = j
  · subst hij; rw [upn_same]; exact hf p c
  · rw [upn_ne t f hij]; exact hw.2 i p a b c
theorem TC.n {t : Tn} {T : TS} (h : TC t T) : T 1 0 = nI (t 1 0) := h.1 1 (by decide)
theorem TM.n {t : Tn} {T : TS} (h : TM t T) : T 10 0 = nI (t 1 0) := h.2.1
theorem TC.put {t : Tn} {T : TS} (h : TC t T) {j : Nat} {f : Nat → Nat} {g : Nat → Int32} (h1 : 7 ≤ j) (hf : ∀ p, p < t 1 0 → g p = nI (f p)) : TC (upn t j f) (up T j g) := by
  have e : ∀ i, i < 7 → upn t j f i = t i := fun i hi => upn_ne t f (by omega)
  refine ⟨fun i hi => ?_, fun i p a b c => ?_⟩
  · rw [e i (by omega), up_ne T g (by omega)]; exact h.1 i hi
  · rw [e 1 (by decide)] at c
    by_cases hij : i = j
    · subst hij; rw [upn_same, up_same]; exact hf p c
    · rw [upn_ne t f hij, up_ne T g hij]; exact h.2 i p a b c
theorem mj_inj {i j : Nat} (a : 7 ≤ i) (b : i ≤ 12) (c : 7 ≤ j) (d : j ≤ 12) (h : mj i = mj j) : i = j := by
  unfold mj at h
  split at h <;> split at h <;> omega
theorem mj_lt {j : Nat} (a : 7 ≤ j) (b : j ≤ 12) : 11 ≤ mj j ∧ mj j ≤ 16 := by
  unfold mj
  split <;> omega
theorem TM.put {t : Tn} {T : TS} (h : TM t T) {j : Nat} {f : Nat → Nat} {g : Nat → Int32} (h1 : 7 ≤ j) (h2 : j ≤ 12) (hf : ∀ p, p < t 1 0 → g p = nI (f p)) : TM (upn t j f) (up T (mj j) g) := by
  have e : ∀ i, i < 7 → upn t j f i = t i := fun i hi => upn_ne t f (by omega)
  have l := mj_lt h1 h2
  refine ⟨?_, ?_, fun i hi => ?_, fun i p a b c => ?_⟩
  · rw [e 0 (by decide), up_ne T g (by omega)]; exact h.1
  · rw [e 1 (by decide), up_ne T g (by omega)]; exact h.2.1
  · rw [e (i + 2) (by omega), up_ne T g (by omega)]; exact h.2.2.1 i hi
  · rw [e 1 (by decide)] at c
    by_cases hij : i = j
    · subst hij; rw [upn_same, up_same]; exact hf p c
    · rw [upn_ne t f hij, up_ne T g (fun q => hij (mj_inj a b h1 h2 q))]; exact h.2.2.2 i p a b c
theorem TC.junk {t : Tn} {T : TS} (h : TC t T) {j : Nat} {g : Nat → Int32} (hj : j = 5 ∨ j = 6 ∨ 13 ≤ j) : TC t (up T j g) :=
  ⟨fun i hi => by rw [up_ne T g (by omega)]; exact h.1 i hi, fun i p a b c => by rw [up_ne T g (by omega)]; exact h.2 i p a b c⟩
theorem TM.junk {t : Tn} {T : TS} (h : TM t T) {j : Nat} {g : Nat → Int32} (hj : j < 9 ∨ 18 ≤ j) : TM t (up T j g) := by
  refine ⟨?_, ?_, fun i hi => ?_, fun i p a b c => ?_⟩
  · rw [up_ne T g (by omega)]; exact h.1
  · rw [up_ne T g (by omega)]; exact h.2.1
  · rw [up_ne T g (by omega)]; exact h.2.2.1 i hi
  · have l := mj_lt a b
    rw [up_ne T g (by omega)]; exact h.2.2.2 i p a b c
theorem cl7 {p : Nat} (h : p < 7) : (nI p).toNatClampNeg = p := nI_clamp (by omega)
theorem in7 {p : Nat} (h : p < 7) : ¬ (nI p < 0 ∨ 7 ≤ (nI p).toNatClampNeg) := nI_in h (by decide)
theorem upd_n {f : Nat → Int32} {g : Nat → Nat} {p x n : Nat} (h : ∀ q, q < n → f q = nI (g q)) : ∀ q, q < n → upd f p (nI x) q = nI (updn g p x q) := by
  intro q hq
  show (if q = p then nI x else f q) = nI (if q = p then x else g q)
  by_cases e : q = p
  · rw [if_pos e, if_pos e]
  · rw [if_neg e, if_neg e, h q hq]
/-- the town's words -/
def bar (t : Tn) (p : Nat) : Nat := if t 2 0 = 1 then t 7 p ||| t 8 p else t 7 p
def knw (t : Tn) (p : Nat) : Nat := t 7 p ||| t 8 p ||| t 9 p
def alS (t : Tn) : Nat := 2 ^ t 0 0 - 1
def alP (t : Tn) : Nat := 2 ^ t 1 0 - 1
def vch (t : Tn) (p : Nat) : Nat := orr (t 1 0) (fun q => if (t 10 p).testBit q then t 9 q ||| t 7 q else 0)
def say (t : Tn) (p : Nat) : Nat :=
  if t 11 p = 1 then t 9 p &&& dif (alS t) (bar t p) &&& vch t p
  else if t 11 p = 2 then dif (alS t) (bar t p)
  else if t 11 p = 3 then dif (alS t) (bar t p) ||| fbs (t 4 0) (bar t p)
  else t 9 p &&& dif (alS t) (bar t p)
def tlI (t : Tn) (p m i : Nat) : Tn := upn t 9 (fun q => if q < i ∧ (t 10 q).testBit p = true then t 9 q ||| m else t 9 q)
def tl (t : Tn) (p m : Nat) : Tn := tlI t p m (t 1 0)
def tlq (t : Tn) (p m q : Nat) : Nat := if (t 10 q).testBit p = true then pc (dif m (t 9 q)) else 0
def tlc (t : Tn) (p m : Nat) : Nat := sm (t 1 0) (tlq t p m)
theorem bar_lt {t : Tn} (hw : wf t) {p : Nat} (hp : p < t 1 0) : bar t p < 2 ^ t 0 0 := by
  unfold bar
  split
  · exact Nat.or_lt_two_pow (hw.see hp) (hw.half hp)
  · exact hw.see hp
theorem k8 {t : Tn} (hw : wf t) {m : Nat} (h : m < 2 ^ t 0 0) : m < 256 := Nat.lt_of_lt_of_le h (Nat.pow_le_pow_right (n := 2) (j := 8) (by decide) hw.1.2.1)
theorem knw_lt {t : Tn} (hw : wf t) {p : Nat} (hp : p < t 1 0) : knw t p < 2 ^ t 0 0 := Nat.or_lt_two_pow (Nat.or_lt_two_pow (hw.see hp) (hw.half hp)) (hw.heard hp)
theorem alS_lt (t : Tn) : alS t < 2 ^ t 0 0 := by
  have := Nat.two_pow_pos (t 0 0)
  unfold alS
  omega
theorem fbs_k : ∀ k, k < 9 → ∀ m, m < 2 ^ k → ∀ c, c < 10 → fbs c m < 2 ^ k := by decide +kernel
theorem say_lt {t : Tn} (hw : wf t) {p : Nat} (hp : p < t 1 0) : say t p < 2 ^ t 0 0 := by
  have hd : dif (alS t) (bar t p) < 2 ^ t 0 0 := dif_lt (alS_lt t)
  have hh : t 9 p &&& dif (alS t) (bar t p) < 2 ^ t 0 0 := Nat.lt_of_le_of_lt Nat.and_le_right hd
  unfold say
  split
  · exact Nat.lt_of_le_of_lt Nat.and_le_left hh
  · split
    · exact hd
    · split
      · exact Nat.or_lt_two_pow hd (fbs_k (t 0 0) (by have := hw.1.2.1; omega) _ (bar_lt hw hp) (t 4 0) (by have := hw.1.2.2.2.2.2; omega))
      · exact hh
theorem tlI_0 (t : Tn) (p m : Nat) : tlI t p m 0 = t := by
  unfold tlI
  rw [show (fun q => if q < 0 ∧ (t 10 q).testBit p = true then t 9 q ||| m else t 9 q) = t 9 from by
    funext q
    exact if_neg (fun h => Nat.not_lt_zero q h.1)]
  exact upn_id t 9
theorem tlI_ne {t : Tn} {p m i j : Nat} (h : j ≠ 9) : tlI t p m i j = t j := upn_ne t _ h
theorem tlI_at {t : Tn} {p m i q : Nat} (h : i ≤ q) : tlI t p m i 9 q = t 9 q := by
  unfold tlI
  rw [upn_same]
  exact if_neg (fun z => by omega)
theorem tlI_s0 {t : Tn} {p m i : Nat} (h : (t 10 i).testBit p = false) : tlI t p m (i + 1) = tlI t p m i := by
  unfold tlI
  congr 1
  funext q
  by_cases e : q = i
  · subst e
    rw [if_neg (fun z => by rw [h] at z; cases z.2), if_neg (fun z => by rw [h] at z; cases z.2)]
  · have : (q < i + 1 ∧ (t 10 q).testBit p = true) ↔ (q < i ∧ (t 10 q).testBit p = true) := by constructor <;> (intro z; exact ⟨by omega, z.2⟩)
    simp only [this]
theorem tlI_s1 {t : Tn} {p m i : Nat} (h : (t 10 i).testBit p = true) : tlI t p m (i + 1) = upn (tlI t p m i) 9 (updn (tlI t p m i 9) i (t 9 i ||| m)) := by
  unfold tlI
  rw [upn_upn, upn_same]
  congr 1
  funext q
  show _ = (if q = i then _ else _)
  by_cases e : q = i
  · subst e
    rw [if_pos rfl, if_pos ⟨Nat.lt_succ_self q, h⟩]
  · rw [if_neg e]
    have : (q < i + 1 ∧ (t 10 q).testBit p = true) ↔ (q < i ∧ (t 10 q).testBit p = true) := by constructor <;> (intro z; exact ⟨by omega, z.2⟩)
    simp only [this]
theorem tlI_wf {t : Tn} (hw : wf t) {p m : Nat} (hm : m < 2 ^ t 0 0) (i : Nat) : wf (tlI t p m i) := by
  refine hw.put (by decide) (fun q hq => ?_)
  show (if _ then _ else _) < 2 ^ t 0 0
  split
  · exact Nat.or_lt_two_pow (hw.heard hq) hm
  · exact hw.heard hq
theorem tl_wf {t : Tn} (hw : wf t) {p m : Nat} (hm : m < 2 ^ t 0 0) : wf (tl t p m) := tlI_wf hw hm _
theorem tlc_le (t : Tn) (hw : wf t) (p m : Nat) : tlc t p m ≤ 56 := by
  have h : tlc t p m ≤ t 1 0 * 8 := sm_le (fun i _ => by unfold tlq; split; exact pc_le _; decide)
  have := hw.n7
  omega
theorem pu_tb0 {h q : Nat} (hh : h < 256) (hq : q < 32) : nI h &&& ((1 : Int32) <<< (nI q &&& 31)) = 0 ↔ h.testBit q = false := by
  rw [pu_one q hq, pu_and, and_pow]
  cases e : h.testBit q
  · rw [if_neg (by decide)]; exact ⟨fun _ => rfl, fun _ => rfl⟩
  · rw [if_pos rfl]
    refine ⟨fun z => ?_, fun z => by cases z⟩
    have hq8 : q < 8 := by
      apply Classical.byContradiction
      intro hc
      rw [Nat.testBit_lt_two_pow (Nat.lt_of_lt_of_le hh (Nat.pow_le_pow_right (n := 2) (i := 8) (j := q) (by decide) (by omega)))] at e
      cases e
    exact absurd z (nI_ne0 (Nat.two_pow_pos q) (Nat.lt_of_lt_of_le (Nat.pow_lt_pow_right (by decide) hq8) (by decide)))
theorem pc_allSights {t : Tn} {T : TS} (h : TC t T) (hw : wf t) : f_X5_allSights T = nI (alS t) := by
  unfold f_X5_allSights alS
  rw [h.1 0 (by decide), pu_all _ (by have := hw.1.2.1; omega)]
theorem pc_bar {t : Tn} {T : TS} (h : TC t T) (hw : wf t) {p : Nat} (hp : p < t 1 0) : f_X5_barredTo T (nI p) = some (nI (bar t p)) := by
  have h7 := hw.n7
  have e2 : T 2 0 = nI (t 2 0) := h.1 2 (by decide)
  have hd := hw.1.2.2.2.1
  unfold f_X5_barredTo bar
  rw [e2]
  by_cases e : t 2 0 = 1
  · rw [e, ifY 1, if_pos rfl, if_neg (in7 (by omega)), cl7 (by omega), h.2 7 p (by decide) (by decide) hp, h.2 8 p (by decide) (by decide) hp, pu_or]
  · rw [ifL e (by omega) (by decide), if_neg e, if_neg (in7 (by omega)), cl7 (by omega), h.2 7 p (by decide) (by decide) hp]
theorem pc_knw {t : Tn} {T : TS} (h : TC t T) (hw : wf t) {p : Nat} (hp : p < t 1 0) : f_X5_knownTo T (nI p) = some (nI (knw t p)) := by
  have h7 := hw.n7
  unfold f_X5_knownTo knw
  rw [if_neg (in7 (by omega)), cl7 (by omega), h.2 7 p (by decide) (by decide) hp, h.2 8 p (by decide) (by decide) hp, h.2 9 p (by decide) (by decide) hp, pu_or, pu_or]
theorem pm_allSights {t : Tn} {T : TS} (h : TM t T) (hw : wf t) : f_X7_allSights T = nI (alS t) := by
  unfold f_X7_allSights alS
  rw [h.1, pu_all _ (by have := hw.1.2.1; omega)]
theorem pm_bar {t : Tn} {T : TS} (h : TM t T) (hw : wf t) {p : Nat} (hp : p < t 1 0) : f_X7_barredBy T (nI p) = some (nI (bar t p)) := by
  have h7 := hw.n7
  have e2 : T 17 0 = nI (t 2 0) := h.2.2.1 0 (by decide)
  have hd := hw.1.2.2.2.1
  unfold f_X7_barredBy bar
  rw [show ((0 : Int32)).toNatClampNeg = 0 from rfl]
  rw [e2]
  by_cases e : t 2 0 = 1
  · rw [e, ifY 1, if_pos rfl, if_neg (in7 (by omega)), cl7 (by omega), (show T 13 p = nI (t 7 p) from h.2.2.2 7 p (by decide) (by decide) hp), (show T 14 p = nI (t 8 p) from h.2.2.2 8 p (by decide) (by decide) hp), pu_or]
  · rw [ifL e (by omega) (by decide), if_neg e, if_neg (in7 (by omega)), cl7 (by omega), (show T 13 p = nI (t 7 p) from h.2.2.2 7 p (by decide) (by decide) hp)]
theorem pm_knw {t : Tn} {T : TS} (h : TM t T) (hw : wf t) {p : Nat} (hp : p < t 1 0) : f_X7_knows T (nI p) = some (nI (knw t p)) := by
  have h7 := hw.n7
  unfold f_X7_knows knw
  rw [if_neg (in7 (by omega)), cl7 (by omega), (show T 13 p = nI (t 7 p) from h.2.2.2 7 p (by decide) (by decide) hp), (show T 14 p = nI (t 8 p) from h.2.2.2 8 p (by decide) (by decide) hp), (show T 15 p = nI (t 9 p) from h.2.2.2 9 p (by decide) (by decide) hp), pu_or, pu_or]
