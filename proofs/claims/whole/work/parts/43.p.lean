/-! ===== pure: signs, rounds ===== -/
def cf (n : Nat) : Int32 := if n = 0 then 0 else 1
theorem cf_0 : cf 0 = 0 := rfl
theorem cf_s (n : Nat) : cf (n + 1) = 1 := rfl
theorem cf_le {n : Nat} (h : n < 2 ^ 31) : (if nI n ≤ 0 then (0 : Int32) else (1 : Int32)) = cf n := by
  cases n with
  | zero => rfl
  | succ n => rw [if_neg (nI_nle (by omega) h)]; rfl
theorem cf_or {a b : Nat} (h : b < 2 ^ 31) : cf a ||| (if nI b ≤ 0 then (0 : Int32) else (1 : Int32)) = cf (a + b) := by
  rw [cf_le h]
  cases a with
  | zero =>
    rw [Nat.zero_add, cf_0]
    cases b with
    | zero => decide
    | succ b => rw [cf_s]; decide
  | succ a =>
    rw [show a + 1 + b = (a + b) + 1 by omega, cf_s, cf_s]
    cases b with
    | zero => decide
    | succ b => rw [cf_s]; decide
theorem cf_pos {n : Nat} (h : 0 < n) : cf n = 1 := by
  obtain ⟨k, rfl⟩ : ∃ k, n = k + 1 := ⟨n - 1, by omega⟩
  rfl
theorem cf_01 (n : Nat) : cf n = 0 ∨ cf n = 1 := by
  cases n with
  | zero => exact Or.inl rfl
  | succ n => exact Or.inr rfl
theorem cf_z {n : Nat} : cf n = 0 ↔ n = 0 := by
  cases n with
  | zero => exact ⟨fun _ => rfl, fun _ => rfl⟩
  | succ n => exact ⟨fun h => absurd h (by rw [cf_s]; decide), fun h => by omega⟩
theorem pc_fbs : ∀ m, m < 256 → ∀ c, c < 10 → pc (fbs c m) ≤ c := fun m hm c hc => by
  have := (scn_fbs 8 (by decide) m hm c hc).2
  omega
theorem updn_id (f : Nat → Nat) (q : Nat) : updn f q (f q) = f := by
  funext j
  show (if j = q then f q else f j) = f j
  by_cases e : j = q
  · subst e; rw [if_pos rfl]
  · rw [if_neg e]
theorem updn_same (f : Nat → Nat) (q x : Nat) : updn f q x q = x := if_pos rfl
theorem updn_ne (f : Nat → Nat) {q j : Nat} (x : Nat) (h : j ≠ q) : updn f q x j = f j := if_neg h
/-- one sign's step: from p to q, when a were made -/
def sgf (t : Tn) (p q a : Nat) : Nat := if (t 10 q).testBit p = true then fbs (t 3 0 - a) (dif (t 7 p) (t 9 q)) else 0
def sg1 (t : Tn) (p q a : Nat) : Tn := upn t 9 (updn (t 9) q (t 9 q ||| sgf t p q a))
def sgI (p : Nat) (s : Tn × Nat) : Nat → Tn × Nat
  | 0 => s
  | i + 1 => (sg1 (sgI p s i).1 p i (sgI p s i).2, (sgI p s i).2 + pc (sgf (sgI p s i).1 p i (sgI p s i).2))
def sgO (n : Nat) (s : Tn × Nat) : Nat → Tn × Nat
  | 0 => s
  | i + 1 => sgI i (sgO n s i) n
/-- everybody says all -/
def tA (t : Tn) : Nat → Tn × Nat
  | 0 => (t, 0)
  | i + 1 => (tl (tA t i).1 i (say t i), (tA t i).2 + tlc (tA t i).1 i (say t i))
def rsg (t : Tn) : Tn × Nat := sgO (t 1 0) ((tA t (t 1 0)).1, 0) (t 1 0)
def rnd (t : Tn) : Tn := (rsg t).1
def cnt (t : Tn) : Nat := (tA t (t 1 0)).2 + (rsg t).2
/-- the same but for what's heard -/
def Ne9 (t t' : Tn) : Prop := ∀ j, j ≠ 9 → t' j = t j
theorem Ne9.rfl' (t : Tn) : Ne9 t t := fun _ _ => rfl
theorem Ne9.trans {a b c : Tn} (h : Ne9 a b) (h2 : Ne9 b c) : Ne9 a c := fun j hj => (h2 j hj).trans (h j hj)
theorem Ne9.up {t : Tn} (f : Nat → Nat) : Ne9 t (upn t 9 f) := fun _ hj => upn_ne t f hj
theorem tl_ne (t : Tn) (p m : Nat) : Ne9 t (tl t p m) := fun _ hj => tlI_ne hj
theorem sg1_0 {t : Tn} {p q a : Nat} (h : sgf t p q a = 0) : sg1 t p q a = t := by
  unfold sg1
  rw [h, Nat.or_zero, updn_id, upn_id]
theorem sg1_ne (t : Tn) (p q a : Nat) : Ne9 t (sg1 t p q a) := Ne9.up _
theorem sgI_ne (p : Nat) (s : Tn × Nat) : ∀ i, Ne9 s.1 (sgI p s i).1
  | 0 => Ne9.rfl' _
  | i + 1 => (sgI_ne p s i).trans (sg1_ne _ _ _ _)
theorem sgO_ne (n : Nat) (s : Tn × Nat) : ∀ i, Ne9 s.1 (sgO n s i).1
  | 0 => Ne9.rfl' _
  | i + 1 => (sgO_ne n s i).trans (sgI_ne _ _ _)
theorem tA_ne (t : Tn) : ∀ i, Ne9 t (tA t i).1
  | 0 => Ne9.rfl' _
  | i + 1 => (tA_ne t i).trans (tl_ne _ _ _)
theorem rnd_ne (t : Tn) : Ne9 t (rnd t) := (tA_ne t _).trans (sgO_ne _ _ _)
theorem sgf_lt {t : Tn} (hw : wf t) {p q a : Nat} (hp : p < t 1 0) : sgf t p q a < 2 ^ t 0 0 := by
  unfold sgf
  split
  · exact fbs_k (t 0 0) (by have := hw.1.2.1; omega) _ (dif_lt (hw.see hp)) _ (by have := hw.1.2.2.2.2.1; omega)
  · exact Nat.two_pow_pos _
theorem sg1_wf {t : Tn} (hw : wf t) {p q a : Nat} (hp : p < t 1 0) : wf (sg1 t p q a) := by
  refine hw.put (by decide) (fun j hj => ?_)
  show (if j = q then t 9 q ||| sgf t p q a else t 9 j) < 2 ^ t 0 0
  by_cases e : j = q
  · subst e; rw [if_pos rfl]; exact Nat.or_lt_two_pow (hw.heard hj) (sgf_lt hw hp)
  · rw [if_neg e]; exact hw.heard hj
theorem sgI_wf {s : Tn × Nat} (hw : wf s.1) {p : Nat} (hp : p < s.1 1 0) : ∀ i, wf (sgI p s i).1
  | 0 => hw
  | i + 1 => sg1_wf (sgI_wf hw hp i) (by rw [sgI_ne p s i 1 (by decide)]; exact hp)
theorem sgO_wf {n : Nat} {s : Tn × Nat} (hw : wf s.1) : ∀ i, i ≤ s.1 1 0 → wf (sgO n s i).1
  | 0, _ => hw
  | i + 1, h => sgI_wf (sgO_wf hw i (by omega)) (by rw [sgO_ne n s i 1 (by decide)]; exact h) n
theorem tA_wf {t : Tn} (hw : wf t) : ∀ i, i ≤ t 1 0 → wf (tA t i).1
  | 0, _ => hw
  | i + 1, h => tl_wf (tA_wf hw i (by omega)) (by rw [tA_ne t i 0 (by decide)]; exact say_lt hw h)
theorem rnd_wf {t : Tn} (hw : wf t) : wf (rnd t) := sgO_wf (s := ((tA t (t 1 0)).1, 0)) (tA_wf hw _ (Nat.le_refl _)) _ (by rw [tA_ne t _ 1 (by decide)]; exact Nat.le_refl _)
theorem sgI_le {s : Tn × Nat} (hw : wf s.1) {p : Nat} (hp : p < s.1 1 0) (h : s.2 ≤ s.1 3 0) : ∀ i, (sgI p s i).2 ≤ s.1 3 0
  | 0 => h
  | i + 1 => by
    have ih := sgI_le hw hp h i
    have e3 : (sgI p s i).1 3 0 = s.1 3 0 := by rw [sgI_ne p s i 3 (by decide)]
    have hw2 := sgI_wf hw hp i
    show (sgI p s i).2 + pc (sgf (sgI p s i).1 p i (sgI p s i).2) ≤ s.1 3 0
    have hb : pc (sgf (sgI p s i).1 p i (sgI p s i).2) ≤ s.1 3 0 - (sgI p s i).2 := by
      unfold sgf
      split
      · rw [e3]
        exact pc_fbs _ (dif_lt8 _ (k8 hw2 (hw2.see (by rw [sgI_ne p s i 1 (by decide)]; exact hp)))) _ (by have := hw.1.2.2.2.2.1; omega)
      · exact Nat.le_trans (by decide : pc 0 ≤ 0) (Nat.zero_le _)
    omega
theorem sgO_le {n : Nat} {s : Tn × Nat} (hw : wf s.1) (h : s.2 ≤ s.1 3 0) : ∀ i, i ≤ s.1 1 0 → (sgO n s i).2 ≤ s.1 3 0
  | 0, _ => h
  | i + 1, hi => by
    have e3 : (sgO n s i).1 3 0 = s.1 3 0 := by rw [sgO_ne n s i 3 (by decide)]
    have ih := sgO_le (n := n) hw h i (by omega)
    rw [← e3]
    exact sgI_le (s := sgO n s i) (sgO_wf hw i (by omega)) (by rw [sgO_ne n s i 1 (by decide)]; exact hi) (by rw [e3]; exact ih) n
theorem sgI_full {s : Tn × Nat} {p i : Nat} (h : (sgI p s i).1 3 0 ≤ (sgI p s i).2) : ∀ d, sgI p s (i + d) = sgI p s i
  | 0 => rfl
  | d + 1 => by
    have ih := sgI_full h d
    have z : sgf (sgI p s (i + d)).1 p (i + d) (sgI p s (i + d)).2 = 0 := by
      rw [ih]
      unfold sgf
      rw [Nat.sub_eq_zero_of_le h]
      split <;> rfl
    show (sg1 (sgI p s (i + d)).1 p (i + d) (sgI p s (i + d)).2, (sgI p s (i + d)).2 + pc (sgf (sgI p s (i + d)).1 p (i + d) (sgI p s (i + d)).2)) = sgI p s i
    rw [z, sg1_0 z, ih, show pc 0 = 0 from by decide, Nat.add_zero]
theorem tA_le {t : Tn} (hw : wf t) : ∀ i, i ≤ t 1 0 → (tA t i).2 ≤ i * 56
  | 0, _ => Nat.le_refl _
  | i + 1, h => by
    have := tA_le hw i (by omega)
    have h2 := tlc_le (tA t i).1 (tA_wf hw i (by omega)) i (say t i)
    show (tA t i).2 + tlc (tA t i).1 i (say t i) ≤ (i + 1) * 56
    omega
/-- a round that counts nothing changes nothing -/
theorem sm_0 {f : Nat → Nat} : ∀ {n : Nat}, sm n f = 0 → ∀ i, i < n → f i = 0
  | 0, _, i, hi => absurd hi (Nat.not_lt_zero i)
  | n + 1, h, i, hi => by
    have h : sm n f + f n = 0 := h
    by_cases e : i = n
    · subst e; omega
    · exact sm_0 (n := n) (by omega) i (by omega)
theorem or_of_dif0 {a b : Nat} (h : dif a b = 0) : b ||| a = b := by
  apply Nat.eq_of_testBit_eq
  intro i
  have h2 : (dif a b).testBit i = false := by rw [h, Nat.zero_testBit]
  rw [dif_bit] at h2
  rw [Nat.testBit_or]
  revert h2
  cases a.testBit i <;> cases b.testBit i <;> decide
theorem tl_fix {t : Tn} (hw : wf t) {p m : Nat} (hm : m < 2 ^ t 0 0) (h : tlc t p m = 0) : tl t p m = t := by
  unfold tl tlI
  rw [show (fun q => if q < t 1 0 ∧ (t 10 q).testBit p = true then t 9 q ||| m else t 9 q) = t 9 from ?_]
  · exact upn_id t 9
  · funext q
    show (if q < t 1 0 ∧ (t 10 q).testBit p = true then t 9 q ||| m else t 9 q) = t 9 q
    by_cases e : q < t 1 0 ∧ (t 10 q).testBit p = true
    · rw [if_pos e]
      have h2 := sm_0 h q e.1
      unfold tlq at h2
      rw [if_pos e.2] at h2
      exact or_of_dif0 (pc_0 _ (dif_lt8 _ (k8 hw hm)) h2)
    · rw [if_neg e]
theorem tA_fix {t : Tn} (hw : wf t) : ∀ i, i ≤ t 1 0 → (tA t i).2 = 0 → (tA t i).1 = t
  | 0, _, _ => rfl
  | i + 1, hi, h => by
    have h : (tA t i).2 + tlc (tA t i).1 i (say t i) = 0 := h
    have ih := tA_fix hw i (by omega) (by omega)
    show tl (tA t i).1 i (say t i) = t
    rw [ih] at h ⊢
    exact tl_fix hw (say_lt hw hi) (by omega)
theorem sgI_fix {s : Tn × Nat} (hw : wf s.1) {p : Nat} (hp : p < s.1 1 0) : ∀ i, (sgI p s i).2 = 0 → (sgI p s i).1 = s.1 ∧ s.2 = 0
  | 0, h => ⟨rfl, h⟩
  | i + 1, h => by
    have h : (sgI p s i).2 + pc (sgf (sgI p s i).1 p i (sgI p s i).2) = 0 := h
    have ih := sgI_fix hw hp i (by omega)
    have hw2 := sgI_wf hw hp i
    have z := pc_0 _ (k8 hw2 (sgf_lt hw2 (by rw [sgI_ne p s i 1 (by decide)]; exact hp) (q := i) (a := (sgI p s i).2))) (by omega)
    refine ⟨?_, ih.2⟩
    show sg1 (sgI p s i).1 p i (sgI p s i).2 = s.1
    rw [sg1_0 z, ih.1]
theorem sgO_fix {n : Nat} {s : Tn × Nat} (hw : wf s.1) : ∀ i, i ≤ s.1 1 0 → (sgO n s i).2 = 0 → (sgO n s i).1 = s.1 ∧ s.2 = 0
  | 0, _, h => ⟨rfl, h⟩
  | i + 1, hi, h => by
    have h2 := sgI_fix (s := sgO n s i) (p := i) (sgO_wf hw i (by omega)) (by rw [sgO_ne n s i 1 (by decide)]; exact hi) n h
    have ih := sgO_fix hw i (by omega) h2.2
    exact ⟨h2.1.trans ih.1, ih.2⟩
theorem rnd_fix {t : Tn} (hw : wf t) (h : cnt t = 0) : rnd t = t := by
  unfold cnt at h
  have h1 := tA_fix hw _ (Nat.le_refl _) (by omega)
  have h2 := sgO_fix (n := t 1 0) (s := ((tA t (t 1 0)).1, 0)) (tA_wf hw _ (Nat.le_refl _)) (t 1 0) (by rw [tA_ne t _ 1 (by decide)]; exact Nat.le_refl _) (by unfold rsg at h; omega)
  exact h2.1.trans h1
theorem cnt_le {t : Tn} (hw : wf t) : cnt t ≤ 401 := by
  have h1 := tA_le hw _ (Nat.le_refl _)
  have h2 := sgO_le (n := t 1 0) (s := ((tA t (t 1 0)).1, 0)) (tA_wf hw _ (Nat.le_refl _)) (Nat.zero_le _) (t 1 0) (by rw [tA_ne t _ 1 (by decide)]; exact Nat.le_refl _)
  rw [show (tA t (t 1 0)).1 3 0 = t 3 0 from by rw [tA_ne t _ 3 (by decide)]] at h2
  have h7 := hw.n7
  have h9 := hw.1.2.2.2.2.1
  unfold cnt rsg
  omega
/-- the class's speeches -/
theorem pc_sp {t : Tn} {T : TS} (h : TC t T) (hw : wf t) : ∃ T', L_X5_passRound_2 300 (0 : Int32) T = some T' ∧ TC t T' ∧ (∀ j, j ≠ 13 → T' j = T j) ∧ ∀ p, p < t 1 0 → T' 13 p = nI (say t p) := by
  have h7 := hw.n7
  refine lupTk (N := t 1 0) (fun n i s => L_X5_passRound_2 n (nI i) s) (fun i s => TC t s ∧ (∀ j, j ≠ 13 → s j = T j) ∧ ∀ p, p < i → s 13 p = nI (say t p)) (fun r => TC t r ∧ (∀ j, j ≠ 13 → r j = T j) ∧ ∀ p, p < t 1 0 → r 13 p = nI (say t p)) (t 1 0) 0 300 T (fun r h1 hQ => ?_) (fun n s hs => ?_) (fun n i s hi hs => Or.inl ?_) (by omega) (by omega) ⟨h, fun _ _ => rfl, fun p hp => absurd hp (Nat.not_lt_zero p)⟩
  · have h2 := hQ
    exact ⟨r, h1, h2⟩
  · refine ⟨s, ?_, hs⟩
    show (if s 1 0 ≤ nI (t 1 0) then _ else _) = _
    rw [hs.1.n, if_pos (yle _)]
  · have i7 := lt7 hw hi
    refine ⟨up s 13 (upd (s 13) i (nI (say t i))), ⟨hs.1.junk (by decide), fun j hj => by rw [up_ne s _ hj, hs.2.1 j hj], fun p hp => ?_⟩, ?_⟩
    · rw [up_same]
      by_cases e : p = i
      · subst e; exact pk_us
      · rw [pk_un e]; exact hs.2.2 p (by omega)
    · show (if s 1 0 ≤ nI i then _ else _) = _
      rw [hs.1.n, if_neg (nle hw hi)]
      refine ob (pc_say hs.1 hw hi) ?_
      rw [if_neg (in7 i7), cl7 i7, nI_1]
theorem pc_tA {t : Tn} {T : TS} (h : TC t T) (hw : wf t) (h13 : ∀ p, p < t 1 0 → T 13 p = nI (say t p)) : ∃ T', L_X5_passRound_31 300 (0 : Int32) (0 : Int32) T = some (nI (tA t (t 1 0)).2, T') ∧ TC (tA t (t 1 0)).1 T' ∧ ∀ j, j ≠ 9 → T' j = T j := by
  have h7 := hw.n7
  refine lupTk (N := t 1 0) (fun n i s => L_X5_passRound_31 n (nI i) (nI (tA t i).2) s) (fun i s => TC (tA t i).1 s ∧ ∀ j, j ≠ 9 → s j = T j) (fun r => r.1 = nI (tA t (t 1 0)).2 ∧ TC (tA t (t 1 0)).1 r.2 ∧ ∀ j, j ≠ 9 → r.2 j = T j) (t 1 0) 0 300 T (fun r h1 hQ => ?_) (fun n s hs => ?_) (fun n i s hi hs => Or.inl ?_) (by omega) (by omega) ⟨h, fun _ _ => rfl⟩
  · obtain ⟨h2, h3, h4⟩ := hQ
    obtain ⟨r1, r2⟩ := r
    cases h2
    exact ⟨r2, h1, h3, h4⟩
  · refine ⟨(nI (tA t (t 1 0)).2, s), ?_, rfl, hs.1, hs.2⟩
    have e := hs.1.n
    rw [tA_ne t _ 1 (by decide)] at e
    show (if s 1 0 ≤ nI (t 1 0) then _ else _) = _
    rw [e, if_pos (yle _)]
  · have i7 := lt7 hw hi
    have e := hs.1.n
    rw [tA_ne t _ 1 (by decide)] at e
    have e13 : s 13 i = nI (say t i) := by rw [hs.2 13 (by decide)]; exact h13 i hi
    obtain ⟨s', a1, a2, a3⟩ := pc_tell hs.1 (tA_wf hw i (by omega)) (p := i) (m := say t i) (by omega) (by rw [tA_ne t i 0 (by decide)]; exact say_lt hw hi)
    refine ⟨s', ⟨a2, fun j hj => by rw [a3 j hj, hs.2 j hj]⟩, ?_⟩
    show (if s 1 0 ≤ nI i then _ else _) = L_X5_passRound_31 n (nI (i + 1)) (nI ((tA t i).2 + tlc (tA t i).1 i (say t i))) s'
    rw [e, if_neg (nle hw hi), if_neg (in7 i7), cl7 i7, e13]
    refine ob a1 ?_
    show L_X5_passRound_31 n (nI i + 1) (nI (tA t i).2 + nI (tlc (tA t i).1 i (say t i))) s' = _
    rw [nI_add, nI_1]
/-- the class's signs -/
theorem pc_sgI {s0 : Tn × Nat} {T : TS} (h : TC s0.1 T) (hw : wf s0.1) {p : Nat} (hp : p < s0.1 1 0) (hm : s0.2 ≤ s0.1 3 0) : ∃ T', L_X5_passSigns_14 (nI p) 300 (0 : Int32) (nI s0.2) T = some (nI (sgI p s0 (s0.1 1 0)).2, T') ∧ TC (sgI p s0 (s0.1 1 0)).1 T' ∧ ∀ j, j ≠ 9 → T' j = T j := by
  have h7 := hw.n7
  have p7 := lt7 hw hp
  have h9 := hw.1.2.2.2.2.1
  refine lupTk (N := s0.1 1 0) (fun n i s => L_X5_passSigns_14 (nI p) n (nI i) (nI (sgI p s0 i).2) s) (fun i s => TC (sgI p s0 i).1 s ∧ ∀ j, j ≠ 9 → s j = T j) (fun r => r.1 = nI (sgI p s0 (s0.1 1 0)).2 ∧ TC (sgI p s0 (s0.1 1 0)).1 r.2 ∧ ∀ j, j ≠ 9 → r.2 j = T j) (s0.1 1 0) 0 300 T (fun r h1 hQ => ?_) (fun n s hs => ?_) (fun n i s hi hs => ?_) (by omega) (by omega) ⟨h, fun _ _ => rfl⟩
  · obtain ⟨h2, h3, h4⟩ := hQ
    obtain ⟨r1, r2⟩ := r
    cases h2
    exact ⟨r2, h1, h3, h4⟩
  · refine ⟨(nI (sgI p s0 (s0.1 1 0)).2, s), ?_, rfl, hs.1, hs.2⟩
    have e := hs.1.n
    rw [sgI_ne p s0 _ 1 (by decide)] at e
    show (if s 1 0 ≤ nI (s0.1 1 0) then _ else _) = _
    rw [e, if_pos (yle _)]
  · have i7 := lt7 hw hi
    have hw2 := sgI_wf hw hp i
    have hle := sgI_le hw hp hm i
    have g1 : (sgI p s0 i).1 1 0 = s0.1 1 0 := by rw [sgI_ne p s0 i 1 (by decide)]
    have g3 : (sgI p s0 i).1 3 0 = s0.1 3 0 := by rw [sgI_ne p s0 i 3 (by decide)]
    have e := hs.1.n
    rw [g1] at e
    have e3 : s 3 0 = nI (s0.1 3 0) := by rw [← g3]; exact hs.1.1 3 (by decide)
    have st : L_X5_passSigns_14 (nI p) (n + 1) (nI i) (nI (sgI p s0 i).2) s = (if s 1 0 ≤ nI i then some (nI (sgI p s0 i).2, s) else if s 3 0 ≤ nI (sgI p s0 i).2 then some (nI (sgI p s0 i).2, s) else if nI i < 0 ∨ 7 ≤ (nI i).toNatClampNeg then none else if (f_X6_has ((s 10) (nI i).toNatClampNeg) (nI p)) = 0 then L_X5_passSigns_14 (nI p) n (nI i + 1) (nI (sgI p s0 i).2) s else if nI p < 0 ∨ 7 ≤ (nI p).toNatClampNeg then none else (f_X6_firstBits (((s 7) (nI p).toNatClampNeg) &&& (((s 9) (nI i).toNatClampNeg) ^^^ (-1 : Int32))) ((s 3 0) - nI (sgI p s0 i).2)).bind fun q17 => L_X5_passSigns_14 (nI p) n (nI i + 1) (nI (sgI p s0 i).2 + (f_J6_bitCount_0f7a4 q17)) (up s 9 (upd (s 9) (nI i).toNatClampNeg (((s 9) (nI i).toNatClampNeg) ||| q17)))) := rfl
    rw [st, e, if_neg (nle hw hi), e3]
    by_cases full : s0.1 3 0 ≤ (sgI p s0 i).2
    · refine Or.inr ⟨(nI (sgI p s0 i).2, s), ?_, ?_⟩
      · rw [if_pos (nI_le full (by omega))]
      · have := sgI_full (s := s0) (p := p) (i := i) (by rw [g3]; exact full) (s0.1 1 0 - i)
        rw [show i + (s0.1 1 0 - i) = s0.1 1 0 by omega] at this
        rw [this]
        exact ⟨rfl, hs.1, hs.2⟩
    · rw [if_neg (nI_ge (by omega) (by omega)), if_neg (in7 i7), cl7 i7]
      have hi2 : i < (sgI p s0 i).1 1 0 := by rw [g1]; exact hi
      have hp2 : p < (sgI p s0 i).1 1 0 := by rw [g1]; exact hp
      have eh := hs.1.hears hi2
      have h10 : (sgI p s0 i).1 10 i < 256 := hw2.lt8 (by decide) (by decide) hi2
      left
      by_cases b : ((sgI p s0 i).1 10 i).testBit p = true
      · refine ⟨up s 9 (upd (s 9) i (nI ((sgI p s0 i).1 9 i ||| sgf (sgI p s0 i).1 p i (sgI p s0 i).2))), ⟨?_, fun j hj => by rw [up_ne s _ hj, hs.2 j hj]⟩, ?_⟩
        · exact hs.1.put (by decide) (upd_n (fun q hq => hs.1.heard hq))
        · rw [eh, if_neg (fun z => by rw [(pu_has0 (by omega) (by omega)).mp z] at b; cases b), if_neg (in7 p7), cl7 p7, hs.1.see hp2, hs.1.heard hi2, pu_dif, pk_sub hle]
          have hd := dif_lt8 ((sgI p s0 i).1 9 i) (k8 hw2 (hw2.see hp2))
          refine ob (pu_firstBits hd (by omega)) ?_
          rw [pu_bc _ (fbs_lt _ _), pu_or, nI_add, nI_1]
          have es : sgf (sgI p s0 i).1 p i (sgI p s0 i).2 = fbs (s0.1 3 0 - (sgI p s0 i).2) (dif ((sgI p s0 i).1 7 p) ((sgI p s0 i).1 9 i)) := by
            unfold sgf
            rw [if_pos b, g3]
          rw [← es]
          rfl
      · have z : sgf (sgI p s0 i).1 p i (sgI p s0 i).2 = 0 := by unfold sgf; exact if_neg b
        refine ⟨s, ⟨?_, hs.2⟩, ?_⟩
        · show TC (sg1 (sgI p s0 i).1 p i (sgI p s0 i).2) s
          rw [sg1_0 z]; exact hs.1
        · rw [eh, if_pos ((pu_has0 (by omega) (by omega)).mpr (by simpa using b)), nI_1]
          show _ = L_X5_passSigns_14 (nI p) n (nI (i + 1)) (nI ((sgI p s0 i).2 + pc (sgf (sgI p s0 i).1 p i (sgI p s0 i).2))) s
          rw [z, show pc 0 = 0 from by decide]
          rfl
theorem pc_sgO {t : Tn} {T : TS} (h : TC t T) (hw : wf t) : ∃ T', f_X5_passSigns T = some (nI (sgO (t 1 0) (t, 0) (t 1 0)).2, T') ∧ TC (sgO (t 1 0) (t, 0) (t 1 0)).1 T' ∧ ∀ j, j ≠ 9 → T' j = T j := by
  have h7 := hw.n7
  unfold f_X5_passSigns
  refine lupTk (N := t 1 0) (fun n i s => L_X5_passSigns_4 n (nI i) (nI (sgO (t 1 0) (t, 0) i).2) s) (fun i s => TC (sgO (t 1 0) (t, 0) i).1 s ∧ ∀ j, j ≠ 9 → s j = T j) (fun r => r.1 = nI (sgO (t 1 0) (t, 0) (t 1 0)).2 ∧ TC (sgO (t 1 0) (t, 0) (t 1 0)).1 r.2 ∧ ∀ j, j ≠ 9 → r.2 j = T j) (t 1 0) 0 300 T (fun r h1 hQ => ?_) (fun n s hs => ?_) (fun n i s hi hs => Or.inl ?_) (by omega) (by omega) ⟨h, fun _ _ => rfl⟩
  · obtain ⟨h2, h3, h4⟩ := hQ
    obtain ⟨r1, r2⟩ := r
    cases h2
    exact ⟨r2, ob h1 rfl, h3, h4⟩
  · refine ⟨(nI (sgO (t 1 0) (t, 0) (t 1 0)).2, s), ?_, rfl, hs.1, hs.2⟩
    have e := hs.1.n
    rw [sgO_ne (t 1 0) (t, 0) _ 1 (by decide)] at e
    show (if s 1 0 ≤ nI (t 1 0) then _ else _) = _
    rw [e, if_pos (yle _)]
  · have g1 : (sgO (t 1 0) (t, 0) i).1 1 0 = t 1 0 := by rw [sgO_ne (t 1 0) (t, 0) i 1 (by decide)]
    have g3 : (sgO (t 1 0) (t, 0) i).1 3 0 = t 3 0 := by rw [sgO_ne (t 1 0) (t, 0) i 3 (by decide)]
    have e := hs.1.n
    rw [g1] at e
    have hle := sgO_le (n := t 1 0) (s := (t, 0)) hw (Nat.zero_le _) i (by show i ≤ t 1 0; omega)
    obtain ⟨s', a1, a2, a3⟩ := pc_sgI (s0 := sgO (t 1 0) (t, 0) i) hs.1 (sgO_wf (s := (t, 0)) hw i (by show i ≤ t 1 0; omega)) (p := i) (by rw [g1]; exact hi) (by rw [g3]; exact hle)
    rw [g1] at a1 a2
    refine ⟨s', ⟨a2, fun j hj => by rw [a3 j hj, hs.2 j hj]⟩, ?_⟩
    show (if s 1 0 ≤ nI i then _ else _) = _
    rw [e, if_neg (nle hw hi)]
    refine ob a1 ?_
    show L_X5_passSigns_4 n (nI i + 1) _ s' = _
    rw [nI_1]
    rfl
theorem pc_round {t : Tn} {T : TS} (h : TC t T) (hw : wf t) : ∃ T', f_X5_passRound T = some (cf (cnt t), T') ∧ TC (rnd t) T' ∧ ∀ j, j ≠ 9 → j ≠ 13 → T' j = T j := by
  obtain ⟨T1, a1, a2, a3, a4⟩ := pc_sp h hw
  obtain ⟨T2, b1, b2, b3⟩ := pc_tA a2 hw a4
  obtain ⟨T3, c1, c2, c3⟩ := pc_sgO b2 (tA_wf hw _ (Nat.le_refl _))
  have g1 : (tA t (t 1 0)).1 1 0 = t 1 0 := by rw [tA_ne t _ 1 (by decide)]
  rw [g1] at c1 c2
  unfold f_X5_passRound
  refine ⟨T3, ob a1 (ob b1 (ob c1 ?_)), c2, fun j h1 h2 => by rw [c3 j h1, b3 j h1, a3 j h2]⟩
  show some ((if nI (tA t (t 1 0)).2 + nI (rsg t).2 ≤ 0 then (0 : Int32) else 1), T3) = some (cf ((tA t (t 1 0)).2 + (rsg t).2), T3)
  have := cnt_le hw
  unfold cnt at this
  rw [nI_add, cf_le (by omega)]
/-- the reference's round -/
theorem pm_sp {t : Tn} {T : TS} (h : TM t T) (hw : wf t) : ∃ T', L_X7_goesRound_4 300 (0 : Int32) T = some T' ∧ TM t T' ∧ (∀ j, j ≠ 29 → T' j = T j) ∧ ∀ p, p < t 1 0 → T' 29 p = nI (say t p) := by
  have h7 := hw.n7
  refine lupTk (N := t 1 0) (fun n i s => L_X7_goesRound_4 n (nI i) s) (fun i s => TM t s ∧ (∀ j, j ≠ 29 → s j = T j) ∧ ∀ p, p < i → s 29 p = nI (say t p)) (fun r => TM t r ∧ (∀ j, j ≠ 29 → r j = T j) ∧ ∀ p, p < t 1 0 → r 29 p = nI (say t p)) (t 1 0) 0 300 T (fun r h1 hQ => ?_) (fun n s hs => ?_) (fun n i s hi hs => Or.inl ?_) (by omega) (by omega) ⟨h, fun _ _ => rfl, fun p hp => absurd hp (Nat.not_lt_zero p)⟩
  · have h2 := hQ
    exact ⟨r, h1, h2⟩
  · refine ⟨s, ?_, hs⟩
    show (if s 10 0 ≤ nI (t 1 0) then _ else _) = _
    rw [hs.1.n, if_pos (yle _)]
  · have i7 := lt7 hw hi
    refine ⟨up s 29 (upd (s 29) i (nI (say t i))), ⟨hs.1.junk (by decide), fun j hj => by rw [up_ne s _ hj, hs.2.1 j hj], fun p hp => ?_⟩, ?_⟩
    · rw [up_same]
      by_cases e : p = i
      · subst e; exact pk_us
      · rw [pk_un e]; exact hs.2.2 p (by omega)
    · show (if s 10 0 ≤ nI i then _ else _) = _
      rw [hs.1.n, if_neg (nle hw hi)]
      refine ob (pm_say hs.1 hw hi) ?_
      rw [if_neg (in7 i7), cl7 i7, nI_1]
theorem pm_tA {t : Tn} {T : TS} (h : TM t T) (hw : wf t) (h13 : ∀ p, p < t 1 0 → T 29 p = nI (say t p)) : ∃ T', L_X7_goesRound_31 300 (0 : Int32) (0 : Int32) T = some (cf (tA t (t 1 0)).2, T') ∧ TM (tA t (t 1 0)).1 T' ∧ ∀ j, j ≠ 15 → T' j = T j := by
  have h7 := hw.n7
  refine lupTk (N := t 1 0) (fun n i s => L_X7_goesRound_31 n (nI i) (cf (tA t i).2) s) (fun i s => TM (tA t i).1 s ∧ ∀ j, j ≠ 15 → s j = T j) (fun r => r.1 = cf (tA t (t 1 0)).2 ∧ TM (tA t (t 1 0)).1 r.2 ∧ ∀ j, j ≠ 15 → r.2 j = T j) (t 1 0) 0 300 T (fun r h1 hQ => ?_) (fun n s hs => ?_) (fun n i s hi hs => Or.inl ?_) (by omega) (by omega) ⟨h, fun _ _ => rfl⟩
  · obtain ⟨h2, h3, h4⟩ := hQ
    obtain ⟨r1, r2⟩ := r
    cases h2
    exact ⟨r2, h1, h3, h4⟩
  · refine ⟨(cf (tA t (t 1 0)).2, s), ?_, rfl, hs.1, hs.2⟩
    have e := hs.1.n
    rw [tA_ne t _ 1 (by decide)] at e
    show (if s 10 0 ≤ nI (t 1 0) then _ else _) = _
    rw [e, if_pos (yle _)]
  · have i7 := lt7 hw hi
    have e := hs.1.n
    rw [tA_ne t _ 1 (by decide)] at e
    have e13 : s 29 i = nI (say t i) := by rw [hs.2 29 (by decide)]; exact h13 i hi
    have hwi := tA_wf hw i (by omega)
    obtain ⟨s', a1, a2, a3⟩ := pm_tell hs.1 hwi (p := i) (m := say t i) (by omega) (by rw [tA_ne t i 0 (by decide)]; exact say_lt hw hi)
    refine ⟨s', ⟨a2, fun j hj => by rw [a3 j hj, hs.2 j hj]⟩, ?_⟩
    show (if s 10 0 ≤ nI i then _ else _) = L_X7_goesRound_31 n (nI (i + 1)) (cf ((tA t i).2 + tlc (tA t i).1 i (say t i))) s'
    rw [e, if_neg (nle hw hi), if_neg (in7 i7), cl7 i7, e13]
    refine ob a1 ?_
    show L_X7_goesRound_31 n (nI i + 1) (cf (tA t i).2 ||| (if nI (tlc (tA t i).1 i (say t i)) ≤ 0 then (0 : Int32) else 1)) s' = _
    have hb := tlc_le (tA t i).1 hwi i (say t i)
    rw [cf_or (by omega), nI_1]
theorem scn_lt (m c : Nat) : ∀ i, (scn m c i).1 < 2 ^ i
  | 0 => Nat.one_pos
  | i + 1 => by
    have ih := scn_lt m c i
    have h2 : (2 : Nat) ^ i < 2 ^ (i + 1) := Nat.pow_lt_pow_right (by decide) (by omega)
    by_cases z : 0 < (scn m c i).2 ∧ m.testBit i = true
    · rw [scn_1 z]; exact Nat.or_lt_two_pow (Nat.lt_trans ih h2) h2
    · rw [scn_0 z]; exact Nat.lt_trans ih h2
theorem scn_le (m c : Nat) : ∀ i, (scn m c i).2 ≤ c
  | 0 => Nat.le_refl c
  | i + 1 => by
    have ih := scn_le m c i
    by_cases z : 0 < (scn m c i).2 ∧ m.testBit i = true
    · rw [scn_1 z]; show (scn m c i).2 - 1 ≤ c; omega
    · rw [scn_0 z]; exact ih
theorem pm_sgx {t : Tn} {U : TS} (h : TM t U) (hw : wf t) {p q a B : Nat} (hp : p < t 1 0) (hq : q < t 1 0) (ha : a ≤ t 3 0) : ∃ U', L_X7_goesRound_99 (nI p) (nI q) 300 (0 : Int32) (nI (t 3 0 - a)) (cf (B + a)) U = some (nI (t 3 0 - (a + pc (sgf t p q a))), cf (B + (a + pc (sgf t p q a))), U') ∧ TM (sg1 t p q a) U' ∧ ∀ j, j ≠ 15 → U' j = U j := by
  have p7 := lt7 hw hp
  have q7 := lt7 hw hq
  have h9 := hw.1.2.2.2.2.1
  have h8 := hw.1.2.1
  have k4 := hw.1.1
  have b10 : t 10 q < 256 := hw.lt8 (by decide) (by decide) hq
  have b7 : t 7 p < 256 := hw.lt8 (by decide) (by decide) hp
  by_cases b : (t 10 q).testBit p = true
  · have es : sgf t p q a = fbs (t 3 0 - a) (dif (t 7 p) (t 9 q)) := by unfold sgf; exact if_pos b
    obtain ⟨m, hm⟩ : ∃ m, m = dif (t 7 p) (t 9 q) := ⟨_, rfl⟩
    obtain ⟨c, hc⟩ : ∃ c, c = t 3 0 - a := ⟨_, rfl⟩
    have hmk : m < 2 ^ t 0 0 := by rw [hm]; exact dif_lt (hw.see hp)
    have hend := scn_fbs (t 0 0) (by omega) m hmk c (by omega)
    rw [es, ← hm, ← hc]
    refine lupTk (N := t 0 0) (fun n i s => L_X7_goesRound_99 (nI p) (nI q) n (nI i) (nI (scn m c i).2) (cf (B + a + (c - (scn m c i).2))) s) (fun i s => TM (upn t 9 (updn (t 9) q (t 9 q ||| (scn m c i).1))) s ∧ ∀ j, j ≠ 15 → s j = U j) (fun r => (r.1 = nI (t 3 0 - (a + pc (fbs c m))) ∧ r.2.1 = cf (B + (a + pc (fbs c m)))) ∧ TM (sg1 t p q a) r.2.2 ∧ ∀ j, j ≠ 15 → r.2.2 j = U j) (t 0 0) 0 300 U (fun r h1 hQ => ?_) (fun n s hs => ?_) (fun n i s hi hs => Or.inl ?_) (by omega) (by omega) ⟨by
        show TM (upn t 9 (updn (t 9) q (t 9 q ||| 0))) U
        rw [Nat.or_zero, updn_id, upn_id]; exact h, fun _ _ => rfl⟩
    · obtain ⟨h2, h3, h4⟩ := hQ
      obtain ⟨r1, r2, r3⟩ := r
      obtain ⟨e1, e2⟩ := h2
      obtain rfl : r1 = nI (t 3 0 - (a + pc (fbs c m))) := e1
      obtain rfl : r2 = cf (B + (a + pc (fbs c m))) := e2
      refine ⟨r3, ?_, h3, h4⟩
      rw [← h1]
      show _ = L_X7_goesRound_99 (nI p) (nI q) 300 (nI 0) (nI c) (cf (B + a + (c - c))) U
      rw [Nat.sub_self]
      rfl
    · refine ⟨(nI (scn m c (t 0 0)).2, cf (B + a + (c - (scn m c (t 0 0)).2)), s), ?_, ⟨?_, ?_⟩, ?_, hs.2⟩
      · have e := hs.1.1
        show (if s 9 0 ≤ nI (t 0 0) then _ else _) = _
        rw [e]
        show (if nI (t 0 0) ≤ nI (t 0 0) then _ else _) = _
        rw [if_pos (yle _)]
      · show nI _ = nI _
        congr 1
        omega
      · show cf _ = cf _
        congr 1
        omega
      · have := hs.1
        rw [hend.1] at this
        unfold sg1
        rw [es, ← hm, ← hc]
        exact this
    · have e : s 9 0 = nI (t 0 0) := hs.1.1
      have eh : s 16 q = nI (t 10 q) := hs.1.hears hq
      have ep : s 13 p = nI (t 7 p) := hs.1.see hp
      have e9 : s 15 q = nI (t 9 q ||| (scn m c i).1) := by
        have := hs.1.heard hq
        rw [upn_same, updn_same] at this
        exact this
      have h9q := hw.heard hq
      have i8 : i < 8 := by omega
      have hsl := scn_lt m c i
      have h2i : 2 ^ i < 2 ^ 8 := Nat.pow_lt_pow_right (by decide) i8
      have hor : t 9 q ||| (scn m c i).1 < 256 := or_lt8 (k8 hw h9q) (by omega)
      have hmb : m.testBit i = ((t 7 p).testBit i && !(t 9 q).testBit i) := by rw [hm, dif_bit]
      have hob : (t 9 q ||| (scn m c i).1).testBit i = (t 9 q).testBit i := by rw [Nat.testBit_or, Nat.testBit_lt_two_pow hsl, Bool.or_false]
      have st : L_X7_goesRound_99 (nI p) (nI q) (n + 1) (nI i) (nI (scn m c i).2) (cf (B + a + (c - (scn m c i).2))) s = (if s 9 0 ≤ nI i then some (nI (scn m c i).2, cf (B + a + (c - (scn m c i).2)), s) else if nI q < 0 ∨ 7 ≤ (nI q).toNatClampNeg then none else if (f_X7_has ((s 16) (nI q).toNatClampNeg) (nI p)) = 0 then some (nI (scn m c i).2, cf (B + a + (c - (scn m c i).2)), s) else if nI (scn m c i).2 ≤ 0 then L_X7_goesRound_99 (nI p) (nI q) n (nI i + (1 : Int32)) (nI (scn m c i).2) (cf (B + a + (c - (scn m c i).2))) s else if nI p < 0 ∨ 7 ≤ (nI p).toNatClampNeg then none else if (f_X7_has ((s 13) (nI p).toNatClampNeg) (nI i)) = 0 then L_X7_goesRound_99 (nI p) (nI q) n (nI i + (1 : Int32)) (nI (scn m c i).2) (cf (B + a + (c - (scn m c i).2))) s else if (f_X7_has ((s 15) (nI q).toNatClampNeg) (nI i)) = 0 then L_X7_goesRound_99 (nI p) (nI q) n (nI i + (1 : Int32)) (nI (scn m c i).2 + (-1 : Int32)) (1 : Int32) (up s 15 (upd (s 15) (nI q).toNatClampNeg (((s 15) (nI q).toNatClampNeg) ||| ((1 : Int32) <<< (nI i &&& 31))))) else L_X7_goesRound_99 (nI p) (nI q) n (nI i + (1 : Int32)) (nI (scn m c i).2) (cf (B + a + (c - (scn m c i).2))) s) := rfl
      have hle := scn_le m c i
      rw [st, e, if_neg (nI_ge hi (by omega)), if_neg (in7 q7), cl7 q7, eh, if_neg (fun z => by rw [(pm_has0 (by omega) (by omega)).mp z] at b; cases b), if_neg (in7 p7), cl7 p7, ep, e9, nI_1]
      by_cases z0 : (scn m c i).2 = 0
      · refine ⟨s, ?_, ?_⟩
        · rw [scn_0 (fun z => by omega)]; exact hs
        · rw [if_pos (by rw [z0]; decide), scn_0 (fun z => by omega)]
      · rw [if_neg (nI_nle (by omega) (by omega))]
        by_cases bs : (t 7 p).testBit i = true
        · rw [if_neg (fun z => by rw [(pm_has0 (by omega) (by omega)).mp z] at bs; cases bs)]
          by_cases bh : (t 9 q).testBit i = true
          · have nb : ¬ (0 < (scn m c i).2 ∧ m.testBit i = true) := fun z => by rw [hmb, bs, bh] at z; exact absurd z.2 (by decide)
            refine ⟨s, ?_, ?_⟩
            · rw [scn_0 nb]; exact hs
            · rw [if_neg (fun z => by rw [(pm_has0 (by omega) (by omega)).mp z] at hob; rw [bh] at hob; cases hob), scn_0 nb]
          · have bh : (t 9 q).testBit i = false := by simpa using bh
            have yb : 0 < (scn m c i).2 ∧ m.testBit i = true := ⟨by omega, by rw [hmb, bs, bh]; rfl⟩
            have s1 := scn_1 yb
            refine ⟨up s 15 (upd (s 15) q (nI (t 9 q ||| (scn m c i).1 ||| 2 ^ i))), ⟨?_, fun j hj => by rw [up_ne s _ hj, hs.2 j hj]⟩, ?_⟩
            · have := hs.1.put (j := 9) (f := updn (t 9) q (t 9 q ||| (scn m c (i + 1)).1)) (g := upd (s 15) q (nI (t 9 q ||| (scn m c i).1 ||| 2 ^ i))) (by decide) (by decide) (fun j hj => by
                by_cases ej : j = q
                · subst ej; rw [pk_us, updn_same, s1, Nat.or_assoc]
                · rw [pk_un ej, updn_ne _ _ ej]
                  have := hs.1.heard (p := j) hj
                  rw [upn_same, updn_ne _ _ ej] at this
                  exact this)
              rw [upn_upn] at this
              exact this
            · rw [if_pos ((pm_has0 (by omega) (by omega)).mpr (by rw [hob, bh])), pu_one i (by omega), pu_or]
              obtain ⟨l, hl⟩ : ∃ l, (scn m c i).2 = l + 1 := ⟨(scn m c i).2 - 1, by omega⟩
              rw [s1]
              show _ = L_X7_goesRound_99 (nI p) (nI q) n (nI (i + 1)) (nI ((scn m c i).2 - 1)) (cf (B + a + (c - ((scn m c i).2 - 1)))) _
              rw [hl, pk_m1, cf_pos (show 0 < B + a + (c - (l + 1 - 1)) by omega)]
              rfl
        · have bs : (t 7 p).testBit i = false := by simpa using bs
          have nb : ¬ (0 < (scn m c i).2 ∧ m.testBit i = true) := fun z => by rw [hmb, bs] at z; exact absurd z.2 (by simp)
          refine ⟨s, ?_, ?_⟩
          · rw [scn_0 nb]; exact hs
          · rw [if_pos ((pm_has0 (by omega) (by omega)).mpr bs), scn_0 nb]
  · have es : sgf t p q a = 0 := by unfold sgf; exact if_neg b
    have b : (t 10 q).testBit p = false := by simpa using b
    refine ⟨U, ?_, by rw [sg1_0 es]; exact h, fun _ _ => rfl⟩
    rw [es, show pc 0 = 0 from by decide, Nat.add_zero]
    show (if U 9 0 ≤ nI 0 then _ else if nI q < 0 ∨ 7 ≤ (nI q).toNatClampNeg then _ else if (f_X7_has ((U 16) (nI q).toNatClampNeg) (nI p)) = 0 then _ else _) = _
    rw [h.1, if_neg (nI_ge (by omega) (by omega)), if_neg (in7 q7), cl7 q7, h.hears hq, if_pos ((pm_has0 (by omega) (by omega)).mpr b)]
theorem pm_sgI {s0 : Tn × Nat} {T : TS} (h : TM s0.1 T) (hw : wf s0.1) {p B : Nat} (hp : p < s0.1 1 0) (hm : s0.2 ≤ s0.1 3 0) : ∃ T', L_X7_goesRound_87 (nI p) 300 (0 : Int32) (nI (s0.1 3 0 - s0.2)) (cf (B + s0.2)) T = some (nI (s0.1 3 0 - (sgI p s0 (s0.1 1 0)).2), cf (B + (sgI p s0 (s0.1 1 0)).2), T') ∧ TM (sgI p s0 (s0.1 1 0)).1 T' ∧ ∀ j, j ≠ 15 → T' j = T j := by
  have h7 := hw.n7
  refine lupTk (N := s0.1 1 0) (fun n i s => L_X7_goesRound_87 (nI p) n (nI i) (nI (s0.1 3 0 - (sgI p s0 i).2)) (cf (B + (sgI p s0 i).2)) s) (fun i s => TM (sgI p s0 i).1 s ∧ ∀ j, j ≠ 15 → s j = T j) (fun r => (r.1 = nI (s0.1 3 0 - (sgI p s0 (s0.1 1 0)).2) ∧ r.2.1 = cf (B + (sgI p s0 (s0.1 1 0)).2)) ∧ TM (sgI p s0 (s0.1 1 0)).1 r.2.2 ∧ ∀ j, j ≠ 15 → r.2.2 j = T j) (s0.1 1 0) 0 300 T (fun r h1 hQ => ?_) (fun n s hs => ?_) (fun n i s hi hs => Or.inl ?_) (by omega) (by omega) ⟨h, fun _ _ => rfl⟩
  · obtain ⟨h2, h3, h4⟩ := hQ
    obtain ⟨r1, r2, r3⟩ := r
    obtain ⟨e1, e2⟩ := h2
    cases e1
    cases e2
    exact ⟨r3, h1, h3, h4⟩
  · refine ⟨(nI (s0.1 3 0 - (sgI p s0 (s0.1 1 0)).2), cf (B + (sgI p s0 (s0.1 1 0)).2), s), ?_, ⟨rfl, rfl⟩, hs.1, hs.2⟩
    have e := hs.1.n
    rw [sgI_ne p s0 _ 1 (by decide)] at e
    show (if s 10 0 ≤ nI (s0.1 1 0) then _ else _) = _
    rw [e, if_pos (yle _)]
  · have g1 : (sgI p s0 i).1 1 0 = s0.1 1 0 := by rw [sgI_ne p s0 i 1 (by decide)]
    have g3 : (sgI p s0 i).1 3 0 = s0.1 3 0 := by rw [sgI_ne p s0 i 3 (by decide)]
    have e := hs.1.n
    rw [g1] at e
    obtain ⟨s', a1, a2, a3⟩ := pm_sgx (B := B) hs.1 (sgI_wf hw hp i) (p := p) (q := i) (a := (sgI p s0 i).2) (by rw [g1]; exact hp) (by rw [g1]; exact hi) (by rw [g3]; exact sgI_le hw hp hm i)
    rw [g3] at a1
    refine ⟨s', ⟨a2, fun j hj => by rw [a3 j hj, hs.2 j hj]⟩, ?_⟩
    show (if s 10 0 ≤ nI i then _ else _) = _
    rw [e, if_neg (nle hw hi)]
    refine ob a1 ?_
    show L_X7_goesRound_87 (nI p) n (nI i + 1) _ _ s' = _
    rw [nI_1]
    rfl
theorem pm_sgO {t : Tn} {T : TS} (h : TM t T) (hw : wf t) (B : Nat) : ∃ T', L_X7_goesRound_76 300 (0 : Int32) (nI (t 3 0)) (cf B) T = some (cf (B + (sgO (t 1 0) (t, 0) (t 1 0)).2), T') ∧ TM (sgO (t 1 0) (t, 0) (t 1 0)).1 T' ∧ ∀ j, j ≠ 15 → T' j = T j := by
  have h7 := hw.n7
  refine lupTk (N := t 1 0) (fun n i s => L_X7_goesRound_76 n (nI i) (nI (t 3 0 - (sgO (t 1 0) (t, 0) i).2)) (cf (B + (sgO (t 1 0) (t, 0) i).2)) s) (fun i s => TM (sgO (t 1 0) (t, 0) i).1 s ∧ ∀ j, j ≠ 15 → s j = T j) (fun r => r.1 = cf (B + (sgO (t 1 0) (t, 0) (t 1 0)).2) ∧ TM (sgO (t 1 0) (t, 0) (t 1 0)).1 r.2 ∧ ∀ j, j ≠ 15 → r.2 j = T j) (t 1 0) 0 300 T (fun r h1 hQ => ?_) (fun n s hs => ?_) (fun n i s hi hs => Or.inl ?_) (by omega) (by omega) ⟨h, fun _ _ => rfl⟩
  · obtain ⟨h2, h3, h4⟩ := hQ
    obtain ⟨r1, r2⟩ := r
    cases h2
    exact ⟨r2, h1, h3, h4⟩
  · refine ⟨(cf (B + (sgO (t 1 0) (t, 0) (t 1 0)).2), s), ?_, rfl, hs.1, hs.2⟩
    have e := hs.1.n
    rw [sgO_ne (t 1 0) (t, 0) _ 1 (by decide)] at e
    show (if s 10 0 ≤ nI (t 1 0) then _ else _) = _
    rw [e, if_pos (yle _)]
  · have g1 : (sgO (t 1 0) (t, 0) i).1 1 0 = t 1 0 := by rw [sgO_ne (t 1 0) (t, 0) i 1 (by decide)]
    have g3 : (sgO (t 1 0) (t, 0) i).1 3 0 = t 3 0 := by rw [sgO_ne (t 1 0) (t, 0) i 3 (by decide)]
    have e := hs.1.n
    rw [g1] at e
    have hle := sgO_le (n := t 1 0) (s := (t, 0)) hw (Nat.zero_le _) i (by show i ≤ t 1 0; omega)
    obtain ⟨s', a1, a2, a3⟩ := pm_sgI (B := B) (s0 := sgO (t 1 0) (t, 0) i) hs.1 (sgO_wf (s := (t, 0)) hw i (by show i ≤ t 1 0; omega)) (p := i) (by rw [g1]; exact hi) (by rw [g3]; exact hle)
    rw [g1, g3] at a1
    rw [g1] at a2
    refine ⟨s', ⟨a2, fun j hj => by rw [a3 j hj, hs.2 j hj]⟩, ?_⟩
    show (if s 10 0 ≤ nI i then _ else _) = _
    rw [e, if_neg (nle hw hi)]
    refine ob a1 ?_
    show L_X7_goesRound_76 n (nI i + 1) _ _ s' = _
    rw [nI_1]
    rfl
theorem pm_round {t : Tn} {T : TS} (h : TM t T) (hw : wf t) : ∃ T', f_X7_goesRound T = some (cf (cnt t), T') ∧ TM (rnd t) T' ∧ ∀ j, j ≠ 15 → j ≠ 29 → T' j = T j := by
  obtain ⟨T1, a1, a2, a3, a4⟩ := pm_sp h hw
  obtain ⟨T2, b1, b2, b3⟩ := pm_tA a2 hw a4
  obtain ⟨T3, c1, c2, c3⟩ := pm_sgO b2 (tA_wf hw _ (Nat.le_refl _)) (tA t (t 1 0)).2
  have g1 : (tA t (t 1 0)).1 1 0 = t 1 0 := by rw [tA_ne t _ 1 (by decide)]
  have e3 : T2 17 1 = nI ((tA t (t 1 0)).1 3 0) := b2.2.2.1 1 (by decide)
  rw [g1] at c1 c2
  unfold f_X7_goesRound
  refine ⟨T3, ob a1 (ob b1 ?_), c2, fun j h1 h2 => by rw [c3 j h1, b3 j h1, a3 j h2]⟩
  show (L_X7_goesRound_76 300 (0 : Int32) (T2 17 1) (cf (tA t (t 1 0)).2) T2).bind _ = _
  rw [e3]
  refine ob c1 ?_
  exact if_neg (fun z => z (cf_01 _))
/-- rounds on rounds -/
def itr : Nat → Tn → Tn
  | 0, t => t
  | k + 1, t => rnd (itr k t)
theorem itr_wf {t : Tn} (hw : wf t) : ∀ k, wf (itr k t)
  | 0 => hw
  | k + 1 => rnd_wf (itr_wf hw k)
theorem itr_ne (t : Tn) : ∀ k, Ne9 t (itr k t)
  | 0 => Ne9.rfl' t
  | k + 1 => (itr_ne t k).trans (rnd_ne _)
theorem itr_fix {t : Tn} (hw : wf t) {k : Nat} (h : cnt (itr k t) = 0) : ∀ d, itr (k + d) t = itr k t
  | 0 => rfl
  | d + 1 => by
    show rnd (itr (k + d) t) = itr k t
    rw [itr_fix hw h d]
    exact rnd_fix (itr_wf hw k) h
theorem itr_n (t : Tn) (k : Nat) : itr k t 1 0 = t 1 0 := by rw [itr_ne t k 1 (by decide)]
theorem itr_s (t : Tn) (k : Nat) : itr k t 0 0 = t 0 0 := by rw [itr_ne t k 0 (by decide)]
theorem pc_rounds {t : Tn} {T : TS} (h : TC t T) (hw : wf t) {N : Nat} (hN : N < 300) : ∃ T', f_X5_passRounds T (nI N) = some T' ∧ TC (itr N t) T' ∧ ∀ j, j ≠ 9 → j ≠ 13 → T' j = T j := by
  unfold f_X5_passRounds
  refine lupTk (N := N) (fun n i (s : Int32 × TS) => L_X5_passRounds_4 (nI N) n (nI i) s.1 s.2) (fun i s => (TC (itr i t) s.2 ∧ ∀ j, j ≠ 9 → j ≠ 13 → s.2 j = T j) ∧ (s.1 = 0 → itr N t = itr i t)) (fun r => TC (itr N t) r ∧ ∀ j, j ≠ 9 → j ≠ 13 → r j = T j) N 0 300 ((1 : Int32), T) (fun r h1 hQ => ?_) (fun n s hs => ?_) (fun n i s hi hs => ?_) (by omega) (by omega) ⟨⟨h, fun _ _ _ => rfl⟩, fun z => absurd (show (1 : Int32) = 0 from z) (by decide)⟩
  · have h2 := hQ
    exact ⟨r, ob h1 rfl, h2⟩
  · refine ⟨s.2, ?_, hs.1⟩
    show (if nI N ≤ nI N then _ else _) = _
    rw [if_pos (yle _)]
  · have st : L_X5_passRounds_4 (nI N) (n + 1) (nI i) s.1 s.2 = (if nI N ≤ nI i then some s.2 else if s.1 = 0 then some s.2 else (f_X5_passRound s.2).bind fun q8 => L_X5_passRounds_4 (nI N) n (nI i + (1 : Int32)) q8.1 q8.2) := rfl
    rw [st, if_neg (nI_ge hi (by omega))]
    by_cases z : s.1 = 0
    · refine Or.inr ⟨s.2, by rw [if_pos z], ?_⟩
      rw [hs.2 z]
      exact hs.1
    · obtain ⟨T', a1, a2, a3⟩ := pc_round hs.1.1 (itr_wf hw i)
      refine Or.inl ⟨(cf (cnt (itr i t)), T'), ⟨⟨a2, fun j h1 h2 => by show T' j = T j; rw [a3 j h1 h2, hs.1.2 j h1 h2]⟩, fun z2 => ?_⟩, ?_⟩
      · have := itr_fix hw (cf_z.mp z2)
        have e1 := this (N - i)
        have e2 := this 1
        rw [show i + (N - i) = N by omega] at e1
        rw [e1, e2]
      · rw [if_neg z]
        refine ob a1 ?_
        rw [nI_1]
theorem pm_rounds {N : Nat} (hN : N < 300) (L : Nat → Int32 → TS → Option TS) (hL : ∀ n i U, L (n + 1) i U = if nI N ≤ i then some U else (f_X7_goesRound U).bind fun q => L n (i + (1 : Int32)) q.2) {t : Tn} {T : TS} (h : TM t T) (hw : wf t) : ∃ T', L 300 (0 : Int32) T = some T' ∧ TM (itr N t) T' ∧ ∀ j, j ≠ 15 → j ≠ 29 → T' j = T j := by
  refine lupTk (N := N) (fun n i s => L n (nI i) s) (fun i s => TM (itr i t) s ∧ ∀ j, j ≠ 15 → j ≠ 29 → s j = T j) (fun r => TM (itr N t) r ∧ ∀ j, j ≠ 15 → j ≠ 29 → r j = T j) N 0 300 T (fun r h1 hQ => ?_) (fun n s hs => ?_) (fun n i s hi hs => Or.inl ?_) (by omega) (by omega) ⟨h, fun _ _ _ => rfl⟩
  · have h2 := hQ
    exact ⟨r, h1, h2⟩
  · refine ⟨s, ?_, hs⟩
    show L (n + 1) (nI N) s = _
    rw [hL, if_pos (yle _)]
  · obtain ⟨T', a1, a2, a3⟩ := pm_round hs.1 (itr_wf hw i)
    refine ⟨T', ⟨a2, fun j h1 h2 => by rw [a3 j h1 h2, hs.2 j h1 h2]⟩, ?_⟩
    show L (n + 1) (nI i) s = _
    rw [hL, if_neg (nI_ge hi (by omega))]
    refine ob a1 ?_
    rw [nI_1]
