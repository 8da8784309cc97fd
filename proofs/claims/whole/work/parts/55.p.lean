/-! ===== pure: the order in which to speak ===== -/
/-- speakers one after the other -/
def spk (t : Tn) (p : Nat) : Tn := tl t p (say t p)
def spl (t : Tn) (l : List Nat) : Tn := l.foldl spk t
theorem spl_app (t : Tn) (l : List Nat) (p : Nat) : spl t (l ++ [p]) = spk (spl t l) p := by
  unfold spl
  rw [List.foldl_append]
  rfl
theorem spk_ne (t : Tn) (p : Nat) : Ne9 t (spk t p) := tl_ne _ _ _
theorem spl_ne (t : Tn) (l : List Nat) : Ne9 t (spl t l) := by
  unfold spl
  induction l generalizing t with
  | nil => exact Ne9.rfl' t
  | cons p l ih => exact (spk_ne t p).trans (ih (spk t p))
theorem spk_wf {t : Tn} (hw : wf t) {p : Nat} (hp : p < t 1 0) : wf (spk t p) := tl_wf hw (say_lt hw hp)
theorem spl_wf {t : Tn} (hw : wf t) : ∀ (l : List Nat), (∀ p, p ∈ l → p < t 1 0) → wf (spl t l) := by
  intro l
  induction l generalizing t with
  | nil => intro _; exact hw
  | cons p l ih =>
    intro h
    refine ih (spk_wf hw (h p (List.mem_cons_self))) (fun q hq => ?_)
    rw [spk_ne t p 1 (by decide)]
    exact h q (List.mem_cons_of_mem _ hq)
/-- at most as much heard -/
def LE9 (t f : Tn) : Prop := (∀ j, j ≠ 9 → j ≠ 3 → f j = t j) ∧ ∀ p, p < t 1 0 → ∀ i, (t 9 p).testBit i = true → (f 9 p).testBit i = true
theorem le9_bar {t f : Tn} (h : LE9 t f) (p : Nat) : bar f p = bar t p := by
  unfold bar
  rw [h.1 2 (by decide) (by decide), h.1 7 (by decide) (by decide), h.1 8 (by decide) (by decide)]
theorem le9_vch {t f : Tn} (h : LE9 t f) (p i : Nat) (hv : (vch t p).testBit i = true) : (vch f p).testBit i = true := by
  unfold vch at hv ⊢
  rw [orr_bit] at hv ⊢
  obtain ⟨q, hq, hb⟩ := hv
  refine ⟨q, by rw [h.1 1 (by decide) (by decide)]; exact hq, ?_⟩
  rw [h.1 10 (by decide) (by decide), h.1 7 (by decide) (by decide)]
  by_cases c : (t 10 p).testBit q = true
  · rw [if_pos c] at hb ⊢
    rw [Nat.testBit_or, Bool.or_eq_true] at hb ⊢
    rcases hb with z | z
    · exact Or.inl (h.2 q hq i z)
    · exact Or.inr z
  · rw [if_neg c] at hb
    rw [Nat.zero_testBit] at hb
    cases hb
theorem le9_say {t f : Tn} (h : LE9 t f) {p : Nat} (hp : p < t 1 0) (i : Nat) (hv : (say t p).testBit i = true) : (say f p).testBit i = true := by
  unfold say alS at hv ⊢
  rw [le9_bar h p, h.1 11 (by decide) (by decide), h.1 4 (by decide) (by decide), h.1 0 (by decide) (by decide)]
  by_cases e1 : t 11 p = 1
  · rw [if_pos e1] at hv ⊢
    rw [Nat.testBit_and, Nat.testBit_and, Bool.and_eq_true, Bool.and_eq_true] at hv ⊢
    exact ⟨⟨h.2 p hp i hv.1.1, hv.1.2⟩, le9_vch h p i hv.2⟩
  · rw [if_neg e1] at hv ⊢
    by_cases e2 : t 11 p = 2
    · rw [if_pos e2] at hv ⊢; exact hv
    · rw [if_neg e2] at hv ⊢
      by_cases e3 : t 11 p = 3
      · rw [if_pos e3] at hv ⊢; exact hv
      · rw [if_neg e3] at hv ⊢
        rw [Nat.testBit_and, Bool.and_eq_true] at hv ⊢
        exact ⟨h.2 p hp i hv.1, hv.2⟩
theorem dif0_sub {m b : Nat} (h : dif m b = 0) (i : Nat) (hm : m.testBit i = true) : b.testBit i = true := by
  have := congrArg (fun n => n.testBit i) h
  simp only [dif_bit, hm, Nat.zero_testBit] at this
  simpa using this
/-- a still town: all that may be said is heard -/
def Stl (f : Tn) : Prop := ∀ p, p < f 1 0 → tlc f p (say f p) = 0
theorem Stl.of {f : Tn} (hw : wf f) (h : cnt f = 0) : Stl f := by
  have key : ∀ i, i ≤ f 1 0 → (tA f i).2 = 0 → ∀ p, p < i → tlc f p (say f p) = 0 := by
    intro i
    induction i with
    | zero => intro _ _ p hp; exact absurd hp (Nat.not_lt_zero p)
    | succ i ih =>
      intro hi h2 p hp
      have h2 : (tA f i).2 + tlc (tA f i).1 i (say f i) = 0 := h2
      have e := tA_fix hw i (by omega) (by omega)
      by_cases z : p = i
      · subst z; rw [e] at h2; omega
      · exact ih (by omega) (by omega) p (by omega)
  intro p hp
  unfold cnt at h
  exact key (f 1 0) (Nat.le_refl _) (by omega) p hp
theorem le9_spk {t f : Tn} (hw : wf t) (hf : wf f) (h : LE9 t f) (hs : Stl f) {p : Nat} (hp : p < t 1 0) : LE9 (spk t p) f := by
  have e1 : f 1 0 = t 1 0 := by rw [h.1 1 (by decide) (by decide)]
  refine ⟨fun j a b => by rw [h.1 j a b, spk_ne t p j a], fun q hq i hb => ?_⟩
  rw [spk_ne t p 1 (by decide)] at hq
  have hb : (if q < t 1 0 ∧ (t 10 q).testBit p = true then t 9 q ||| say t p else t 9 q).testBit i = true := hb
  by_cases c : q < t 1 0 ∧ (t 10 q).testBit p = true
  · rw [if_pos c, Nat.testBit_or, Bool.or_eq_true] at hb
    rcases hb with z | z
    · exact h.2 q hq i z
    · have z2 := le9_say h hp i z
      have h0 := sm_0 (hs p (by rw [e1]; exact hp)) q (by rw [e1]; exact hq)
      unfold tlq at h0
      rw [if_pos (by rw [h.1 10 (by decide) (by decide)]; exact c.2)] at h0
      exact dif0_sub (pc_0 _ (dif_lt8 _ (k8 hf (say_lt hf (by rw [e1]; exact hp)))) h0) i z2
  · rw [if_neg c] at hb
    exact h.2 q hq i hb
theorem le9_spl {f : Tn} (hf : wf f) (hs : Stl f) : ∀ (l : List Nat) {t : Tn}, wf t → LE9 t f → (∀ p, p ∈ l → p < t 1 0) → LE9 (spl t l) f := by
  intro l
  induction l with
  | nil => intro t _ h _; exact h
  | cons p l ih =>
    intro t hw h hp
    have hp0 := hp p List.mem_cons_self
    exact ih (spk_wf hw hp0) (le9_spk hw hf h hs hp0) (fun q hq => by rw [spk_ne t p 1 (by decide)]; exact hp q (List.mem_cons_of_mem _ hq))
theorem sm_mono {f g : Nat → Nat} : ∀ {n : Nat}, (∀ i, i < n → f i ≤ g i) → sm n f ≤ sm n g
  | 0, _ => Nat.le_refl _
  | n + 1, h => by
    have := sm_mono (n := n) (fun i hi => h i (by omega))
    have := h n (Nat.lt_succ_self n)
    show sm n f + f n ≤ sm n g + g n
    omega
theorem pc_mono {a b : Nat} (h : ∀ i, a.testBit i = true → b.testBit i = true) : pc a ≤ pc b := sm_mono (fun i _ => by
  have := h i
  revert this
  cases a.testBit i <;> cases b.testBit i <;> simp)
theorem le9_kal {t f : Tn} (h : LE9 t f) : kal t ≤ kal f := by
  unfold kal
  rw [h.1 1 (by decide) (by decide)]
  refine sm_mono (fun p hp => pc_mono (fun i hi => ?_))
  unfold knw at hi ⊢
  rw [h.1 7 (by decide) (by decide), h.1 8 (by decide) (by decide)]
  rw [Nat.testBit_or, Bool.or_eq_true] at hi ⊢
  rcases hi with z | z
  · exact Or.inl z
  · exact Or.inr (h.2 p hp i z)
/-- rounds without signs come to a stand -/
def qui (t : Tn) : Tn := upn t 3 (fun _ => 0)
theorem qui_wf {t : Tn} (hw : wf t) : wf (qui t) := by
  refine ⟨⟨hw.1.1, hw.1.2.1, hw.1.2.2.1, hw.1.2.2.2.1, Nat.zero_le _, hw.1.2.2.2.2.2⟩, fun j p a b c => ?_⟩
  unfold qui
  rw [upn_ne t _ (show j ≠ 3 by omega)]
  exact hw.2 j p a b c
def tot (t : Tn) : Nat := sm (t 1 0) (fun p => pc (t 9 p))
theorem pc_split (a m : Nat) : pc (a ||| m) = pc a + pc (dif m a) := by
  have add : ∀ (f g : Nat → Nat) n, sm n (fun i => f i + g i) = sm n f + sm n g := by
    intro f g n
    induction n with
    | zero => rfl
    | succ n ih => show sm n _ + (f n + g n) = (sm n f + f n) + (sm n g + g n); rw [ih]; omega
  unfold pc
  rw [← add]
  refine sm_congr (fun i _ => ?_)
  rw [Nat.testBit_or, dif_bit]
  cases a.testBit i <;> cases m.testBit i <;> rfl
theorem tot_tl (t : Tn) (p m : Nat) : tot (tl t p m) = tot t + tlc t p m := by
  have key : ∀ n, n ≤ t 1 0 → sm n (fun q => pc (tl t p m 9 q)) = sm n (fun q => pc (t 9 q)) + sm n (tlq t p m) := by
    intro n
    induction n with
    | zero => intro _; rfl
    | succ n ih =>
      intro hn
      show sm n _ + pc (tl t p m 9 n) = (sm n _ + pc (t 9 n)) + (sm n _ + tlq t p m n)
      rw [ih (by omega)]
      have e : pc (tl t p m 9 n) = pc (t 9 n) + tlq t p m n := by
        show pc (if n < t 1 0 ∧ (t 10 n).testBit p = true then t 9 n ||| m else t 9 n) = _
        unfold tlq
        by_cases c : (t 10 n).testBit p = true
        · rw [if_pos ⟨by omega, c⟩, if_pos c, pc_split]
        · rw [if_neg (fun z => c z.2), if_neg c]; rfl
      omega
  unfold tot tlc
  rw [tl_ne t p m 1 (by decide)]
  exact key _ (Nat.le_refl _)
theorem tot_tA (t : Tn) : ∀ i, tot (tA t i).1 = tot t + (tA t i).2
  | 0 => rfl
  | i + 1 => by
    show tot (tl (tA t i).1 i (say t i)) = tot t + ((tA t i).2 + tlc (tA t i).1 i (say t i))
    rw [tot_tl, tot_tA t i]
    omega
theorem sgI_q {s : Tn × Nat} {p : Nat} (h : s.1 3 0 = 0) : ∀ i, sgI p s i = s
  | 0 => rfl
  | i + 1 => by
    have z : sgf s.1 p i s.2 = 0 := by
      unfold sgf
      rw [h, Nat.zero_sub]
      split <;> rfl
    show (sg1 (sgI p s i).1 p i (sgI p s i).2, (sgI p s i).2 + pc (sgf (sgI p s i).1 p i (sgI p s i).2)) = s
    rw [sgI_q h i, z, sg1_0 z, show pc 0 = 0 from by decide]
    rfl
theorem sgO_q {s : Tn × Nat} {n : Nat} (h : s.1 3 0 = 0) : ∀ i, sgO n s i = s
  | 0 => rfl
  | i + 1 => by
    show sgI i (sgO n s i) n = s
    rw [sgO_q h i]
    exact sgI_q h n
theorem tot_rnd {t : Tn} (h : t 3 0 = 0) : tot (rnd t) = tot t + cnt t := by
  have e : rsg t = ((tA t (t 1 0)).1, 0) := sgO_q (s := ((tA t (t 1 0)).1, 0)) (by rw [tA_ne t _ 3 (by decide)]; exact h) _
  unfold rnd cnt
  rw [e]
  exact tot_tA t _
theorem tot_le {t : Tn} (hw : wf t) : tot t ≤ 56 := by
  have h : tot t ≤ t 1 0 * 8 := sm_le (fun i _ => pc_le _)
  have := hw.n7
  omega
theorem itr_still {t : Tn} (hw : wf t) (h : t 3 0 = 0) : cnt (itr 57 t) = 0 := by
  have e3 : ∀ k, itr k t 3 0 = 0 := fun k => by rw [itr_ne t k 3 (by decide)]; exact h
  have key : ∀ k, (∃ j, j ≤ k ∧ cnt (itr j t) = 0) ∨ k + 1 ≤ tot (itr (k + 1) t) := by
    intro k
    induction k with
    | zero =>
      by_cases z : cnt (itr 0 t) = 0
      · exact Or.inl ⟨0, Nat.le_refl _, z⟩
      · right
        show 0 + 1 ≤ tot (rnd (itr 0 t))
        rw [tot_rnd (e3 0)]
        omega
    | succ k ih =>
      rcases ih with ⟨j, hj, z⟩ | ih
      · exact Or.inl ⟨j, by omega, z⟩
      · by_cases z : cnt (itr (k + 1) t) = 0
        · exact Or.inl ⟨k + 1, Nat.le_refl _, z⟩
        · right
          show k + 1 + 1 ≤ tot (rnd (itr (k + 1) t))
          rw [tot_rnd (e3 (k + 1))]
          omega
  rcases key 56 with ⟨j, hj, z⟩ | h57
  · have := itr_fix hw z (57 - j)
    rw [show j + (57 - j) = 57 by omega] at this
    rw [this]
    exact z
  · have h57 : 57 ≤ tot (itr 57 t) := h57
    have := tot_le (itr_wf hw 57)
    omega
theorem tl_le (t : Tn) (p m q i : Nat) (h : (t 9 q).testBit i = true) : (tl t p m 9 q).testBit i = true := by
  show (if q < t 1 0 ∧ (t 10 q).testBit p = true then t 9 q ||| m else t 9 q).testBit i = true
  split
  · rw [Nat.testBit_or, h]; rfl
  · exact h
theorem tA_le9 (t : Tn) (q i : Nat) (h : (t 9 q).testBit i = true) : ∀ k, ((tA t k).1 9 q).testBit i = true
  | 0 => h
  | k + 1 => tl_le _ _ _ _ _ (tA_le9 t q i h k)
theorem rnd_le9 {t : Tn} (h3 : t 3 0 = 0) (q i : Nat) (h : (t 9 q).testBit i = true) : (rnd t 9 q).testBit i = true := by
  have e : rsg t = ((tA t (t 1 0)).1, 0) := sgO_q (s := ((tA t (t 1 0)).1, 0)) (by rw [tA_ne t _ 3 (by decide)]; exact h3) _
  unfold rnd
  rw [e]
  exact tA_le9 t q i h _
theorem lim_le {t : Tn} (hw : wf t) : LE9 t (itr 57 (qui t)) := by
  have key : ∀ k, LE9 t (itr k (qui t)) := by
    intro k
    induction k with
    | zero => exact ⟨fun j a b => upn_ne t _ b, fun p _ i h => h⟩
    | succ k ih => exact ⟨fun j a b => by
        show rnd (itr k (qui t)) j = t j
        rw [rnd_ne _ j a, ih.1 j a b], fun p hp i h => rnd_le9 (by rw [itr_ne _ k 3 (by decide)]; rfl) p i (ih.2 p hp i h)⟩
  exact key 57
def lim (t : Tn) : Nat := kal (itr 57 (qui t))
theorem ev_le {t : Tn} (hw : wf t) (l : List Nat) (hl : ∀ p, p ∈ l → p < t 1 0) : kal (spl t l) ≤ lim t := by
  have hq := qui_wf hw
  have hf := itr_wf hq 57
  exact le9_kal (le9_spl hf (Stl.of hf (itr_still hq rfl)) l hw (lim_le hw) hl)
/-- all orders, and what comes of trying them -/
def cat (f : Nat → List (List Nat)) : Nat → List (List Nat)
  | 0 => []
  | k + 1 => cat f k ++ f k
def prm (n : Nat) : Nat → Nat → List Nat → List (List Nat)
  | 0, _, pre => [pre]
  | d + 1, left, pre => cat (fun p => if left.testBit p = true then prm n d (dif left (2 ^ p)) (pre ++ [p]) else []) n
def ups (t : Tn) (s : Nat × List Nat) (l : List Nat) : Nat × List Nat := if s.1 ≤ kal (spl t l) then (kal (spl t l) + 1, l) else s
theorem cat_mem {f : Nat → List (List Nat)} {l : List Nat} : ∀ {k : Nat}, l ∈ cat f k → ∃ i, i < k ∧ l ∈ f i
  | 0, h => by cases h
  | k + 1, h => by
    rcases List.mem_append.mp h with h | h
    · obtain ⟨i, hi, hl⟩ := cat_mem h
      exact ⟨i, by omega, hl⟩
    · exact ⟨k, Nat.lt_succ_self k, h⟩
theorem prm_mem {n : Nat} : ∀ (d left : Nat) (pre l : List Nat), (∀ p, p ∈ pre → p < n) → l ∈ prm n d left pre → ∀ p, p ∈ l → p < n
  | 0, left, pre, l, hp, hl => by
    have : l = pre := List.mem_singleton.mp hl
    rw [this]; exact hp
  | d + 1, left, pre, l, hp, hl => by
    obtain ⟨i, hi, h2⟩ := cat_mem hl
    by_cases b : left.testBit i = true
    · rw [if_pos b] at h2
      refine prm_mem d _ (pre ++ [i]) l (fun p hpp => ?_) h2
      rcases List.mem_append.mp hpp with z | z
      · exact hp p z
      · rw [List.mem_singleton.mp z]; exact hi
    · rw [if_neg b] at h2
      cases h2
theorem ups_stop {t : Tn} {s : Nat × List Nat} : ∀ (L : List (List Nat)), (∀ l, l ∈ L → kal (spl t l) < s.1) → L.foldl (ups t) s = s
  | [], _ => rfl
  | l :: L, h => by
    show L.foldl (ups t) (ups t s l) = s
    have e : ups t s l = s := if_neg (by have := h l List.mem_cons_self; omega)
    rw [e]
    exact ups_stop L (fun l' hl' => h l' (List.mem_cons_of_mem _ hl'))
theorem ups_pos {t : Tn} : ∀ (L : List (List Nat)) (s : Nat × List Nat), (s.1 ≠ 0 ∨ L ≠ []) → (L.foldl (ups t) s).1 ≠ 0
  | [], s, h => by rcases h with h | h; exact h; exact absurd rfl h
  | l :: L, s, _ => by
    show (L.foldl (ups t) (ups t s l)).1 ≠ 0
    refine ups_pos L _ (Or.inl ?_)
    unfold ups
    split
    · exact Nat.succ_ne_zero _
    · omega
def mo (m : Nat) : Int32 := if m = 0 then -1 else nI (m - 1)
theorem mo_s (m : Nat) : mo (m + 1) = nI m := rfl
theorem mo_le {a m : Nat} (ha : a < 2 ^ 20) (hm : m < 2 ^ 20) : nI a ≤ mo m ↔ a + 1 ≤ m := by
  cases m with
  | zero =>
    constructor
    · intro z
      have := Int32.le_iff_toInt_le.mp z
      rw [nI_toInt (by omega), show (mo 0).toInt = -1 from by decide] at this
      omega
    · intro z; omega
  | succ m =>
    rw [mo_s, nI_leI (by omega) (by omega)]
    omega
theorem pc_del : ∀ m, m < 128 → ∀ p, p < 7 → m.testBit p = true → pc (dif m (2 ^ p)) + 1 = pc m := by decide +kernel
theorem getD_app (pre : List Nat) (p k : Nat) (h : k < pre.length) : (pre ++ [p]).getD k 0 = pre.getD k 0 := by
  rw [List.getD_eq_getElem?_getD, List.getD_eq_getElem?_getD, List.getElem?_append_left h]
theorem getD_last (pre : List Nat) (p : Nat) : (pre ++ [p]).getD pre.length 0 = p := by
  rw [List.getD_eq_getElem?_getD, List.getElem?_append_right (Nat.le_refl _), Nat.sub_self]
  rfl
/-- the class's search -/
def RO (t : Tn) (s : Nat × List Nat) (pre : List Nat) (O : TS) : Prop := O 6 0 = nI (lim t) ∧ O 5 0 = mo s.1 ∧ (s.1 ≠ 0 → ∀ k, k < t 1 0 → O 4 k = nI (s.2.getD k 0)) ∧ (∀ k, k < pre.length → O 3 k = nI (pre.getD k 0)) ∧ s.1 ≤ 57
theorem lim_lt {t : Tn} (hw : wf t) : lim t ≤ 56 := kal_le (itr_wf (qui_wf hw) 57)
theorem pc_weigh {t : Tn} (hw : wf t) {s : Nat × List Nat} {pre : List Nat} (hlen : pre.length = t 1 0) (hpre : ∀ p, p ∈ pre → p < t 1 0) {O B T1 T : TS} (hO : RO t s pre O) (hT : TC (spl t pre) T) : ∃ O', f_X1_weigh O B T1 T = some O' ∧ RO t (ups t s pre) pre O' := by
  have hw2 := spl_wf hw pre hpre
  have hk := kal_le hw2
  have h7 := hw.n7
  unfold f_X1_weigh
  obtain ⟨r1, r2, r3, r4, r5⟩ := hO
  by_cases c : s.1 ≤ kal (spl t pre)
  · have e : ups t s pre = (kal (spl t pre) + 1, pre) := if_pos c
    refine ⟨_, ob (pc_kal hT hw2) (if_neg (by rw [r2, mo_le (by omega) (by omega)]; omega)), ?_⟩
    rw [e]
    refine ⟨r1, rfl, fun _ k hk2 => ?_, r4, ?_⟩
    · show va_cpy (O 3) (O 4) 0 0 7 k = nI (pre.getD k 0)
      rw [pk_cpy_in (Nat.zero_le k) (by omega), Nat.sub_zero, Nat.zero_add]
      exact r4 k (by omega)
    · show kal (spl t pre) + 1 ≤ 57
      omega
  · have e : ups t s pre = s := if_neg c
    refine ⟨O, ob (pc_kal hT hw2) (if_pos (by rw [r2, mo_le (by omega) (by omega)]; omega)), ?_⟩
    rw [e]
    exact ⟨r1, r2, r3, r4, r5⟩
theorem ups57 {t : Tn} (hw : wf t) : ∀ (L : List (List Nat)) (s : Nat × List Nat), s.1 ≤ 57 → (∀ l, l ∈ L → ∀ p, p ∈ l → p < t 1 0) → (L.foldl (ups t) s).1 ≤ 57
  | [], _, h, _ => h
  | l :: L, s, h, hl => by
    refine ups57 hw L _ ?_ (fun l' hl' => hl l' (List.mem_cons_of_mem _ hl'))
    unfold ups
    have := kal_le (spl_wf hw l (hl l List.mem_cons_self))
    split
    · show kal (spl t l) + 1 ≤ 57
      omega
    · exact h
theorem pc_dfs {t : Tn} (hw : wf t) (T1 : TS) : ∀ (d D left : Nat) (pre : List Nat) (s : Nat × List Nat) (O B T : TS), d < D → pre.length + d = t 1 0 → pc left = d → left < 2 ^ t 1 0 → (∀ p, p ∈ pre → p < t 1 0) → RO t s pre O → TC (spl t pre) T → ∃ O' B' T', f_X1_speakOn D O B T1 T (nI pre.length) (nI left) = some (O', B', T') ∧ RO t ((prm (t 1 0) d left pre).foldl (ups t) s) pre O' ∧ (∀ k, k < pre.length → ∀ y, y < 7 → B' k y = B k y) ∧ ∀ j, j ≠ 9 → T' j = T j := by
  intro d
  have h7 := hw.n7
  have e7 : 2 ^ t 1 0 ≤ 2 ^ 7 := Nat.pow_le_pow_right (by decide) h7
  induction d with
  | zero =>
    intro D left pre s O B T hD hlen hpc hleft hpre hO hT
    obtain ⟨D, rfl⟩ : ∃ k, D = k + 1 := ⟨D - 1, by omega⟩
    obtain rfl : left = 0 := pc_0 left (by omega) hpc
    obtain ⟨O', a1, a2⟩ := pc_weigh (B := B) (T1 := T1) hw (by omega) hpre hO hT
    refine ⟨O', B, T, ?_, a2, fun _ _ _ _ => rfl, fun _ _ => rfl⟩
    show (if nI 0 = 0 then _ else _) = _
    rw [if_pos (show nI 0 = 0 from rfl)]
    exact ob a1 rfl
  | succ d ih =>
    intro D left pre s O B T hD hlen hpc hleft hpre hO hT
    obtain ⟨D, rfl⟩ : ∃ k, D = k + 1 := ⟨D - 1, by omega⟩
    have hl0 : left ≠ 0 := fun z => by rw [z] at hpc; exact absurd hpc (by rw [show pc 0 = 0 from by decide]; omega)
    have i7 : pre.length < 7 := by omega
    obtain ⟨F, hF⟩ : ∃ F : Nat → List (List Nat), F = fun p => if left.testBit p = true then prm (t 1 0) d (dif left (2 ^ p)) (pre ++ [p]) else [] := ⟨_, rfl⟩
    have hprm : prm (t 1 0) (d + 1) left pre = cat F (t 1 0) := by rw [hF]; rfl
    have hFm : ∀ p l, p < t 1 0 → l ∈ F p → ∀ q, q ∈ l → q < t 1 0 := fun p l hp hl => by
      rw [hF] at hl
      have hl : l ∈ (if left.testBit p = true then prm (t 1 0) d (dif left (2 ^ p)) (pre ++ [p]) else []) := hl
      by_cases b : left.testBit p = true
      · rw [if_pos b] at hl
        refine prm_mem d _ _ l (fun q hq => ?_) hl
        rcases List.mem_append.mp hq with z | z
        · exact hpre q z
        · rw [List.mem_singleton.mp z]; exact hp
      · rw [if_neg b] at hl
        cases hl
    have stop : ∀ i, (cat F i).foldl (ups t) s = (cat F i).foldl (ups t) s → lim t + 1 ≤ ((cat F i).foldl (ups t) s).1 → ∀ e, i + e ≤ t 1 0 → (cat F (i + e)).foldl (ups t) s = (cat F i).foldl (ups t) s := by
      intro i _ hlim e
      induction e with
      | zero => intro _; rfl
      | succ e ihe =>
        intro he
        show (cat F (i + e) ++ F (i + e)).foldl (ups t) s = _
        rw [List.foldl_append, ihe (by omega)]
        exact ups_stop _ (fun l hl => by have := ev_le hw l (hFm (i + e) l (by omega) hl); omega)
    have sp0 : spl t pre 1 0 = t 1 0 := by rw [spl_ne t pre 1 (by decide)]
    have hws := spl_wf hw pre hpre
    obtain ⟨B0, hB0⟩ : ∃ B0, B0 = up B pre.length (va_cpy (T 9) (B pre.length) ((0 : Int32)).toNatClampNeg ((0 : Int32)).toNatClampNeg ((7 : Int32)).toNatClampNeg) := ⟨_, rfl⟩
    have hBi : ∀ y, y < 7 → B0 pre.length y = T 9 y := fun y hy => by
      rw [hB0, up_same]
      show va_cpy (T 9) (B pre.length) 0 0 7 y = T 9 y
      rw [pk_cpy_in (Nat.zero_le y) (by omega), Nat.sub_zero, Nat.zero_add]
    obtain ⟨⟨O', B', T'⟩, h1, h2, h3, h4⟩ := lupT (N := t 1 0) (fun n i (z : TS × TS × TS) => L_X1_speakOn_40 (f_X1_speakOn D) T1 (nI pre.length) (nI left) n (nI i) z.1 z.2.1 z.2.2) (fun i z => RO t ((cat F i).foldl (ups t) s) pre z.1 ∧ (∀ k, k ≤ pre.length → ∀ y, y < 7 → z.2.1 k y = B0 k y) ∧ TC (spl t pre) z.2.2 ∧ ∀ j, j ≠ 9 → z.2.2 j = T j) (fun z => RO t ((cat F (t 1 0)).foldl (ups t) s) pre z.1 ∧ (∀ k, k ≤ pre.length → ∀ y, y < 7 → z.2.1 k y = B0 k y) ∧ ∀ j, j ≠ 9 → z.2.2 j = T j) (fun n z hz => ⟨z, by
        show (if z.2.2 1 0 ≤ nI (t 1 0) then _ else _) = _
        rw [hz.2.2.1.n, sp0, if_pos (yle _)], hz.1, hz.2.1, hz.2.2.2⟩) (fun n i z hi hz => by
        obtain ⟨z1, z2, z3, z4⟩ := hz
        have hl57 := lim_lt hw
        have hm57 := z1.2.2.2.2
        have st : L_X1_speakOn_40 (f_X1_speakOn D) T1 (nI pre.length) (nI left) (n + 1) (nI i) z.1 z.2.1 z.2.2 = (if z.1 6 0 ≤ z.1 5 0 then some (z.1, z.2.1, z.2.2) else if (f_X6_has (nI left) (nI i)) = 0 then L_X1_speakOn_40 (f_X1_speakOn D) T1 (nI pre.length) (nI left) n (nI i + (1 : Int32)) z.1 z.2.1 z.2.2 else (f_X5_sayableBy z.2.2 (nI i)).bind fun q16 => (f_X5_tell z.2.2 (nI i) q16).bind fun q18 => (f_X1_speakOn D (up z.1 3 (upd (z.1 3) (nI pre.length).toNatClampNeg (nI i))) z.2.1 T1 q18.2 (nI pre.length + (1 : Int32)) (f_X6_with (nI left) (nI i) (0 : Int32))).bind fun q21 => L_X1_speakOn_40 (f_X1_speakOn D) T1 (nI pre.length) (nI left) n (nI i + (1 : Int32)) q21.1 q21.2.1 (up q21.2.2 9 (va_cpy (q21.2.1 (nI pre.length).toNatClampNeg) (q21.2.2 9) ((0 : Int32)).toNatClampNeg ((0 : Int32)).toNatClampNeg ((7 : Int32)).toNatClampNeg))) := by
          show (if z.2.2 1 0 ≤ nI i then _ else _) = _
          rw [z3.n, sp0, if_neg (nle hw hi)]
        rw [st, z1.1, z1.2.1]
        by_cases c : lim t + 1 ≤ ((cat F i).foldl (ups t) s).1
        · refine Or.inr ⟨(z.1, z.2.1, z.2.2), by rw [if_pos ((mo_le (by omega) (by omega)).mpr c)], ?_, z2, z4⟩
          have := stop i rfl c (t 1 0 - i) (by omega)
          rw [show i + (t 1 0 - i) = t 1 0 by omega] at this
          show RO t ((cat F (t 1 0)).foldl (ups t) s) pre z.1
          rw [this]
          exact z1
        · rw [if_neg (fun y => c ((mo_le (by omega) (by omega)).mp y))]
          left
          cases b : left.testBit i
          · refine ⟨z, ⟨?_, z2, z3, z4⟩, ?_⟩
            · have e : F i = [] := by rw [hF]; show (if left.testBit i = true then _ else _) = _; rw [b]; rfl
              show RO t ((cat F i ++ F i).foldl (ups t) s) pre z.1
              rw [e, List.append_nil]
              exact z1
            · rw [if_pos ((pu_has0 (by omega) (by omega)).mpr b), nI_1]
          · have hi2 : i < spl t pre 1 0 := by rw [sp0]; exact hi
            obtain ⟨T2, a1, a2, a3⟩ := pc_tell z3 hws (p := i) (m := say (spl t pre) i) (by omega) (say_lt hws hi2)
            have hpre2 : ∀ p, p ∈ pre ++ [i] → p < t 1 0 := fun p hp => by
              rcases List.mem_append.mp hp with y | y
              · exact hpre p y
              · rw [List.mem_singleton.mp y]; exact hi
            have hlen2 : (pre ++ [i]).length = pre.length + 1 := by rw [List.length_append]; rfl
            have hRO : RO t ((cat F i).foldl (ups t) s) (pre ++ [i]) (up z.1 3 (upd (z.1 3) pre.length (nI i))) := by
              refine ⟨z1.1, z1.2.1, z1.2.2.1, fun k hk => ?_, hm57⟩
              rw [up_same]
              by_cases e : k = pre.length
              · subst e; rw [pk_us, getD_last]
              · rw [pk_un e, getD_app pre i k (by omega)]
                exact z1.2.2.2.1 k (by omega)
            obtain ⟨O2, B2, T3, c1, c2, c3, c4⟩ := ih D (dif left (2 ^ i)) (pre ++ [i]) ((cat F i).foldl (ups t) s) (up z.1 3 (upd (z.1 3) pre.length (nI i))) z.2.1 T2 (by omega) (by omega) (by have := pc_del left (by omega) i (by omega) b; omega) (dif_lt hleft) hpre2 hRO (by rw [spl_app]; exact a2)
            rw [hlen2] at c1 c3
            refine ⟨(O2, B2, up T3 9 (va_cpy (B2 pre.length) (T3 9) ((0 : Int32)).toNatClampNeg ((0 : Int32)).toNatClampNeg ((7 : Int32)).toNatClampNeg)), ⟨?_, fun k hk y hy => by show B2 k y = B0 k y; rw [c3 k (by omega) y hy]; exact z2 k hk y hy, ?_, fun j hj => by show up T3 9 _ j = T j; rw [up_ne _ _ hj, c4 j hj, a3 j hj, z4 j hj]⟩, ?_⟩
            · have e : F i = prm (t 1 0) d (dif left (2 ^ i)) (pre ++ [i]) := by rw [hF]; exact if_pos b
              show RO t ((cat F i ++ F i).foldl (ups t) s) pre O2
              rw [List.foldl_append, e]
              refine ⟨c2.1, c2.2.1, c2.2.2.1, fun k hk => ?_, c2.2.2.2.2⟩
              rw [c2.2.2.2.1 k (by omega), getD_app pre i k hk]
            · show TC (spl t pre) (up T3 9 (va_cpy (B2 pre.length) (T3 9) ((0 : Int32)).toNatClampNeg ((0 : Int32)).toNatClampNeg ((7 : Int32)).toNatClampNeg))
              refine ⟨fun j hj => ?_, fun j p x1 x2 x3 => ?_⟩
              · rw [up_ne _ _ (by omega), c4 j (by omega), a3 j (by omega)]
                exact z3.1 j hj
              · have p7 : p < 7 := by rw [sp0] at x3; omega
                by_cases e9 : j = 9
                · subst e9
                  rw [up_same]
                  show va_cpy (B2 pre.length) (T3 9) 0 0 7 p = _
                  rw [pk_cpy_in (Nat.zero_le p) (by omega), Nat.sub_zero, Nat.zero_add, c3 pre.length (by omega) p p7, z2 pre.length (Nat.le_refl _) p p7, hBi p p7]
                  exact hT.2 9 p (by decide) (by decide) x3
                · rw [up_ne _ _ e9, c4 j e9, a3 j e9]
                  exact z3.2 j p x1 x2 x3
            · rw [if_neg (fun y => by rw [(pu_has0 (by omega) (by omega)).mp y] at b; cases b)]
              refine ob (pc_say z3 hws hi2) (ob a1 ?_)
              rw [nI_clamp (show pre.length < 2 ^ 31 by omega), pu_with0 (by omega), nI_1, nI_1]
              exact ob c1 rfl) (t 1 0) 0 300 (O, B0, T) (by omega) (by omega) ⟨hO, fun _ _ _ _ => rfl, hT, fun _ _ => rfl⟩
    refine ⟨O', B', T', ?_, by rw [hprm]; exact h2, fun k hk y hy => ?_, h4⟩
    · show (if nI left = 0 then _ else if nI pre.length < (7 : Int32) then (if nI pre.length < 0 ∨ 7 ≤ (nI pre.length).toNatClampNeg then _ else _) else _) = _
      rw [if_neg (nI_ne0 (by omega) (by omega)), if_pos (show nI pre.length < (7 : Int32) from nI_lt (b := 7) i7 (by decide)), if_neg (in7 i7), nI_clamp (show pre.length < 2 ^ 31 by omega)]
      rw [hB0] at h1
      exact ob h1 rfl
    · have h3 : B' k y = B0 k y := h3 k (by omega) y hy
      rw [h3, hB0, up_ne B _ (show k ≠ pre.length by omega)]
/-- the reference's search -/
def RV (t : Tn) (s : Nat × List Nat) (pre : List Nat) (V : TS) : Prop := V 32 0 = mo s.1 ∧ (s.1 ≠ 0 → ∀ k, k < t 1 0 → V 31 k = nI (s.2.getD k 0)) ∧ (∀ k, k < pre.length → V 30 k = nI (pre.getD k 0)) ∧ s.1 ≤ 57
def Kp (V V' : TS) : Prop := ∀ j, j < 30 → V' j = V j
theorem pm_leaf {t : Tn} (hw : wf t) {U : TS} (hU : TM t U) {V : TS} {pre : List Nat} (hlen : pre.length = t 1 0) (hpre : ∀ p, p ∈ pre → p < t 1 0) (hV : ∀ k, k < pre.length → V 30 k = nI (pre.getD k 0)) {W : TS} (hW : TM t W) : ∃ W', L_X7_seekOrder_16 U V 300 (0 : Int32) W = some W' ∧ TM (spl t pre) W' := by
  have h7 := hw.n7
  have tk : ∀ i, i < pre.length → spl t (pre.take (i + 1)) = spk (spl t (pre.take i)) (pre.getD i 0) := fun i hi => by
    rw [← spl_app]
    congr 1
    rw [List.getD_eq_getElem?_getD, List.getElem?_eq_getElem hi]
    exact List.take_succ_eq_append_getElem hi
  obtain ⟨r, h1, h2⟩ := lupT (N := t 1 0) (fun n i s => L_X7_seekOrder_16 U V n (nI i) s) (fun i s => TM (spl t (pre.take i)) s) (fun s => TM (spl t pre) s) (fun n s hs => ⟨s, by
    show (if U 10 0 ≤ nI (t 1 0) then _ else _) = _
    rw [hU.n, if_pos (yle _)], by
    rw [show pre.take (t 1 0) = pre from List.take_of_length_le (by omega)] at hs
    exact hs⟩) (fun n i s hi hs => Or.inl (by
    have i7 := lt7 hw hi
    have hlt : i < pre.length := by omega
    have hwi := spl_wf hw (pre.take i) (fun p hp => hpre p (List.mem_of_mem_take hp))
    have hp : pre.getD i 0 < t 1 0 := by
      rw [List.getD_eq_getElem?_getD, List.getElem?_eq_getElem hlt]
      exact hpre _ (List.getElem_mem hlt)
    have hp2 : pre.getD i 0 < spl t (pre.take i) 1 0 := by rw [spl_ne t _ 1 (by decide)]; exact hp
    obtain ⟨s', a1, a2, a3⟩ := pm_tell hs hwi (p := pre.getD i 0) (m := say (spl t (pre.take i)) (pre.getD i 0)) (by omega) (say_lt hwi hp2)
    refine ⟨s', by rw [tk i hlt]; exact a2, ?_⟩
    show (if U 10 0 ≤ nI i then _ else if nI i < 0 ∨ 7 ≤ (nI i).toNatClampNeg then _ else _) = _
    rw [hU.n, if_neg (nle hw hi), if_neg (in7 i7), cl7 i7, hV i hlt]
    refine ob (pm_say hs hwi hp2) (ob a1 ?_)
    rw [nI_1])) (t 1 0) 0 300 W (by omega) (by omega) hW
  exact ⟨r, h1, h2⟩
theorem pm_keep {t : Tn} (hw : wf t) {U : TS} (hU : TM t U) (V : TS) : ∃ V', L_X7_seekOrder_78 U 300 (0 : Int32) V = some V' ∧ (∀ k, k < t 1 0 → V' 31 k = V 30 k) ∧ ∀ j, j ≠ 31 → V' j = V j := by
  have h7 := hw.n7
  obtain ⟨r, h1, h2⟩ := lupT (N := t 1 0) (fun n i s => L_X7_seekOrder_78 U n (nI i) s) (fun i s => (∀ k, k < i → s 31 k = V 30 k) ∧ ∀ j, j ≠ 31 → s j = V j) (fun s => (∀ k, k < t 1 0 → s 31 k = V 30 k) ∧ ∀ j, j ≠ 31 → s j = V j) (fun n s hs => ⟨s, by
    show (if U 10 0 ≤ nI (t 1 0) then _ else _) = _
    rw [hU.n, if_pos (yle _)], hs⟩) (fun n i s hi hs => Or.inl ⟨up s 31 (upd (s 31) i (s 30 i)), ⟨fun k hk => by
      rw [up_same]
      by_cases e : k = i
      · subst e; rw [pk_us, hs.2 30 (by decide)]
      · rw [pk_un e]; exact hs.1 k (by omega), fun j hj => by rw [up_ne _ _ hj]; exact hs.2 j hj⟩, by
    have i7 := lt7 hw hi
    show (if U 10 0 ≤ nI i then _ else if nI i < 0 ∨ 7 ≤ (nI i).toNatClampNeg then _ else _) = _
    rw [hU.n, if_neg (nle hw hi), if_neg (in7 i7), cl7 i7, nI_1]⟩) (t 1 0) 0 300 V (by omega) (by omega) ⟨fun k hk => absurd hk (Nat.not_lt_zero k), fun _ _ => rfl⟩
  exact ⟨r, h1, h2⟩
theorem pm_dfs {t : Tn} (hw : wf t) {U : TS} (hU : TM t U) (M R : LTS) : ∀ (d D left used : Nat) (pre : List Nat) (s : Nat × List Nat) (V : TS) (tp : Option (Nat → Int32)), d < D → pre.length + d = t 1 0 → pc left = d → left < 2 ^ t 1 0 → used < 2 ^ t 1 0 → (∀ p, p < t 1 0 → used.testBit p = !left.testBit p) → (∀ p, p ∈ pre → p < t 1 0) → RV t s pre V → ∃ V' f, f_X7_seekOrder D U V M R tp (nI pre.length) (nI used) = some (V', some f) ∧ RV t ((prm (t 1 0) d left pre).foldl (ups t) s) pre V' ∧ Kp V V' := by
  intro d
  have h7 := hw.n7
  have e7 : 2 ^ t 1 0 ≤ 2 ^ 7 := Nat.pow_le_pow_right (by decide) h7
  induction d with
  | zero =>
    intro D left used pre s V tp hD hlen hpc hleft hused hcomp hpre hV
    obtain ⟨D, rfl⟩ : ∃ k, D = k + 1 := ⟨D - 1, by omega⟩
    obtain ⟨W', a1, a2⟩ := pm_leaf hw hU (by omega) hpre hV.2.2.1 (fr0_tm hU tp)
    have hw2 := spl_wf hw pre hpre
    have hk := kal_le hw2
    have st : f_X7_seekOrder (D + 1) U V M R tp (nI pre.length) (nI used) = (if nI (kal (spl t pre)) ≤ V 32 0 then some (V, (some (W' 29))) else (L_X7_seekOrder_78 U 300 (0 : Int32) (up V 32 (fun _ => nI (kal (spl t pre))))).bind fun q19 => some (q19, (some (W' 29)))) := by
      show (if nI pre.length = U 10 0 then _ else _) = _
      rw [hU.n, if_pos (by rw [show pre.length = t 1 0 by omega])]
      exact ob a1 (ob (pm_kal a2 hw2) rfl)
    rw [st, hV.1]
    show ∃ V' f, _ ∧ RV t (ups t s pre) pre V' ∧ _
    have h57 := hV.2.2.2
    by_cases c : s.1 ≤ kal (spl t pre)
    · have e : ups t s pre = (kal (spl t pre) + 1, pre) := if_pos c
      obtain ⟨V', b1, b2, b3⟩ := pm_keep hw hU (up V 32 (fun _ => nI (kal (spl t pre))))
      refine ⟨V', W' 29, ?_, ?_, fun j hj => by rw [b3 j (by omega), up_ne V _ (by omega)]⟩
      · rw [if_neg (by rw [mo_le (by omega) (by omega)]; omega)]
        exact ob b1 rfl
      · rw [e]
        refine ⟨?_, fun _ k hk2 => ?_, fun k hk2 => ?_, ?_⟩
        · rw [b3 32 (by decide)]; rfl
        · rw [b2 k hk2, up_ne V _ (by decide)]
          exact hV.2.2.1 k (by omega)
        · rw [b3 30 (by decide), up_ne V _ (by decide)]
          exact hV.2.2.1 k hk2
        · show kal (spl t pre) + 1 ≤ 57
          omega
    · have e : ups t s pre = s := if_neg c
      refine ⟨V, W' 29, by rw [if_pos (by rw [mo_le (by omega) (by omega)]; omega)], by rw [e]; exact hV, fun _ _ => rfl⟩
  | succ d ih =>
    intro D left used pre s V tp hD hlen hpc hleft hused hcomp hpre hV
    obtain ⟨D, rfl⟩ : ∃ k, D = k + 1 := ⟨D - 1, by omega⟩
    have hl0 : left ≠ 0 := fun z => by rw [z] at hpc; exact absurd hpc (by rw [show pc 0 = 0 from by decide]; omega)
    have i7 : pre.length < 7 := by omega
    obtain ⟨F, hF⟩ : ∃ F : Nat → List (List Nat), F = fun p => if left.testBit p = true then prm (t 1 0) d (dif left (2 ^ p)) (pre ++ [p]) else [] := ⟨_, rfl⟩
    have hprm : prm (t 1 0) (d + 1) left pre = cat F (t 1 0) := by rw [hF]; rfl
    obtain ⟨⟨tp', V'⟩, h1, h2, h3, h4⟩ := lupT (N := t 1 0) (fun n i (z : Option (Nat → Int32) × TS) => L_X7_seekOrder_110 (f_X7_seekOrder D) U M R (nI pre.length) (nI used) n (nI i) z.1 z.2) (fun i z => RV t ((cat F i).foldl (ups t) s) pre z.2 ∧ ((∃ f, z.1 = some f) ∨ ∀ p, p < i → left.testBit p = false) ∧ Kp V z.2) (fun z => RV t ((cat F (t 1 0)).foldl (ups t) s) pre z.2 ∧ (∃ f, z.1 = some f) ∧ Kp V z.2) (fun n z hz => ⟨z, by
        show (if U 10 0 ≤ nI (t 1 0) then _ else _) = _
        rw [hU.n, if_pos (yle _)], hz.1, by
        rcases hz.2.1 with y | y
        · exact y
        · exfalso
          apply hl0
          apply Nat.eq_of_testBit_eq
          intro p
          rw [Nat.zero_testBit]
          by_cases hp : p < t 1 0
          · exact y p hp
          · exact Nat.testBit_lt_two_pow (Nat.lt_of_lt_of_le hleft (Nat.pow_le_pow_right (by decide) (by omega))), hz.2.2⟩) (fun n i z hi hz => Or.inl (by
        obtain ⟨z1, z2, z3⟩ := hz
        have st : L_X7_seekOrder_110 (f_X7_seekOrder D) U M R (nI pre.length) (nI used) (n + 1) (nI i) z.1 z.2 = (if (f_X7_has (nI used) (nI i)) = 0 then (f_X7_seekOrder D U (up z.2 30 (upd (z.2 30) pre.length (nI i))) M R z.1 (nI (pre.length + 1)) (nI (used ||| 2 ^ i))).bind fun q34 => if q34.2 = none then none else L_X7_seekOrder_110 (f_X7_seekOrder D) U M R (nI pre.length) (nI used) n (nI (i + 1)) q34.2 q34.1 else L_X7_seekOrder_110 (f_X7_seekOrder D) U M R (nI pre.length) (nI used) n (nI (i + 1)) z.1 z.2) := by
          show (if U 10 0 ≤ nI i then _ else if (f_X7_has (nI used) (nI i)) = 0 then (if nI pre.length < 0 ∨ 7 ≤ (nI pre.length).toNatClampNeg then _ else _) else _) = _
          rw [hU.n, if_neg (nle hw hi), if_neg (in7 i7), nI_clamp (show pre.length < 2 ^ 31 by omega), pu_one i (by omega), pu_or, nI_1, nI_1]
        rw [st]
        have hc := hcomp i hi
        cases b : left.testBit i
        · rw [b] at hc
          rw [if_neg (fun y => by rw [(pm_has0 (by omega) (by omega)).mp y] at hc; exact absurd hc (by decide))]
          refine ⟨z, ⟨?_, ?_, z3⟩, rfl⟩
          · have e : F i = [] := by rw [hF]; show (if left.testBit i = true then _ else _) = _; rw [b]; rfl
            show RV t ((cat F i ++ F i).foldl (ups t) s) pre z.2
            rw [e, List.append_nil]
            exact z1
          · rcases z2 with y | y
            · exact Or.inl y
            · refine Or.inr (fun p hp => ?_)
              by_cases e : p = i
              · subst e; exact b
              · exact y p (by omega)
        · rw [b] at hc
          rw [if_pos ((pm_has0 (by omega) (by omega)).mpr hc)]
          have hpre2 : ∀ p, p ∈ pre ++ [i] → p < t 1 0 := fun p hp => by
            rcases List.mem_append.mp hp with y | y
            · exact hpre p y
            · rw [List.mem_singleton.mp y]; exact hi
          have hlen2 : (pre ++ [i]).length = pre.length + 1 := by rw [List.length_append]; rfl
          have hRV : RV t ((cat F i).foldl (ups t) s) (pre ++ [i]) (up z.2 30 (upd (z.2 30) pre.length (nI i))) := by
            refine ⟨z1.1, z1.2.1, fun k hk => ?_, z1.2.2.2⟩
            rw [up_same]
            by_cases e : k = pre.length
            · subst e; rw [pk_us, getD_last]
            · rw [pk_un e, getD_app pre i k (by omega)]
              exact z1.2.2.1 k (by omega)
          have h2i : 2 ^ i < 2 ^ t 1 0 := Nat.pow_lt_pow_right (by decide) hi
          obtain ⟨V2, f, c1, c2, c3⟩ := ih D (dif left (2 ^ i)) (used ||| 2 ^ i) (pre ++ [i]) ((cat F i).foldl (ups t) s) (up z.2 30 (upd (z.2 30) pre.length (nI i))) z.1 (by omega) (by omega) (by have := pc_del left (by omega) i (by omega) b; omega) (dif_lt hleft) (Nat.or_lt_two_pow hused h2i) (fun p hp => by
              rw [Nat.testBit_or, dif_bit, hcomp p hp]
              cases left.testBit p <;> cases (2 ^ i).testBit p <;> rfl) hpre2 hRV
          rw [hlen2] at c1
          refine ⟨(some f, V2), ⟨?_, Or.inl ⟨f, rfl⟩, fun j hj => by show V2 j = V j; rw [c3 j hj, up_ne _ _ (by omega), z3 j hj]⟩, ?_⟩
          · have e : F i = prm (t 1 0) d (dif left (2 ^ i)) (pre ++ [i]) := by rw [hF]; exact if_pos b
            show RV t ((cat F i ++ F i).foldl (ups t) s) pre V2
            rw [List.foldl_append, e]
            refine ⟨c2.1, c2.2.1, fun k hk => ?_, c2.2.2.2⟩
            rw [c2.2.2.1 k (by omega), getD_app pre i k hk]
          · refine ob c1 ?_
            exact if_neg snn)) (t 1 0) 0 300 (tp, V) (by omega) (by omega) ⟨hV, Or.inr (fun p hp => absurd hp (Nat.not_lt_zero p)), fun _ _ => rfl⟩
    obtain ⟨f, h5⟩ := h3
    have h5 : tp' = some f := h5
    subst h5
    refine ⟨V', f, ?_, by rw [hprm]; exact h2, h4⟩
    show (if nI pre.length = U 10 0 then _ else _) = _
    rw [hU.n, if_neg (fun z => by have := (nI_eq (by omega) (by omega)).mp z; omega)]
    exact ob h1 rfl
theorem prm_ne (n : Nat) : ∀ (d left : Nat) (pre : List Nat), n ≤ 7 → pc left = d → left < 2 ^ n → prm n d left pre ≠ []
  | 0, _, _, _, _, _ => by intro h; cases h
  | d + 1, left, pre, hn, hpc, hl => by
    have e7 : 2 ^ n ≤ 2 ^ 7 := Nat.pow_le_pow_right (by decide) hn
    have hl0 : left ≠ 0 := fun z => by rw [z] at hpc; exact absurd hpc (by rw [show pc 0 = 0 from by decide]; omega)
    have hb := lo_bit left (by omega) hl0
    have hp : lo left < n := by
      apply Classical.byContradiction
      intro c
      rw [Nat.testBit_lt_two_pow (Nat.lt_of_lt_of_le hl (Nat.pow_le_pow_right (by decide) (by omega)))] at hb
      cases hb
    have ih := prm_ne n d (dif left (2 ^ lo left)) (pre ++ [lo left]) hn (by have := pc_del left (by omega) (lo left) (by omega) hb; omega) (dif_lt hl)
    intro h
    apply ih
    have key : ∀ (f : Nat → List (List Nat)) k, cat f k = [] → ∀ i, i < k → f i = [] := by
      intro f k
      induction k with
      | zero => intro _ i hi; exact absurd hi (Nat.not_lt_zero i)
      | succ k ihk =>
        intro hc i hi
        obtain ⟨c1, c2⟩ := List.append_eq_nil_iff.mp hc
        by_cases e : i = k
        · subst e; exact c2
        · exact ihk c1 i (by omega)
    have := key _ _ h (lo left) hp
    rw [if_pos hb] at this
    exact this
theorem both_order {t : Tn} {T U : TS} (ht : TR t T U) (O B T3 V : TS) (M R : LTS) (tp : Option (Nat → Int32)) : ∃ (s : Nat × List Nat) (O' B' T' V' : TS) (f : Nat → Int32), f_X1_search O B T T3 = some (O', B', T') ∧ f_X7_seekOrder 9 U (up V 32 (fun _ => (-1 : Int32))) M R tp (0 : Int32) (0 : Int32) = some (V', some f) ∧ s.1 ≠ 0 ∧ O' 5 0 = mo s.1 ∧ V' 32 0 = mo s.1 ∧ (∀ k, k < t 1 0 → O' 4 k = nI (s.2.getD k 0)) ∧ (∀ k, k < t 1 0 → V' 31 k = nI (s.2.getD k 0)) ∧ Kp V V' := by
  have hw := ht.1
  have h7 := hw.n7
  have ha : alP t < 2 ^ t 1 0 := by have := Nat.two_pow_pos (t 1 0); unfold alP; omega
  have hpca : pc (alP t) = t 1 0 := by
    have : ∀ n, n < 8 → pc (2 ^ n - 1) = n := by decide
    exact this (t 1 0) (by omega)
  obtain ⟨T0, a1, a2, a3, a4⟩ := pc_become ht.2.1 hw T3
  have hq : TC (qui t) (up T0 3 (fun _ => (0 : Int32))) := by
    refine ⟨fun j hj => ?_, fun j p a b c => ?_⟩
    · by_cases e : j = 3
      · subst e; rfl
      · unfold qui
        rw [up_ne _ _ e, upn_ne t _ e]; exact a2.1 j hj
    · unfold qui
      rw [up_ne _ _ (by omega), upn_ne t _ (by omega)]
      exact a2.2 j p a b c
  obtain ⟨T5, b1, b2, b3⟩ := pc_rounds hq (qui_wf hw) (N := 57) (by decide)
  have k1 : f_X1_knownWhenAllIsSaid O B T T3 = some (nI (lim t), T5) := ob a1 (ob b1 (ob (pc_kal b2 (itr_wf (qui_wf hw) 57)) rfl))
  obtain ⟨T6, c1, c2, c3, c4⟩ := pc_become ht.2.1 hw T5
  have hRO : RO t (0, []) [] (up (up O 6 (fun _ => nI (lim t))) 5 (fun _ => (-1 : Int32))) := ⟨rfl, rfl, fun z => absurd rfl z, fun k hk => absurd hk (Nat.not_lt_zero k), by decide⟩
  obtain ⟨O', B', T', d1, d2, d3, d4⟩ := pc_dfs hw T (t 1 0) 9 (alP t) [] (0, []) (up (up O 6 (fun _ => nI (lim t))) 5 (fun _ => (-1 : Int32))) B T6 (by omega) (Nat.zero_add _) hpca ha (fun p hp => by cases hp) hRO c2
  have hRV : RV t (0, []) [] (up V 32 (fun _ => (-1 : Int32))) := ⟨rfl, fun z => absurd rfl z, fun k hk => absurd hk (Nat.not_lt_zero k), by decide⟩
  obtain ⟨V', f, e1, e2, e3⟩ := pm_dfs hw ht.2.2.1 M R (t 1 0) 9 (alP t) 0 [] (0, []) (up V 32 (fun _ => (-1 : Int32))) tp (by omega) (Nat.zero_add _) hpca ha (Nat.two_pow_pos _) (fun p hp => by
    unfold alP
    rw [Nat.zero_testBit, Nat.testBit_two_pow_sub_one, decide_eq_true hp]
    rfl) (fun p hp => by cases hp) hRV
  have hs := ups_pos (t := t) (prm (t 1 0) (t 1 0) (alP t) []) (0, []) (Or.inr (prm_ne _ _ _ _ h7 hpca ha))
  refine ⟨(prm (t 1 0) (t 1 0) (alP t) []).foldl (ups t) (0, []), O', B', T', V', f, ?_, e1, hs, d2.2.1, e2.1, d2.2.2.1 hs, e2.2.1 hs, fun j hj => by rw [e3 j hj, up_ne V _ (by omega)]⟩
  refine ob k1 (ob c1 ?_)
  rw [pc_allP ht.2.1 hw]
  exact ob d1 rfl
section OPS
variable {Z T1 T2 G P U V : TS} {R R' : LTS} {ku : Option TS}
theorem wi_n (x : Int32) {n : Nat} (hn : n ≤ 7) : (x = -1 ∧ ¬ f_X6_isWithin x (-1 : Int32) (nI n - (1 : Int32)) = 0) ∨ (∃ k, k < n ∧ x = nI k ∧ ¬ f_X6_isWithin x (-1 : Int32) (nI n - (1 : Int32)) = 0) ∨ f_X6_isWithin x (-1 : Int32) (nI n - (1 : Int32)) = 0 := by
  have hs : (nI n - (1 : Int32)).toInt = (n : Int) - 1 := pk_sub_toInt (a := n) (b := 1) (by omega) (by decide)
  have h1 : (-1 : Int32).toInt = -1 := by decide
  unfold f_X6_isWithin
  by_cases c1 : x < (-1 : Int32)
  · exact Or.inr (Or.inr (by rw [if_pos c1]))
  · by_cases c2 : nI n - (1 : Int32) < x
    · exact Or.inr (Or.inr (by rw [if_neg c1, if_pos c2]))
    · have c1' := c1
      have c2' := c2
      rw [Int32.lt_iff_toInt_lt, h1] at c1'
      rw [Int32.lt_iff_toInt_lt, hs] at c2'
      have ok : ¬ (if x < (-1 : Int32) then (0 : Int32) else (if nI n - (1 : Int32) < x then (0 : Int32) else (1 : Int32))) = 0 := by rw [if_neg c1, if_neg c2]; decide
      by_cases z : x.toInt = -1
      · exact Or.inl ⟨Int32.toInt_inj.mp (by rw [z, h1]), ok⟩
      · refine Or.inr (Or.inl ⟨x.toInt.toNat, by omega, Int32.toInt_inj.mp (by rw [nI_toInt (by omega)]; omega), ok⟩)
theorem Kp.rl (h : Rl Z T1 T2 G R P U V R' ku) {V' : TS} (hk : Kp V V') : Rl Z T1 T2 G R P U V' R' ku := by
  obtain ⟨t, ht, hs, hr, hp, hz, hkk⟩ := h
  refine ⟨t, ht, hs.vm (hk 0 (by decide)) (hk 1 (by decide)) (hk 2 (by decide)) (hk 5 (by decide)), hr, hp.vm (by rw [hk 7 (by decide)]) (hk 6 (by decide)), ?_, hkk⟩
  unfold ReR
  rw [hk 8 (by decide)]
  exact hz
theorem op_order (h : Rl Z T1 T2 G R P U V R' ku) (T3 O B : TS) (M : LTS) (tp : Option (Nat → Int32)) (p1 : Int32) : ∃ a Z' T3' O' B' V' tp', f_X6_order Z T1 T2 T3 G R P O B p1 = some (a, Z', T3', O', B') ∧ f_X7_order U V M R' tp p1 = some (a, V', tp') ∧ Rl Z' T1 T2 G R P U V' R' ku := by
  obtain ⟨t, ht, hs, hr, hp, hz, hk⟩ := id h
  have h7 := ht.1.n7
  have hin : f_X7_in p1.toInt64 (-1 : Int64) (((U 10 0) - (1 : Int32)).toInt64) = f_X6_isWithin p1 (-1 : Int32) (T1 1 0 - (1 : Int32)) := by
    rw [in_c p1 (-1 : Int32) (U 10 0 - (1 : Int32)) (by decide) rfl, ht.2.2.1.n, ht.2.1.n]
  obtain ⟨s, O', B', T', V', f, e1, e2, e3, e4, e5, e6, e7, e8⟩ := both_order ht O B T3 V M R' tp
  unfold f_X6_order f_X7_order
  rw [hin, ht.2.1.n]
  rcases wi_n p1 h7 with ⟨rfl, g⟩ | ⟨k, hk7, rfl, g⟩ | g
  · refine ⟨mo s.1, Z, T', O', B', V', some f, ?_, ?_, e8.rl h⟩
    · rw [if_neg g]
      refine ob e1 ?_
      rw [if_pos rfl]
      show some (O' 5 0, Z, T', O', B') = _
      rw [e4]
    · rw [if_neg g]
      refine ob e2 ?_
      rw [if_neg snn, if_pos rfl]
      show some (V' 32 0, V', some f) = _
      rw [e5]
  · have n1 : ¬ nI k = (-1 : Int32) := neg1 (by omega)
    have k7 : k < 7 := by omega
    refine ⟨nI (s.2.getD k 0), Z, T', O', B', V', some f, ?_, ?_, e8.rl h⟩
    · rw [if_neg g]
      refine ob e1 ?_
      rw [if_neg n1]
      refine ob (q := nI (s.2.getD k 0)) ?_ rfl
      unfold f_X1_speakerAt
      rw [if_neg (in7 k7), cl7 k7]
      show some (O' 4 k) = _
      rw [e6 k hk7]
    · rw [if_neg g]
      refine ob e2 ?_
      rw [if_neg snn, if_neg n1, if_neg (in7 k7), cl7 k7]
      show some (V' 31 k, V', some f) = _
      rw [e7 k hk7]
  · refine ⟨(-2 : Int32), rz Z 0, T3, O, B, rv V 0, tp, ?_, ?_, h.ref (by decide)⟩
    · rw [if_pos g]
      exact ob (rc2 _ _ _ _ _ _ _ _) rfl
    · rw [if_pos g]
      exact ob (rm2 _ _ _) rfl
end OPS
