/-! ===== pure: a town's statements ===== -/
def Fn (V V' : TS) : Prop := ∀ j, j < 22 ∨ 28 ≤ j → V' j = V j
theorem Fk.fn {V V' : TS} (h : Fk V V') : Fn V V' := fun j hj => h j (by omega)
theorem Fn.trans {A B C : TS} (h : Fn A B) (h2 : Fn B C) : Fn A C := fun j hj => (h2 j hj).trans (h j hj)
theorem Fn.up26 {A B : TS} (h : Fn A B) (f : Nat → Int32) : Fn A (up B 26 f) := fun j hj => by rw [up_ne _ _ (by omega)]; exact h j hj
theorem gd_b {V : TS} {a v : Nat} {hi : Int32} (g : Gd V (nI a) hi) (hv : V 25 0 = nI v) (h99 : v ≤ 99) (ha : a < 100) : a ≤ v ∧ (v : Int) ≤ hi.toInt := by
  have gw := g.2
  rw [hv] at gw
  unfold f_X6_isWithin at gw
  by_cases z : nI v < nI a
  · rw [if_pos z] at gw; exact absurd rfl gw
  · rw [if_neg z] at gw
    by_cases y : hi < nI v
    · rw [if_pos y] at gw; exact absurd rfl gw
    · rw [Int32.lt_iff_toInt_lt, nI_toInt (by omega), nI_toInt (by omega)] at z
      rw [Int32.lt_iff_toInt_lt, nI_toInt (by omega)] at y
      omega
theorem has_0 {v : Nat} (hv : v < 32) : f_X6_has (0 : Int32) (nI v) = 0 := (pu_has0 (m := 0) (by decide) hv).mpr (Nat.zero_testBit v)
section NM
variable {n : Nat} {P V : TS}
theorem go_on {st en v i : Nat} (h : TkR n st en P V) {lo hi : Int32} (g : Gd V lo hi) (hv : V 25 0 = nI v) (U : TS) (M R : LTS) (hi2 : i < 2) : ∃ P' V' st' en', f_X4_advance P = some P' ∧ f_X7_number U V M R (nI i) lo hi = some ((1 : Int32), V') ∧ TkR n st' en' P' V' ∧ st ≤ st' ∧ V' 27 i = nI v ∧ (∀ k, k ≠ i → V' 27 k = V 27 k) ∧ Fn V V' := by
  obtain ⟨⟨hn, h0, h7, hl⟩, ⟨h1, h2⟩, ⟨h4, h24, h5, h22⟩, h3, _, hf⟩ := h
  obtain ⟨P', V', st', en', a1, a2, a3, a4, a5, a6⟩ := adv_c (n := n) (P := P) (V := up V 27 (upd (V 27) i (V 25 0))) ⟨hn, h0, h7, hl⟩ h2 h5 h22 U M R
  refine ⟨P', V', st', en', a1, ?_, a3, by omega, ?_, fun k hk => ?_, fun j hj => ?_⟩
  · rw [nb_good g U M R hi2]
    exact ob a2 rfl
  · rw [a6 27 (by decide), up_same, pk_us, hv]
  · rw [a6 27 (by decide), up_same, pk_un hk]
  · rw [a6 j (by omega), up_ne _ _ (by omega)]
theorem num_c {st en i : Nat} (h : TkR n st en P V) {a : Nat} {hi : Int32} (ha : a < 100) (hh : hi.toInt < 10) (U : TS) (M R : LTS) (hi2 : i < 2) : (∃ v P' V' st' en', a ≤ v ∧ (v : Int) ≤ hi.toInt ∧ f_X4_takeNumber P (nI a) hi (0 : Int32) = some (nI v, P') ∧ f_X7_number U V M R (nI i) (nI a) hi = some ((1 : Int32), V') ∧ TkR n st' en' P' V' ∧ st ≤ st' ∧ V' 27 i = nI v ∧ (∀ k, k ≠ i → V' 27 k = V 27 k) ∧ Fn V V') ∨ (f_X4_takeNumber P (nI a) hi (0 : Int32) = some ((-1 : Int32), (up P 1 (fun _ => P 4 0))) ∧ f_X7_number U V M R (nI i) (nI a) hi = some ((0 : Int32), (up V 26 (fun _ => V 24 0)))) := by
  rcases gd_or V (nI a) hi with g | g
  · left
    obtain ⟨v, h99, hv, ht⟩ := tk_good (ex := (0 : Int32)) h (by omega) g
    obtain ⟨b1, b2⟩ := gd_b g hv h99 ha
    obtain ⟨P', V', st', en', c1, c2, c3, c4, c5, c6, c7⟩ := go_on (i := i) h g hv U M R hi2
    refine ⟨v, P', V', st', en', b1, b2, ?_, c2, c3, c4, c5, c6, c7⟩
    rw [ht, if_pos (has_0 (by omega))]
    exact ob c1 rfl
  · exact Or.inr ⟨tk_bad h g, nb_bad g U M R _⟩
end NM
def StOk (n st : Nat) (t : Tn) (V : TS) (r q : Option (Int32 × TS × TS)) : Prop := ∃ P' T' U' V' t' st' en', r = some ((1 : Int32), P', T') ∧ q = some ((1 : Int32), U', V') ∧ TkR n st' en' P' V' ∧ st ≤ st' ∧ TR t' T' U' ∧ t 1 0 ≤ t' 1 0 ∧ Fn V V'
def StNo (V : TS) (r q : Option (Int32 × TS × TS)) : Prop := ∃ P' T' U' V', r = some ((0 : Int32), P', T') ∧ q = some ((0 : Int32), U', V') ∧ P' 1 0 = V' 26 0 ∧ Fn V V'
def StHf (V : TS) (r q : Option (Int32 × TS × TS)) : Prop := ∃ P' T' U' V', r = some ((0 : Int32), P', T') ∧ q = some ((1 : Int32), U', V') ∧ P' 1 0 = V' 24 0 ∧ V' 23 0 = 1 ∧ Fn V V'
def StR (n st : Nat) (t : Tn) (V : TS) (r q : Option (Int32 × TS × TS)) : Prop := StOk n st t V r q ∨ StNo V r q ∨ StHf V r q
section SM
variable {n st en : Nat} {P V T U : TS} {t : Tn}
theorem adv_t (h : TkR n st en P V) (U : TS) (M R : LTS) : ∃ P' V' st' en', f_X4_advance P = some P' ∧ f_X7_look U V M R = some V' ∧ TkR n st' en' P' V' ∧ st ≤ st' ∧ Fn V V' := by
  obtain ⟨⟨hn, h0, h7, hl⟩, ⟨h1, h2⟩, ⟨h4, h24, h5, h22⟩, h3, _, hf⟩ := h
  obtain ⟨P', V', st', en', a1, a2, a3, a4, a5, a6⟩ := adv_c (n := n) (P := P) (V := V) ⟨hn, h0, h7, hl⟩ h2 h5 h22 U M R
  exact ⟨P', V', st', en', a1, a2, a3, by omega, a6.fn⟩
theorem flt (h : TkR n st en P V) : (up P 1 (fun _ => P 4 0)) 1 0 = (up V 26 (fun _ => V 24 0)) 26 0 := by
  show P 4 0 = V 24 0
  rw [h.2.2.1.1, h.2.2.1.2.1]
theorem bI9 (k : Nat) (hk : k ≤ 9) : (nI k).toInt < 10 := by rw [nI_toInt (by omega)]; omega
theorem st_sights (h : TkR n st en P V) (ht : TR t T U) (M R : LTS) : StR n st t V (f_X4_readSights P T) ((f_X7_tells U V M R (U 9 0) (8 : Int32)).bind fun q95 => some (q95.1, (up U 9 (fun _ => (if q95.1 = 0 then (U 9 0) else ((q95.2 27) ((0 : Int32)).toNatClampNeg)))), q95.2)) := by
  obtain ⟨P1, V1, s1, e1, a1, a2, a3, a4, a5⟩ := adv_t h U M R
  have h8 := ht.1.1.2.1
  unfold f_X4_readSights f_X7_tells
  rw [a1, a2]
  show StR n st t V ((f_X4_takeNumber P1 (T 0 0) (8 : Int32) (0 : Int32)).bind _) (((f_X7_number U V1 M R (nI 0) (U 9 0) (8 : Int32)).bind _).bind _)
  rw [ht.2.1.1 0 (by decide), ht.2.2.1.1]
  rcases num_c (i := 0) a3 (a := t 0 0) (hi := (8 : Int32)) (by omega) (by decide) U M R (by decide) with ⟨v, P2, V2, s2, e2, b1, b2, b3, b4, b5, b6, b7, b8, b9⟩ | ⟨b3, b4⟩
  · left
    rw [show (8 : Int32).toInt = 8 from by decide] at b2
    rw [b3, b4]
    refine ⟨P2, up T 0 (fun _ => nI v), up U 9 (fun _ => nI v), V2, upn t 0 (fun _ => v), s2, e2, ?_, ?_, b5, by omega, ht.sgt b1 (by omega), Nat.le_refl _, a5.trans b9⟩
    · show (if nI v = (-1 : Int32) then _ else _) = _
      rw [if_neg (neg1 (by omega))]
    · show some ((1 : Int32), (up U 9 (fun _ => (if (1 : Int32) = 0 then nI (t 0 0) else V2 27 0))), V2) = _
      rw [b7]
      rfl
  · right; left
    rw [b3, b4]
    exact ⟨_, _, _, _, rfl, rfl, flt a3, a5.up26 _⟩
theorem st_setting (h : TkR n st en P V) (ht : TR t T U) {k : Nat} (hk : k < 3) (M R : LTS) : StR n st t V (f_X4_readSetting P T (nI k)) (f_X7_askedTold U V M R (nI k)) := by
  obtain ⟨P1, V1, s1, e1, a1, a2, a3, a4, a5⟩ := adv_t h U M R
  have hmo : f_X5_mostOf (nI k) = nI (if k = 0 then 1 else 9) := by
    rcases (show k = 0 ∨ k = 1 ∨ k = 2 by omega) with rfl | rfl | rfl <;> rfl
  have hmo7 : f_X7_mostOf (nI k) = nI (if k = 0 then 1 else 9) := hmo
  have hle : (if k = 0 then 1 else 9) ≤ 9 := by split <;> decide
  unfold f_X4_readSetting f_X7_askedTold f_X7_tells
  rw [a1, a2]
  show StR n st t V ((f_X4_takeNumber P1 (nI 0) (f_X5_mostOf (nI k)) (0 : Int32)).bind _) (((f_X7_number U V1 M R (nI 0) (nI 0) (f_X7_mostOf (nI k))).bind _).bind _)
  rw [hmo, hmo7]
  rcases num_c (i := 0) a3 (a := 0) (hi := nI (if k = 0 then 1 else 9)) (by decide) (bI9 _ hle) U M R (by decide) with ⟨v, P2, V2, s2, e2, b1, b2, b3, b4, b5, b6, b7, b8, b9⟩ | ⟨b3, b4⟩
  · left
    rw [nI_toInt (by omega)] at b2
    have hv : v ≤ (if k = 0 then 1 else 9) := by omega
    rw [b3, b4]
    refine ⟨P2, up T (k + 2) (fun _ => nI v), up U 17 (upd (U 17) k (nI v)), V2, _, s2, e2, ?_, ?_, b5, by omega, ht.ask hk hv, ?_, a5.trans b9⟩
    · show (if nI v = (-1 : Int32) then _ else (f_X5_putSetting T (nI k) (nI v)).bind _) = _
      rw [if_neg (neg1 (by omega))]
      clear hmo hmo7 hv b2 hle
      rcases (show k = 0 ∨ k = 1 ∨ k = 2 by omega) with rfl | rfl | rfl <;> rfl
    · show (if nI k < 0 ∨ 3 ≤ (nI k).toNatClampNeg then _ else some ((1 : Int32), (up U 17 (upd (U 17) (nI k).toNatClampNeg (V2 27 0))), V2)) = _
      rw [if_neg (nI_in hk (by decide)), nI_clamp (by omega), b7]
    · rw [upn_ne t _ (show 1 ≠ k + 2 by omega)]
      exact Nat.le_refl _
  · right; left
    rw [b3, b4]
    refine ⟨_, _, up U 17 (upd (U 17) (nI k).toNatClampNeg (U 17 (nI k).toNatClampNeg)), _, rfl, ?_, flt a3, a5.up26 _⟩
    show (if nI k < 0 ∨ 3 ≤ (nI k).toNatClampNeg then _ else some ((0 : Int32), _, _)) = _
    rw [if_neg (nI_in hk (by decide))]
theorem m1_int {k : Nat} (hk : k ≤ 8) : (nI k - (1 : Int32)).toInt = (k : Int) - 1 := pk_sub_toInt (a := k) (b := 1) (by omega) (by decide)
theorem put_true {m x : Nat} : wb m x true = m ||| 2 ^ x := rfl
/-- the sight of a statement -/
theorem sh_c {s1 e1 : Nat} {P1 V1 : TS} (a3 : TkR n s1 e1 P1 V1) (ht : TR t T U) (M R : LTS) {p : Nat} (hp : p < t 1 0) {i : Nat} (hi : i < 2) : (∃ x P2 V2 s2 e2, x < t 0 0 ∧ f_X4_readSightHeard P1 T (nI p) = some ((1 : Int32), P2, up T 9 (upd (T 9) p (nI (wb (t 9 p) x true)))) ∧ f_X7_number U V1 M R (nI i) (0 : Int32) ((U 9 0) - (1 : Int32)) = some ((1 : Int32), V2) ∧ TkR n s2 e2 P2 V2 ∧ s1 ≤ s2 ∧ V2 27 i = nI x ∧ (∀ k, k ≠ i → V2 27 k = V1 27 k) ∧ Fn V1 V2) ∨ (f_X4_readSightHeard P1 T (nI p) = some ((0 : Int32), up P1 1 (fun _ => P1 4 0), T) ∧ f_X7_number U V1 M R (nI i) (0 : Int32) ((U 9 0) - (1 : Int32)) = some ((0 : Int32), (up V1 26 (fun _ => V1 24 0)))) := by
  have h8 := ht.1.1.2.1
  unfold f_X4_readSightHeard
  rw [ht.2.1.1 0 (by decide), ht.2.2.1.1]
  rcases num_c (i := i) a3 (a := 0) (hi := nI (t 0 0) - (1 : Int32)) (by decide) (by rw [m1_int h8]; omega) U M R hi with ⟨v, P2, V2, s2, e2, b1, b2, b3, b4, b5, b6, b7, b8, b9⟩ | ⟨b3, b4⟩
  · left
    rw [m1_int h8] at b2
    refine ⟨v, P2, V2, s2, e2, by omega, ?_, b4, b5, b6, b7, b8, b9⟩
    refine ob b3 ?_
    rw [if_neg (neg1 (by omega))]
    exact ob (putHeard_c ht.2.1 ht.1 hp (show v < 32 by omega) true) rfl
  · right
    exact ⟨ob b3 (if_pos rfl), b4⟩
theorem ss_c {s1 e1 : Nat} {P1 V1 : TS} (a3 : TkR n s1 e1 P1 V1) (ht : TR t T U) (M R : LTS) {p : Nat} (hp : p < t 1 0) {h : Nat} (hh : h < 3) {i : Nat} (hi : i < 2) : (∃ x P2 V2 s2 e2 T', x < t 0 0 ∧ f_X4_readSightSeen P1 T (nI p) (nI h) = some ((1 : Int32), P2, T') ∧ f_X7_number U V1 M R (nI i) (0 : Int32) ((U 9 0) - (1 : Int32)) = some ((1 : Int32), V2) ∧ TkR n s2 e2 P2 V2 ∧ s1 ≤ s2 ∧ V2 27 i = nI x ∧ (∀ k, k ≠ i → V2 27 k = V1 27 k) ∧ Fn V1 V2 ∧ ∃ U', f_X7_sees U (nI p) (nI x) (nI h) = some U' ∧ TR (sn t p x h) T' U') ∨ (f_X4_readSightSeen P1 T (nI p) (nI h) = some ((0 : Int32), up P1 1 (fun _ => P1 4 0), T) ∧ f_X7_number U V1 M R (nI i) (0 : Int32) ((U 9 0) - (1 : Int32)) = some ((0 : Int32), (up V1 26 (fun _ => V1 24 0)))) := by
  have h8 := ht.1.1.2.1
  unfold f_X4_readSightSeen
  rw [ht.2.1.1 0 (by decide), ht.2.2.1.1]
  rcases num_c (i := i) a3 (a := 0) (hi := nI (t 0 0) - (1 : Int32)) (by decide) (by rw [m1_int h8]; omega) U M R hi with ⟨v, P2, V2, s2, e2, b1, b2, b3, b4, b5, b6, b7, b8, b9⟩ | ⟨b3, b4⟩
  · left
    rw [m1_int h8] at b2
    have hv : v < t 0 0 := by omega
    obtain ⟨T', c1, c2, c3⟩ := pc_see ht.2.1 ht.1 hp hv hh
    obtain ⟨U', d1, d2, d3⟩ := pm_see ht.2.2.1 ht.1 hp hv hh
    refine ⟨v, P2, V2, s2, e2, T', hv, ?_, b4, b5, b6, b7, b8, b9, U', d1, ht.via (sn_wf ht.1 hp hv) c2 d2 (by rw [c3 5 (by decide) (by decide)]) (by rw [c3 6 (by decide) (by decide)]) (by rw [d3 18 (by decide) (by decide)]) (by rw [d3 19 (by decide) (by decide)])⟩
    refine ob b3 ?_
    rw [if_neg (neg1 (by omega))]
    exact ob c1 rfl
  · right
    exact ⟨ob b3 (if_pos rfl), b4⟩
theorem st_heard (h : TkR n st en P V) (ht : TR t T U) (M R : LTS) : StR n st t V (f_X4_readHeard P T) ((f_X7_tells U V M R (0 : Int32) ((U 10 0) - (1 : Int32))).bind fun q39 => if q39.1 = 0 then some ((0 : Int32), U, q39.2) else (f_X7_number U q39.2 M R (1 : Int32) (0 : Int32) ((U 9 0) - (1 : Int32))).bind fun q42 => if q42.1 = 0 then some ((0 : Int32), U, q42.2) else if ((q42.2 27) ((0 : Int32)).toNatClampNeg) < 0 ∨ 7 ≤ (((q42.2 27) ((0 : Int32)).toNatClampNeg)).toNatClampNeg then none else some ((1 : Int32), (up U 15 (upd (U 15) (((q42.2 27) ((0 : Int32)).toNatClampNeg)).toNatClampNeg (((U 15) (((q42.2 27) ((0 : Int32)).toNatClampNeg)).toNatClampNeg) ||| ((1 : Int32) <<< (((q42.2 27) ((1 : Int32)).toNatClampNeg) &&& 31))))), q42.2)) := by
  obtain ⟨P1, V1, s1, e1, a1, a2, a3, a4, a5⟩ := adv_t h U M R
  have h7 := ht.1.n7
  have h8 := ht.1.1.2.1
  unfold f_X4_readHeard f_X7_tells
  rw [a1, a2]
  show StR n st t V ((f_X4_takeNumber P1 (nI 0) ((T 1 0) - (1 : Int32)) (0 : Int32)).bind _) (((f_X7_number U V1 M R (nI 0) (nI 0) ((U 10 0) - (1 : Int32))).bind _).bind _)
  rw [ht.2.1.n, ht.2.2.1.n]
  rcases num_c (i := 0) a3 (a := 0) (hi := nI (t 1 0) - (1 : Int32)) (by decide) (by rw [m1_int (by omega)]; omega) U M R (by decide) with ⟨p, P2, V2, s2, e2, b1, b2, b3, b4, b5, b6, b7, b8, b9⟩ | ⟨b3, b4⟩
  · rw [m1_int (by omega)] at b2
    have hp : p < t 1 0 := by omega
    have p7 := lt7 ht.1 hp
    rw [b3, b4]
    show StR n st t V (if nI p = (-1 : Int32) then _ else (f_X4_readSightHeard P2 T (nI p)).bind _) ((f_X7_number U V2 M R (nI 1) (0 : Int32) ((U 9 0) - (1 : Int32))).bind _)
    rw [if_neg (neg1 (by omega))]
    rcases sh_c (i := 1) b5 ht M R hp (by decide) with ⟨x, P3, V3, s3, e3, hx, c1, c2, c3, c4, c5, c6, c7⟩ | ⟨c1, c2⟩
    · left
      rw [c1, c2]
      refine ⟨P3, _, up U 15 (upd (U 15) p (nI (wb (t 9 p) x true))), V3, _, s3, e3, rfl, ?_, c3, by omega, ht.put (j := 9) (by decide) (by decide) (wb_lt true (ht.1.heard hp) hx), Nat.le_refl _, (a5.trans b9).trans c7⟩
      show (if V3 27 0 < 0 ∨ 7 ≤ (V3 27 0).toNatClampNeg then _ else some ((1 : Int32), (up U 15 (upd (U 15) (V3 27 0).toNatClampNeg ((U 15 (V3 27 0).toNatClampNeg) ||| ((1 : Int32) <<< ((V3 27 1) &&& 31))))), V3)) = _
      rw [c6 0 (by decide), b7, if_neg (in7 p7), cl7 p7, c5, ht.2.2.1.heard hp, pu_one x (by omega), pu_or, put_true]
    · right; left
      rw [c1, c2]
      exact ⟨_, _, _, _, rfl, rfl, flt b5, (a5.trans b9).up26 _⟩
  · right; left
    rw [b3, b4]
    exact ⟨_, _, _, _, rfl, rfl, flt a3, a5.up26 _⟩
theorem bln_c (hw : wf t) {p : Nat} (hp : p < t 1 0) : f_X6_has (nI (bln t)) (nI p) = 0 ↔ ¬ t 11 p = 4 := by
  have hb : bln t < 256 := bld8 hw _
  have p7 := lt7 hw hp
  rw [pu_has0 (by omega) (by omega)]
  unfold bln
  rw [bld_bit, decide_eq_true hp, Bool.true_and, decide_eq_false_iff_not]
theorem fig_c {s1 e1 : Nat} {P1 V1 : TS} (a3 : TkR n s1 e1 P1 V1) (h2 : V1 23 0 = 2) : ∃ v : Nat, v ≤ 100000 ∧ V1 25 0 = nI v := by
  rcases a3.2.2.2.2.2 h2 with ⟨_, v, a, b, _⟩ | ⟨_, b⟩
  · exact ⟨v, by omega, b⟩
  · exact ⟨100000, Nat.le_refl _, b⟩
theorem gd_of {V1 : TS} (h2 : V1 23 0 = 2) {v m : Nat} (hv : V1 25 0 = nI v) (hm : m ≤ 8) (hl : v < m) : Gd V1 (nI 0) (nI m - (1 : Int32)) := by
  refine ⟨h2, ?_⟩
  rw [hv]
  unfold f_X6_isWithin
  rw [if_neg (nI_nlt (Nat.zero_le _) (by omega)), if_neg (by rw [Int32.lt_iff_toInt_lt, m1_int hm, nI_toInt (by omega)]; omega)]
  decide
theorem st_seen (h : TkR n st en P V) (ht : TR t T U) {k : Nat} (hk : k < 3) (M R : LTS) : StR n st t V (f_X4_readSeen P T (nI k)) (f_X7_seenTold U V M R (nI k)) := by
  obtain ⟨P1, V1, s1, e1, a1, a2, a3, a4, a5⟩ := adv_t h U M R
  have h7 := ht.1.n7
  have h8 := ht.1.1.2.1
  have rest : ∀ v, Gd V1 (nI 0) (nI (t 1 0) - (1 : Int32)) → v < t 1 0 → V1 25 0 = nI v → ¬ t 11 v = 4 → f_X4_takeNumber P1 (nI 0) (nI (t 1 0) - (1 : Int32)) (nI (bln t)) = (f_X4_advance P1).bind (fun q16 => some (nI v, q16)) → StR n st t V ((f_X4_takeNumber P1 (nI 0) (nI (t 1 0) - (1 : Int32)) (nI (bln t))).bind fun q6 => if q6.1 = (-1 : Int32) then some ((0 : Int32), q6.2, T) else (f_X4_readSightSeen q6.2 T q6.1 (nI k)).bind fun q9 => some ((if q9.1 = 0 then (0 : Int32) else (1 : Int32)), q9.2.1, q9.2.2)) ((f_X7_number U V1 M R (nI 0) (nI 0) (nI (t 1 0) - (1 : Int32))).bind fun q18 => if q18.1 = 0 then some ((0 : Int32), U, q18.2) else (f_X7_number U q18.2 M R (1 : Int32) (0 : Int32) ((U 9 0) - (1 : Int32))).bind fun q21 => if q21.1 = 0 then some ((0 : Int32), U, q21.2) else (f_X7_sees U ((q21.2 27) ((0 : Int32)).toNatClampNeg) ((q21.2 27) ((1 : Int32)).toNatClampNeg) (nI k)).bind fun q24 => some ((1 : Int32), q24, q21.2)) := by
    intro v g hv hv2 hb hc
    obtain ⟨P2, V2, s2, e2, c1, c2, c3, c4, c5, c6, c7⟩ := go_on (i := 0) a3 g hv2 U M R (by decide)
    rw [hc, c1, c2]
    show StR n st t V (if nI v = (-1 : Int32) then _ else (f_X4_readSightSeen P2 T (nI v) (nI k)).bind _) ((f_X7_number U V2 M R (nI 1) (0 : Int32) ((U 9 0) - (1 : Int32))).bind _)
    rw [if_neg (neg1 (by omega))]
    rcases ss_c (i := 1) c3 ht M R hv hk (by decide) with ⟨x, P3, V3, s3, e3, T', hx, d1, d2, d3, d4, d5, d6, d7, U', d8, d9⟩ | ⟨d1, d2⟩
    · left
      rw [d1, d2]
      refine ⟨P3, T', U', V3, _, s3, e3, rfl, ?_, d3, by omega, d9, by rw [sn_ne t v x k (by decide) (by decide)]; exact Nat.le_refl _, (a5.trans c7).trans d7⟩
      show ((f_X7_sees U (V3 27 0) (V3 27 1) (nI k)).bind _) = _
      rw [d6 0 (by decide), c5, d5]
      exact ob d8 rfl
    · right; left
      rw [d1, d2]
      exact ⟨_, _, _, _, rfl, rfl, flt c3, (a5.trans c7).up26 _⟩
  have bad : ¬ Gd V1 (nI 0) (nI (t 1 0) - (1 : Int32)) → StR n st t V ((f_X4_takeNumber P1 (nI 0) (nI (t 1 0) - (1 : Int32)) (nI (bln t))).bind fun q6 => if q6.1 = (-1 : Int32) then some ((0 : Int32), q6.2, T) else (f_X4_readSightSeen q6.2 T q6.1 (nI k)).bind fun q9 => some ((if q9.1 = 0 then (0 : Int32) else (1 : Int32)), q9.2.1, q9.2.2)) ((f_X7_number U V1 M R (nI 0) (nI 0) (nI (t 1 0) - (1 : Int32))).bind fun q18 => if q18.1 = 0 then some ((0 : Int32), U, q18.2) else (f_X7_number U q18.2 M R (1 : Int32) (0 : Int32) ((U 9 0) - (1 : Int32))).bind fun q21 => if q21.1 = 0 then some ((0 : Int32), U, q21.2) else (f_X7_sees U ((q21.2 27) ((0 : Int32)).toNatClampNeg) ((q21.2 27) ((1 : Int32)).toNatClampNeg) (nI k)).bind fun q24 => some ((1 : Int32), q24, q21.2)) := fun g => by
    right; left
    rw [tk_bad a3 g, nb_bad g U M R _]
    exact ⟨_, _, _, _, rfl, rfl, flt a3, a5.up26 _⟩
  unfold f_X4_readSeen f_X7_seenTold
  rw [a1, a2]
  show StR n st t V ((f_X5_allBlind T).bind _) (if V1 23 0 = (2 : Int32) then (if U 10 0 ≤ V1 25 0 then _ else if V1 25 0 < 0 ∨ 7 ≤ (V1 25 0).toNatClampNeg then _ else if U 11 (V1 25 0).toNatClampNeg = (4 : Int32) then _ else _) else _)
  rw [pc_bln ht.2.1 ht.1]
  show StR n st t V ((f_X4_takeNumber P1 (nI 0) ((T 1 0) - (1 : Int32)) (nI (bln t))).bind _) _
  rw [ht.2.1.n, ht.2.2.1.n]
  by_cases c2 : V1 23 0 = (2 : Int32)
  · rw [if_pos c2]
    obtain ⟨v, hvb, hv⟩ := fig_c a3 c2
    rw [hv]
    by_cases c3 : t 1 0 ≤ v
    · rw [if_pos (nI_le c3 (by omega))]
      refine bad (fun g => ?_)
      obtain ⟨v', h99, hv', _⟩ := tk_good (ex := (0 : Int32)) a3 (by rw [m1_int (by omega)]; omega) g
      have := (gd_b g hv' h99 (by decide)).2
      rw [m1_int (by omega)] at this
      rw [hv] at hv'
      have := (nI_eq (by omega) (by omega)).mp hv'
      omega
    · have hv7 : v < 7 := by omega
      have hvp : v < t 1 0 := by omega
      have g := gd_of c2 hv (show t 1 0 ≤ 8 by omega) hvp
      have hkd := ht.1.kind hvp
      rw [if_neg (nI_ge (by omega) (by omega)), if_neg (in7 hv7), cl7 hv7, ht.2.2.1.kind hvp]
      obtain ⟨v', h99, hv', htk⟩ := tk_good (ex := nI (bln t)) a3 (by rw [m1_int (by omega)]; omega) g
      have ev : v = v' := by rw [hv] at hv'; exact (nI_eq (by omega) (by omega)).mp hv'
      subst ev
      by_cases c4 : t 11 v = 4
      · rw [c4, ifY 4]
        rw [if_neg (fun z => (bln_c ht.1 hvp).mp z c4)] at htk
        right; left
        rw [htk]
        exact ⟨_, _, _, _, rfl, rfl, flt a3, a5.up26 _⟩
      · rw [ifL c4 (by omega) (by decide)]
        rw [if_pos ((bln_c ht.1 hvp).mpr c4)] at htk
        exact rest v g hvp hv c4 htk
  · rw [if_neg c2]
    exact bad (fun g => c2 g.1)
theorem st_hears (h : TkR n st en P V) (ht : TR t T U) (M R : LTS) : StR n st t V (f_X4_readHears P T) (f_X7_nearTold U V M R) := by
  obtain ⟨P1, V1, s1, e1, a1, a2, a3, a4, a5⟩ := adv_t h U M R
  have h7 := ht.1.n7
  unfold f_X4_readHears f_X7_nearTold f_X7_tells
  rw [a1, a2]
  show StR n st t V ((f_X4_takeNumber P1 (nI 0) ((T 1 0) - (1 : Int32)) (0 : Int32)).bind _) (((f_X7_number U V1 M R (nI 0) (nI 0) ((U 10 0) - (1 : Int32))).bind _).bind _)
  rw [ht.2.1.n, ht.2.2.1.n]
  rcases num_c (i := 0) a3 (a := 0) (hi := nI (t 1 0) - (1 : Int32)) (by decide) (by rw [m1_int (by omega)]; omega) U M R (by decide) with ⟨p, P2, V2, s2, e2, b1, b2, b3, b4, b5, b6, b7, b8, b9⟩ | ⟨b3, b4⟩
  · rw [m1_int (by omega)] at b2
    have hp : p < t 1 0 := by omega
    have p7 := lt7 ht.1 hp
    rw [b3, b4]
    show StR n st t V (if nI p = (-1 : Int32) then _ else (f_X4_takeNumber P2 (nI 0) (nI (t 1 0) - (1 : Int32)) ((1 : Int32) <<< (nI p &&& 31))).bind _) (if V2 23 0 = (2 : Int32) then (if V2 25 0 = V2 27 0 then (f_X7_wrong U V2 M R).bind _ else (f_X7_number U V2 M R (nI 1) (nI 0) (nI (t 1 0) - (1 : Int32))).bind _) else (f_X7_number U V2 M R (nI 1) (nI 0) (nI (t 1 0) - (1 : Int32))).bind _)
    rw [if_neg (neg1 (by omega)), pu_one p (by omega), b7]
    have no : ∀ r : Option (Int32 × TS × TS), r = some ((0 : Int32), up P2 1 (fun _ => P2 4 0), T) → StR n st t V r (some ((0 : Int32), U, up (up V2 26 (fun _ => V2 24 0)) 26 (fun _ => V2 24 0))) := fun r hr => by
      right; left
      exact ⟨_, _, _, _, hr, rfl, flt b5, ((a5.trans b9).up26 _).up26 _⟩
    rcases gd_or V2 (nI 0) (nI (t 1 0) - (1 : Int32)) with g | g
    · obtain ⟨q, h99, hq, htk⟩ := tk_good (ex := nI (2 ^ p)) b5 (by rw [m1_int (by omega)]; omega) g
      have hq2 := (gd_b g hq h99 (by decide)).2
      rw [m1_int (by omega)] at hq2
      have hqp : q < t 1 0 := by omega
      have q7 := lt7 ht.1 hqp
      have h2p : 2 ^ p < 2 ^ 7 := Nat.pow_lt_pow_right (by decide) p7
      rw [htk, if_pos g.1, hq]
      by_cases e : q = p
      · subst e
        rw [if_pos rfl, if_neg (fun z => by
          have := (pu_has0 (by omega) (by omega)).mp z
          rw [Nat.testBit_two_pow_self] at this
          cases this)]
        right; left
        exact ⟨_, _, _, _, rfl, rfl, flt b5, (a5.trans b9).up26 _⟩
      · rw [if_neg (fun z => e ((nI_eq (by omega) (by omega)).mp z)), if_pos ((pu_has0 (by omega) (by omega)).mpr (by rw [Nat.testBit_two_pow]; exact decide_eq_false (fun z => e z.symm)))]
        obtain ⟨P3, V3, s3, e3, c1, c2, c3, c4, c5, c6, c7⟩ := go_on (i := 1) b5 g hq U M R (by decide)
        rw [c1, c2]
        left
        refine ⟨P3, up T 10 (upd (T 10) p (nI (wb (t 10 p) q true))), up U 16 (upd (U 16) p (nI (wb (t 10 p) q true))), V3, _, s3, e3, ?_, ?_, c3, by omega, ht.put (j := 10) (by decide) (by decide) (wb_lt true (ht.1.hears hp) hqp), Nat.le_refl _, (a5.trans b9).trans c7⟩
        · show (if nI q = (-1 : Int32) then _ else (f_X5_putHears T (nI p) (nI q) (1 : Int32)).bind _) = _
          rw [if_neg (neg1 (by omega))]
          exact ob (putHears_c ht.2.1 ht.1 hp (show q < 32 by omega) true) rfl
        · show (if V3 27 0 < 0 ∨ 7 ≤ (V3 27 0).toNatClampNeg then _ else some ((1 : Int32), (up U 16 (upd (U 16) (V3 27 0).toNatClampNeg ((U 16 (V3 27 0).toNatClampNeg) ||| ((1 : Int32) <<< ((V3 27 1) &&& 31))))), V3)) = _
          rw [c6 0 (by decide), b7, if_neg (in7 p7), cl7 p7, c5, ht.2.2.1.hears hp, pu_one q (by omega), pu_or, put_true]
    · rw [tk_bad b5 g, nb_bad g U M R _]
      by_cases c1 : V2 23 0 = (2 : Int32)
      · rw [if_pos c1]
        by_cases c2 : V2 25 0 = nI p
        · rw [if_pos c2]
          right; left
          exact ⟨_, _, _, _, rfl, rfl, flt b5, (a5.trans b9).up26 _⟩
        · rw [if_neg c2]
          exact no _ rfl
      · rw [if_neg c1]
        exact no _ rfl
  · right; left
    rw [b3, b4]
    exact ⟨_, _, _, _, rfl, rfl, flt a3, a5.up26 _⟩
end SM
