/-! ===== pure: evenings ===== -/
section EV
variable {Z T1 T2 G P U V T : TS} {R R' : LTS} {ku : Option TS} {n : Nat} {t : Tn}
theorem eve_c (hs : ShR n G V) (hn : n ≤ 7) (x p2 : Int32) (T1 T2 T3 P O B U : TS) (M Rm : LTS) : (∃ c : Nat, c < 3 ∧ f_X6_troubleWithEvening Z T1 T2 T3 G R P O B x p2 = some (nm c) ∧ f_X7_noEvening U V M Rm x p2 = some (nm c, rv V c)) ∨ (∃ s m l : Nat, s < 8 ∧ x = nI s ∧ p2 = nI l ∧ l ≤ m ∧ m ≤ 40 ∧ G 1 s = nI m ∧ f_X6_troubleWithEvening Z T1 T2 T3 G R P O B x p2 = some (0 : Int32) ∧ f_X7_noEvening U V M Rm x p2 = some ((0 : Int32), V)) := by
  unfold f_X6_troubleWithEvening f_X7_noEvening
  rcases she_c x with ⟨s, hs8, rfl, g, m⟩ | ⟨g, m⟩
  · rcases wi_c p2 0 40 (a := (0 : Int32)) (b := (40 : Int32)) (A := (0 : Int64)) (B := (40 : Int64)) rfl rfl (by decide) (by decide) (by decide) (by decide) with ⟨l, l0, l40, rfl, g2, m2⟩ | ⟨g2, m2⟩
    · rw [if_neg g2, if_neg m, if_neg m2]
      rcases row_c (R := R) hs hn (nI s) (nI l) U M Rm with ⟨c, hc, a6, a7⟩ | ⟨s', k, m', hs8', es, hk5, hm, e1, e2, e3, e4, e5, a6, a7⟩
      · left
        refine ⟨c, hc, ob a6 rfl, ob a7 ?_⟩
        exact if_neg (nm_ne c (by omega))
      · obtain rfl : s = s' := (nI_eq (by omega) (by omega)).mp es
        by_cases z : l ≤ m'
        · right
          refine ⟨s, m', l, hs8, rfl, rfl, z, hm, e4, ?_, ob a7 ?_⟩
          · rw [if_pos (nI_le z (by omega))] at a6
            exact ob a6 rfl
          · show (if (0 : Int32) = 0 then (if nI s < 0 ∨ 8 ≤ (nI s).toNatClampNeg then _ else if nI l ≤ V 2 (nI s).toNatClampNeg then _ else _) else _) = _
            rw [if_pos rfl, if_neg (in8 hs8), nI_clamp (show s < 2 ^ 31 by omega), e5, if_pos (nI_le z (by omega))]
        · left
          refine ⟨0, by decide, ?_, ob a7 ?_⟩
          · rw [if_neg (nI_ge (by omega) (by omega))] at a6
            exact ob a6 rfl
          · show (if (0 : Int32) = 0 then (if nI s < 0 ∨ 8 ≤ (nI s).toNatClampNeg then _ else if nI l ≤ V 2 (nI s).toNatClampNeg then _ else _) else _) = _
            rw [if_pos rfl, if_neg (in8 hs8), nI_clamp (show s < 2 ^ 31 by omega), e5, if_neg (nI_ge (by omega) (by omega))]
            exact ob (rm2 _ _ _) rfl
    · left
      refine ⟨0, by decide, by rw [if_pos g2]; rfl, ?_⟩
      rw [if_neg m, if_pos m2]
      exact ob (rm2 _ _ _) rfl
  · left
    refine ⟨0, by decide, ?_, ?_⟩
    · by_cases z : f_X6_isWithin p2 (0 : Int32) (40 : Int32) = 0
      · rw [if_pos z]; rfl
      · rw [if_neg z]
        refine ob (q := (-2 : Int32)) ?_ rfl
        unfold f_X3_troubleWithRow
        rw [if_pos g]
    · rw [if_pos m]
      exact ob (rm2 _ _ _) rfl
/-- a saying: who, of what -/
def SayV (v : Int64) (p x : Nat) : Prop := (v / (10 : Int64)).toInt32 = nI p ∧ (v - v / (10 : Int64) * (10 : Int64)).toInt32 = nI x ∧ v.toInt32 / (10 : Int32) = nI p ∧ v.toInt32 - v.toInt32 / (10 : Int32) * (10 : Int32) = nI x
theorem isS_eq {t' : Tn} (hc : TC t T) (hm : TM t' U) (e0 : t' 0 0 = t 0 0) (e1 : t' 1 0 = t 1 0) (v : Int64) (T2 G : TS) (R : LTS) : f_X7_isSaying U v = f_X0_isSaying T T2 G R v := by
  unfold f_X7_isSaying f_X0_isSaying
  rw [hm.n, hm.1, e0, e1, hc.n, hc.1 0 (by decide)]
theorem say_c (hc : TC t T) (hw : wf t) (v : Int64) (T2 G : TS) (R : LTS) : (∃ p x : Nat, p < t 1 0 ∧ x < t 0 0 ∧ SayV v p x ∧ ¬ f_X0_isSaying T T2 G R v = 0) ∨ f_X0_isSaying T T2 G R v = 0 := by
  have h7 := hw.n7
  have h8 := hw.1.2.1
  unfold f_X0_isSaying
  rw [hc.n, hc.1 0 (by decide), nI_l (by omega), nI_l (by omega)]
  by_cases c1 : v < 0
  · right; rw [if_pos ((lg_cmp_lt _ _).mpr c1)]
  · obtain ⟨a, ha, rfl⟩ := pk_lOf c1
    have d10 : lN a / (10 : Int64) = lN (a / 10) := pk_lDiv (b := 10) ha (by decide) (by decide)
    have r10 : lN a - lN a / (10 : Int64) * (10 : Int64) = lN (a % 10) := pk_lRem (b := 10) ha (by decide) (by decide)
    have ha10 : a / 10 < 2 ^ 63 := by omega
    rw [if_neg (fun z => c1 ((lg_cmp_lt _ _).mp z)), r10, d10]
    by_cases c2 : a / 10 < t 1 0
    · by_cases c3 : a % 10 < t 0 0
      · left
        refine ⟨a / 10, a % 10, c2, c3, ⟨by rw [d10]; exact lN_i _, by rw [r10]; exact lN_i _, ?_, ?_⟩, ?_⟩
        · rw [lN_i]; exact pk_div (d := 10) (by omega) (by decide) (by decide)
        · rw [lN_i]; exact pk_rem (d := 10) (by omega) (by decide) (by decide)
        · rw [if_neg (fun z => by
            have := (pk_lLE (by omega) (by omega)).mp ((lg_cmp_ge _ _).mp z)
            omega), if_neg (fun z => by
            have := (pk_lLE (by omega) (by omega)).mp ((lg_cmp_ge _ _).mp z)
            omega)]
          decide
      · right
        rw [if_neg (fun z => by
            have := (pk_lLE (by omega) (by omega)).mp ((lg_cmp_ge _ _).mp z)
            omega), if_pos ((lg_cmp_ge _ _).mpr ((pk_lLE (by omega) (by omega)).mpr (by omega)))]
    · right
      rw [if_pos ((lg_cmp_ge _ _).mpr ((pk_lLE (by omega) (by omega)).mpr (by omega)))]
/-- an evening goes by, on both sides -/
theorem both_by (hT : TC t T) (hw : wf t) {A D : TS} (hA : TC t A) (hD : TM t D) {s m l : Nat} (hs8 : s < 8) (hm : m ≤ 40) (hl : l ≤ m) (eG : G 1 s = nI m) {Y : LTS} (hY : ∀ i, i < l → Y 0 i = R s i) : ∃ (a : Int32) (A' D' : TS) (t' : Tn), (L_X0_firstWrong_13 T G R (nI s) (nI l) 300 (0 : Int32) A).bind (eo fun q5x => some ((-1 : Int32), q5x)) = some (a, A') ∧ f_X7_goesBy D Y (nI l) = some (a, D') ∧ (∀ j, j ≠ 9 → A' j = A j) ∧ (∀ j, j ≠ 15 → D' j = D j) ∧ Ne9 t t' ∧ wf t' ∧ TC t' A' ∧ TM t' D' := by
  have h8 := hw.1.2.1
  refine lup2k (N := l) (C := _) (fun n i a => L_X0_firstWrong_13 T G R (nI s) (nI l) n (nI i) a) (fun n i d => L_X7_goesBy_2 Y (nI l) n (nI i) d) (fun _ a d => (∀ j, j ≠ 9 → a j = A j) ∧ (∀ j, j ≠ 15 → d j = D j) ∧ ∃ t', Ne9 t t' ∧ wf t' ∧ TC t' a ∧ TM t' d) (fun r q => ∃ (a : Int32) (A' D' : TS) (t' : Tn), eo (fun q5x => some ((-1 : Int32), q5x)) r = some (a, A') ∧ eo (fun q5x => some ((-1 : Int32), q5x)) q = some (a, D') ∧ (∀ j, j ≠ 9 → A' j = A j) ∧ (∀ j, j ≠ 15 → D' j = D j) ∧ Ne9 t t' ∧ wf t' ∧ TC t' A' ∧ TM t' D') l 0 300 A D (fun r q h1 h2 hQ => ?_) (fun n a d hI => ?_) (fun n i a d hi hI => ?_) (by omega) (by omega) ⟨fun _ _ => rfl, fun _ _ => rfl, t, Ne9.rfl' t, hw, hA, hD⟩
  · obtain ⟨a, A', D', t', e1, e2, e3⟩ := hQ
    exact ⟨a, A', D', t', ob h1 e1, ob h2 e2, e3⟩
  · obtain ⟨f1, f2, t', g1, g2, g3, g4⟩ := hI
    refine ⟨.inr a, .inr d, ?_, ?_, (-1 : Int32), a, d, t', rfl, rfl, f1, f2, g1, g2, g3, g4⟩
    · show (if nI l ≤ nI l then _ else _) = _
      rw [if_pos (yle _)]
    · show (if nI l ≤ nI l then _ else _) = _
      rw [if_pos (yle _)]
  · obtain ⟨f1, f2, t', g1, g2, g3, g4⟩ := hI
    have el : f_X3_elementOf G R (nI s) (nI i) = some (R s i) := elem_c hs8 hm eG (by omega)
    have i40 : i < 40 := by omega
    have en : t' 1 0 = t 1 0 := by rw [g1 1 (by decide)]
    have ek : t' 0 0 = t 0 0 := by rw [g1 0 (by decide)]
    have eS := isS_eq (T := T) (U := d) hT g4 ek en (R s i) a G R
    have st6 : L_X0_firstWrong_13 T G R (nI s) (nI l) (n + 1) (nI i) a = (if f_X0_isSaying T a G R (R s i) = 0 then some (.inl (nI i, a)) else (f_X0_speakerOf T a G R (nI s) (nI i)).bind fun q12 => (f_X0_sightOf T a G R (nI s) (nI i)).bind fun q14 => (f_X5_sayableBy a q12).bind fun q16 => if (f_X6_has q16 q14) = 0 then some (.inl (nI i, a)) else (f_X5_tell a q12 ((1 : Int32) <<< (q14 &&& 31))).bind fun q20 => L_X0_firstWrong_13 T G R (nI s) (nI l) n (nI i + (1 : Int32)) q20.2) := by
      show (if nI l ≤ nI i then _ else _) = _
      rw [if_neg (nI_ge hi (by omega))]
      exact ob el rfl
    have st7 : L_X7_goesBy_2 Y (nI l) (n + 1) (nI i) d = (if f_X7_isSaying d (R s i) = 0 then some (.inl (nI i, d)) else (f_X7_mayOf d (((R s i) / (10 : Int64)).toInt32)).bind fun q9 => if (f_X7_has q9 (((R s i) - (R s i) / (10 : Int64) * (10 : Int64)).toInt32)) = 0 then some (.inl (nI i, d)) else (f_X7_isSaid d (((R s i) / (10 : Int64)).toInt32) ((1 : Int32) <<< ((((R s i) - (R s i) / (10 : Int64) * (10 : Int64)).toInt32) &&& 31))).bind fun q13 => L_X7_goesBy_2 Y (nI l) n (nI i + (1 : Int32)) q13.2) := by
      show (if nI l ≤ nI i then _ else if nI i < 0 ∨ 40 ≤ (nI i).toNatClampNeg then _ else _) = _
      rw [if_neg (nI_ge hi (by omega)), if_neg (in40 i40), nI_clamp (show i < 2 ^ 31 by omega), hY i hi]
    rw [st6, st7, eS]
    rcases say_c hT hw (R s i) a G R with ⟨p, x, hp, hx, ⟨v1, v2, v3, v4⟩, g⟩ | g
    · have sp : f_X0_speakerOf T a G R (nI s) (nI i) = some (nI p) := ob el (by rw [v1])
      have sg : f_X0_sightOf T a G R (nI s) (nI i) = some (nI x) := ob el (by rw [v2])
      have hp' : p < t' 1 0 := by rw [en]; exact hp
      have hx' : x < t' 0 0 := by rw [ek]; exact hx
      rw [if_neg g, if_neg g, sp, sg, v1, v2]
      by_cases z : f_X6_has (nI (say t' p)) (nI x) = 0
      · refine Or.inr ⟨.inl (nI i, a), .inl (nI i, d), ?_, ?_, nI i, a, d, t', rfl, rfl, f1, f2, g1, g2, g3, g4⟩
        · show (f_X5_sayableBy a (nI p)).bind _ = _
          refine ob (pc_say g3 g2 hp') ?_
          exact if_pos z
        · refine ob (pm_say g4 g2 hp') ?_
          exact if_pos z
      · obtain ⟨A', b1, b2, b3⟩ := pc_tell g3 g2 (p := p) (m := 2 ^ x) (by have := lt7 hw hp; omega) (Nat.pow_lt_pow_right (by decide) hx')
        obtain ⟨D', c1, c2, c3⟩ := pm_tell g4 g2 (p := p) (m := 2 ^ x) (by have := lt7 hw hp; omega) (Nat.pow_lt_pow_right (by decide) hx')
        refine Or.inl ⟨A', D', ⟨fun j hj => by rw [b3 j hj, f1 j hj], fun j hj => by rw [c3 j hj, f2 j hj], tl t' p (2 ^ x), g1.trans (tl_ne _ _ _), tl_wf g2 (Nat.pow_lt_pow_right (by decide) hx'), b2, c2⟩, ?_, ?_⟩
        · show (f_X5_sayableBy a (nI p)).bind _ = _
          refine ob (pc_say g3 g2 hp') ?_
          rw [if_neg z, pu_one x (by omega), nI_1]
          exact ob b1 rfl
        · refine ob (pm_say g4 g2 hp') ?_
          rw [if_neg (show ¬ f_X7_has (nI (say t' p)) (nI x) = 0 from z), pu_one x (by omega), nI_1]
          exact ob c1 rfl
    · rw [if_pos g, if_pos g]
      exact Or.inr ⟨.inl (nI i, a), .inl (nI i, d), rfl, rfl, nI i, a, d, t', rfl, rfl, f1, f2, g1, g2, g3, g4⟩
/-- rows of sayings -/
def Rws (t : Tn) (R : LTS) (s l : Nat) : Prop := ∀ i, i < l → ∃ p x : Nat, p < t 1 0 ∧ x < t 0 0 ∧ SayV (R s i) p x
theorem sayings_c (hT : TC t T) (hm' : TM t U) (hw : wf t) (hR : RoR R R') {s m l : Nat} (hs8 : s < 8) (hm : m ≤ 40) (hl : l ≤ m) (eG : G 1 s = nI m) (T3 : TS) (M : LTS) : (f_X0_areSayings T T3 G R (nI s) (nI l) = some (0 : Int32) ∧ (L_X7_noSayings_16 U M R' (nI s) (nI l) 300 (0 : Int32) V).bind (eo fun q6x => some ((0 : Int32), q6x)) = some ((-2 : Int32), rv V 0)) ∨ (f_X0_areSayings T T3 G R (nI s) (nI l) = some (1 : Int32) ∧ (L_X7_noSayings_16 U M R' (nI s) (nI l) 300 (0 : Int32) V).bind (eo fun q6x => some ((0 : Int32), q6x)) = some ((0 : Int32), V) ∧ Rws t R s l) := by
  refine lup2k (N := l) (C := _) (fun n i (_ : Unit) => L_X0_areSayings_2 T T3 G R (nI s) (nI l) n (nI i)) (fun n i v => L_X7_noSayings_16 U M R' (nI s) (nI l) n (nI i) v) (fun i _ v => v = V ∧ Rws t R s i) (fun r q => (r = .inl (0 : Int32) ∧ q = .inl ((-2 : Int32), rv V 0)) ∨ (r = .inr () ∧ q = .inr V ∧ Rws t R s l)) l 0 300 () V (fun r q h1 h2 hQ => ?_) (fun n a v hI => ?_) (fun n i a v hi hI => ?_) (by omega) (by omega) ⟨rfl, fun i hi => absurd hi (Nat.not_lt_zero i)⟩
  · rcases hQ with ⟨rfl, rfl⟩ | ⟨rfl, rfl, hh⟩
    · exact Or.inl ⟨ob h1 rfl, ob h2 rfl⟩
    · exact Or.inr ⟨ob h1 rfl, ob h2 rfl, hh⟩
  · obtain ⟨rfl, hh⟩ := hI
    refine ⟨.inr (), .inr v, ?_, ?_, Or.inr ⟨rfl, rfl, hh⟩⟩
    · show (if nI l ≤ nI l then _ else _) = _
      rw [if_pos (yle _)]
    · show (if nI l ≤ nI l then _ else _) = _
      rw [if_pos (yle _)]
  · obtain ⟨rfl, hh⟩ := hI
    have el : f_X3_elementOf G R (nI s) (nI i) = some (R s i) := elem_c hs8 hm eG (by omega)
    have i40 : i < 40 := by omega
    have eS := isS_eq (T := T) (U := U) hT hm' rfl rfl (R s i) T3 G R
    have st6 : L_X0_areSayings_2 T T3 G R (nI s) (nI l) (n + 1) (nI i) = (if f_X0_isSaying T T3 G R (R s i) = 0 then some (.inl (0 : Int32)) else L_X0_areSayings_2 T T3 G R (nI s) (nI l) n (nI i + (1 : Int32))) := by
      show (if nI l ≤ nI i then _ else _) = _
      rw [if_neg (nI_ge hi (by omega))]
      exact ob el rfl
    have st7 : L_X7_noSayings_16 U M R' (nI s) (nI l) (n + 1) (nI i) v = (if f_X7_isSaying U (R s i) = 0 then (f_X7_refuse U v M R' (-2 : Int32)).bind fun q13 => some (.inl (q13.1, q13.2)) else L_X7_noSayings_16 U M R' (nI s) (nI l) n (nI i + (1 : Int32)) v) := by
      show (if nI l ≤ nI i then _ else if nI s < 0 ∨ 8 ≤ (nI s).toNatClampNeg then _ else if nI i < 0 ∨ 40 ≤ (nI i).toNatClampNeg then _ else _) = _
      rw [if_neg (nI_ge hi (by omega)), if_neg (in8 hs8), if_neg (in40 i40), nI_clamp (show i < 2 ^ 31 by omega), nI_clamp (show s < 2 ^ 31 by omega), hR s i hs8 i40]
    rcases say_c hT hw (R s i) T3 G R with ⟨p, x, hp, hx, hv, g⟩ | g
    · refine Or.inl ⟨(), v, ⟨rfl, fun j hj => ?_⟩, by rw [st6, if_neg g, nI_1], by rw [st7, eS, if_neg g, nI_1]⟩
      by_cases e : j = i
      · subst e; exact ⟨p, x, hp, hx, hv⟩
      · exact hh j (by omega)
    · refine Or.inr ⟨.inl (0 : Int32), .inl ((-2 : Int32), rv v 0), by rw [st6, if_pos g], ?_, Or.inl ⟨rfl, rfl⟩⟩
      rw [st7, eS, if_pos g]
      exact ob (rm2 _ _ _) rfl
theorem ms_c (ht : TR t T1 U) (hs : ShR (t 1 0) G V) (hR : RoR R R') (x p2 : Int32) (T2 T3 P O B : TS) (M : LTS) : (∃ c : Nat, c < 3 ∧ f_X6_troubleWithSayings Z T1 T2 T3 G R P O B x p2 = some (nm c) ∧ f_X7_noSayings U V M R' x p2 = some (nm c, rv V c)) ∨ (∃ s m l : Nat, s < 8 ∧ x = nI s ∧ p2 = nI l ∧ l ≤ m ∧ m ≤ 40 ∧ G 1 s = nI m ∧ Rws t R s l ∧ f_X6_troubleWithSayings Z T1 T2 T3 G R P O B x p2 = some (0 : Int32) ∧ f_X7_noSayings U V M R' x p2 = some ((0 : Int32), V)) := by
  rcases eve_c (Z := Z) (R := R) hs ht.1.n7 x p2 T1 T2 T3 P O B U M R' with ⟨c, hc, a6, a7⟩ | ⟨s, m, l, hs8, rfl, rfl, hl, hm, eG, a6, a7⟩
  · left
    refine ⟨c, hc, ob a6 (if_neg (nm_ne c (by omega))), ob a7 (if_neg (nm_ne c (by omega)))⟩
  · rcases sayings_c (V := V) ht.2.1 ht.2.2.1 ht.1 hR hs8 hm hl eG T3 M with ⟨b6, b7⟩ | ⟨b6, b7, hh⟩
    · left
      refine ⟨0, by decide, ob a6 ?_, ob a7 ?_⟩
      · rw [if_pos rfl]
        exact ob b6 rfl
      · show (if (0 : Int32) = 0 then _ else _) = _
        rw [if_pos rfl]
        exact b7
    · right
      refine ⟨s, m, l, hs8, rfl, rfl, hl, hm, eG, hh, ob a6 ?_, ob a7 ?_⟩
      · rw [if_pos rfl]
        exact ob b6 rfl
      · show (if (0 : Int32) = 0 then _ else _) = _
        rw [if_pos rfl]
        exact b7
/-- of what one says -/
theorem sp_c {T3 : TS} {s m l i p x : Nat} (hs8 : s < 8) (hm : m ≤ 40) (hl : l ≤ m) (eG : G 1 s = nI m) (hi : i < l) (hv : SayV (R s i) p x) : f_X0_speakerOf T T3 G R (nI s) (nI i) = some (nI p) ∧ f_X0_sightOf T T3 G R (nI s) (nI i) = some (nI x) := by
  have el : f_X3_elementOf G R (nI s) (nI i) = some (R s i) := elem_c hs8 hm eG (by omega)
  exact ⟨ob el (by rw [hv.1]), ob el (by rw [hv.2.1])⟩
theorem both_false (ht : TR t T1 U) (hR : RoR R R') {s m l : Nat} (hs8 : s < 8) (hm : m ≤ 40) (hl : l ≤ m) (eG : G 1 s = nI m) (hh : Rws t R s l) (T3 : TS) : ∃ a, f_X0_falseSayings T1 T3 G R (nI s) (nI l) = some a ∧ L_X7_falsely_19 U R' (nI s) (nI l) 300 (0 : Int32) (0 : Int32) = some a := by
  refine lup2k (N := l) (C := _) (fun n i a => L_X0_falseSayings_5 T1 T3 G R (nI s) (nI l) n (nI i) a) (fun n i a => L_X7_falsely_19 U R' (nI s) (nI l) n (nI i) a) (fun _ a b => a = b) (fun a b => a = b) l 0 300 (0 : Int32) (0 : Int32) (fun r q h1 h2 hQ => ?_) (fun n a v hI => ?_) (fun n i a v hi hI => Or.inl ?_) (by omega) (by omega) rfl
  · subst hQ
    exact ⟨r, ob h1 rfl, h2⟩
  · subst hI
    refine ⟨a, a, ?_, ?_, rfl⟩
    · show (if nI l ≤ nI l then _ else _) = _
      rw [if_pos (yle _)]
    · show (if nI l ≤ nI l then _ else _) = _
      rw [if_pos (yle _)]
  · subst hI
    obtain ⟨p, x, hp, hx, hv⟩ := hh i hi
    obtain ⟨s1, s2⟩ := sp_c (T := T1) (T3 := T3) hs8 hm hl eG hi hv
    have i40 : i < 40 := by omega
    refine ⟨(if f_X6_has (nI (bar t p)) (nI x) = 0 then a else a + (1 : Int32)), _, rfl, ?_, ?_⟩
    · show (if nI l ≤ nI i then _ else _) = _
      rw [if_neg (nI_ge hi (by omega))]
      refine ob s1 (ob (pc_bar ht.2.1 ht.1 hp) (ob s2 ?_))
      rw [nI_1]
    · show (if nI l ≤ nI i then _ else if nI s < 0 ∨ 8 ≤ (nI s).toNatClampNeg then _ else if nI i < 0 ∨ 40 ≤ (nI i).toNatClampNeg then _ else _) = _
      rw [if_neg (nI_ge hi (by omega)), if_neg (in8 hs8), if_neg (in40 i40), nI_clamp (show i < 2 ^ 31 by omega), nI_clamp (show s < 2 ^ 31 by omega), ← hR s i hs8 i40, hv.2.2.2, hv.2.2.1]
      refine ob (pm_bar ht.2.2.1 ht.1 hp) ?_
      rw [nI_1]
      show L_X7_falsely_19 U R' (nI s) (nI l) n (nI (i + 1)) (a + (if f_X6_has (nI (bar t p)) (nI x) = 0 then (0 : Int32) else (1 : Int32))) = _
      by_cases z : f_X6_has (nI (bar t p)) (nI x) = 0
      · rw [if_pos z, if_pos z, Int32.add_zero]
      · rw [if_neg z, if_neg z]
/-- silence: (said, told) -/
def sl (t : Tn) (R : LTS) (s q y : Nat) : Nat → Bool × Bool
  | 0 => (false, false)
  | i + 1 => if (R s i - R s i / (10 : Int64) * (10 : Int64)).toInt32 = nI y then ((sl t R s q y i).1 || ((sl t R s q y i).2 && decide ((R s i / (10 : Int64)).toInt32 = nI q)), (sl t R s q y i).2 || !decide (f_X6_has (nI (t 10 q)) (R s i / (10 : Int64)).toInt32 = 0)) else sl t R s q y i
theorem sl_1 {s q y i : Nat} (h : (R s i - R s i / (10 : Int64) * (10 : Int64)).toInt32 = nI y) : sl t R s q y (i + 1) = ((sl t R s q y i).1 || ((sl t R s q y i).2 && decide ((R s i / (10 : Int64)).toInt32 = nI q)), (sl t R s q y i).2 || !decide (f_X6_has (nI (t 10 q)) (R s i / (10 : Int64)).toInt32 = 0)) := if_pos h
theorem sl_0 {s q y i : Nat} (h : ¬ (R s i - R s i / (10 : Int64) * (10 : Int64)).toInt32 = nI y) : sl t R s q y (i + 1) = sl t R s q y i := if_neg h
theorem sl_mono {s q y i : Nat} (h : (sl t R s q y i).1 = true) : ∀ d, (sl t R s q y (i + d)).1 = true
  | 0 => h
  | d + 1 => by
    have ih := sl_mono h d
    by_cases z : (R s (i + d) - R s (i + d) / (10 : Int64) * (10 : Int64)).toInt32 = nI y
    · show (sl t R s q y ((i + d) + 1)).1 = true
      rw [sl_1 z, ih]; rfl
    · show (sl t R s q y ((i + d) + 1)).1 = true
      rw [sl_0 z]; exact ih
def bI (b : Bool) : Int32 := if b then 1 else 0
theorem bI_0 (b : Bool) : bI b = 0 ↔ b = false := by cases b <;> decide
theorem pc_silent (ht : TC t T1) (hw : wf t) {s m l q y : Nat} (hs8 : s < 8) (hm : m ≤ 40) (hl : l ≤ m) (eG : G 1 s = nI m) (hh : Rws t R s l) (hq : q < t 1 0) (T3 : TS) : f_X0_isSilent T1 T3 G R (nI q) (nI s) (nI l) (nI y) = some (bI ((sl t R s q y l).2 && !(sl t R s q y l).1)) := by
  have q7 := lt7 hw hq
  unfold f_X0_isSilent
  refine lupTk (N := l) (C := _) (fun n i b => L_X0_isSilent_6 T1 T3 G R (nI q) (nI s) (nI l) (nI y) n (nI i) b) (fun i b => (sl t R s q y i).1 = false ∧ b = bI (sl t R s q y i).2) (fun r => (r = .inl (0 : Int32) ∧ (sl t R s q y l).1 = true) ∨ (r = .inr (bI (sl t R s q y l).2) ∧ (sl t R s q y l).1 = false)) l 0 300 (0 : Int32) (fun r h1 hQ => ?_) (fun n b hI => ?_) (fun n i b hi hI => ?_) (by omega) (by omega) ⟨rfl, rfl⟩
  · rcases hQ with ⟨rfl, e⟩ | ⟨rfl, e⟩
    · rw [e]
      refine ob h1 ?_
      show some (0 : Int32) = _
      cases (sl t R s q y l).2 <;> rfl
    · rw [e]
      refine ob h1 ?_
      show (if ¬ (bI (sl t R s q y l).2 = 0 ∨ bI (sl t R s q y l).2 = 1) then none else some (bI (sl t R s q y l).2)) = _
      cases (sl t R s q y l).2 <;> rfl
  · obtain ⟨e1, rfl⟩ := hI
    refine ⟨.inr (bI (sl t R s q y l).2), ?_, Or.inr ⟨rfl, e1⟩⟩
    show (if nI l ≤ nI l then _ else _) = _
    rw [if_pos (yle _)]
  · obtain ⟨e1, rfl⟩ := hI
    obtain ⟨p, x, hp, hx, hv⟩ := hh i hi
    obtain ⟨s1, s2⟩ := sp_c (T := T1) (T3 := T3) hs8 hm hl eG hi hv
    have p7 := lt7 hw hp
    have hx8 : x < 8 := by have := hw.1.2.1; omega
    have st : L_X0_isSilent_6 T1 T3 G R (nI q) (nI s) (nI l) (nI y) (n + 1) (nI i) (bI (sl t R s q y i).2) = (if nI x = nI y then (if bI (sl t R s q y i).2 = 0 then L_X0_isSilent_6 T1 T3 G R (nI q) (nI s) (nI l) (nI y) n (nI (i + 1)) (if (f_X6_has (nI (t 10 q)) (nI p)) = 0 then (0 : Int32) else (1 : Int32)) else if nI p = nI q then some (.inl (0 : Int32)) else L_X0_isSilent_6 T1 T3 G R (nI q) (nI s) (nI l) (nI y) n (nI (i + 1)) (1 : Int32)) else L_X0_isSilent_6 T1 T3 G R (nI q) (nI s) (nI l) (nI y) n (nI (i + 1)) (bI (sl t R s q y i).2)) := by
      show (if nI l ≤ nI i then _ else _) = _
      rw [if_neg (nI_ge hi (by omega))]
      refine ob s2 ?_
      by_cases z : nI x = nI y
      · rw [if_pos z, if_pos z]
        refine ob s1 ?_
        by_cases c : bI (sl t R s q y i).2 = 0
        · rw [if_pos c, if_pos c, if_pos c, if_neg (in7 q7), cl7 q7, ht.hears hq, nI_1]
        · rw [if_neg c, if_neg c, if_neg c, nI_1]
      · rw [if_neg z, if_neg z, nI_1]
    rw [st]
    by_cases z : nI x = nI y
    · have r1 := sl_1 (t := t) (R := R) (s := s) (q := q) (y := y) (i := i) (by rw [hv.2.1]; exact z)
      rw [hv.1] at r1
      rw [if_pos z]
      by_cases c : (sl t R s q y i).2 = true
      · rw [if_neg (fun k => by rw [(bI_0 _).mp k] at c; cases c)]
        by_cases w : nI p = nI q
        · rw [if_pos w]
          refine Or.inr ⟨.inl (0 : Int32), rfl, Or.inl ⟨rfl, ?_⟩⟩
          have := sl_mono (t := t) (R := R) (s := s) (q := q) (y := y) (i := i + 1) (by rw [r1, e1, c, decide_eq_true w]; rfl) (l - (i + 1))
          rw [show i + 1 + (l - (i + 1)) = l by omega] at this
          exact this
        · rw [if_neg w]
          refine Or.inl ⟨(1 : Int32), ⟨by rw [r1, e1, c, decide_eq_false w]; rfl, by rw [r1, c]; rfl⟩, rfl⟩
      · have c : (sl t R s q y i).2 = false := by simpa using c
        rw [if_pos ((bI_0 _).mpr c)]
        refine Or.inl ⟨_, ⟨by rw [r1, e1, c]; rfl, ?_⟩, rfl⟩
        rw [r1, c]
        by_cases w : f_X6_has (nI (t 10 q)) (nI p) = 0
        · rw [if_pos w, decide_eq_true w]; rfl
        · rw [if_neg w, decide_eq_false w]; rfl
    · have r0 := sl_0 (t := t) (R := R) (s := s) (q := q) (y := y) (i := i) (by rw [hv.2.1]; exact z)
      rw [if_neg z]
      exact Or.inl ⟨_, ⟨by rw [r0]; exact e1, by rw [r0]⟩, rfl⟩
theorem pm_silent (ht : TM t U) (hw : wf t) (hR : RoR R R') {s m l q y : Nat} (hs8 : s < 8) (hm : m ≤ 40) (hl : l ≤ m) (hh : Rws t R s l) (hq : q < t 1 0) : L_X7_silent_24 U R' (nI s) (nI l) (nI y) (nI q) 300 (0 : Int32) (0 : Int32) (0 : Int32) = some (bI (sl t R s q y l).1, bI (sl t R s q y l).2) := by
  have q7 := lt7 hw hq
  refine lupE (N := l) (fun n i => L_X7_silent_24 U R' (nI s) (nI l) (nI y) (nI q) n (nI i) (bI (sl t R s q y i).1) (bI (sl t R s q y i).2)) (fun n => ?_) (fun n i hi => ?_) l 0 300 (by omega) (by omega)
  · show (if nI l ≤ nI l then _ else _) = _
    rw [if_pos (yle _)]
  · obtain ⟨p, x, hp, hx, hv⟩ := hh i hi
    have i40 : i < 40 := by omega
    show (if nI l ≤ nI i then _ else if nI s < 0 ∨ 8 ≤ (nI s).toNatClampNeg then _ else if nI i < 0 ∨ 40 ≤ (nI i).toNatClampNeg then _ else _) = _
    rw [if_neg (nI_ge hi (by omega)), if_neg (in8 hs8), if_neg (in40 i40), nI_clamp (show i < 2 ^ 31 by omega), nI_clamp (show s < 2 ^ 31 by omega), ← hR s i hs8 i40, hv.2.2.2, hv.2.2.1, nI_1]
    by_cases z : nI x = nI y
    · have r1 := sl_1 (t := t) (R := R) (s := s) (q := q) (y := y) (i := i) (by rw [hv.2.1]; exact z)
      rw [hv.1] at r1
      rw [if_pos z, if_neg (in7 q7), cl7 q7, ht.hears hq, r1]
      show L_X7_silent_24 U R' (nI s) (nI l) (nI y) (nI q) n (nI (i + 1)) (bI (sl t R s q y i).1 ||| (if bI (sl t R s q y i).2 = 0 then (0 : Int32) else (if nI p = nI q then (1 : Int32) else (0 : Int32)))) (bI (sl t R s q y i).2 ||| (if ((nI (t 10 q) >>> (nI p &&& 31)) &&& (1 : Int32)) = 0 then (0 : Int32) else (1 : Int32))) = L_X7_silent_24 U R' (nI s) (nI l) (nI y) (nI q) n (nI (i + 1)) (bI ((sl t R s q y i).1 || ((sl t R s q y i).2 && decide (nI p = nI q)))) (bI ((sl t R s q y i).2 || !decide ((if ((nI (t 10 q) >>> (nI p &&& 31)) &&& (1 : Int32)) = 0 then (0 : Int32) else (1 : Int32)) = 0)))
      by_cases w : nI p = nI q
      · by_cases w2 : ((nI (t 10 q) >>> (nI p &&& 31)) &&& (1 : Int32)) = 0
        · rw [if_pos w, if_pos w2, decide_eq_true w]
          cases (sl t R s q y i).1 <;> cases (sl t R s q y i).2 <;> rfl
        · rw [if_pos w, if_neg w2, decide_eq_true w]
          cases (sl t R s q y i).1 <;> cases (sl t R s q y i).2 <;> rfl
      · by_cases w2 : ((nI (t 10 q) >>> (nI p &&& 31)) &&& (1 : Int32)) = 0
        · rw [if_neg w, if_pos w2, decide_eq_false w]
          cases (sl t R s q y i).1 <;> cases (sl t R s q y i).2 <;> rfl
        · rw [if_neg w, if_neg w2, decide_eq_false w]
          cases (sl t R s q y i).1 <;> cases (sl t R s q y i).2 <;> rfl
    · have r0 := sl_0 (t := t) (R := R) (s := s) (q := q) (y := y) (i := i) (by rw [hv.2.1]; exact z)
      rw [if_neg z, r0]
def sil (t : Tn) (R : LTS) (s l y : Nat) : Nat := bld (t 1 0) (fun q => (sl t R s q y l).2 && !(sl t R s q y l).1)
theorem bI_if (b : Bool) : bI b = if b then (1 : Int32) else (0 : Int32) := rfl
theorem pc_sil (ht : TC t T1) (hw : wf t) {s m l y : Nat} (hs8 : s < 8) (hm : m ≤ 40) (hl : l ≤ m) (eG : G 1 s = nI m) (hh : Rws t R s l) (T3 : TS) : f_X0_silentOf T1 T3 G R (nI s) (nI l) (nI y) = some (nI (sil t R s l y)) := by
  have h7 := hw.n7
  unfold f_X0_silentOf sil
  refine ob (lupE (N := t 1 0) (fun n i => L_X0_silentOf_6 T1 T3 G R (nI s) (nI l) (nI y) n (nI i) (nI (bld i (fun q => (sl t R s q y l).2 && !(sl t R s q y l).1)))) (fun n => ?_) (fun n i hi => ?_) (t 1 0) 0 300 (by omega) (by omega)) rfl
  · show (if T1 1 0 ≤ nI (t 1 0) then _ else _) = _
    rw [ht.n, if_pos (yle _)]
  · show (if T1 1 0 ≤ nI i then _ else _) = _
    rw [ht.n, if_neg (nle hw hi)]
    refine ob (pc_silent (y := y) ht hw hs8 hm hl eG hh hi T3) ?_
    rw [bI_if, pu_with (by omega), nI_1]
    have := wb_bld i (fun q => (sl t R s q y l).2 && !(sl t R s q y l).1)
    rw [← this]
theorem pm_sil (ht : TM t U) (hw : wf t) (hR : RoR R R') {s m l y : Nat} (hs8 : s < 8) (hm : m ≤ 40) (hl : l ≤ m) (hh : Rws t R s l) (V : TS) (M : LTS) : f_X7_silent U V M R' (nI s) (nI l) (nI y) = some (nI (sil t R s l y)) := by
  have h7 := hw.n7
  unfold f_X7_silent sil
  refine ob (lupE (N := t 1 0) (fun n i => L_X7_silent_6 U R' (nI s) (nI l) (nI y) n (nI i) (nI (bld i (fun q => (sl t R s q y l).2 && !(sl t R s q y l).1)))) (fun n => ?_) (fun n i hi => ?_) (t 1 0) 0 300 (by omega) (by omega)) rfl
  · show (if U 10 0 ≤ nI (t 1 0) then _ else _) = _
    rw [ht.n, if_pos (yle _)]
  · show (if U 10 0 ≤ nI i then _ else _) = L_X7_silent_6 U R' (nI s) (nI l) (nI y) n (nI (i + 1)) (nI (if ((sl t R s i y l).2 && !(sl t R s i y l).1) = true then bld i (fun q => (sl t R s q y l).2 && !(sl t R s q y l).1) ||| 2 ^ i else bld i (fun q => (sl t R s q y l).2 && !(sl t R s q y l).1)))
    rw [ht.n, if_neg (nle hw hi)]
    refine ob (pm_silent (y := y) ht hw hR hs8 hm hl hh hi) ?_
    rw [nI_1]
    show L_X7_silent_6 U R' (nI s) (nI l) (nI y) n (nI (i + 1)) (nI (bld i (fun q => (sl t R s q y l).2 && !(sl t R s q y l).1)) ||| (if bI (sl t R s i y l).2 = 0 then (0 : Int32) else (if bI (sl t R s i y l).1 = 0 then ((1 : Int32) <<< (nI i &&& 31)) else (0 : Int32)))) = _
    cases e2 : (sl t R s i y l).2
    · rw [if_pos (show bI false = 0 from rfl), if_neg (by simp), show (0 : Int32) = nI 0 from rfl, pu_or, Nat.or_zero]
    · cases e1 : (sl t R s i y l).1
      · rw [if_neg (by decide), if_pos (show bI false = 0 from rfl), if_pos (by decide), pu_one i (by omega), pu_or]
      · rw [if_neg (by decide), if_neg (by decide), if_neg (by simp), show (0 : Int32) = nI 0 from rfl, pu_or, Nat.or_zero]
/-- said without question -/
theorem both_free (ht : TR t T1 U) (hR : RoR R R') {s m l : Nat} (hs8 : s < 8) (hm : m ≤ 40) (hl : l ≤ m) (eG : G 1 s = nI m) (hh : Rws t R s l) {A D : TS} (hA : TC t A) (hD : TM t D) : ∃ (A' D' : TS) (t' : Tn), L_X0_mouthsBehind_14 T1 G R (nI s) (nI l) 300 (0 : Int32) A = some A' ∧ L_X7_free_40 R' (nI s) (nI l) 300 (0 : Int32) D = some D' ∧ Ne9 t t' ∧ wf t' ∧ TC t' A' ∧ TM t' D' := by
  have h8 := ht.1.1.2.1
  refine lup2k (N := l) (C := _) (fun n i a => L_X0_mouthsBehind_14 T1 G R (nI s) (nI l) n (nI i) a) (fun n i d => L_X7_free_40 R' (nI s) (nI l) n (nI i) d) (fun _ a d => ∃ t', Ne9 t t' ∧ wf t' ∧ TC t' a ∧ TM t' d) (fun a d => ∃ t', Ne9 t t' ∧ wf t' ∧ TC t' a ∧ TM t' d) l 0 300 A D (fun r q h1 h2 hQ => ?_) (fun n a d hI => ?_) (fun n i a d hi hI => Or.inl ?_) (by omega) (by omega) ⟨t, Ne9.rfl' t, ht.1, hA, hD⟩
  · obtain ⟨t', e⟩ := hQ
    exact ⟨r, q, t', h1, h2, e⟩
  · refine ⟨a, d, ?_, ?_, hI⟩
    · show (if nI l ≤ nI l then _ else _) = _
      rw [if_pos (yle _)]
    · show (if nI l ≤ nI l then _ else _) = _
      rw [if_pos (yle _)]
  · obtain ⟨t', g1, g2, g3, g4⟩ := hI
    obtain ⟨p, x, hp, hx, hv⟩ := hh i hi
    obtain ⟨s1, s2⟩ := sp_c (T := T1) (T3 := a) hs8 hm hl eG hi hv
    have i40 : i < 40 := by omega
    have p7 := lt7 ht.1 hp
    have hx' : x < t' 0 0 := by rw [g1 0 (by decide)]; exact hx
    obtain ⟨A', b1, b2, b3⟩ := pc_tell g3 g2 (p := p) (m := 2 ^ x) (by omega) (Nat.pow_lt_pow_right (by decide) hx')
    obtain ⟨D', c1, c2, c3⟩ := pm_tell g4 g2 (p := p) (m := 2 ^ x) (by omega) (Nat.pow_lt_pow_right (by decide) hx')
    refine ⟨A', D', ⟨tl t' p (2 ^ x), g1.trans (tl_ne _ _ _), tl_wf g2 (Nat.pow_lt_pow_right (by decide) hx'), b2, c2⟩, ?_, ?_⟩
    · show (if nI l ≤ nI i then _ else _) = _
      rw [if_neg (nI_ge hi (by omega))]
      refine ob s1 (ob s2 ?_)
      rw [pu_one x (by omega), nI_1]
      exact ob b1 rfl
    · show (if nI l ≤ nI i then _ else if nI s < 0 ∨ 8 ≤ (nI s).toNatClampNeg then _ else if nI i < 0 ∨ 40 ≤ (nI i).toNatClampNeg then _ else _) = _
      rw [if_neg (nI_ge hi (by omega)), if_neg (in8 hs8), if_neg (in40 i40), nI_clamp (show i < 2 ^ 31 by omega), nI_clamp (show s < 2 ^ 31 by omega), ← hR s i hs8 i40, hv.2.2.2, hv.2.2.1, pu_one x (by omega), nI_1]
      exact ob c1 rfl
theorem op_judge (h : Rl Z T1 T2 G R P U V R' ku) (T3 O B : TS) (M : LTS) (tp : Option (Nat → Int32)) (p1 : Int32) (p2 : Int32) : ∃ a Z' T3' V' tp', f_X6_judge Z T1 T2 T3 G R P O B p1 p2 = some (a, Z', T3') ∧ f_X7_judge U V M R' tp p1 p2 = some (a, V', tp') ∧ Rl Z' T1 T2 G R P U V' R' ku := by
  obtain ⟨t, ht, hs, hr, hp, hz, hk⟩ := id h
  rcases eve_c (Z := Z) (R := R) hs ht.1.n7 p1 p2 T1 T2 T3 P O B U M R' with ⟨c, hc, a6, a7⟩ | ⟨s, m, l, hs8, rfl, rfl, hl, hm, eG, a6, a7⟩
  · refine ⟨nm c, rz Z c, T3, rv V c, tp, ?_, ?_, h.ref (by omega)⟩
    · refine ob a6 ?_
      rw [if_neg (nm_ne c (by omega))]
      exact ob (rcn hc _ _ _ _ _ _ _ _) rfl
    · exact ob a7 (if_neg (nm_ne c (by omega)))
  · obtain ⟨T0, b1, b2, b3, b4⟩ := pc_become ht.2.1 ht.1 T3
    obtain ⟨a, A', D', t', e1, e2, e3⟩ := both_by (R := R) (Y := fun _ => R' s) ht.2.1 ht.1 b2 (fr0_tm ht.2.2.1 tp) hs8 hm hl eG (fun i hi => (hr s i hs8 (by omega)).symm)
    refine ⟨a, Z, A', V, some (D' 29), ?_, ?_, h⟩
    · refine ob a6 ?_
      rw [if_pos rfl]
      exact ob (ob b1 e1) rfl
    · refine ob a7 ?_
      show (if (0 : Int32) = 0 then (if nI s < 0 ∨ 8 ≤ (nI s).toNatClampNeg then _ else _) else _) = _
      rw [if_pos rfl, if_neg (in8 hs8), nI_clamp (show s < 2 ^ 31 by omega)]
      exact ob e2 rfl
theorem op_heard (h : Rl Z T1 T2 G R P U V R' ku) (T3 O B : TS) (M : LTS) (tp : Option (Nat → Int32)) (p1 : Int32) (p2 : Int32) (p3 : Int32) : ∃ a Z' T3' V' tp', f_X6_heard Z T1 T2 T3 G R P O B p1 p2 p3 = some (a, Z', T3') ∧ f_X7_heard U V M R' tp p1 p2 p3 = some (a, V', tp') ∧ Rl Z' T1 T2 G R P U V' R' ku := by
  obtain ⟨t, ht, hs, hr, hp, hz, hk⟩ := id h
  rcases one_c ht p3 with ⟨p, hp1, rfl, g0, m0⟩ | ⟨g0, m0⟩
  rotate_left
  · refine ⟨(-2 : Int32), rz Z 0, T3, rv V 0, tp, ?_, ?_, h.ref (by decide)⟩
    · unfold f_X6_heard
      rw [if_pos g0, if_neg (by decide)]
      exact ob (rc2 _ _ _ _ _ _ _ _) rfl
    · unfold f_X7_heard
      rw [if_pos m0]
      exact ob (rm2 _ _ _) rfl
  have p7 := lt7 ht.1 hp1
  unfold f_X6_heard f_X7_heard
  rw [if_neg g0, if_neg m0]
  rcases eve_c (Z := Z) (R := R) hs ht.1.n7 p1 p2 T1 T2 T3 P O B U M R' with ⟨c, hc, a6, a7⟩ | ⟨s, m, l, hs8, rfl, rfl, hl, hm, eG, a6, a7⟩
  · refine ⟨nm c, rz Z c, T3, rv V c, tp, ?_, ?_, h.ref (by omega)⟩
    · refine ob a6 ?_
      rw [if_neg (nm_ne c (by omega))]
      exact ob (rcn hc _ _ _ _ _ _ _ _) rfl
    · exact ob a7 (if_neg (nm_ne c (by omega)))
  · obtain ⟨T0, b1, b2, b3, b4⟩ := pc_become ht.2.1 ht.1 T3
    obtain ⟨a, A', D', t', e1, e2, f1, f2, k1, k2, k3, k4⟩ := both_by (R := R) (Y := fun _ => R' s) ht.2.1 ht.1 b2 (fr0_tm ht.2.2.1 tp) hs8 hm hl eG (fun i hi => (hr s i hs8 (by omega)).symm)
    have fw : f_X0_firstWrong T1 T3 G R (nI s) (nI l) = some (a, A') := ob b1 e1
    have hp2 : p < t' 1 0 := by rw [k1 1 (by decide)]; exact hp1
    by_cases z : a = (-1 : Int32)
    · refine ⟨nI (t' 9 p), Z, A', V, some (D' 29), ?_, ?_, h⟩
      · refine ob a6 ?_
        rw [if_pos rfl]
        refine ob fw ?_
        rw [if_pos z, if_neg (in7 p7), cl7 p7]
        show some (A' 9 p, Z, A') = _
        rw [k3.heard hp2]
      · refine ob a7 ?_
        show (if (0 : Int32) = 0 then (if nI s < 0 ∨ 8 ≤ (nI s).toNatClampNeg then _ else _) else _) = _
        rw [if_pos rfl, if_neg (in8 hs8), nI_clamp (show s < 2 ^ 31 by omega)]
        refine ob e2 ?_
        rw [if_pos z, if_neg (in7 p7), cl7 p7]
        show some (D' 15 p, V, some (D' 29)) = _
        rw [k4.heard hp2]
    · refine ⟨(-5 : Int32), rz Z 3, A', rv V 3, some (D' 29), ?_, ?_, h.ref (by decide)⟩
      · refine ob a6 ?_
        rw [if_pos rfl]
        refine ob fw ?_
        rw [if_neg z]
        exact ob (rc5 _ _ _ _ _ _ _ _) rfl
      · refine ob a7 ?_
        show (if (0 : Int32) = 0 then (if nI s < 0 ∨ 8 ≤ (nI s).toNatClampNeg then _ else _) else _) = _
        rw [if_pos rfl, if_neg (in8 hs8), nI_clamp (show s < 2 ^ 31 by omega)]
        refine ob e2 ?_
        rw [if_neg z]
        exact ob (rm5 _ _ _) rfl
theorem op_evening (h : Rl Z T1 T2 G R P U V R' ku) (T3 O B : TS) (M : LTS) (tp : Option (Nat → Int32)) (p1 : Int32) (p2 : Int32) : ∃ a Z' T1' T3' U' V' tp', f_X6_evening Z T1 T2 T3 G R P O B p1 p2 = some (a, Z', T1', T3') ∧ f_X7_evening U V M R' tp p1 p2 = some (a, U', V', tp') ∧ Rl Z' T1' T2 G R P U' V' R' ku := by
  obtain ⟨t, ht, hs, hr, hp, hz, hk⟩ := id h
  rcases eve_c (Z := Z) (R := R) hs ht.1.n7 p1 p2 T1 T2 T3 P O B U M R' with ⟨c, hc, a6, a7⟩ | ⟨s, m, l, hs8, rfl, rfl, hl, hm, eG, a6, a7⟩
  · refine ⟨nm c, rz Z c, T1, T3, U, rv V c, tp, ?_, ?_, h.ref (by omega)⟩
    · refine ob a6 ?_
      rw [if_neg (nm_ne c (by omega))]
      exact ob (rcn hc _ _ _ _ _ _ _ _) rfl
    · exact ob a7 (if_neg (nm_ne c (by omega)))
  · obtain ⟨T0, b1, b2, b3, b4⟩ := pc_become ht.2.1 ht.1 T3
    have hY : ∀ i, i < l → (fun _ => R' s : LTS) 0 i = R s i := fun i hi => (hr s i hs8 (by omega)).symm
    obtain ⟨a, A', D', t', e1, e2, f1, f2, k1, k2, k3, k4⟩ := both_by (R := R) (Y := fun _ => R' s) ht.2.1 ht.1 b2 (fr0_tm ht.2.2.1 tp) hs8 hm hl eG hY
    obtain ⟨a2, A2, D2, t2, x1, x2, y1, y2, l1, l2, l3, l4⟩ := both_by (R := R) (Y := fun _ => R' s) ht.2.1 ht.1 b2 ht.2.2.1 hs8 hm hl eG hY
    have ee := Option.some.inj (e1.symm.trans x1)
    obtain rfl : a = a2 := congrArg Prod.fst ee
    obtain rfl : A' = A2 := congrArg Prod.snd ee
    have fw : f_X0_firstWrong T1 T3 G R (nI s) (nI l) = some (a, A') := ob b1 e1
    by_cases z : a = (-1 : Int32)
    · obtain ⟨T9, i1, i2, i3, i4⟩ := pc_become l3 l2 T1
      refine ⟨nI (kal t2), Z, T9, A', D2, V, some (D' 29), ?_, ?_, t2, ⟨l2, i2, l4, ?_, ?_⟩, by rw [l1 1 (by decide)]; exact hs, hr, hp, hz, hk⟩
      · refine ob a6 ?_
        rw [if_pos rfl]
        refine ob fw ?_
        rw [if_pos z]
        exact ob i1 (ob (pc_kal i2 l2) rfl)
      · refine ob a7 ?_
        show (if (0 : Int32) = 0 then (if nI s < 0 ∨ 8 ≤ (nI s).toNatClampNeg then _ else _) else _) = _
        rw [if_pos rfl, if_neg (in8 hs8), nI_clamp (show s < 2 ^ 31 by omega)]
        refine ob e2 ?_
        rw [if_pos z]
        exact ob x2 (ob (pm_kal l4 l2) rfl)
      · rw [i3, y1 5 (by decide), b3, y2 18 (by decide)]; exact ht.2.2.2.1
      · rw [i4, y1 6 (by decide), b4, y2 19 (by decide)]; exact ht.2.2.2.2
    · refine ⟨(-5 : Int32), rz Z 3, T1, A', U, rv V 3, some (D' 29), ?_, ?_, h.ref (by decide)⟩
      · refine ob a6 ?_
        rw [if_pos rfl]
        refine ob fw ?_
        rw [if_neg z]
        exact ob (rc5 _ _ _ _ _ _ _ _) rfl
      · refine ob a7 ?_
        show (if (0 : Int32) = 0 then (if nI s < 0 ∨ 8 ≤ (nI s).toNatClampNeg then _ else _) else _) = _
        rw [if_pos rfl, if_neg (in8 hs8), nI_clamp (show s < 2 ^ 31 by omega)]
        refine ob e2 ?_
        rw [if_neg z]
        exact ob (rm5 _ _ _) rfl
theorem op_falsely (h : Rl Z T1 T2 G R P U V R' ku) (T3 O B : TS) (M : LTS) (p1 : Int32) (p2 : Int32) : ∃ a Z' V', f_X6_falsely Z T1 T2 T3 G R P O B p1 p2 = some (a, Z') ∧ f_X7_falsely U V M R' p1 p2 = some (a, V') ∧ Rl Z' T1 T2 G R P U V' R' ku := by
  obtain ⟨t, ht, hs, hr, hp, hz, hk⟩ := id h
  rcases ms_c (Z := Z) ht hs hr p1 p2 T2 T3 P O B M with ⟨c, hc, a6, a7⟩ | ⟨s, m, l, hs8, rfl, rfl, hl, hm, eG, hh, a6, a7⟩
  · refine ⟨nm c, rz Z c, rv V c, ?_, ?_, h.ref (by omega)⟩
    · refine ob a6 ?_
      rw [if_neg (nm_ne c (by omega))]
      exact ob (rcn hc _ _ _ _ _ _ _ _) rfl
    · exact ob a7 (if_neg (nm_ne c (by omega)))
  · obtain ⟨a, b6, b7⟩ := both_false ht hr hs8 hm hl eG hh T3
    refine ⟨a, Z, V, ?_, ?_, h⟩
    · refine ob a6 ?_
      rw [if_pos rfl]
      exact ob b6 rfl
    · refine ob a7 ?_
      show (if (0 : Int32) = 0 then _ else _) = _
      rw [if_pos rfl]
      exact ob b7 rfl
theorem op_surely (h : Rl Z T1 T2 G R P U V R' ku) (T3 O B : TS) (M : LTS) (p1 : Int32) (p2 : Int32) (p3 : Int32) : ∃ a Z' V', f_X6_surely Z T1 T2 T3 G R P O B p1 p2 p3 = some (a, Z') ∧ f_X7_surely U V M R' p1 p2 p3 = some (a, V') ∧ Rl Z' T1 T2 G R P U V' R' ku := by
  obtain ⟨t, ht, hs, hr, hp, hz, hk⟩ := id h
  rcases sgt_c ht p3 with ⟨y, hy, rfl, g0, m0⟩ | ⟨g0, m0⟩
  rotate_left
  · refine ⟨(-2 : Int32), rz Z 0, rv V 0, ?_, ?_, h.ref (by decide)⟩
    · unfold f_X6_surely
      rw [if_pos g0, if_neg (by decide)]
      exact ob (rc2 _ _ _ _ _ _ _ _) rfl
    · unfold f_X7_surely
      rw [if_pos m0]
      exact ob (rm2 _ _ _) rfl
  have h8 := ht.1.1.2.1
  unfold f_X6_surely f_X7_surely
  rw [if_neg g0, if_neg m0]
  rcases ms_c (Z := Z) ht hs hr p1 p2 T2 T3 P O B M with ⟨c, hc, a6, a7⟩ | ⟨s, m, l, hs8, rfl, rfl, hl, hm, eG, hh, a6, a7⟩
  · refine ⟨nm c, rz Z c, rv V c, ?_, ?_, h.ref (by omega)⟩
    · refine ob a6 ?_
      rw [if_neg (nm_ne c (by omega))]
      exact ob (rcn hc _ _ _ _ _ _ _ _) rfl
    · exact ob a7 (if_neg (nm_ne c (by omega)))
  · refine ⟨nI (sil t R s l y) &&& nI (bad t y), Z, V, ?_, ?_, h⟩
    · refine ob a6 ?_
      rw [if_pos rfl]
      exact ob (pc_sil ht.2.1 ht.1 hs8 hm hl eG hh T3) (ob (pc_bad ht.2.1 ht.1 (by omega)) rfl)
    · refine ob a7 ?_
      show (if (0 : Int32) = 0 then _ else _) = _
      rw [if_pos rfl]
      exact ob (pm_sil ht.2.2.1 ht.1 hr hs8 hm hl hh V M) (ob (pm_bad ht.2.2.1 ht.1 (by omega)) rfl)
theorem op_free (h : Rl Z T1 T2 G R P U V R' ku) (T3 O B : TS) (M : LTS) (tp : Option (Nat → Int32)) (p1 : Int32) (p2 : Int32) (p3 : Int32) : ∃ a Z' T3' V' tp', f_X6_free Z T1 T2 T3 G R P O B p1 p2 p3 = some (a, Z', T3') ∧ f_X7_free U V M R' tp p1 p2 p3 = some (a, V', tp') ∧ Rl Z' T1 T2 G R P U V' R' ku := by
  obtain ⟨t, ht, hs, hr, hp, hz, hk⟩ := id h
  rcases sgt_c ht p3 with ⟨y, hy, rfl, g0, m0⟩ | ⟨g0, m0⟩
  rotate_left
  · refine ⟨(-2 : Int32), rz Z 0, T3, rv V 0, tp, ?_, ?_, h.ref (by decide)⟩
    · unfold f_X6_free
      rw [if_pos g0, if_neg (by decide)]
      exact ob (rc2 _ _ _ _ _ _ _ _) rfl
    · unfold f_X7_free
      rw [if_pos m0]
      exact ob (rm2 _ _ _) rfl
  have h8 := ht.1.1.2.1
  unfold f_X6_free f_X7_free
  rw [if_neg g0, if_neg m0]
  rcases ms_c (Z := Z) ht hs hr p1 p2 T2 T3 P O B M with ⟨c, hc, a6, a7⟩ | ⟨s, m, l, hs8, rfl, rfl, hl, hm, eG, hh, a6, a7⟩
  · refine ⟨nm c, rz Z c, T3, rv V c, tp, ?_, ?_, h.ref (by omega)⟩
    · refine ob a6 ?_
      rw [if_neg (nm_ne c (by omega))]
      exact ob (rcn hc _ _ _ _ _ _ _ _) rfl
    · exact ob a7 (if_neg (nm_ne c (by omega)))
  · obtain ⟨T0, b1, b2, b3, b4⟩ := pc_become ht.2.1 ht.1 T3
    obtain ⟨A', D', t', e1, e2, k1, k2, k3, k4⟩ := both_free ht hr hs8 hm hl eG hh b2 (fr0_tm ht.2.2.1 tp)
    refine ⟨(nI (sil t R s l y) &&& (nI (bad t y) ^^^ (-1 : Int32))) &&& nI (mou t' y), Z, A', V, some (D' 29), ?_, ?_, h⟩
    · refine ob a6 ?_
      rw [if_pos rfl]
      refine ob (pc_sil ht.2.1 ht.1 hs8 hm hl eG hh T3) (ob (pc_bad ht.2.1 ht.1 (by omega)) ?_)
      exact ob (q := (nI (mou t' y), A')) (ob b1 (ob e1 (ob (pc_mou k3 k2 (by omega)) rfl))) rfl
    · refine ob a7 ?_
      show (if (0 : Int32) = 0 then _ else _) = _
      rw [if_pos rfl]
      exact ob e2 (ob (pm_sil ht.2.2.1 ht.1 hr hs8 hm hl hh V M) (ob (pm_bad ht.2.2.1 ht.1 (by omega)) (ob (pm_mou k4 k2 (by omega)) rfl)))
end EV
