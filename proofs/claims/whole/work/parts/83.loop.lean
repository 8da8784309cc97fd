theorem and63 (x : Int32) : ∃ j : Nat, j < 64 ∧ x &&& (63 : Int32) = nI j := by
  refine ⟨x.toBitVec.toNat % 64, Nat.mod_lt _ (by decide), ?_⟩
  apply Int32.toBitVec_inj.mp
  apply BitVec.eq_of_toNat_eq
  rw [Int32.toBitVec_and, BitVec.toNat_and]
  show x.toBitVec.toNat &&& 63 = (x.toBitVec.toNat % 64) % 2 ^ 32
  rw [Nat.mod_eq_of_lt (Nat.lt_trans (Nat.mod_lt _ (by decide)) (by decide : 64 < 2 ^ 32))]
  exact Nat.and_two_pow_sub_one_eq_mod _ 6
theorem gt_len {i L : Nat} (hL : L ≤ 3072) (hi : i ≤ 4000) : (Int32.ofNat L - (6 : Int32) < nI i) ↔ L < i + 6 := by
  rcases Nat.lt_or_ge L 6 with h | h
  · refine ⟨fun _ => by omega, fun _ => ?_⟩
    have h0 : (0 : Int32) ≤ nI i := nI_pos' (by omega)
    have h1 : Int32.ofNat L - (6 : Int32) < 0 := by
      have : ∀ k, k < 6 → Int32.ofNat k - (6 : Int32) < 0 := by decide
      exact this L h
    exact Int32.lt_of_lt_of_le h1 h0
  · obtain ⟨k, rfl⟩ : ∃ k, L = k + 6 := ⟨L - 6, by omega⟩
    have e : Int32.ofNat (k + 6) - (6 : Int32) = nI k := by
      have := nI_add k 6
      show nI (k + 6) - nI 6 = nI k
      rw [← this]
      exact Int32.add_sub_cancel _ _
    rw [e, nI_ltI (by omega) (by omega)]
    omega
section LOOP
variable {p : Program} {l : Launch} {e : Env} {s : State} {m : MethodId} {below : List Frame} {meth : Method} {c : Code} {Q : State → Prop} {bS L : Nat} {xs : Nat → Int32} {g : Gm} {A : Nat → Prop} {k : SgT} {a : Nat → Nat → Nat} {b : Nat → Nat}
set_option maxRecDepth 100000 in
theorem law_body (cx : LC p s m c bS L xs g A k) {i cells slots : Nat} (hi : i + 6 ≤ L) (hcs : cells + 28 ≤ 600000 ∧ slots + 759 ≤ 7302249) (hgo : LGo p l e s m below meth c bS Q g A a b 1909 i (cells + 28) (slots + 759)) : LGo p l e s m below meth c bS Q g A a b 27 i cells slots := by
  intro Z T1 T2 T3 G R P O B U V M R' kt t H locs ls h hw hl
  obtain ⟨⟨hx, hb, hml, hown, hts⟩, ⟨hX, hbl, hbA, hL⟩, hK, hA, hSg⟩ := id cx
  refine lv_aload_n hx hb dL_law_27 rfl (lv_at hl 1 rfl) ?_
  refine lv_iload_n hx hb dL_law_28 rfl (lv_at hl 0 rfl) ?_
  refine va_sld hx hb hX hbl hbA hw.2.2 (nI_in (show i < L by omega) (by omega)) dL_law_29 ?_
  refine lv_bipush (v := (63 : Int32)) hx hb dL_law_30 (by decide) ?_
  refine lv_iand hx hb dL_law_32 ?_
  have hi5 : i + 5 < L := by omega
  obtain ⟨j, hj, hjx⟩ := and63 (xs (nI i).toNatClampNeg)
  match j, hj, hjx with
  | 0, _, hjx =>
    rw [hjx]
    exact lv_tableIn (tgt := 264) hx hb dL_law_33 (off := 231) (by decide) (by decide) (by decide) (by decide) (law_row cx hi5 hcs hgo Z T1 T2 T3 G R P O B U V M R' kt t H locs ls h hw hl)
  | 1, _, hjx =>
    rw [hjx]
    exact lv_tableIn (tgt := 307) hx hb dL_law_33 (off := 274) (by decide) (by decide) (by decide) (by decide) (law_set cx hi5 hcs hgo Z T1 T2 T3 G R P O B U V M R' kt t H locs ls h hw hl)
  | 2, _, hjx =>
    rw [hjx]
    exact lv_tableIn (tgt := 380) hx hb dL_law_33 (off := 347) (by decide) (by decide) (by decide) (by decide) (law_copy cx hi5 hcs hgo Z T1 T2 T3 G R P O B U V M R' kt t H locs ls h hw hl)
  | 3, _, hjx =>
    rw [hjx]
    exact lv_tableIn (tgt := 443) hx hb dL_law_33 (off := 410) (by decide) (by decide) (by decide) (by decide) (law_element cx hi5 hcs hgo Z T1 T2 T3 G R P O B U V M R' kt t H locs ls h hw hl)
  | 4, _, hjx =>
    rw [hjx]
    exact lv_tableIn (tgt := 477) hx hb dL_law_33 (off := 444) (by decide) (by decide) (by decide) (by decide) (law_holds cx hi5 hcs hgo Z T1 T2 T3 G R P O B U V M R' kt t H locs ls h hw hl)
  | 5, _, hjx =>
    rw [hjx]
    exact lv_tableIn (tgt := 500) hx hb dL_law_33 (off := 467) (by decide) (by decide) (by decide) (by decide) (law_show cx hi5 hcs hgo Z T1 T2 T3 G R P O B U V M R' kt t H locs ls h hw hl)
  | 6, _, hjx =>
    rw [hjx]
    exact lv_tableIn (tgt := 533) hx hb dL_law_33 (off := 500) (by decide) (by decide) (by decide) (by decide) (law_says cx hi5 hcs hgo Z T1 T2 T3 G R P O B U V M R' kt t H locs ls h hw hl)
  | 7, _, hjx =>
    rw [hjx]
    exact lv_tableIn (tgt := 566) hx hb dL_law_33 (off := 533) (by decide) (by decide) (by decide) (by decide) (law_sights cx hi5 hcs hgo Z T1 T2 T3 G R P O B U V M R' kt t H locs ls h hw hl)
  | 8, _, hjx =>
    rw [hjx]
    exact lv_tableIn (tgt := 589) hx hb dL_law_33 (off := 556) (by decide) (by decide) (by decide) (by decide) (law_person cx hi5 hcs hgo Z T1 T2 T3 G R P O B U V M R' kt t H locs ls h hw hl)
  | 9, _, hjx =>
    rw [hjx]
    exact lv_tableIn (tgt := 622) hx hb dL_law_33 (off := 589) (by decide) (by decide) (by decide) (by decide) (law_see cx hi5 hcs hgo Z T1 T2 T3 G R P O B U V M R' kt t H locs ls h hw hl)
  | 10, _, hjx =>
    rw [hjx]
    exact lv_tableIn (tgt := 665) hx hb dL_law_33 (off := 632) (by decide) (by decide) (by decide) (by decide) (law_hear cx hi5 hcs hgo Z T1 T2 T3 G R P O B U V M R' kt t H locs ls h hw hl)
  | 11, _, hjx =>
    rw [hjx]
    exact lv_tableIn (tgt := 724) hx hb dL_law_33 (off := 691) (by decide) (by decide) (by decide) (by decide) (law_near cx hi5 hcs hgo Z T1 T2 T3 G R P O B U V M R' kt t H locs ls h hw hl)
  | 12, _, hjx =>
    rw [hjx]
    exact lv_tableIn (tgt := 783) hx hb dL_law_33 (off := 750) (by decide) (by decide) (by decide) (by decide) (law_ask cx hi5 hcs hgo Z T1 T2 T3 G R P O B U V M R' kt t H locs ls h hw hl)
  | 13, _, hjx =>
    rw [hjx]
    exact lv_tableIn (tgt := 816) hx hb dL_law_33 (off := 783) (by decide) (by decide) (by decide) (by decide) (law_feed cx hi5 hcs hgo Z T1 T2 T3 G R P O B U V M R' kt t H locs ls h hw hl)
  | 14, _, hjx =>
    rw [hjx]
    exact lv_tableIn (tgt := 839) hx hb dL_law_33 (off := 806) (by decide) (by decide) (by decide) (by decide) (law_wipe cx hi5 hcs hgo Z T1 T2 T3 G R P O B U V M R' kt t H locs ls h hw hl)
  | 15, _, hjx =>
    rw [hjx]
    exact lv_tableIn (tgt := 852) hx hb dL_law_33 (off := 819) (by decide) (by decide) (by decide) (by decide) (law_town cx hi5 hcs hgo Z T1 T2 T3 G R P O B U V M R' kt t H locs ls h hw hl)
  | 16, _, hjx =>
    rw [hjx]
    exact lv_tableIn (tgt := 865) hx hb dL_law_33 (off := 832) (by decide) (by decide) (by decide) (by decide) (law_personOf cx hi5 hcs hgo Z T1 T2 T3 G R P O B U V M R' kt t H locs ls h hw hl)
  | 17, _, hjx =>
    rw [hjx]
    exact lv_tableIn (tgt := 898) hx hb dL_law_33 (off := 865) (by decide) (by decide) (by decide) (by decide) (law_may cx hi5 hcs hgo Z T1 T2 T3 G R P O B U V M R' kt t H locs ls h hw hl)
  | 18, _, hjx =>
    rw [hjx]
    exact lv_tableIn (tgt := 931) hx hb dL_law_33 (off := 898) (by decide) (by decide) (by decide) (by decide) (law_mouths cx hi5 hcs hgo Z T1 T2 T3 G R P O B U V M R' kt t H locs ls h hw hl)
  | 19, _, hjx =>
    rw [hjx]
    exact lv_tableIn (tgt := 954) hx hb dL_law_33 (off := 921) (by decide) (by decide) (by decide) (by decide) (law_say cx hi5 hcs hgo Z T1 T2 T3 G R P O B U V M R' kt t H locs ls h hw hl)
  | 20, _, hjx =>
    rw [hjx]
    exact lv_tableIn (tgt := 987) hx hb dL_law_33 (off := 954) (by decide) (by decide) (by decide) (by decide) (law_sign cx hi5 hcs hgo Z T1 T2 T3 G R P O B U V M R' kt t H locs ls h hw hl)
  | 21, _, hjx =>
    rw [hjx]
    exact lv_tableIn (tgt := 1030) hx hb dL_law_33 (off := 997) (by decide) (by decide) (by decide) (by decide) (law_known cx hi5 hcs hgo Z T1 T2 T3 G R P O B U V M R' kt t H locs ls h hw hl)
  | 22, _, hjx =>
    rw [hjx]
    exact lv_tableIn (tgt := 1043) hx hb dL_law_33 (off := 1010) (by decide) (by decide) (by decide) (by decide) (law_spread cx hi5 hcs hgo Z T1 T2 T3 G R P O B U V M R' kt t H locs ls h hw hl)
  | 23, _, hjx =>
    rw [hjx]
    exact lv_tableIn (tgt := 1076) hx hb dL_law_33 (off := 1043) (by decide) (by decide) (by decide) (by decide) (law_knownBy cx hi5 hcs hgo Z T1 T2 T3 G R P O B U V M R' kt t H locs ls h hw hl)
  | 24, _, hjx =>
    rw [hjx]
    exact lv_tableIn (tgt := 1099) hx hb dL_law_33 (off := 1066) (by decide) (by decide) (by decide) (by decide) (law_rounds cx hi5 hcs hgo Z T1 T2 T3 G R P O B U V M R' kt t H locs ls h hw hl)
  | 25, _, hjx =>
    rw [hjx]
    exact lv_tableIn (tgt := 1112) hx hb dL_law_33 (off := 1079) (by decide) (by decide) (by decide) (by decide) (law_never cx hi5 hcs hgo Z T1 T2 T3 G R P O B U V M R' kt t H locs ls h hw hl)
  | 26, _, hjx =>
    rw [hjx]
    exact lv_tableIn (tgt := 1135) hx hb dL_law_33 (off := 1102) (by decide) (by decide) (by decide) (by decide) (law_when cx hi5 hcs hgo Z T1 T2 T3 G R P O B U V M R' kt t H locs ls h hw hl)
  | 27, _, hjx =>
    rw [hjx]
    exact lv_tableIn (tgt := 1168) hx hb dL_law_33 (off := 1135) (by decide) (by decide) (by decide) (by decide) (law_stop cx hi5 hcs hgo Z T1 T2 T3 G R P O B U V M R' kt t H locs ls h hw hl)
  | 28, _, hjx =>
    rw [hjx]
    exact lv_tableIn (tgt := 1201) hx hb dL_law_33 (off := 1168) (by decide) (by decide) (by decide) (by decide) (law_first cx hi5 hcs hgo Z T1 T2 T3 G R P O B U V M R' kt t H locs ls h hw hl)
  | 29, _, hjx =>
    rw [hjx]
    exact lv_tableIn (tgt := 1234) hx hb dL_law_33 (off := 1201) (by decide) (by decide) (by decide) (by decide) (law_order cx hi5 hcs hgo Z T1 T2 T3 G R P O B U V M R' kt t H locs ls h hw hl)
  | 30, _, hjx =>
    rw [hjx]
    exact lv_tableIn (tgt := 1257) hx hb dL_law_33 (off := 1224) (by decide) (by decide) (by decide) (by decide) (law_worth cx hi5 hcs hgo Z T1 T2 T3 G R P O B U V M R' kt t H locs ls h hw hl)
  | 31, _, hjx =>
    rw [hjx]
    exact lv_tableIn (tgt := 1290) hx hb dL_law_33 (off := 1257) (by decide) (by decide) (by decide) (by decide) (law_chain cx hi5 hcs hgo Z T1 T2 T3 G R P O B U V M R' kt t H locs ls h hw hl)
  | 32, _, hjx =>
    rw [hjx]
    exact lv_tableIn (tgt := 1333) hx hb dL_law_33 (off := 1300) (by decide) (by decide) (by decide) (by decide) (law_pairs cx hi5 hcs hgo Z T1 T2 T3 G R P O B U V M R' kt t H locs ls h hw hl)
  | 33, _, hjx =>
    rw [hjx]
    exact lv_tableIn (tgt := 1346) hx hb dL_law_33 (off := 1313) (by decide) (by decide) (by decide) (by decide) (law_mouthsBy cx hi5 hcs hgo Z T1 T2 T3 G R P O B U V M R' kt t H locs ls h hw hl)
  | 34, _, hjx =>
    rw [hjx]
    exact lv_tableIn (tgt := 1379) hx hb dL_law_33 (off := 1346) (by decide) (by decide) (by decide) (by decide) (law_alone cx hi5 hcs hgo Z T1 T2 T3 G R P O B U V M R' kt t H locs ls h hw hl)
  | 35, _, hjx =>
    rw [hjx]
    exact lv_tableIn (tgt := 1392) hx hb dL_law_33 (off := 1359) (by decide) (by decide) (by decide) (by decide) (law_barred cx hi5 hcs hgo Z T1 T2 T3 G R P O B U V M R' kt t H locs ls h hw hl)
  | 36, _, hjx =>
    rw [hjx]
    exact lv_tableIn (tgt := 1415) hx hb dL_law_33 (off := 1382) (by decide) (by decide) (by decide) (by decide) (law_blind cx hi5 hcs hgo Z T1 T2 T3 G R P O B U V M R' kt t H locs ls h hw hl)
  | 37, _, hjx =>
    rw [hjx]
    exact lv_tableIn (tgt := 1448) hx hb dL_law_33 (off := 1415) (by decide) (by decide) (by decide) (by decide) (law_dusk cx hi5 hcs hgo Z T1 T2 T3 G R P O B U V M R' kt t H locs ls h hw hl)
  | 38, _, hjx =>
    rw [hjx]
    exact lv_tableIn (tgt := 1471) hx hb dL_law_33 (off := 1438) (by decide) (by decide) (by decide) (by decide) (law_loudest cx hi5 hcs hgo Z T1 T2 T3 G R P O B U V M R' kt t H locs ls h hw hl)
  | 39, _, hjx =>
    rw [hjx]
    exact lv_tableIn (tgt := 1484) hx hb dL_law_33 (off := 1451) (by decide) (by decide) (by decide) (by decide) (law_whom cx hi5 hcs hgo Z T1 T2 T3 G R P O B U V M R' kt t H locs ls h hw hl)
  | 40, _, hjx =>
    rw [hjx]
    exact lv_tableIn (tgt := 1517) hx hb dL_law_33 (off := 1484) (by decide) (by decide) (by decide) (by decide) (law_parts cx hi5 hcs hgo Z T1 T2 T3 G R P O B U V M R' kt t H locs ls h hw hl)
  | 41, _, hjx =>
    rw [hjx]
    exact lv_tableIn (tgt := 1560) hx hb dL_law_33 (off := 1527) (by decide) (by decide) (by decide) (by decide) (law_judge cx hi5 hcs hgo Z T1 T2 T3 G R P O B U V M R' kt t H locs ls h hw hl)
  | 42, _, hjx =>
    rw [hjx]
    exact lv_tableIn (tgt := 1593) hx hb dL_law_33 (off := 1560) (by decide) (by decide) (by decide) (by decide) (law_heard cx hi5 hcs hgo Z T1 T2 T3 G R P O B U V M R' kt t H locs ls h hw hl)
  | 43, _, hjx =>
    rw [hjx]
    exact lv_tableIn (tgt := 1636) hx hb dL_law_33 (off := 1603) (by decide) (by decide) (by decide) (by decide) (law_falsely cx hi5 hcs hgo Z T1 T2 T3 G R P O B U V M R' kt t H locs ls h hw hl)
  | 44, _, hjx =>
    rw [hjx]
    exact lv_tableIn (tgt := 1669) hx hb dL_law_33 (off := 1636) (by decide) (by decide) (by decide) (by decide) (law_surely cx hi5 hcs hgo Z T1 T2 T3 G R P O B U V M R' kt t H locs ls h hw hl)
  | 45, _, hjx =>
    rw [hjx]
    exact lv_tableIn (tgt := 1712) hx hb dL_law_33 (off := 1679) (by decide) (by decide) (by decide) (by decide) (law_free cx hi5 hcs hgo Z T1 T2 T3 G R P O B U V M R' kt t H locs ls h hw hl)
  | 46, _, hjx =>
    rw [hjx]
    exact lv_tableIn (tgt := 1755) hx hb dL_law_33 (off := 1722) (by decide) (by decide) (by decide) (by decide) (law_evening cx hi5 hcs hgo Z T1 T2 T3 G R P O B U V M R' kt t H locs ls h hw hl)
  | 47, _, hjx =>
    rw [hjx]
    exact lv_tableIn (tgt := 1788) hx hb dL_law_33 (off := 1755) (by decide) (by decide) (by decide) (by decide) (law_talk cx hi5 hcs hgo Z T1 T2 T3 G R P O B U V M R' kt t H locs ls h hw hl)
  | 48, _, hjx =>
    rw [hjx]
    exact lv_tableIn (tgt := 1811) hx hb dL_law_33 (off := 1778) (by decide) (by decide) (by decide) (by decide) (law_round cx hi5 hcs hgo Z T1 T2 T3 G R P O B U V M R' kt t H locs ls h hw hl)
  | 49, _, hjx =>
    rw [hjx]
    exact lv_tableIn (tgt := 1824) hx hb dL_law_33 (off := 1791) (by decide) (by decide) (by decide) (by decide) (law_night cx hi5 hcs hgo Z T1 T2 T3 G R P O B U V M R' kt t H locs ls h hw hl)
  | 50, _, hjx =>
    rw [hjx]
    exact lv_tableIn (tgt := 1837) hx hb dL_law_33 (off := 1804) (by decide) (by decide) (by decide) (by decide) (law_seed cx hi5 hcs hgo Z T1 T2 T3 G R P O B U V M R' kt t H locs ls h hw hl)
  | 51, _, hjx =>
    rw [hjx]
    exact lv_tableIn (tgt := 1860) hx hb dL_law_33 (off := 1827) (by decide) (by decide) (by decide) (by decide) (law_image cx hi5 hcs hgo Z T1 T2 T3 G R P O B U V M R' kt t H locs ls h hw hl)
  | 52, _, hjx =>
    rw [hjx]
    exact lv_tableIn (tgt := 1873) hx hb dL_law_33 (off := 1840) (by decide) (by decide) (by decide) (by decide) (law_back cx hi5 hcs hgo Z T1 T2 T3 G R P O B U V M R' kt t H locs ls h hw hl)
  | 53, _, hjx =>
    rw [hjx]
    exact lv_tableIn (tgt := 1886) hx hb dL_law_33 (off := 1853) (by decide) (by decide) (by decide) (by decide) (law_status cx hi5 hcs hgo Z T1 T2 T3 G R P O B U V M R' kt t H locs ls h hw hl)
  | j + 54, hj, hjx =>
    rw [hjx]
    refine lv_tableOut (tgt := 1909) hx hb dL_law_33 (Or.inr (by rw [nI_toInt (by omega)]; omega)) (by decide) ?_
    refine W.widen (k := cells + 28) (n := slots + 759) (by omega) (by omega) ?_
    exact hgo Z T1 T2 T3 G R P O B U V M R' kt t H locs ls h hw hl
set_option maxRecDepth 100000 in
theorem law_loop (cx : LC p s m c bS L xs g A k) (hend : ∀ i cells slots, cells ≤ 600000 → slots ≤ 7302249 → LGo p l e s m below meth c bS Q g A a b 1915 i cells slots) : ∀ (n i cells slots : Nat), i ≤ L → L < i + 6 * n + 6 → cells + 28 * n ≤ 600000 → slots + 759 * n ≤ 7302249 → LGo p l e s m below meth c bS Q g A a b 18 i cells slots := by
  obtain ⟨⟨hx, hb, hml, hown, hts⟩, ⟨hX, hbl, hbA, hL⟩, hK, hA, hSg⟩ := id cx
  intro n
  induction n with
  | zero =>
    intro i cells slots hi hn hc hs Z T1 T2 T3 G R P O B U V M R' kt t H locs ls h hw hl
    refine lv_iload_n hx hb dL_law_18 rfl (lv_at hl 0 rfl) ?_
    refine lv_aload_n hx hb dL_law_19 rfl (lv_at hl 1 rfl) ?_
    refine va_slen hx hb hX hbl hbA hw.2.2 dL_law_20 ?_
    refine lv_bipush (v := (6 : Int32)) hx hb dL_law_21 (by decide) ?_
    refine lv_isub hx hb dL_law_23 ?_
    refine lv_icmp_gt (tgt := 1915) hx hb dL_law_24 (by decide) (fun _ => ?_) (fun z => absurd ((gt_len hL (by omega)).mpr (by omega)) z)
    exact hend i cells slots (by omega) (by omega) Z T1 T2 T3 G R P O B U V M R' kt t H locs ls h hw hl
  | succ n ih =>
    intro i cells slots hi hn hc hs Z T1 T2 T3 G R P O B U V M R' kt t H locs ls h hw hl
    refine lv_iload_n hx hb dL_law_18 rfl (lv_at hl 0 rfl) ?_
    refine lv_aload_n hx hb dL_law_19 rfl (lv_at hl 1 rfl) ?_
    refine va_slen hx hb hX hbl hbA hw.2.2 dL_law_20 ?_
    refine lv_bipush (v := (6 : Int32)) hx hb dL_law_21 (by decide) ?_
    refine lv_isub hx hb dL_law_23 ?_
    refine lv_icmp_gt (tgt := 1915) hx hb dL_law_24 (by decide) (fun _ => ?_) (fun z => ?_)
    · exact hend i cells slots (by omega) (by omega) Z T1 T2 T3 G R P O B U V M R' kt t H locs ls h hw hl
    · have h6 : i + 6 ≤ L := by
        rcases Nat.lt_or_ge L (i + 6) with q | q
        · exact absurd ((gt_len hL (by omega)).mpr q) z
        · exact q
      refine law_body cx h6 ⟨by omega, by omega⟩ ?_ Z T1 T2 T3 G R P O B U V M R' kt t H locs ls h hw hl
      intro Z T1 T2 T3 G R P O B U V M R' kt t H locs ls h hw hl
      refine lv_iinc (v := nI (i + 6)) (lv' := [(3, .int (nI (i + 6))), (0, .ref bS), (1, .ref (a 0 0)), (2, .ref (b 0))]) hx hb dL_law_1909 hl (k := 0) rfl (nI_add i 6) (by decide) rfl (fun ls hl => ?_)
      refine lv_goto (tgt := 18) hx hb dL_law_1912 (by decide) ?_
      exact ih (i + 6) (cells + 28) (slots + 759) h6 (by omega) (by omega) (by omega) Z T1 T2 T3 G R P O B U V M R' kt t H locs ls h hw hl
end LOOP
