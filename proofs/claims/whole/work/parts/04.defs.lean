def f_X6_with (p0 : Int32) (p1 : Int32) (p2 : Int32) : Int32 :=
  (if p2 = 0 then (p0 &&& (((1 : Int32) <<< (p1 &&& 31)) ^^^ (-1 : Int32))) else (p0 ||| ((1 : Int32) <<< (p1 &&& 31))))
def L_X5_allBlind_4 (T0 : TS) : Nat → Int32 → Int32 → Option Int32
  | 0, _, _ => none
  | n + 1, v2_1, v1_2 =>
    if (T0 1 0) ≤ v2_1 then
      some v1_2
    else
      if v2_1 < 0 ∨ 7 ≤ (v2_1).toNatClampNeg then none else
      L_X5_allBlind_4 T0 n (v2_1 + (1 : Int32)) (f_X6_with v1_2 v2_1 (if ((T0 11) (v2_1).toNatClampNeg) = (4 : Int32) then (1 : Int32) else (0 : Int32)))
def f_X5_allBlind (T0 : TS) : Option Int32 :=
  (L_X5_allBlind_4 T0 300 (0 : Int32) (0 : Int32)).bind fun q3 =>
  some q3
def f_X5_allPeople (T0 : TS) : Int32 :=
  (((1 : Int32) <<< ((T0 1 0) &&& 31)) - (1 : Int32))
def f_X5_allSights (T0 : TS) : Int32 :=
  (((1 : Int32) <<< ((T0 0 0) &&& 31)) - (1 : Int32))
def f_X5_barredTo (T0 : TS) (p1 : Int32) : Option Int32 :=
  if (T0 2 0) = (1 : Int32) then
    if p1 < 0 ∨ 7 ≤ (p1).toNatClampNeg then none else
    some (((T0 7) (p1).toNatClampNeg) ||| ((T0 8) (p1).toNatClampNeg))
  else
    if p1 < 0 ∨ 7 ≤ (p1).toNatClampNeg then none else
    some ((T0 7) (p1).toNatClampNeg)
def f_X5_become (T0 : TS) (T1 : TS) : Option TS :=
  some (up (up (up (up (up (up (up (up (up (up (up (up (up T0 0 (fun _ => (T1 0 0))) 1 (fun _ => (T1 1 0))) 2 (fun _ => (T1 2 0))) 3 (fun _ => (T1 3 0))) 4 (fun _ => (T1 4 0))) 5 (fun _ => (T1 5 0))) 6 (fun _ => (T1 6 0))) 7 (va_cpy (T1 7) (T0 7) ((0 : Int32)).toNatClampNeg ((0 : Int32)).toNatClampNeg ((7 : Int32)).toNatClampNeg)) 8 (va_cpy (T1 8) (T0 8) ((0 : Int32)).toNatClampNeg ((0 : Int32)).toNatClampNeg ((7 : Int32)).toNatClampNeg)) 9 (va_cpy (T1 9) (T0 9) ((0 : Int32)).toNatClampNeg ((0 : Int32)).toNatClampNeg ((7 : Int32)).toNatClampNeg)) 10 (va_cpy (T1 10) (T0 10) ((0 : Int32)).toNatClampNeg ((0 : Int32)).toNatClampNeg ((7 : Int32)).toNatClampNeg)) 11 (va_cpy (T1 11) (T0 11) ((0 : Int32)).toNatClampNeg ((0 : Int32)).toNatClampNeg ((7 : Int32)).toNatClampNeg)) 12 (va_cpy (T1 12) (T0 12) ((0 : Int32)).toNatClampNeg ((0 : Int32)).toNatClampNeg ((7 : Int32)).toNatClampNeg))
def L_X5_cutOff_9 (p1 : Int32) : Nat → Int32 → TS → Option TS
  | 0, _, _ => none
  | n + 1, v2_2, TL3 =>
    if (TL3 1 0) ≤ v2_2 then
      some TL3
    else
      if v2_2 < 0 ∨ 7 ≤ (v2_2).toNatClampNeg then none else
      L_X5_cutOff_9 p1 n (v2_2 + (1 : Int32)) (up TL3 10 (upd (TL3 10) (v2_2).toNatClampNeg (f_X6_with ((TL3 10) (v2_2).toNatClampNeg) p1 (0 : Int32))))
def f_X5_cutOff (T0 : TS) (p1 : Int32) : Option TS :=
  if p1 < 0 ∨ 7 ≤ (p1).toNatClampNeg then none else
  (L_X5_cutOff_9 p1 300 (0 : Int32) (up T0 10 (upd (T0 10) (p1).toNatClampNeg (0 : Int32)))).bind fun q4 =>
  some q4
def f_X5_drawBelow (T0 : TS) (p1 : Int32) : Option (Int32 × TS) :=
  if p1 ≤ 0 then
    some ((0 : Int32), (up T0 6 (fun _ => (((T0 6 0) * (1103515245 : Int32)) + (12345 : Int32)))))
  else
    if p1 = 0 then none else
    some (((((((T0 6 0) * (1103515245 : Int32)) + (12345 : Int32))).toUInt32 >>> (((16 : Int32)).toUInt32 &&& Int32.toUInt32 31)).toInt32 - (((((T0 6 0) * (1103515245 : Int32)) + (12345 : Int32))).toUInt32 >>> (((16 : Int32)).toUInt32 &&& Int32.toUInt32 31)).toInt32 / p1 * p1), (up T0 6 (fun _ => (((T0 6 0) * (1103515245 : Int32)) + (12345 : Int32)))))
def f_X5_knownTo (T0 : TS) (p1 : Int32) : Option Int32 :=
  if p1 < 0 ∨ 7 ≤ (p1).toNatClampNeg then none else
  some ((((T0 7) (p1).toNatClampNeg) ||| ((T0 8) (p1).toNatClampNeg)) ||| ((T0 9) (p1).toNatClampNeg))
def f_X5_factOf (T0 : TS) (p1 : Int32) (p2 : Int32) : Option Int32 :=
  if p2 = (0 : Int32) then
    if p1 < 0 ∨ 7 ≤ (p1).toNatClampNeg then none else
    some ((T0 11) (p1).toNatClampNeg)
  else
  if p2 = (1 : Int32) then
    if p1 < 0 ∨ 7 ≤ (p1).toNatClampNeg then none else
    some ((T0 12) (p1).toNatClampNeg)
  else
  if p2 = (2 : Int32) then
    if p1 < 0 ∨ 7 ≤ (p1).toNatClampNeg then none else
    some ((T0 7) (p1).toNatClampNeg)
  else
  if p2 = (3 : Int32) then
    if p1 < 0 ∨ 7 ≤ (p1).toNatClampNeg then none else
    some ((T0 8) (p1).toNatClampNeg)
  else
  if p2 = (4 : Int32) then
    if p1 < 0 ∨ 7 ≤ (p1).toNatClampNeg then none else
    some ((T0 9) (p1).toNatClampNeg)
  else
  if p2 = (5 : Int32) then
    if p1 < 0 ∨ 7 ≤ (p1).toNatClampNeg then none else
    some ((T0 10) (p1).toNatClampNeg)
  else
  if p2 = (6 : Int32) then
    (f_X5_knownTo T0 p1).bind fun q9 =>
    some q9
  else
  (f_X5_barredTo T0 p1).bind fun q11 =>
  some q11
def L_X5_hearersOf_4 (T0 : TS) (p1 : Int32) : Nat → Int32 → Int32 → Option Int32
  | 0, _, _ => none
  | n + 1, v3_1, v2_2 =>
    if (T0 1 0) ≤ v3_1 then
      some v2_2
    else
      if v3_1 < 0 ∨ 7 ≤ (v3_1).toNatClampNeg then none else
      L_X5_hearersOf_4 T0 p1 n (v3_1 + (1 : Int32)) (f_X6_with v2_2 v3_1 (if (((T0 10) (v3_1).toNatClampNeg) &&& p1) = 0 then (0 : Int32) else (1 : Int32)))
def f_X5_hearersOf (T0 : TS) (p1 : Int32) : Option Int32 :=
  (L_X5_hearersOf_4 T0 p1 300 (0 : Int32) (0 : Int32)).bind fun q3 =>
  some q3
def f_X6_has (p0 : Int32) (p1 : Int32) : Int32 :=
  (if ((p0 >>> (p1 &&& 31)) &&& (1 : Int32)) = 0 then (0 : Int32) else (1 : Int32))
theorem bz_X6_has (p0 : Int32) (p1 : Int32) : f_X6_has p0 p1 = 0 ∨ f_X6_has p0 p1 = 1 := by
  obtain ⟨rr, hM⟩ : ∃ rr, f_X6_has p0 p1 = rr := ⟨_, rfl⟩
  rw [hM]
  rw [f_X6_has] at hM
  subst hM
  exact (by repeat (first | exact Or.inl rfl | exact Or.inr rfl | split))
def f_X5_howSeen (T0 : TS) (p1 : Int32) (p2 : Int32) : Option Int32 :=
  if p1 < 0 ∨ 7 ≤ (p1).toNatClampNeg then none else
  if (f_X6_has ((T0 7) (p1).toNatClampNeg) p2) = 0 then
    some (if (f_X6_has ((T0 8) (p1).toNatClampNeg) p2) = 0 then (0 : Int32) else (1 : Int32))
  else
    some (2 : Int32)
def f_X5_isFull (T0 : TS) : Int32 :=
  (if (T0 1 0) < (7 : Int32) then (0 : Int32) else (1 : Int32))
theorem bz_X5_isFull (T0 : TS) : f_X5_isFull T0 = 0 ∨ f_X5_isFull T0 = 1 := by
  obtain ⟨rr, hM⟩ : ∃ rr, f_X5_isFull T0 = rr := ⟨_, rfl⟩
  rw [hM]
  rw [f_X5_isFull] at hM
  subst hM
  exact (by repeat (first | exact Or.inl rfl | exact Or.inr rfl | split))
def f_X5_isOfKind (T0 : TS) (p1 : Int32) (p2 : Int32) : Option Int32 :=
  if p1 < 0 ∨ 7 ≤ (p1).toNatClampNeg then none else
  some (if p2 = ((T0 11) (p1).toNatClampNeg) then (1 : Int32) else (if p2 = 0 then (1 : Int32) else (if p2 = (2 : Int32) then (if ((T0 11) (p1).toNatClampNeg) = (3 : Int32) then (1 : Int32) else (0 : Int32)) else (0 : Int32))))
theorem bz_X5_isOfKind {T0 : TS} {p1 : Int32} {p2 : Int32} {q : Int32} (hM : f_X5_isOfKind T0 p1 p2 = some q) : q = 0 ∨ q = 1 := by
  rw [f_X5_isOfKind] at hM
  obtain ⟨k1, hM⟩ := ck hM
  obtain rfl := Option.some.inj hM
  exact (by repeat (first | exact Or.inl rfl | exact Or.inr rfl | split))
def f_X5_isOne (T0 : TS) (p1 : Int32) : Int32 :=
  (if p1 < 0 then (0 : Int32) else (if (T0 1 0) ≤ p1 then (0 : Int32) else (1 : Int32)))
theorem bz_X5_isOne (T0 : TS) (p1 : Int32) : f_X5_isOne T0 p1 = 0 ∨ f_X5_isOne T0 p1 = 1 := by
  obtain ⟨rr, hM⟩ : ∃ rr, f_X5_isOne T0 p1 = rr := ⟨_, rfl⟩
  rw [hM]
  rw [f_X5_isOne] at hM
  subst hM
  exact (by repeat (first | exact Or.inl rfl | exact Or.inr rfl | split))
def f_X5_isSight (T0 : TS) (p1 : Int32) : Int32 :=
  (if p1 < 0 then (0 : Int32) else (if (T0 0 0) ≤ p1 then (0 : Int32) else (1 : Int32)))
theorem bz_X5_isSight (T0 : TS) (p1 : Int32) : f_X5_isSight T0 p1 = 0 ∨ f_X5_isSight T0 p1 = 1 := by
  obtain ⟨rr, hM⟩ : ∃ rr, f_X5_isSight T0 p1 = rr := ⟨_, rfl⟩
  rw [hM]
  rw [f_X5_isSight] at hM
  subst hM
  exact (by repeat (first | exact Or.inl rfl | exact Or.inr rfl | split))
def f_X5_join (T0 : TS) (p1 : Int32) (p2 : Int32) : Option (Int32 × TS) :=
  if (T0 1 0) < 0 ∨ 7 ≤ ((T0 1 0)).toNatClampNeg then none else
  some ((T0 1 0), (up (up (up (up (up (up (up T0 11 (upd (T0 11) ((T0 1 0)).toNatClampNeg p1)) 12 (upd (T0 12) ((T0 1 0)).toNatClampNeg p2)) 7 (upd (T0 7) ((T0 1 0)).toNatClampNeg (0 : Int32))) 8 (upd (T0 8) ((T0 1 0)).toNatClampNeg (0 : Int32))) 9 (upd (T0 9) ((T0 1 0)).toNatClampNeg (0 : Int32))) 10 (upd (T0 10) ((T0 1 0)).toNatClampNeg (0 : Int32))) 1 (fun _ => ((T0 1 0) + (1 : Int32)))))
def f_X5_kindOf (T0 : TS) (p1 : Int32) : Option Int32 :=
  if p1 < 0 ∨ 7 ≤ (p1).toNatClampNeg then none else
  some ((T0 11) (p1).toNatClampNeg)
def bk1 (x : Int32) : Int32 := (x - (((x).toUInt32 >>> (((1 : Int32)).toUInt32 &&& Int32.toUInt32 31)).toInt32 &&& (1431655765 : Int32)))
def bk2 (x : Int32) : Int32 := ((x &&& (858993459 : Int32)) + (((x).toUInt32 >>> (((2 : Int32)).toUInt32 &&& Int32.toUInt32 31)).toInt32 &&& (858993459 : Int32)))
def bk3 (x : Int32) : Int32 := ((x + ((x).toUInt32 >>> (((4 : Int32)).toUInt32 &&& Int32.toUInt32 31)).toInt32) &&& (252645135 : Int32))
def bk4 (x : Int32) : Int32 := (x + ((x).toUInt32 >>> (((8 : Int32)).toUInt32 &&& Int32.toUInt32 31)).toInt32)
def bk5 (x : Int32) : Int32 := (x + ((x).toUInt32 >>> (((16 : Int32)).toUInt32 &&& Int32.toUInt32 31)).toInt32)
def f_J6_bitCount_0f7a4 (p0 : Int32) : Int32 :=
  ((bk5 (bk4 (bk3 (bk2 (bk1 p0))))) &&& (63 : Int32))
def L_X5_knownInAll_4 (T0 : TS) : Nat → Int32 → Int32 → Option Int32
  | 0, _, _ => none
  | n + 1, v2_1, v1_2 =>
    if (T0 1 0) ≤ v2_1 then
      some v1_2
    else
      (f_X5_knownTo T0 v2_1).bind fun q6 =>
      L_X5_knownInAll_4 T0 n (v2_1 + (1 : Int32)) (v1_2 + (f_J6_bitCount_0f7a4 q6))
def f_X5_knownInAll (T0 : TS) : Option Int32 :=
  (L_X5_knownInAll_4 T0 300 (0 : Int32) (0 : Int32)).bind fun q3 =>
  some q3
def f_X5_makeBlind (T0 : TS) (p1 : Int32) : Option TS :=
  if p1 < 0 ∨ 7 ≤ (p1).toNatClampNeg then none else
  some (up (up (up (up T0 9 (upd (T0 9) (p1).toNatClampNeg (((T0 9) (p1).toNatClampNeg) ||| (((T0 7) (p1).toNatClampNeg) ||| ((T0 8) (p1).toNatClampNeg))))) 7 (upd (T0 7) (p1).toNatClampNeg (0 : Int32))) 8 (upd (T0 8) (p1).toNatClampNeg (0 : Int32))) 11 (upd (T0 11) (p1).toNatClampNeg (4 : Int32)))
def f_X5_mostOf (p0 : Int32) : Int32 :=
  (if p0 = 0 then (1 : Int32) else (9 : Int32))
def L_X5_pairsHearing_14 (T0 : TS) (v2_1 : Int32) : Nat → Int32 → Int32 → Option Int32
  | 0, _, _ => none
  | n + 1, v3_5, v1_6 =>
    if v2_1 ≤ v3_5 then
      some v1_6
    else
      if v2_1 < 0 ∨ 7 ≤ (v2_1).toNatClampNeg then none else
      if (f_X6_has ((T0 10) (v2_1).toNatClampNeg) v3_5) = 0 then
        L_X5_pairsHearing_14 T0 v2_1 n (v3_5 + (1 : Int32)) v1_6
      else
        if v3_5 < 0 ∨ 7 ≤ (v3_5).toNatClampNeg then none else
        L_X5_pairsHearing_14 T0 v2_1 n (v3_5 + (1 : Int32)) (if (f_X6_has ((T0 10) (v3_5).toNatClampNeg) v2_1) = 0 then v1_6 else (v1_6 + (1 : Int32)))
def L_X5_pairsHearing_4 (T0 : TS) : Nat → Int32 → Int32 → Option Int32
  | 0, _, _ => none
  | n + 1, v2_1, v1_2 =>
    if (T0 1 0) ≤ v2_1 then
      some v1_2
    else
      (L_X5_pairsHearing_14 T0 v2_1 300 (0 : Int32) v1_2).bind fun q7 =>
      L_X5_pairsHearing_4 T0 n (v2_1 + (1 : Int32)) q7
def f_X5_pairsHearing (T0 : TS) : Option Int32 :=
  (L_X5_pairsHearing_4 T0 300 (0 : Int32) (0 : Int32)).bind fun q3 =>
  some q3
def L_X6_firstBits_7 (p1 : Int32) : Nat → Int32 → Int32 → Int32 → Option Int32
  | 0, _, _, _ => none
  | n + 1, v4_1, v3_2, v2_3 =>
    if p1 ≤ v4_1 then
      some v3_2
    else
      if v2_3 = 0 then
        some v3_2
      else
        L_X6_firstBits_7 p1 n (v4_1 + (1 : Int32)) (v3_2 ||| (v2_3 &&& (-v2_3))) (v2_3 &&& ((v2_3 &&& (-v2_3)) ^^^ (-1 : Int32)))
def f_X6_firstBits (p0 : Int32) (p1 : Int32) : Option Int32 :=
  (L_X6_firstBits_7 p1 300 (0 : Int32) (0 : Int32) p0).bind fun q4 =>
  some q4
def L_X5_passNight_12 : Nat → Int32 → TS → Option TS
  | 0, _, _ => none
  | n + 1, v1_1, TL2 =>
    if (TL2 1 0) ≤ v1_1 then
      some TL2
    else
      if v1_1 < 0 ∨ 7 ≤ (v1_1).toNatClampNeg then none else
      if ((TL2 11) (v1_1).toNatClampNeg) = (5 : Int32) then
        (f_X6_firstBits ((TL2 7) (v1_1).toNatClampNeg) (1 : Int32)).bind fun q8 =>
        L_X5_passNight_12 n (v1_1 + (1 : Int32)) (up (up TL2 7 (upd (TL2 7) (v1_1).toNatClampNeg (((TL2 7) (v1_1).toNatClampNeg) &&& (q8 ^^^ (-1 : Int32))))) 9 (upd (TL2 9) (v1_1).toNatClampNeg (((TL2 9) (v1_1).toNatClampNeg) ||| q8)))
      else
        L_X5_passNight_12 n (v1_1 + (1 : Int32)) (up (up TL2 7 (upd (TL2 7) (v1_1).toNatClampNeg (((TL2 7) (v1_1).toNatClampNeg) &&& ((0 : Int32) ^^^ (-1 : Int32))))) 9 (upd (TL2 9) (v1_1).toNatClampNeg (((TL2 9) (v1_1).toNatClampNeg) ||| (0 : Int32))))
def f_X5_passNight (T0 : TS) : Option TS :=
  (L_X5_passNight_12 300 (0 : Int32) (up T0 5 (fun _ => ((T0 5 0) + (1 : Int32))))).bind fun q3 =>
  some q3
def L_X5_vouchedFor_4 (T0 : TS) (p1 : Int32) : Nat → Int32 → Int32 → Option Int32
  | 0, _, _ => none
  | n + 1, v3_1, v2_2 =>
    if (T0 1 0) ≤ v3_1 then
      some v2_2
    else
      if p1 < 0 ∨ 7 ≤ (p1).toNatClampNeg then none else
      if (((T0 10) (p1).toNatClampNeg) &&& ((1 : Int32) <<< (v3_1 &&& 31))) = 0 then
        L_X5_vouchedFor_4 T0 p1 n (v3_1 + (1 : Int32)) v2_2
      else
        if v3_1 < 0 ∨ 7 ≤ (v3_1).toNatClampNeg then none else
        L_X5_vouchedFor_4 T0 p1 n (v3_1 + (1 : Int32)) (v2_2 ||| (((T0 9) (v3_1).toNatClampNeg) ||| ((T0 7) (v3_1).toNatClampNeg)))
def f_X5_vouchedFor (T0 : TS) (p1 : Int32) : Option Int32 :=
  (L_X5_vouchedFor_4 T0 p1 300 (0 : Int32) (0 : Int32)).bind fun q3 =>
  some q3
def f_X5_sayableBy (T0 : TS) (p1 : Int32) : Option Int32 :=
  (f_X5_barredTo T0 p1).bind fun q2 =>
  if p1 < 0 ∨ 7 ≤ (p1).toNatClampNeg then none else
  if ((T0 11) (p1).toNatClampNeg) = (1 : Int32) then
    (f_X5_vouchedFor T0 p1).bind fun q7 =>
    some ((((T0 9) (p1).toNatClampNeg) &&& ((f_X5_allSights T0) &&& (q2 ^^^ (-1 : Int32)))) &&& q7)
  else
  if ((T0 11) (p1).toNatClampNeg) = (2 : Int32) then
    some ((f_X5_allSights T0) &&& (q2 ^^^ (-1 : Int32)))
  else
  if ((T0 11) (p1).toNatClampNeg) = (3 : Int32) then
    (f_X6_firstBits q2 (T0 4 0)).bind fun q9 =>
    some (((f_X5_allSights T0) &&& (q2 ^^^ (-1 : Int32))) ||| q9)
  else
  some (((T0 9) (p1).toNatClampNeg) &&& ((f_X5_allSights T0) &&& (q2 ^^^ (-1 : Int32))))
def L_X5_tell_5 (p1 : Int32) (p2 : Int32) : Nat → Int32 → Int32 → TS → Option (Int32 × TS)
  | 0, _, _, _ => none
  | n + 1, v4_1, v3_2, TL3 =>
    if (TL3 1 0) ≤ v4_1 then
      some (v3_2, TL3)
    else
      if v4_1 < 0 ∨ 7 ≤ (v4_1).toNatClampNeg then none else
      if (f_X6_has ((TL3 10) (v4_1).toNatClampNeg) p1) = 0 then
        L_X5_tell_5 p1 p2 n (v4_1 + (1 : Int32)) v3_2 TL3
      else
        L_X5_tell_5 p1 p2 n (v4_1 + (1 : Int32)) (v3_2 + (f_J6_bitCount_0f7a4 (p2 &&& (((TL3 9) (v4_1).toNatClampNeg) ^^^ (-1 : Int32))))) (up TL3 9 (upd (TL3 9) (v4_1).toNatClampNeg (((TL3 9) (v4_1).toNatClampNeg) ||| p2)))
def f_X5_tell (T0 : TS) (p1 : Int32) (p2 : Int32) : Option (Int32 × TS) :=
  (L_X5_tell_5 p1 p2 300 (0 : Int32) (0 : Int32) T0).bind fun q4 =>
  some (q4.1, q4.2)
def L_X5_passSigns_14 (v2_1 : Int32) : Nat → Int32 → Int32 → TS → Option (Int32 × TS)
  | 0, _, _, _ => none
  | n + 1, v3_6, v1_7, TL8 =>
    if (TL8 1 0) ≤ v3_6 then
      some (v1_7, TL8)
    else
      if (TL8 3 0) ≤ v1_7 then
        some (v1_7, TL8)
      else
        if v3_6 < 0 ∨ 7 ≤ (v3_6).toNatClampNeg then none else
        if (f_X6_has ((TL8 10) (v3_6).toNatClampNeg) v2_1) = 0 then
          L_X5_passSigns_14 v2_1 n (v3_6 + (1 : Int32)) v1_7 TL8
        else
          if v2_1 < 0 ∨ 7 ≤ (v2_1).toNatClampNeg then none else
          (f_X6_firstBits (((TL8 7) (v2_1).toNatClampNeg) &&& (((TL8 9) (v3_6).toNatClampNeg) ^^^ (-1 : Int32))) ((TL8 3 0) - v1_7)).bind fun q17 =>
          L_X5_passSigns_14 v2_1 n (v3_6 + (1 : Int32)) (v1_7 + (f_J6_bitCount_0f7a4 q17)) (up TL8 9 (upd (TL8 9) (v3_6).toNatClampNeg (((TL8 9) (v3_6).toNatClampNeg) ||| q17)))
def L_X5_passSigns_4 : Nat → Int32 → Int32 → TS → Option (Int32 × TS)
  | 0, _, _, _ => none
  | n + 1, v2_1, v1_2, TL3 =>
    if (TL3 1 0) ≤ v2_1 then
      some (v1_2, TL3)
    else
      (L_X5_passSigns_14 v2_1 300 (0 : Int32) v1_2 TL3).bind fun q9 =>
      L_X5_passSigns_4 n (v2_1 + (1 : Int32)) q9.1 q9.2
def f_X5_passSigns (T0 : TS) : Option (Int32 × TS) :=
  (L_X5_passSigns_4 300 (0 : Int32) (0 : Int32) T0).bind fun q4 =>
  some (q4.1, q4.2)
def L_X5_passRound_2 : Nat → Int32 → TS → Option TS
  | 0, _, _ => none
  | n + 1, v1_1, TL2 =>
    if (TL2 1 0) ≤ v1_1 then
      some TL2
    else
      (f_X5_sayableBy TL2 v1_1).bind fun q6 =>
      if v1_1 < 0 ∨ 7 ≤ (v1_1).toNatClampNeg then none else
      L_X5_passRound_2 n (v1_1 + (1 : Int32)) (up TL2 13 (upd (TL2 13) (v1_1).toNatClampNeg q6))
def L_X5_passRound_31 : Nat → Int32 → Int32 → TS → Option (Int32 × TS)
  | 0, _, _, _ => none
  | n + 1, v2_8, v1_9, TL10 =>
    if (TL10 1 0) ≤ v2_8 then
      some (v1_9, TL10)
    else
      if v2_8 < 0 ∨ 7 ≤ (v2_8).toNatClampNeg then none else
      (f_X5_tell TL10 v2_8 ((TL10 13) (v2_8).toNatClampNeg)).bind fun q15 =>
      L_X5_passRound_31 n (v2_8 + (1 : Int32)) (v1_9 + q15.1) q15.2
def f_X5_passRound (T0 : TS) : Option (Int32 × TS) :=
  (L_X5_passRound_2 300 (0 : Int32) T0).bind fun q3 =>
  (L_X5_passRound_31 300 (0 : Int32) (0 : Int32) q3).bind fun q11 =>
  (f_X5_passSigns q11.2).bind fun q17 =>
  some ((if (q11.1 + q17.1) ≤ 0 then (0 : Int32) else (1 : Int32)), q17.2)
def L_X5_passRounds_4 (p1 : Int32) : Nat → Int32 → Int32 → TS → Option TS
  | 0, _, _, _ => none
  | n + 1, v3_1, v2_2, TL3 =>
    if p1 ≤ v3_1 then
      some TL3
    else
      if v2_2 = 0 then
        some TL3
      else
        (f_X5_passRound TL3).bind fun q8 =>
        L_X5_passRounds_4 p1 n (v3_1 + (1 : Int32)) q8.1 q8.2
def f_X5_passRounds (T0 : TS) (p1 : Int32) : Option TS :=
  (L_X5_passRounds_4 p1 300 (0 : Int32) (1 : Int32) T0).bind fun q4 =>
  some q4
def f_X5_putHeard (T0 : TS) (p1 : Int32) (p2 : Int32) (p3 : Int32) : Option TS :=
  if p1 < 0 ∨ 7 ≤ (p1).toNatClampNeg then none else
  some (up T0 9 (upd (T0 9) (p1).toNatClampNeg (f_X6_with ((T0 9) (p1).toNatClampNeg) p2 p3)))
def f_X5_putHears (T0 : TS) (p1 : Int32) (p2 : Int32) (p3 : Int32) : Option TS :=
  if p1 < 0 ∨ 7 ≤ (p1).toNatClampNeg then none else
  some (up T0 10 (upd (T0 10) (p1).toNatClampNeg (f_X6_with ((T0 10) (p1).toNatClampNeg) p2 p3)))
def f_X5_putSeen (T0 : TS) (p1 : Int32) (p2 : Int32) (p3 : Int32) : Option TS :=
  if p1 < 0 ∨ 7 ≤ (p1).toNatClampNeg then none else
  some (up (up T0 7 (upd (T0 7) (p1).toNatClampNeg (f_X6_with ((T0 7) (p1).toNatClampNeg) p2 (if p3 = (2 : Int32) then (1 : Int32) else (0 : Int32))))) 8 (upd (T0 8) (p1).toNatClampNeg (f_X6_with ((T0 8) (p1).toNatClampNeg) p2 (if p3 = (1 : Int32) then (1 : Int32) else (0 : Int32)))))
def f_X5_putSetting (T0 : TS) (p1 : Int32) (p2 : Int32) : Option TS :=
  if p1 = (0 : Int32) then
    some (up T0 2 (fun _ => p2))
  else
  if p1 = (1 : Int32) then
    some (up T0 3 (fun _ => p2))
  else
  some (up T0 4 (fun _ => p2))
def L_X5_sayByDraws_4 (p1 : Int32) : Nat → Int32 → Int32 → TS → Option (Int32 × TS)
  | 0, _, _, _ => none
  | n + 1, v3_1, v2_2, TL3 =>
    if p1 ≤ v3_1 then
      some (v2_2, TL3)
    else
      (f_X5_drawBelow TL3 (TL3 1 0)).bind fun q7 =>
      (f_X5_drawBelow q7.2 (q7.2 0 0)).bind fun q9 =>
      if (f_X5_isOne q9.2 q7.1) = 0 then
        L_X5_sayByDraws_4 p1 n (v3_1 + (1 : Int32)) v2_2 q9.2
      else
        (f_X5_sayableBy q9.2 q7.1).bind fun q13 =>
        if (f_X6_has q13 q9.1) = 0 then
          L_X5_sayByDraws_4 p1 n (v3_1 + (1 : Int32)) v2_2 q9.2
        else
          (f_X5_tell q9.2 q7.1 ((1 : Int32) <<< (q9.1 &&& 31))).bind fun q17 =>
          L_X5_sayByDraws_4 p1 n (v3_1 + (1 : Int32)) (v2_2 + (1 : Int32)) q17.2
def f_X5_sayByDraws (T0 : TS) (p1 : Int32) : Option (Int32 × TS) :=
  (L_X5_sayByDraws_4 p1 300 (0 : Int32) (0 : Int32) T0).bind fun q4 =>
  some (q4.1, q4.2)
def L_X6_firstOf_2 (p0 : Int32) : Nat → Int32 → Option (Int32 ⊕ Unit)
  | 0, _ => none
  | n + 1, v1_1 =>
    if (32 : Int32) ≤ v1_1 then
      some (.inr ())
    else
      if (f_X6_has p0 v1_1) = 0 then
        L_X6_firstOf_2 p0 n (v1_1 + (1 : Int32))
      else
        some (.inl v1_1)
def f_X6_firstOf (p0 : Int32) : Option Int32 :=
  (L_X6_firstOf_2 p0 300 (0 : Int32)).bind (eo fun q2x =>
  some (-1 : Int32))
def f_X5_sayingAs (T0 : TS) (p1 : Int32) (p2 : Int32) : Option Int32 :=
  if p2 = (1 : Int32) then
    if p1 < 0 ∨ 7 ≤ (p1).toNatClampNeg then none else
    some (f_J6_bitCount_0f7a4 ((T0 10) (p1).toNatClampNeg))
  else
  if p2 = (2 : Int32) then
    (f_X5_barredTo T0 p1).bind fun q5 =>
    some ((T0 0 0) - (f_J6_bitCount_0f7a4 q5))
  else
  if p2 = (3 : Int32) then
    (f_X5_barredTo T0 p1).bind fun q8 =>
    (f_X6_firstOf q8).bind fun q10 =>
    some q10
  else
  if p2 = (4 : Int32) then
    if p1 < 0 ∨ 7 ≤ (p1).toNatClampNeg then none else
    some (f_J6_bitCount_0f7a4 ((T0 9) (p1).toNatClampNeg))
  else
  if p2 = (5 : Int32) then
    if p1 < 0 ∨ 7 ≤ (p1).toNatClampNeg then none else
    (f_X6_firstOf ((T0 7) (p1).toNatClampNeg)).bind fun q15 =>
    some q15
  else
  (f_X5_sayableBy T0 p1).bind fun q17 =>
  some q17
def L_X5_whoIsBarred_4 (T0 : TS) (p1 : Int32) : Nat → Int32 → Int32 → Option Int32
  | 0, _, _ => none
  | n + 1, v3_1, v2_2 =>
    if (T0 1 0) ≤ v3_1 then
      some v2_2
    else
      (f_X5_barredTo T0 v3_1).bind fun q6 =>
      L_X5_whoIsBarred_4 T0 p1 n (v3_1 + (1 : Int32)) (f_X6_with v2_2 v3_1 (f_X6_has q6 p1))
def f_X5_whoIsBarred (T0 : TS) (p1 : Int32) : Option Int32 :=
  (L_X5_whoIsBarred_4 T0 p1 300 (0 : Int32) (0 : Int32)).bind fun q3 =>
  some q3
def L_X5_sayingsBetween_19 (T0 : TS) (p2 : Int32) (q2 : Int32) : Nat → Int32 → Int32 → Int32 → Option (Int32 ⊕ Unit)
  | 0, _, _, _ => none
  | n + 1, v7_3, v6_4, v5_5 =>
    if (T0 1 0) ≤ v7_3 then
      some (.inr ())
    else
      if (f_X6_has v5_5 p2) = 0 then
        (f_X5_hearersOf T0 v6_4).bind fun q11 =>
        L_X5_sayingsBetween_19 T0 p2 q2 n (v7_3 + (1 : Int32)) ((q11 &&& (v5_5 ^^^ (-1 : Int32))) &&& (q2 ^^^ (-1 : Int32))) (v5_5 ||| (q11 &&& (v5_5 ^^^ (-1 : Int32))))
      else
        some (.inl v7_3)
def f_X5_sayingsBetween (T0 : TS) (p1 : Int32) (p2 : Int32) (p3 : Int32) : Option Int32 :=
  (f_X5_whoIsBarred T0 p3).bind fun q2 =>
  (L_X5_sayingsBetween_19 T0 p2 q2 300 (0 : Int32) ((1 : Int32) <<< (p1 &&& 31)) ((1 : Int32) <<< (p1 &&& 31))).bind (eo fun q6x =>
  some (-1 : Int32))
def f_X5_settingOf (T0 : TS) (p1 : Int32) : Int32 :=
  if p1 = (0 : Int32) then
    (T0 2 0)
  else
  if p1 = (1 : Int32) then
    (T0 3 0)
  else
  (T0 4 0)
def L_X5_showTo_2 (p1 : Int32) (p2 : Int32) : Nat → Int32 → TS → Option TS
  | 0, _, _ => none
  | n + 1, v3_1, TL2 =>
    if (TL2 1 0) ≤ v3_1 then
      some TL2
    else
      if (f_X6_has p1 v3_1) = 0 then
        L_X5_showTo_2 p1 p2 n (v3_1 + (1 : Int32)) TL2
      else
        (f_X5_putSeen TL2 v3_1 p2 (2 : Int32)).bind fun q8 =>
        L_X5_showTo_2 p1 p2 n (v3_1 + (1 : Int32)) q8
def f_X5_showTo (T0 : TS) (p1 : Int32) (p2 : Int32) : Option TS :=
  (L_X5_showTo_2 p1 p2 300 (0 : Int32) T0).bind fun q3 =>
  some q3
def L_X5_whoIsUnheard_4 (T0 : TS) : Nat → Int32 → Int32 → Option Int32
  | 0, _, _ => none
  | n + 1, v2_1, v1_2 =>
    if (T0 1 0) ≤ v2_1 then
      some v1_2
    else
      if v2_1 < 0 ∨ 7 ≤ (v2_1).toNatClampNeg then none else
      L_X5_whoIsUnheard_4 T0 n (v2_1 + (1 : Int32)) (v1_2 ||| ((T0 10) (v2_1).toNatClampNeg))
def f_X5_whoIsUnheard (T0 : TS) : Option Int32 :=
  (L_X5_whoIsUnheard_4 T0 300 (0 : Int32) (0 : Int32)).bind fun q3 =>
  some ((f_X5_allPeople T0) &&& (q3 ^^^ (-1 : Int32)))
def L_X5_whoKnows_4 (T0 : TS) (p1 : Int32) : Nat → Int32 → Int32 → Option Int32
  | 0, _, _ => none
  | n + 1, v3_1, v2_2 =>
    if (T0 1 0) ≤ v3_1 then
      some v2_2
    else
      (f_X5_knownTo T0 v3_1).bind fun q6 =>
      L_X5_whoKnows_4 T0 p1 n (v3_1 + (1 : Int32)) (f_X6_with v2_2 v3_1 (f_X6_has q6 p1))
def f_X5_whoKnows (T0 : TS) (p1 : Int32) : Option Int32 :=
  (L_X5_whoKnows_4 T0 p1 300 (0 : Int32) (0 : Int32)).bind fun q3 =>
  some q3
def L_X5_whoMaySay_4 (T0 : TS) (p1 : Int32) : Nat → Int32 → Int32 → Option Int32
  | 0, _, _ => none
  | n + 1, v3_1, v2_2 =>
    if (T0 1 0) ≤ v3_1 then
      some v2_2
    else
      (f_X5_sayableBy T0 v3_1).bind fun q6 =>
      L_X5_whoMaySay_4 T0 p1 n (v3_1 + (1 : Int32)) (f_X6_with v2_2 v3_1 (f_X6_has q6 p1))
def f_X5_whoMaySay (T0 : TS) (p1 : Int32) : Option Int32 :=
  (L_X5_whoMaySay_4 T0 p1 300 (0 : Int32) (0 : Int32)).bind fun q3 =>
  some q3
def L_X5_whoMaySayMost_6 (T0 : TS) : Nat → Int32 → Int32 → Int32 → Option Int32
  | 0, _, _, _ => none
  | n + 1, v3_1, v2_2, v1_3 =>
    if (T0 1 0) ≤ v3_1 then
      some v1_3
    else
      (f_X5_sayableBy T0 v3_1).bind fun q7 =>
      L_X5_whoMaySayMost_6 T0 n (v3_1 + (1 : Int32)) (if (f_J6_bitCount_0f7a4 q7) ≤ v2_2 then v2_2 else (f_J6_bitCount_0f7a4 q7)) (if (f_J6_bitCount_0f7a4 q7) ≤ v2_2 then v1_3 else v3_1)
def f_X5_whoMaySayMost (T0 : TS) : Option Int32 :=
  (L_X5_whoMaySayMost_6 T0 300 (0 : Int32) (-1 : Int32) (-1 : Int32)).bind fun q4 =>
  some q4
def f_X3_copyElements (G0 : TS) (R0 : LTS) (p1 : Int32) (p2 : Int32) (p3 : Int32) (p4 : Int32) (p5 : Int32) : Option LTS :=
  if p1 < 0 ∨ 8 ≤ (p1).toNatClampNeg then none else
  if p2 < 0 ∨ 8 ≤ (p2).toNatClampNeg then none else
  if p3 < 0 ∨ p4 < 0 ∨ p5 < 0 ∨ 40 < (p3).toNatClampNeg + (p5).toNatClampNeg ∨ 40 < (p4).toNatClampNeg + (p5).toNatClampNeg then none else
  some (upL R0 (p2).toNatClampNeg (va_cpy (R0 (p1).toNatClampNeg) (R0 (p2).toNatClampNeg) (p3).toNatClampNeg (p4).toNatClampNeg (p5).toNatClampNeg))
def f_X6_isWithin (p0 : Int32) (p1 : Int32) (p2 : Int32) : Int32 :=
  (if p0 < p1 then (0 : Int32) else (if p2 < p0 then (0 : Int32) else (1 : Int32)))
theorem bz_X6_isWithin (p0 : Int32) (p1 : Int32) (p2 : Int32) : f_X6_isWithin p0 p1 p2 = 0 ∨ f_X6_isWithin p0 p1 p2 = 1 := by
  obtain ⟨rr, hM⟩ : ∃ rr, f_X6_isWithin p0 p1 p2 = rr := ⟨_, rfl⟩
  rw [hM]
  rw [f_X6_isWithin] at hM
  subst hM
  exact (by repeat (first | exact Or.inl rfl | exact Or.inr rfl | split))
def f_X6_isShelf (p0 : Int32) : Int32 :=
  (f_X6_isWithin p0 (0 : Int32) (7 : Int32))
theorem bz_X6_isShelf (p0 : Int32) : f_X6_isShelf p0 = 0 ∨ f_X6_isShelf p0 = 1 := by
  obtain ⟨rr, hM⟩ : ∃ rr, f_X6_isShelf p0 = rr := ⟨_, rfl⟩
  rw [hM]
  rw [f_X6_isShelf] at hM
  subst hM
  exact (bz_X6_isWithin p0 (0 : Int32) (7 : Int32))
def f_X3_elementOf (G0 : TS) (R0 : LTS) (p1 : Int32) (p2 : Int32) : Option Int64 :=
  if (f_X6_isShelf p1) = 0 then
    some (0 : Int64)
  else
    if p2 < 0 then
      some (0 : Int64)
    else
      if p1 < 0 ∨ 8 ≤ (p1).toNatClampNeg then none else
      if ((G0 1) (p1).toNatClampNeg) ≤ p2 then
        some (0 : Int64)
      else
        if p2 < 0 ∨ 40 ≤ (p2).toNatClampNeg then none else
        some ((R0 (p1).toNatClampNeg) (p2).toNatClampNeg)
def L_X3_isApart_12 (G0 : TS) (R0 : LTS) (p1 : Int32) (p3 : Int32) (p4 : Int32) (v5_1 : Int32) : Nat → Int32 → Option (Int32 ⊕ Unit)
  | 0, _ => none
  | n + 1, v6_4 =>
    if v5_1 ≤ v6_4 then
      some (.inr ())
    else
      (f_X3_elementOf G0 R0 p1 v5_1).bind fun q8 =>
      (f_X3_elementOf G0 R0 p1 v6_4).bind fun q10 =>
      if (lg_cmp ((q8 ^^^ q10) &&& ((p4).toInt64)) (0 : Int64)) = 0 then
        L_X3_isApart_12 G0 R0 p1 p3 p4 v5_1 n (v6_4 + (1 : Int32))
      else
        if (lg_cmp ((q8 ^^^ q10) &&& ((p3).toInt64)) (0 : Int64)) = 0 then
          some (.inl (0 : Int32))
        else
          L_X3_isApart_12 G0 R0 p1 p3 p4 v5_1 n (v6_4 + (1 : Int32))
def L_X3_isApart_3 (G0 : TS) (R0 : LTS) (p1 : Int32) (p2 : Int32) (p3 : Int32) (p4 : Int32) : Nat → Int32 → Option (Int32 ⊕ Unit)
  | 0, _ => none
  | n + 1, v5_1 =>
    if p2 ≤ v5_1 then
      some (.inr ())
    else
      (L_X3_isApart_12 G0 R0 p1 p3 p4 v5_1 300 (0 : Int32)).bind (eoS fun q5x =>
      L_X3_isApart_3 G0 R0 p1 p2 p3 p4 n (v5_1 + (1 : Int32)))
def f_X3_isApart (G0 : TS) (R0 : LTS) (p1 : Int32) (p2 : Int32) (p3 : Int32) (p4 : Int32) : Option Int32 :=
  (L_X3_isApart_3 G0 R0 p1 p2 p3 p4 300 (0 : Int32)).bind (eo fun q2x =>
  some (1 : Int32))
def L_X3_fewestApart_13 (G0 : TS) (R0 : LTS) (p1 : Int32) (p2 : Int32) (p3 : Int32) (v4_1 : Int32) : Nat → Int32 → Option (Int32 ⊕ Unit)
  | 0, _ => none
  | n + 1, v5_4 =>
    if p3 < v5_4 then
      some (.inr ())
    else
      if (f_J6_bitCount_0f7a4 v5_4) = v4_1 then
        (f_X3_isApart G0 R0 p1 p2 v5_4 p3).bind fun q10 =>
        if q10 = 0 then
          L_X3_fewestApart_13 G0 R0 p1 p2 p3 v4_1 n (v5_4 + (1 : Int32))
        else
          some (.inl v5_4)
      else
        L_X3_fewestApart_13 G0 R0 p1 p2 p3 v4_1 n (v5_4 + (1 : Int32))
def L_X3_fewestApart_3 (G0 : TS) (R0 : LTS) (p1 : Int32) (p2 : Int32) (p3 : Int32) : Nat → Int32 → Option (Int32 ⊕ Unit)
  | 0, _ => none
  | n + 1, v4_1 =>
    if (7 : Int32) ≤ v4_1 then
      some (.inr ())
    else
      (L_X3_fewestApart_13 G0 R0 p1 p2 p3 v4_1 300 (0 : Int32)).bind (eoS fun q5x =>
      L_X3_fewestApart_3 G0 R0 p1 p2 p3 n (v4_1 + (1 : Int32)))
def f_X3_fewestApart (G0 : TS) (R0 : LTS) (p1 : Int32) (p2 : Int32) (p3 : Int32) : Option Int32 :=
  (L_X3_fewestApart_3 G0 R0 p1 p2 p3 300 (0 : Int32)).bind (eo fun q2x =>
  some p3)
def L_X3_filled_4 (G0 : TS) : Nat → Int32 → Int32 → Option Int32
  | 0, _, _ => none
  | n + 1, v2_1, v1_2 =>
    if (8 : Int32) ≤ v2_1 then
      some v1_2
    else
      if v2_1 < 0 ∨ 8 ≤ (v2_1).toNatClampNeg then none else
      L_X3_filled_4 G0 n (v2_1 + (1 : Int32)) (if ((G0 0) (v2_1).toNatClampNeg) = (-1 : Int32) then v1_2 else (v1_2 + (1 : Int32)))
def f_X3_filled (G0 : TS) (R0 : LTS) : Option Int32 :=
  (L_X3_filled_4 G0 300 (0 : Int32) (0 : Int32)).bind fun q3 =>
  some q3
def f_X3_heldBy (G0 : TS) (R0 : LTS) (p1 : Int32) : Option Int32 :=
  if (f_X6_isShelf p1) = 0 then
    some (-1 : Int32)
  else
    if p1 < 0 ∨ 8 ≤ (p1).toNatClampNeg then none else
    some ((G0 0) (p1).toNatClampNeg)
def L_X3_keepPeopleBelow_2 (p1 : Int32) : Nat → Int32 → TS → Option TS
  | 0, _, _ => none
  | n + 1, v2_1, GL2 =>
    if (8 : Int32) ≤ v2_1 then
      some GL2
    else
      if v2_1 < 0 ∨ 8 ≤ (v2_1).toNatClampNeg then none else
      if ((GL2 0) (v2_1).toNatClampNeg) < ((10 : Int32) + p1) then
        L_X3_keepPeopleBelow_2 p1 n (v2_1 + (1 : Int32)) GL2
      else
        L_X3_keepPeopleBelow_2 p1 n (v2_1 + (1 : Int32)) (up GL2 0 (upd (GL2 0) (v2_1).toNatClampNeg (-1 : Int32)))
def f_X3_keepPeopleBelow (G0 : TS) (R0 : LTS) (p1 : Int32) : Option TS :=
  (L_X3_keepPeopleBelow_2 p1 300 (0 : Int32) G0).bind fun q3 =>
  some q3
def f_X3_lowestBits (p0 : Int32) (p1 : Int64) : Int64 :=
  if p0 = (0 : Int32) then
    ((((((p1).toInt32)).toInt8.toInt32)).toInt64)
  else
  if p0 = (1 : Int32) then
    ((((((p1).toInt32)).toInt16.toInt32)).toInt64)
  else
  if p0 = (2 : Int32) then
    ((((p1).toInt32)).toInt64)
  else
  if p0 = (3 : Int32) then
    p1
  else
  if p0 = (4 : Int32) then
    (if (lg_cmp p1 (0 : Int64)) = 0 then (0 : Int64) else (1 : Int64))
  else
  p1
def f_X3_putElement (G0 : TS) (R0 : LTS) (p1 : Int32) (p2 : Int32) (p3 : Int64) : Option LTS :=
  if p1 < 0 ∨ 8 ≤ (p1).toNatClampNeg then none else
  if p2 < 0 ∨ 40 ≤ (p2).toNatClampNeg then none else
  some (upL R0 (p1).toNatClampNeg (vp_updL (R0 (p1).toNatClampNeg) (p2).toNatClampNeg (f_X3_lowestBits ((G0 0) (p1).toNatClampNeg) p3)))
def f_X3_putOne (G0 : TS) (R0 : LTS) (p1 : Int32) (p2 : Int32) : Option TS :=
  if p1 < 0 ∨ 8 ≤ (p1).toNatClampNeg then none else
  some (up (up G0 0 (upd (G0 0) (p1).toNatClampNeg (if p2 = (-1 : Int32) then (-1 : Int32) else ((10 : Int32) + p2)))) 1 (upd (G0 1) (p1).toNatClampNeg (0 : Int32)))
def L_X3_putRow_17 (p1 : Int32) : Nat → Int32 → LTS → Option LTS
  | 0, _, _ => none
  | n + 1, v4_2, RL3 =>
    if (40 : Int32) ≤ v4_2 then
      some RL3
    else
      if v4_2 < 0 ∨ 40 ≤ (v4_2).toNatClampNeg then none else
      L_X3_putRow_17 p1 n (v4_2 + (1 : Int32)) (upL RL3 (p1).toNatClampNeg (vp_updL (RL3 (p1).toNatClampNeg) (v4_2).toNatClampNeg (0 : Int64)))
def f_X3_putRow (G0 : TS) (R0 : LTS) (p1 : Int32) (p2 : Int32) (p3 : Int32) : Option (TS × LTS) :=
  if p1 < 0 ∨ 8 ≤ (p1).toNatClampNeg then none else
  (L_X3_putRow_17 p1 300 (0 : Int32) R0).bind fun q4 =>
  some ((up (up G0 0 (upd (G0 0) (p1).toNatClampNeg p2)) 1 (upd (G0 1) (p1).toNatClampNeg p3)), q4)
def f_X3_sizeOf (G0 : TS) (R0 : LTS) (p1 : Int32) : Option Int32 :=
  if (f_X6_isShelf p1) = 0 then
    some (0 : Int32)
  else
    if p1 < 0 ∨ 8 ≤ (p1).toNatClampNeg then none else
    some ((G0 1) (p1).toNatClampNeg)
def f_X3_troubleWithRow (G0 : TS) (R0 : LTS) (p1 : Int32) (p2 : Int32) : Option Int32 :=
  if (f_X6_isShelf p1) = 0 then
    some (-2 : Int32)
  else
    if p1 < 0 ∨ 8 ≤ (p1).toNatClampNeg then none else
    if ((G0 0) (p1).toNatClampNeg) < (10 : Int32) then
      if ((G0 0) (p1).toNatClampNeg) = (-1 : Int32) then
        some (-4 : Int32)
      else
        some (if p2 ≤ ((G0 1) (p1).toNatClampNeg) then (0 : Int32) else (-2 : Int32))
    else
      some (-3 : Int32)
def f_X3_troubleWithRows (G0 : TS) (R0 : LTS) (p1 : Int32) (p2 : Int32) : Option Int32 :=
  if (f_X6_isShelf p1) = 0 then
    some (-2 : Int32)
  else
    if (f_X6_isShelf p2) = 0 then
      some (-2 : Int32)
    else
      if p1 < 0 ∨ 8 ≤ (p1).toNatClampNeg then none else
      if (10 : Int32) ≤ ((G0 0) (p1).toNatClampNeg) then
        some (-3 : Int32)
      else
        if p2 < 0 ∨ 8 ≤ (p2).toNatClampNeg then none else
        if ((G0 0) (p2).toNatClampNeg) < (10 : Int32) then
          if ((G0 0) (p1).toNatClampNeg) = (-1 : Int32) then
            some (-4 : Int32)
          else
            if ((G0 0) (p2).toNatClampNeg) = (-1 : Int32) then
              some (-4 : Int32)
            else
              some (if ((G0 0) (p1).toNatClampNeg) = ((G0 0) (p2).toNatClampNeg) then (0 : Int32) else (-3 : Int32))
        else
          some (-3 : Int32)
def f_X4_letterAt (P0 : TS) (p1 : Int32) : Option Int32 :=
  if p1 < 0 then
    some (-1 : Int32)
  else
    if (P0 0 0) ≤ p1 then
      some (-1 : Int32)
    else
      if (250 : Int32) ≤ p1 then
        some (-1 : Int32)
      else
        if p1 < 0 ∨ 250 ≤ (p1).toNatClampNeg then none else
        some ((P0 2) (p1).toNatClampNeg)
def f_X4_sortOf (p0 : Int32) : Int32 :=
  if p0 < (97 : Int32) then
    if p0 < (48 : Int32) then
      (if p0 = (59 : Int32) then (3 : Int32) else (4 : Int32))
    else
      if (57 : Int32) < p0 then
        (if p0 = (59 : Int32) then (3 : Int32) else (4 : Int32))
      else
        (2 : Int32)
  else
    if (122 : Int32) < p0 then
      if p0 < (48 : Int32) then
        (if p0 = (59 : Int32) then (3 : Int32) else (4 : Int32))
      else
        if (57 : Int32) < p0 then
          (if p0 = (59 : Int32) then (3 : Int32) else (4 : Int32))
        else
          (2 : Int32)
    else
      (1 : Int32)
def L_X4_advance_8 : Nat → TS → Option TS
  | 0, _ => none
  | n + 1, PL1 =>
    if (PL1 0 0) ≤ (PL1 4 0) then
      some PL1
    else
      (f_X4_letterAt PL1 (PL1 4 0)).bind fun q5 =>
      if q5 = (32 : Int32) then
        L_X4_advance_8 n (up PL1 4 (fun _ => ((PL1 4 0) + (1 : Int32))))
      else
        some PL1
def L_X4_advance_111 : Nat → TS → Option TS
  | 0, _ => none
  | n + 1, PL12 =>
    if (PL12 0 0) ≤ (PL12 5 0) then
      some PL12
    else
      (f_X4_letterAt PL12 (PL12 5 0)).bind fun q16 =>
      if (f_X4_sortOf q16) = (PL12 3 0) then
        L_X4_advance_111 n (up PL12 5 (fun _ => ((PL12 5 0) + (1 : Int32))))
      else
        some PL12
def f_X4_advance (P0 : TS) : Option TS :=
  (L_X4_advance_8 300 (up P0 4 (fun _ => (P0 5 0)))).bind fun q2 =>
  if (q2 4 0) < (q2 0 0) then
    (f_X4_letterAt (up q2 5 (fun _ => (q2 4 0))) (q2 4 0)).bind fun q9 =>
    if (f_X4_sortOf q9) = (1 : Int32) then
      (L_X4_advance_111 300 (up (up q2 3 (fun _ => (f_X4_sortOf q9))) 5 (fun _ => ((q2 4 0) + (1 : Int32))))).bind fun q13 =>
      some q13
    else
      if (f_X4_sortOf q9) = (2 : Int32) then
        (L_X4_advance_111 300 (up (up q2 3 (fun _ => (f_X4_sortOf q9))) 5 (fun _ => ((q2 4 0) + (1 : Int32))))).bind fun q21 =>
        some q21
      else
        some (up (up q2 3 (fun _ => (f_X4_sortOf q9))) 5 (fun _ => ((q2 4 0) + (1 : Int32))))
  else
    some (up (up q2 5 (fun _ => (q2 4 0))) 3 (fun _ => (0 : Int32)))
def f_X4_isFault (P0 : TS) : Option (Int32 × TS) :=
  some ((0 : Int32), (up P0 1 (fun _ => (P0 4 0))))
theorem bz_X4_isFault {P0 : TS} {q : (Int32 × TS)} (hM : f_X4_isFault P0 = some q) : q.1 = 0 ∨ q.1 = 1 := by
  rw [f_X4_isFault] at hM
  obtain rfl := Option.some.inj hM
  exact (Or.inl rfl)
def f_X4_put (P0 : TS) (p1 : Int32) : Option TS :=
  if (250 : Int32) ≤ (P0 0 0) then
    some P0
  else
    if (P0 0 0) < 0 ∨ 250 ≤ ((P0 0 0)).toNatClampNeg then none else
    some (up (up P0 2 (upd (P0 2) ((P0 0 0)).toNatClampNeg p1)) 0 (fun _ => ((P0 0 0) + (1 : Int32))))
def L_X4_takeNumber_9 (P0 : TS) : Nat → Int32 → Int32 → Option Int32
  | 0, _, _ => none
  | n + 1, v5_1, v4_2 =>
    if (P0 5 0) ≤ v5_1 then
      some v4_2
    else
      if ((P0 4 0) + (2 : Int32)) ≤ v5_1 then
        some v4_2
      else
        (f_X4_letterAt P0 v5_1).bind fun q7 =>
        L_X4_takeNumber_9 P0 n (v5_1 + (1 : Int32)) (((v4_2 * (10 : Int32)) + q7) - (48 : Int32))
def f_X4_takeNumber (P0 : TS) (p1 : Int32) (p2 : Int32) (p3 : Int32) : Option (Int32 × TS) :=
  (L_X4_takeNumber_9 P0 300 (P0 4 0) (0 : Int32)).bind fun q3 =>
  if (if (P0 3 0) = (2 : Int32) then (if (2 : Int32) < ((P0 5 0) - (P0 4 0)) then (0 : Int32) else (if (f_X6_isWithin q3 p1 p2) = 0 then (0 : Int32) else (1 : Int32))) else (0 : Int32)) = 0 then
    some ((-1 : Int32), (up P0 1 (fun _ => (P0 4 0))))
  else
    if (f_X6_has p3 q3) = 0 then
      (f_X4_advance P0).bind fun q16 =>
      some (q3, q16)
    else
      some ((-1 : Int32), (up P0 1 (fun _ => (P0 4 0))))
def f_X4_readSightHeard (P0 : TS) (T1 : TS) (p2 : Int32) : Option (Int32 × TS × TS) :=
  (f_X4_takeNumber P0 (0 : Int32) ((T1 0 0) - (1 : Int32)) (0 : Int32)).bind fun q2 =>
  if q2.1 = (-1 : Int32) then
    some ((0 : Int32), q2.2, T1)
  else
    (f_X5_putHeard T1 p2 q2.1 (1 : Int32)).bind fun q5 =>
    some ((1 : Int32), q2.2, q5)
theorem bz_X4_readSightHeard {P0 : TS} {T1 : TS} {p2 : Int32} {q : (Int32 × TS × TS)} (hM : f_X4_readSightHeard P0 T1 p2 = some q) : q.1 = 0 ∨ q.1 = 1 := by
  rw [f_X4_readSightHeard] at hM
  obtain ⟨q2, h1, hM⟩ := bd hM
  by_cases c3 : q2.1 = (-1 : Int32)
  · replace hM := itp c3 hM
    obtain rfl := Option.some.inj hM
    exact (Or.inl rfl)
  · replace hM := itn c3 hM
    obtain ⟨q5, h4, hM⟩ := bd hM
    obtain rfl := Option.some.inj hM
    exact (Or.inr rfl)
def f_X4_readHeard (P0 : TS) (T1 : TS) : Option (Int32 × TS × TS) :=
  (f_X4_advance P0).bind fun q2 =>
  (f_X4_takeNumber q2 (0 : Int32) ((T1 1 0) - (1 : Int32)) (0 : Int32)).bind fun q4 =>
  if q4.1 = (-1 : Int32) then
    some ((0 : Int32), q4.2, T1)
  else
    (f_X4_readSightHeard q4.2 T1 q4.1).bind fun q7 =>
    some ((if q7.1 = 0 then (0 : Int32) else (1 : Int32)), q7.2.1, q7.2.2)
theorem bz_X4_readHeard {P0 : TS} {T1 : TS} {q : (Int32 × TS × TS)} (hM : f_X4_readHeard P0 T1 = some q) : q.1 = 0 ∨ q.1 = 1 := by
  rw [f_X4_readHeard] at hM
  obtain ⟨q2, h1, hM⟩ := bd hM
  obtain ⟨q4, h3, hM⟩ := bd hM
  by_cases c5 : q4.1 = (-1 : Int32)
  · replace hM := itp c5 hM
    obtain rfl := Option.some.inj hM
    exact (Or.inl rfl)
  · replace hM := itn c5 hM
    obtain ⟨q7, h6, hM⟩ := bd hM
    obtain rfl := Option.some.inj hM
    exact (by repeat (first | exact Or.inl rfl | exact Or.inr rfl | split))
def f_X4_readHears (P0 : TS) (T1 : TS) : Option (Int32 × TS × TS) :=
  (f_X4_advance P0).bind fun q2 =>
  (f_X4_takeNumber q2 (0 : Int32) ((T1 1 0) - (1 : Int32)) (0 : Int32)).bind fun q4 =>
  if q4.1 = (-1 : Int32) then
    some ((0 : Int32), q4.2, T1)
  else
    (f_X4_takeNumber q4.2 (0 : Int32) ((T1 1 0) - (1 : Int32)) ((1 : Int32) <<< (q4.1 &&& 31))).bind fun q7 =>
    if q7.1 = (-1 : Int32) then
      some ((0 : Int32), q7.2, T1)
    else
      (f_X5_putHears T1 q4.1 q7.1 (1 : Int32)).bind fun q10 =>
      some ((1 : Int32), q7.2, q10)
theorem bz_X4_readHears {P0 : TS} {T1 : TS} {q : (Int32 × TS × TS)} (hM : f_X4_readHears P0 T1 = some q) : q.1 = 0 ∨ q.1 = 1 := by
  rw [f_X4_readHears] at hM
  obtain ⟨q2, h1, hM⟩ := bd hM
  obtain ⟨q4, h3, hM⟩ := bd hM
  by_cases c5 : q4.1 = (-1 : Int32)
  · replace hM := itp c5 hM
    obtain rfl := Option.some.inj hM
    exact (Or.inl rfl)
  · replace hM := itn c5 hM
    obtain ⟨q7, h6, hM⟩ := bd hM
    by_cases c8 : q7.1 = (-1 : Int32)
    · replace hM := itp c8 hM
      obtain rfl := Option.some.inj hM
      exact (Or.inl rfl)
    · replace hM := itn c8 hM
      obtain ⟨q10, h9, hM⟩ := bd hM
      obtain rfl := Option.some.inj hM
      exact (Or.inr rfl)
def f_X4_readSightSeen (P0 : TS) (T1 : TS) (p2 : Int32) (p3 : Int32) : Option (Int32 × TS × TS) :=
  (f_X4_takeNumber P0 (0 : Int32) ((T1 0 0) - (1 : Int32)) (0 : Int32)).bind fun q2 =>
  if q2.1 = (-1 : Int32) then
    some ((0 : Int32), q2.2, T1)
  else
    (f_X5_putSeen T1 p2 q2.1 p3).bind fun q5 =>
    some ((1 : Int32), q2.2, q5)
theorem bz_X4_readSightSeen {P0 : TS} {T1 : TS} {p2 : Int32} {p3 : Int32} {q : (Int32 × TS × TS)} (hM : f_X4_readSightSeen P0 T1 p2 p3 = some q) : q.1 = 0 ∨ q.1 = 1 := by
  rw [f_X4_readSightSeen] at hM
  obtain ⟨q2, h1, hM⟩ := bd hM
  by_cases c3 : q2.1 = (-1 : Int32)
  · replace hM := itp c3 hM
    obtain rfl := Option.some.inj hM
    exact (Or.inl rfl)
  · replace hM := itn c3 hM
    obtain ⟨q5, h4, hM⟩ := bd hM
    obtain rfl := Option.some.inj hM
    exact (Or.inr rfl)
def f_X4_readSeen (P0 : TS) (T1 : TS) (p2 : Int32) : Option (Int32 × TS × TS) :=
  (f_X4_advance P0).bind fun q2 =>
  (f_X5_allBlind T1).bind fun q4 =>
  (f_X4_takeNumber q2 (0 : Int32) ((T1 1 0) - (1 : Int32)) q4).bind fun q6 =>
  if q6.1 = (-1 : Int32) then
    some ((0 : Int32), q6.2, T1)
  else
    (f_X4_readSightSeen q6.2 T1 q6.1 p2).bind fun q9 =>
    some ((if q9.1 = 0 then (0 : Int32) else (1 : Int32)), q9.2.1, q9.2.2)
theorem bz_X4_readSeen {P0 : TS} {T1 : TS} {p2 : Int32} {q : (Int32 × TS × TS)} (hM : f_X4_readSeen P0 T1 p2 = some q) : q.1 = 0 ∨ q.1 = 1 := by
  rw [f_X4_readSeen] at hM
  obtain ⟨q2, h1, hM⟩ := bd hM
  obtain ⟨q4, h3, hM⟩ := bd hM
  obtain ⟨q6, h5, hM⟩ := bd hM
  by_cases c7 : q6.1 = (-1 : Int32)
  · replace hM := itp c7 hM
    obtain rfl := Option.some.inj hM
    exact (Or.inl rfl)
  · replace hM := itn c7 hM
    obtain ⟨q9, h8, hM⟩ := bd hM
    obtain rfl := Option.some.inj hM
    exact (by repeat (first | exact Or.inl rfl | exact Or.inr rfl | split))
def f_X4_readSetting (P0 : TS) (T1 : TS) (p2 : Int32) : Option (Int32 × TS × TS) :=
  (f_X4_advance P0).bind fun q2 =>
  (f_X4_takeNumber q2 (0 : Int32) (f_X5_mostOf p2) (0 : Int32)).bind fun q5 =>
  if q5.1 = (-1 : Int32) then
    some ((0 : Int32), q5.2, T1)
  else
    (f_X5_putSetting T1 p2 q5.1).bind fun q8 =>
    some ((1 : Int32), q5.2, q8)
theorem bz_X4_readSetting {P0 : TS} {T1 : TS} {p2 : Int32} {q : (Int32 × TS × TS)} (hM : f_X4_readSetting P0 T1 p2 = some q) : q.1 = 0 ∨ q.1 = 1 := by
  rw [f_X4_readSetting] at hM
  obtain ⟨q2, h1, hM⟩ := bd hM
  obtain ⟨q5, h4, hM⟩ := bd hM
  by_cases c6 : q5.1 = (-1 : Int32)
  · replace hM := itp c6 hM
    obtain rfl := Option.some.inj hM
    exact (Or.inl rfl)
  · replace hM := itn c6 hM
    obtain ⟨q8, h7, hM⟩ := bd hM
    obtain rfl := Option.some.inj hM
    exact (Or.inr rfl)
def f_X4_readSights (P0 : TS) (T1 : TS) : Option (Int32 × TS × TS) :=
  (f_X4_advance P0).bind fun q2 =>
  (f_X4_takeNumber q2 (T1 0 0) (8 : Int32) (0 : Int32)).bind fun q4 =>
  if q4.1 = (-1 : Int32) then
    some ((0 : Int32), q4.2, T1)
  else
    some ((1 : Int32), q4.2, (up T1 0 (fun _ => q4.1)))
theorem bz_X4_readSights {P0 : TS} {T1 : TS} {q : (Int32 × TS × TS)} (hM : f_X4_readSights P0 T1 = some q) : q.1 = 0 ∨ q.1 = 1 := by
  rw [f_X4_readSights] at hM
  obtain ⟨q2, h1, hM⟩ := bd hM
  obtain ⟨q4, h3, hM⟩ := bd hM
  by_cases c5 : q4.1 = (-1 : Int32)
  · replace hM := itp c5 hM
    obtain rfl := Option.some.inj hM
    exact (Or.inl rfl)
  · replace hM := itn c5 hM
    obtain rfl := Option.some.inj hM
    exact (Or.inr rfl)
def f_X2_after (T1 : TS) (T2 : TS) (p1 : Int32) : Option TS :=
  (f_X5_become T2 T1).bind fun q2 =>
  (f_X5_passRounds q2 p1).bind fun q4 =>
  some q4
def L_X2_bestToTell_8 (T1 : TS) (p1 : Int32) (p2 : Int32) : Nat → Int32 → Int32 → Int32 → TS → Option (Int32 × TS)
  | 0, _, _, _, _ => none
  | n + 1, v5_1, v4_2, v3_3, TL4 =>
    if (T1 1 0) ≤ v5_1 then
      some (v3_3, TL4)
    else
      (f_X5_become TL4 T1).bind fun q8 =>
      (f_X5_putHeard q8 v5_1 p1 (1 : Int32)).bind fun q10 =>
      (f_X5_passRounds q10 p2).bind fun q12 =>
      (f_X5_whoKnows q12 p1).bind fun q14 =>
      L_X2_bestToTell_8 T1 p1 p2 n (v5_1 + (1 : Int32)) (if (f_J6_bitCount_0f7a4 q14) ≤ v4_2 then v4_2 else (f_J6_bitCount_0f7a4 q14)) (if (f_J6_bitCount_0f7a4 q14) ≤ v4_2 then v3_3 else v5_1) q12
def f_X2_bestToTell (T1 : TS) (T2 : TS) (p1 : Int32) (p2 : Int32) : Option (Int32 × TS) :=
  (L_X2_bestToTell_8 T1 p1 p2 300 (0 : Int32) (-1 : Int32) (-1 : Int32) T2).bind fun q5 =>
  some (q5.1, q5.2)
def L_X2_isHushed_26 (p2 : Int32) (p3 : Int32) : Nat → Int32 → Int32 → TS → Option ((Int32 × TS) ⊕ TS)
  | 0, _, _, _ => none
  | n + 1, v5_5, v4_6, TL7 =>
    if p3 < v5_5 then
      some (.inr TL7)
    else
      if v4_6 = 0 then
        some (.inr TL7)
      else
        (f_X5_whoMaySay TL7 p2).bind fun q12 =>
        if q12 = 0 then
          (f_X5_passRound TL7).bind fun q15 =>
          L_X2_isHushed_26 p2 p3 n (v5_5 + (1 : Int32)) q15.1 q15.2
        else
          some (.inl ((0 : Int32), TL7))
def f_X2_isHushed (T1 : TS) (T2 : TS) (p1 : Int32) (p2 : Int32) (p3 : Int32) : Option (Int32 × TS) :=
  (f_X5_become T2 T1).bind fun q2 =>
  (f_X5_showTo q2 p1 p2).bind fun q4 =>
  (L_X2_isHushed_26 p2 p3 300 (0 : Int32) (1 : Int32) q4).bind (eo fun q8x =>
  some ((1 : Int32), q8x))
def L_X2_fewestToShow_36 (T1 : TS) (p1 : Int32) (p2 : Int32) (q3 : Int32) (v4_4 : Int32) : Nat → Int32 → TS → Option ((Int32 × TS) ⊕ TS)
  | 0, _, _ => none
  | n + 1, v5_8, TL9 =>
    if ((f_X5_allPeople T1) &&& (q3 ^^^ (-1 : Int32))) < v5_8 then
      some (.inr TL9)
    else
      if (if (v5_8 &&& (((f_X5_allPeople T1) &&& (q3 ^^^ (-1 : Int32))) ^^^ (-1 : Int32))) = 0 then (if (f_J6_bitCount_0f7a4 v5_8) = v4_4 then (1 : Int32) else (0 : Int32)) else (0 : Int32)) = 0 then
        L_X2_fewestToShow_36 T1 p1 p2 q3 v4_4 n (v5_8 + (1 : Int32)) TL9
      else
        (f_X2_isHushed T1 TL9 v5_8 p1 p2).bind fun q17 =>
        if q17.1 = 0 then
          L_X2_fewestToShow_36 T1 p1 p2 q3 v4_4 n (v5_8 + (1 : Int32)) q17.2
        else
          some (.inl (v5_8, q17.2))
def L_X2_fewestToShow_21 (T1 : TS) (p1 : Int32) (p2 : Int32) (q3 : Int32) : Nat → Int32 → TS → Option ((Int32 × TS) ⊕ TS)
  | 0, _, _ => none
  | n + 1, v4_4, TL5 =>
    if (T1 1 0) < v4_4 then
      some (.inr TL5)
    else
      (L_X2_fewestToShow_36 T1 p1 p2 q3 v4_4 300 (0 : Int32) TL5).bind (eoS fun q10x =>
      L_X2_fewestToShow_21 T1 p1 p2 q3 n (v4_4 + (1 : Int32)) q10x)
def f_X2_fewestToShow (T1 : TS) (T2 : TS) (p1 : Int32) (p2 : Int32) : Option (Int32 × TS) :=
  (f_X5_allBlind T1).bind fun q3 =>
  (L_X2_fewestToShow_21 T1 p1 p2 q3 300 (0 : Int32) T2).bind (eo fun q6x =>
  some ((-1 : Int32), q6x))
def f_X2_gainByBlind (T1 : TS) (T2 : TS) (p1 : Int32) (p2 : Int32) : Option (Int32 × TS) :=
  (f_X2_after T1 T2 p2).bind fun q2 =>
  (f_X5_knownInAll q2).bind fun q4 =>
  (f_X5_become q2 T1).bind fun q6 =>
  (f_X5_makeBlind q6 p1).bind fun q8 =>
  (f_X5_passRounds q8 p2).bind fun q10 =>
  (f_X5_knownInAll q10).bind fun q12 =>
  some ((q12 - q4), q10)
def f_X2_knownAtDusk (T1 : TS) (T2 : TS) (p1 : Int32) (p2 : Int32) : Option (Int32 × TS) :=
  (f_X5_become T2 T1).bind fun q2 =>
  (f_X5_passRounds (up q2 2 (fun _ => p1)) p2).bind fun q4 =>
  (f_X5_knownInAll q4).bind fun q6 =>
  some (q6, q4)
def f_X2_gainByLight (T1 : TS) (T2 : TS) (p1 : Int32) : Option (Int32 × TS) :=
  (f_X2_knownAtDusk T1 T2 (0 : Int32) p1).bind fun q2 =>
  (f_X2_knownAtDusk T1 q2.2 (1 : Int32) p1).bind fun q4 =>
  some ((q2.1 - q4.1), q4.2)
def f_X2_knownToOthersThen (T1 : TS) (T2 : TS) (p1 : Int32) (p2 : Int32) : Option (Int32 × TS) :=
  (f_X5_passRounds T2 p2).bind fun q2 =>
  (f_X5_knownInAll q2).bind fun q4 =>
  (f_X5_knownTo q2 p1).bind fun q6 =>
  some ((q4 - (f_J6_bitCount_0f7a4 q6)), q2)
def f_X2_lostWithout (T1 : TS) (T2 : TS) (p1 : Int32) (p2 : Int32) : Option (Int32 × TS) :=
  (f_X5_become T2 T1).bind fun q2 =>
  (f_X2_knownToOthersThen T1 q2 p1 p2).bind fun q4 =>
  (f_X5_become q4.2 T1).bind fun q6 =>
  (f_X5_cutOff q6 p1).bind fun q8 =>
  (f_X2_knownToOthersThen T1 q8 p1 p2).bind fun q10 =>
  some ((q4.1 - q10.1), q10.2)
def L_X2_untilKnown_16 (p1 : Int32) (p2 : Int32) : Nat → Int32 → Int32 → TS → Option ((Int32 × TS) ⊕ TS)
  | 0, _, _, _ => none
  | n + 1, v4_3, v3_4, TL5 =>
    if (20 : Int32) < v4_3 then
      some (.inr TL5)
    else
      if v3_4 = 0 then
        some (.inr TL5)
      else
        (f_X5_knownTo TL5 p1).bind fun q10 =>
        if (f_X6_has q10 p2) = 0 then
          (f_X5_passRound TL5).bind fun q14 =>
          L_X2_untilKnown_16 p1 p2 n (v4_3 + (1 : Int32)) q14.1 q14.2
        else
          some (.inl (v4_3, TL5))
def f_X2_untilKnown (T1 : TS) (T2 : TS) (p1 : Int32) (p2 : Int32) : Option (Int32 × TS) :=
  (f_X5_become T2 T1).bind fun q2 =>
  (L_X2_untilKnown_16 p1 p2 300 (0 : Int32) (1 : Int32) q2).bind (eo fun q6x =>
  some ((-1 : Int32), q6x))
def L_X2_untilStill_13 : Nat → Int32 → TS → Option ((Int32 × TS) ⊕ TS)
  | 0, _, _ => none
  | n + 1, v1_3, TL4 =>
    if (20 : Int32) ≤ v1_3 then
      some (.inr TL4)
    else
      (f_X5_passRound TL4).bind fun q8 =>
      if q8.1 = 0 then
        some (.inl (v1_3, q8.2))
      else
        L_X2_untilStill_13 n (v1_3 + (1 : Int32)) q8.2
def f_X2_untilStill (T1 : TS) (T2 : TS) : Option (Int32 × TS) :=
  (f_X5_become T2 T1).bind fun q2 =>
  (L_X2_untilStill_13 300 (0 : Int32) q2).bind (eo fun q5x =>
  some ((20 : Int32), q5x))
def f_X1_knownWhenAllIsSaid (O0 : TS) (B0 : TS) (T1 : TS) (T2 : TS) : Option (Int32 × TS) :=
  (f_X5_become T2 T1).bind fun q2 =>
  (f_X5_passRounds (up q2 3 (fun _ => (0 : Int32))) (57 : Int32)).bind fun q4 =>
  (f_X5_knownInAll q4).bind fun q6 =>
  some (q6, q4)
def f_X1_mostKnown (O0 : TS) (B0 : TS) (T1 : TS) (T2 : TS) : Int32 :=
  (O0 5 0)
def f_X1_weigh (O0 : TS) (B0 : TS) (T1 : TS) (T2 : TS) : Option TS :=
  (f_X5_knownInAll T2).bind fun q2 =>
  if q2 ≤ (O0 5 0) then
    some O0
  else
    some (up (up O0 5 (fun _ => q2)) 4 (va_cpy (O0 3) (O0 4) ((0 : Int32)).toNatClampNeg ((0 : Int32)).toNatClampNeg ((7 : Int32)).toNatClampNeg))
def L_X1_speakOn_40 (rc : (TS → TS → TS → TS → Int32 → Int32 → Option (TS × TS × TS))) (T1 : TS) (p1 : Int32) (p2 : Int32) : Nat → Int32 → TS → TS → TS → Option (TS × TS × TS)
  | 0, _, _, _, _ => none
  | n + 1, v4_6, OL7, BL8, TL9 =>
    if (TL9 1 0) ≤ v4_6 then
      some (OL7, BL8, TL9)
    else
      if (OL7 6 0) ≤ (OL7 5 0) then
        some (OL7, BL8, TL9)
      else
        if (f_X6_has p2 v4_6) = 0 then
          L_X1_speakOn_40 rc T1 p1 p2 n (v4_6 + (1 : Int32)) OL7 BL8 TL9
        else
          (f_X5_sayableBy TL9 v4_6).bind fun q16 =>
          (f_X5_tell TL9 v4_6 q16).bind fun q18 =>
          (rc (up OL7 3 (upd (OL7 3) (p1).toNatClampNeg v4_6)) BL8 T1 q18.2 (p1 + (1 : Int32)) (f_X6_with p2 v4_6 (0 : Int32))).bind fun q21 =>
          L_X1_speakOn_40 rc T1 p1 p2 n (v4_6 + (1 : Int32)) q21.1 q21.2.1 (up q21.2.2 9 (va_cpy (q21.2.1 (p1).toNatClampNeg) (q21.2.2 9) ((0 : Int32)).toNatClampNeg ((0 : Int32)).toNatClampNeg ((7 : Int32)).toNatClampNeg))
def f_X1_speakOn : Nat → TS → TS → TS → TS → Int32 → Int32 → Option (TS × TS × TS)
  | 0, _, _, _, _, _, _ => none
  | d + 1, O0, B0, T1, T2, p1, p2 =>
    if p2 = 0 then
      (f_X1_weigh O0 B0 T1 T2).bind fun q3 =>
      some (q3, B0, T2)
    else
      if p1 < (7 : Int32) then
        if p1 < 0 ∨ 7 ≤ (p1).toNatClampNeg then none else
        (L_X1_speakOn_40 (f_X1_speakOn d) T1 p1 p2 300 (0 : Int32) O0 (up B0 (p1).toNatClampNeg (va_cpy (T2 9) (B0 (p1).toNatClampNeg) ((0 : Int32)).toNatClampNeg ((0 : Int32)).toNatClampNeg ((7 : Int32)).toNatClampNeg)) T2).bind fun q10 =>
        some (q10.1, q10.2.1, q10.2.2)
      else
        (f_X1_weigh O0 B0 T1 T2).bind fun q23 =>
        some (q23, B0, T2)
def f_X1_search (O0 : TS) (B0 : TS) (T1 : TS) (T2 : TS) : Option (TS × TS × TS) :=
  (f_X1_knownWhenAllIsSaid O0 B0 T1 T2).bind fun q2 =>
  (f_X5_become q2.2 T1).bind fun q4 =>
  (f_X1_speakOn 9 (up (up O0 6 (fun _ => q2.1)) 5 (fun _ => (-1 : Int32))) B0 T1 q4 (0 : Int32) (f_X5_allPeople T1)).bind fun q7 =>
  some (q7.1, q7.2.1, q7.2.2)
def f_X1_speakerAt (O0 : TS) (B0 : TS) (T1 : TS) (T2 : TS) (p1 : Int32) : Option Int32 :=
  if p1 < 0 ∨ 7 ≤ (p1).toNatClampNeg then none else
  some ((O0 4) (p1).toNatClampNeg)
def f_X0_isSaying (T1 : TS) (T2 : TS) (G3 : TS) (R3 : LTS) (p1 : Int64) : Int32 :=
  (if (lg_cmp p1 (0 : Int64)) < 0 then (0 : Int32) else (if 0 ≤ (lg_cmp (p1 / (10 : Int64)) (((T1 1 0)).toInt64)) then (0 : Int32) else (if 0 ≤ (lg_cmp (p1 - p1 / (10 : Int64) * (10 : Int64)) (((T1 0 0)).toInt64)) then (0 : Int32) else (1 : Int32))))
theorem bz_X0_isSaying (T1 : TS) (T2 : TS) (G3 : TS) (R3 : LTS) (p1 : Int64) : f_X0_isSaying T1 T2 G3 R3 p1 = 0 ∨ f_X0_isSaying T1 T2 G3 R3 p1 = 1 := by
  obtain ⟨rr, hM⟩ : ∃ rr, f_X0_isSaying T1 T2 G3 R3 p1 = rr := ⟨_, rfl⟩
  rw [hM]
  rw [f_X0_isSaying] at hM
  subst hM
  exact (by repeat (first | exact Or.inl rfl | exact Or.inr rfl | split))
def L_X0_areSayings_2 (T1 : TS) (T2 : TS) (G3 : TS) (R3 : LTS) (p1 : Int32) (p2 : Int32) : Nat → Int32 → Option (Int32 ⊕ Unit)
  | 0, _ => none
  | n + 1, v3_1 =>
    if p2 ≤ v3_1 then
      some (.inr ())
    else
      (f_X3_elementOf G3 R3 p1 v3_1).bind fun q5 =>
      if (f_X0_isSaying T1 T2 G3 R3 q5) = 0 then
        some (.inl (0 : Int32))
      else
        L_X0_areSayings_2 T1 T2 G3 R3 p1 p2 n (v3_1 + (1 : Int32))
def f_X0_areSayings (T1 : TS) (T2 : TS) (G3 : TS) (R3 : LTS) (p1 : Int32) (p2 : Int32) : Option Int32 :=
  (L_X0_areSayings_2 T1 T2 G3 R3 p1 p2 300 (0 : Int32)).bind (eo fun q2x =>
  some (1 : Int32))
def f_X0_speakerOf (T1 : TS) (T2 : TS) (G3 : TS) (R3 : LTS) (p1 : Int32) (p2 : Int32) : Option Int32 :=
  (f_X3_elementOf G3 R3 p1 p2).bind fun q2 =>
  some (((q2 / (10 : Int64))).toInt32)
def f_X0_sightOf (T1 : TS) (T2 : TS) (G3 : TS) (R3 : LTS) (p1 : Int32) (p2 : Int32) : Option Int32 :=
  (f_X3_elementOf G3 R3 p1 p2).bind fun q2 =>
  some (((q2 - q2 / (10 : Int64) * (10 : Int64))).toInt32)
def L_X0_falseSayings_5 (T1 : TS) (T2 : TS) (G3 : TS) (R3 : LTS) (p1 : Int32) (p2 : Int32) : Nat → Int32 → Int32 → Option Int32
  | 0, _, _ => none
  | n + 1, v4_1, v3_2 =>
    if p2 ≤ v4_1 then
      some v3_2
    else
      (f_X0_speakerOf T1 T2 G3 R3 p1 v4_1).bind fun q6 =>
      (f_X5_barredTo T1 q6).bind fun q8 =>
      (f_X0_sightOf T1 T2 G3 R3 p1 v4_1).bind fun q10 =>
      L_X0_falseSayings_5 T1 T2 G3 R3 p1 p2 n (v4_1 + (1 : Int32)) (if (f_X6_has q8 q10) = 0 then v3_2 else (v3_2 + (1 : Int32)))
def f_X0_falseSayings (T1 : TS) (T2 : TS) (G3 : TS) (R3 : LTS) (p1 : Int32) (p2 : Int32) : Option Int32 :=
  (L_X0_falseSayings_5 T1 T2 G3 R3 p1 p2 300 (0 : Int32) (0 : Int32)).bind fun q3 =>
  some q3
def L_X0_firstWrong_13 (T1 : TS) (G3 : TS) (R3 : LTS) (p1 : Int32) (p2 : Int32) : Nat → Int32 → TS → Option ((Int32 × TS) ⊕ TS)
  | 0, _, _ => none
  | n + 1, v3_3, TL4 =>
    if p2 ≤ v3_3 then
      some (.inr TL4)
    else
      (f_X3_elementOf G3 R3 p1 v3_3).bind fun q8 =>
      if (f_X0_isSaying T1 TL4 G3 R3 q8) = 0 then
        some (.inl (v3_3, TL4))
      else
        (f_X0_speakerOf T1 TL4 G3 R3 p1 v3_3).bind fun q12 =>
        (f_X0_sightOf T1 TL4 G3 R3 p1 v3_3).bind fun q14 =>
        (f_X5_sayableBy TL4 q12).bind fun q16 =>
        if (f_X6_has q16 q14) = 0 then
          some (.inl (v3_3, TL4))
        else
          (f_X5_tell TL4 q12 ((1 : Int32) <<< (q14 &&& 31))).bind fun q20 =>
          L_X0_firstWrong_13 T1 G3 R3 p1 p2 n (v3_3 + (1 : Int32)) q20.2
def f_X0_firstWrong (T1 : TS) (T2 : TS) (G3 : TS) (R3 : LTS) (p1 : Int32) (p2 : Int32) : Option (Int32 × TS) :=
  (f_X5_become T2 T1).bind fun q2 =>
  (L_X0_firstWrong_13 T1 G3 R3 p1 p2 300 (0 : Int32) q2).bind (eo fun q5x =>
  some ((-1 : Int32), q5x))
def L_X0_isSilent_6 (T1 : TS) (T2 : TS) (G3 : TS) (R3 : LTS) (p1 : Int32) (p2 : Int32) (p3 : Int32) (p4 : Int32) : Nat → Int32 → Int32 → Option (Int32 ⊕ Int32)
  | 0, _, _ => none
  | n + 1, v6_1, v5_2 =>
    if p3 ≤ v6_1 then
      some (.inr v5_2)
    else
      (f_X0_sightOf T1 T2 G3 R3 p2 v6_1).bind fun q6 =>
      if q6 = p4 then
        (f_X0_speakerOf T1 T2 G3 R3 p2 v6_1).bind fun q9 =>
        if v5_2 = 0 then
          if v5_2 = 0 then
            if p1 < 0 ∨ 7 ≤ (p1).toNatClampNeg then none else
            L_X0_isSilent_6 T1 T2 G3 R3 p1 p2 p3 p4 n (v6_1 + (1 : Int32)) (if (f_X6_has ((T1 10) (p1).toNatClampNeg) q9) = 0 then (0 : Int32) else (1 : Int32))
          else
            L_X0_isSilent_6 T1 T2 G3 R3 p1 p2 p3 p4 n (v6_1 + (1 : Int32)) (1 : Int32)
        else
          if q9 = p1 then
            some (.inl (0 : Int32))
          else
            if v5_2 = 0 then
              if p1 < 0 ∨ 7 ≤ (p1).toNatClampNeg then none else
              L_X0_isSilent_6 T1 T2 G3 R3 p1 p2 p3 p4 n (v6_1 + (1 : Int32)) (if (f_X6_has ((T1 10) (p1).toNatClampNeg) q9) = 0 then (0 : Int32) else (1 : Int32))
            else
              L_X0_isSilent_6 T1 T2 G3 R3 p1 p2 p3 p4 n (v6_1 + (1 : Int32)) (1 : Int32)
      else
        L_X0_isSilent_6 T1 T2 G3 R3 p1 p2 p3 p4 n (v6_1 + (1 : Int32)) v5_2
def f_X0_isSilent (T1 : TS) (T2 : TS) (G3 : TS) (R3 : LTS) (p1 : Int32) (p2 : Int32) (p3 : Int32) (p4 : Int32) : Option Int32 :=
  (L_X0_isSilent_6 T1 T2 G3 R3 p1 p2 p3 p4 300 (0 : Int32) (0 : Int32)).bind (eo fun q3x =>
  if ¬ (q3x = 0 ∨ q3x = 1) then none else
  some q3x)
def L_X0_mouthsBehind_14 (T1 : TS) (G3 : TS) (R3 : LTS) (p1 : Int32) (p2 : Int32) : Nat → Int32 → TS → Option TS
  | 0, _, _ => none
  | n + 1, v4_3, TL4 =>
    if p2 ≤ v4_3 then
      some TL4
    else
      (f_X0_speakerOf T1 TL4 G3 R3 p1 v4_3).bind fun q8 =>
      (f_X0_sightOf T1 TL4 G3 R3 p1 v4_3).bind fun q10 =>
      (f_X5_tell TL4 q8 ((1 : Int32) <<< (q10 &&& 31))).bind fun q12 =>
      L_X0_mouthsBehind_14 T1 G3 R3 p1 p2 n (v4_3 + (1 : Int32)) q12.2
def f_X0_mouthsBehind (T1 : TS) (T2 : TS) (G3 : TS) (R3 : LTS) (p1 : Int32) (p2 : Int32) (p3 : Int32) : Option (Int32 × TS) :=
  (f_X5_become T2 T1).bind fun q2 =>
  (L_X0_mouthsBehind_14 T1 G3 R3 p1 p2 300 (0 : Int32) q2).bind fun q5 =>
  (f_X5_whoMaySay q5 p3).bind fun q14 =>
  some (q14, q5)
def L_X0_silentOf_6 (T1 : TS) (T2 : TS) (G3 : TS) (R3 : LTS) (p1 : Int32) (p2 : Int32) (p3 : Int32) : Nat → Int32 → Int32 → Option Int32
  | 0, _, _ => none
  | n + 1, v5_1, v4_2 =>
    if (T1 1 0) ≤ v5_1 then
      some v4_2
    else
      (f_X0_isSilent T1 T2 G3 R3 v5_1 p1 p2 p3).bind fun q6 =>
      L_X0_silentOf_6 T1 T2 G3 R3 p1 p2 p3 n (v5_1 + (1 : Int32)) (f_X6_with v4_2 v5_1 q6)
def f_X0_silentOf (T1 : TS) (T2 : TS) (G3 : TS) (R3 : LTS) (p1 : Int32) (p2 : Int32) (p3 : Int32) : Option Int32 :=
  (L_X0_silentOf_6 T1 T2 G3 R3 p1 p2 p3 300 (0 : Int32) (0 : Int32)).bind fun q3 =>
  some q3
def f_X6_alone (Z0 : TS) (T1 : TS) (T2 : TS) (T3 : TS) (G4 : TS) (R4 : LTS) (P5 : TS) (O7 : TS) (B7 : TS) : Option Int32 :=
  (f_X5_whoIsUnheard T1).bind fun q2 =>
  some q2
def f_X6_refuse (Z0 : TS) (T1 : TS) (T2 : TS) (T3 : TS) (G4 : TS) (R4 : LTS) (P5 : TS) (O7 : TS) (B7 : TS) (p1 : Int32) : Option (Int32 × TS) :=
  if ((-2 : Int32) - p1) < 0 then
    some (p1, Z0)
  else
    if (5 : Int32) ≤ ((-2 : Int32) - p1) then
      some (p1, Z0)
    else
      if ((-2 : Int32) - p1) < 0 ∨ 5 ≤ (((-2 : Int32) - p1)).toNatClampNeg then none else
      some (p1, (up Z0 8 (upd (Z0 8) (((-2 : Int32) - p1)).toNatClampNeg (((Z0 8) (((-2 : Int32) - p1)).toNatClampNeg) + (1 : Int32)))))
def f_X6_ask (Z0 : TS) (T1 : TS) (T2 : TS) (T3 : TS) (G4 : TS) (R4 : LTS) (P5 : TS) (O7 : TS) (B7 : TS) (p1 : Int32) (p2 : Int32) : Option (Int32 × TS × TS) :=
  if (f_X6_isWithin p1 (0 : Int32) (2 : Int32)) = 0 then
    (f_X6_refuse Z0 T1 T2 T3 G4 R4 P5 O7 B7 (-2 : Int32)).bind fun q4 =>
    some (q4.1, q4.2, T1)
  else
    if (f_X6_isWithin p2 (0 : Int32) (f_X5_mostOf p1)) = 0 then
      (f_X6_refuse Z0 T1 T2 T3 G4 R4 P5 O7 B7 (-2 : Int32)).bind fun q9 =>
      some (q9.1, q9.2, T1)
    else
      (f_X5_putSetting T1 p1 p2).bind fun q12 =>
      some ((f_X5_settingOf T1 p1), Z0, q12)
def f_X6_back (Z0 : TS) (T1 : TS) (T2 : TS) (T3 : TS) (G4 : TS) (R4 : LTS) (P5 : TS) (O7 : TS) (B7 : TS) : Option (Int32 × TS × TS × TS) :=
  if (Z0 9 0) = 0 then
    (f_X6_refuse Z0 T1 T2 T3 G4 R4 P5 O7 B7 (-5 : Int32)).bind fun q3 =>
    some (q3.1, q3.2, T1, G4)
  else
    (f_X5_become T1 T2).bind fun q5 =>
    (f_X3_keepPeopleBelow G4 R4 (q5 1 0)).bind fun q7 =>
    some ((1 : Int32), Z0, q5, q7)
def f_X6_barred (Z0 : TS) (T1 : TS) (T2 : TS) (T3 : TS) (G4 : TS) (R4 : LTS) (P5 : TS) (O7 : TS) (B7 : TS) (p1 : Int32) : Option (Int32 × TS) :=
  if (f_X5_isSight T1 p1) = 0 then
    (f_X6_refuse Z0 T1 T2 T3 G4 R4 P5 O7 B7 (-2 : Int32)).bind fun q4 =>
    some (q4.1, q4.2)
  else
    (f_X5_whoIsBarred T1 p1).bind fun q6 =>
    some (q6, Z0)
def f_X6_isRounds (p0 : Int32) : Int32 :=
  (f_X6_isWithin p0 (0 : Int32) (20 : Int32))
theorem bz_X6_isRounds (p0 : Int32) : f_X6_isRounds p0 = 0 ∨ f_X6_isRounds p0 = 1 := by
  obtain ⟨rr, hM⟩ : ∃ rr, f_X6_isRounds p0 = rr := ⟨_, rfl⟩
  rw [hM]
  rw [f_X6_isRounds] at hM
  subst hM
  exact (bz_X6_isWithin p0 (0 : Int32) (20 : Int32))
def f_X6_blind (Z0 : TS) (T1 : TS) (T2 : TS) (T3 : TS) (G4 : TS) (R4 : LTS) (P5 : TS) (O7 : TS) (B7 : TS) (p1 : Int32) (p2 : Int32) : Option (Int32 × TS × TS) :=
  if (f_X5_isOne T1 p1) = 0 then
    (f_X6_refuse Z0 T1 T2 T3 G4 R4 P5 O7 B7 (-2 : Int32)).bind fun q4 =>
    some (((-1000000 : Int32) + q4.1), q4.2, T3)
  else
    if (f_X6_isRounds p2) = 0 then
      (f_X6_refuse Z0 T1 T2 T3 G4 R4 P5 O7 B7 (-2 : Int32)).bind fun q8 =>
      some (((-1000000 : Int32) + q8.1), q8.2, T3)
    else
      (f_X2_gainByBlind T1 T3 p1 p2).bind fun q10 =>
      some (q10.1, Z0, q10.2)
def f_X6_chain (Z0 : TS) (T1 : TS) (T2 : TS) (T3 : TS) (G4 : TS) (R4 : LTS) (P5 : TS) (O7 : TS) (B7 : TS) (p1 : Int32) (p2 : Int32) (p3 : Int32) : Option (Int32 × TS) :=
  if (f_X5_isOne T1 p1) = 0 then
    (f_X6_refuse Z0 T1 T2 T3 G4 R4 P5 O7 B7 (-2 : Int32)).bind fun q4 =>
    some (q4.1, q4.2)
  else
    if (f_X5_isOne T1 p2) = 0 then
      (f_X6_refuse Z0 T1 T2 T3 G4 R4 P5 O7 B7 (-2 : Int32)).bind fun q8 =>
      some (q8.1, q8.2)
    else
      if (f_X5_isSight T1 p3) = 0 then
        (f_X6_refuse Z0 T1 T2 T3 G4 R4 P5 O7 B7 (-2 : Int32)).bind fun q12 =>
        some (q12.1, q12.2)
      else
        (f_X5_sayingsBetween T1 p1 p2 p3).bind fun q14 =>
        some (q14, Z0)
def f_X6_isPart (p0 : Int32) (p1 : Int32) (p2 : Int32) : Int32 :=
  (if p0 < 0 then (0 : Int32) else (if p1 < 0 then (0 : Int32) else (if p2 < p0 then (0 : Int32) else (if (p2 - p0) < p1 then (0 : Int32) else (1 : Int32)))))
theorem bz_X6_isPart (p0 : Int32) (p1 : Int32) (p2 : Int32) : f_X6_isPart p0 p1 p2 = 0 ∨ f_X6_isPart p0 p1 p2 = 1 := by
  obtain ⟨rr, hM⟩ : ∃ rr, f_X6_isPart p0 p1 p2 = rr := ⟨_, rfl⟩
  rw [hM]
  rw [f_X6_isPart] at hM
  subst hM
  exact (by repeat (first | exact Or.inl rfl | exact Or.inr rfl | split))
def f_X6_copy (Z0 : TS) (T1 : TS) (T2 : TS) (T3 : TS) (G4 : TS) (R4 : LTS) (P5 : TS) (O7 : TS) (B7 : TS) (p1 : Int32) (p2 : Int32) (p3 : Int32) (p4 : Int32) (p5 : Int32) : Option (Int32 × TS × LTS) :=
  (f_X3_troubleWithRows G4 R4 p1 p2).bind fun q2 =>
  if q2 = 0 then
    (f_X3_sizeOf G4 R4 p1).bind fun q5 =>
    if (f_X6_isPart p3 p5 q5) = 0 then
      (f_X6_refuse Z0 T1 T2 T3 G4 R4 P5 O7 B7 (-2 : Int32)).bind fun q9 =>
      some (q9.1, q9.2, R4)
    else
      (f_X3_sizeOf G4 R4 p2).bind fun q11 =>
      if (f_X6_isPart p4 p5 q11) = 0 then
        (f_X6_refuse Z0 T1 T2 T3 G4 R4 P5 O7 B7 (-2 : Int32)).bind fun q15 =>
        some (q15.1, q15.2, R4)
      else
        (f_X3_copyElements G4 R4 p1 p2 p3 p4 p5).bind fun q17 =>
        some (p5, Z0, q17)
  else
    (f_X6_refuse Z0 T1 T2 T3 G4 R4 P5 O7 B7 q2).bind fun q19 =>
    some (q19.1, q19.2, R4)
def f_X6_dusk (Z0 : TS) (T1 : TS) (T2 : TS) (T3 : TS) (G4 : TS) (R4 : LTS) (P5 : TS) (O7 : TS) (B7 : TS) (p1 : Int32) : Option (Int32 × TS × TS) :=
  if (f_X6_isRounds p1) = 0 then
    (f_X6_refuse Z0 T1 T2 T3 G4 R4 P5 O7 B7 (-2 : Int32)).bind fun q4 =>
    some (((-1000000 : Int32) + q4.1), q4.2, T3)
  else
    (f_X2_gainByLight T1 T3 p1).bind fun q6 =>
    some (q6.1, Z0, q6.2)
def f_X6_element (Z0 : TS) (T1 : TS) (T2 : TS) (T3 : TS) (G4 : TS) (R4 : LTS) (P5 : TS) (O7 : TS) (B7 : TS) (p1 : Int32) (p2 : Int32) : Option Int64 :=
  (f_X3_elementOf G4 R4 p1 p2).bind fun q2 =>
  some q2
def f_X6_troubleWithEvening (Z0 : TS) (T1 : TS) (T2 : TS) (T3 : TS) (G4 : TS) (R4 : LTS) (P5 : TS) (O7 : TS) (B7 : TS) (p1 : Int32) (p2 : Int32) : Option Int32 :=
  if (f_X6_isWithin p2 (0 : Int32) (40 : Int32)) = 0 then
    some (-2 : Int32)
  else
    (f_X3_troubleWithRow G4 R4 p1 p2).bind fun q4 =>
    some q4
def f_X6_evening (Z0 : TS) (T1 : TS) (T2 : TS) (T3 : TS) (G4 : TS) (R4 : LTS) (P5 : TS) (O7 : TS) (B7 : TS) (p1 : Int32) (p2 : Int32) : Option (Int32 × TS × TS × TS) :=
  (f_X6_troubleWithEvening Z0 T1 T2 T3 G4 R4 P5 O7 B7 p1 p2).bind fun q2 =>
  if q2 = 0 then
    (f_X0_firstWrong T1 T3 G4 R4 p1 p2).bind fun q5 =>
    if q5.1 = (-1 : Int32) then
      (f_X5_become T1 q5.2).bind fun q8 =>
      (f_X5_knownInAll q8).bind fun q10 =>
      some (q10, Z0, q8, q5.2)
    else
      (f_X6_refuse Z0 T1 T2 q5.2 G4 R4 P5 O7 B7 (-5 : Int32)).bind fun q12 =>
      some (q12.1, q12.2, T1, q5.2)
  else
    (f_X6_refuse Z0 T1 T2 T3 G4 R4 P5 O7 B7 q2).bind fun q14 =>
    some (q14.1, q14.2, T1, T3)
def f_X6_troubleWithSayings (Z0 : TS) (T1 : TS) (T2 : TS) (T3 : TS) (G4 : TS) (R4 : LTS) (P5 : TS) (O7 : TS) (B7 : TS) (p1 : Int32) (p2 : Int32) : Option Int32 :=
  (f_X6_troubleWithEvening Z0 T1 T2 T3 G4 R4 P5 O7 B7 p1 p2).bind fun q2 =>
  if q2 = 0 then
    (f_X0_areSayings T1 T3 G4 R4 p1 p2).bind fun q5 =>
    some (if q5 = 0 then (-2 : Int32) else (0 : Int32))
  else
    some q2
def f_X6_falsely (Z0 : TS) (T1 : TS) (T2 : TS) (T3 : TS) (G4 : TS) (R4 : LTS) (P5 : TS) (O7 : TS) (B7 : TS) (p1 : Int32) (p2 : Int32) : Option (Int32 × TS) :=
  (f_X6_troubleWithSayings Z0 T1 T2 T3 G4 R4 P5 O7 B7 p1 p2).bind fun q2 =>
  if q2 = 0 then
    (f_X0_falseSayings T1 T3 G4 R4 p1 p2).bind fun q5 =>
    some (q5, Z0)
  else
    (f_X6_refuse Z0 T1 T2 T3 G4 R4 P5 O7 B7 q2).bind fun q7 =>
    some (q7.1, q7.2)
def f_X6_feed (Z0 : TS) (T1 : TS) (T2 : TS) (T3 : TS) (G4 : TS) (R4 : LTS) (P5 : TS) (O7 : TS) (B7 : TS) (p1 : Int32) : Option (Int32 × TS × TS) :=
  if (f_X6_isWithin p1 (0 : Int32) (255 : Int32)) = 0 then
    (f_X6_refuse Z0 T1 T2 T3 G4 R4 P5 O7 B7 (-2 : Int32)).bind fun q4 =>
    some (q4.1, q4.2, P5)
  else
    if (P5 0 0) < (250 : Int32) then
      (f_X4_put P5 p1).bind fun q7 =>
      some ((q7 0 0), Z0, q7)
    else
      (f_X6_refuse Z0 T1 T2 T3 G4 R4 P5 O7 B7 (-6 : Int32)).bind fun q9 =>
      some (q9.1, q9.2, P5)
def f_X6_first (Z0 : TS) (T1 : TS) (T2 : TS) (T3 : TS) (G4 : TS) (R4 : LTS) (P5 : TS) (O7 : TS) (B7 : TS) (p1 : Int32) (p2 : Int32) : Option (Int32 × TS × TS) :=
  if (f_X5_isSight T1 p1) = 0 then
    (f_X6_refuse Z0 T1 T2 T3 G4 R4 P5 O7 B7 (-2 : Int32)).bind fun q4 =>
    some (q4.1, q4.2, T3)
  else
    if (f_X6_isRounds p2) = 0 then
      (f_X6_refuse Z0 T1 T2 T3 G4 R4 P5 O7 B7 (-2 : Int32)).bind fun q8 =>
      some (q8.1, q8.2, T3)
    else
      if (T1 1 0) = 0 then
        (f_X6_refuse Z0 T1 T2 T3 G4 R4 P5 O7 B7 (-5 : Int32)).bind fun q11 =>
        some (q11.1, q11.2, T3)
      else
        (f_X2_bestToTell T1 T3 p1 p2).bind fun q13 =>
        some (q13.1, Z0, q13.2)
def f_X6_free (Z0 : TS) (T1 : TS) (T2 : TS) (T3 : TS) (G4 : TS) (R4 : LTS) (P5 : TS) (O7 : TS) (B7 : TS) (p1 : Int32) (p2 : Int32) (p3 : Int32) : Option (Int32 × TS × TS) :=
  if (f_X5_isSight T1 p3) = 0 then
    if (-2 : Int32) = 0 then
      (f_X0_silentOf T1 T3 G4 R4 p1 p2 p3).bind fun q5 =>
      (f_X5_whoIsBarred T1 p3).bind fun q7 =>
      (f_X0_mouthsBehind T1 T3 G4 R4 p1 p2 p3).bind fun q9 =>
      some (((q5 &&& (q7 ^^^ (-1 : Int32))) &&& q9.1), Z0, q9.2)
    else
      (f_X6_refuse Z0 T1 T2 T3 G4 R4 P5 O7 B7 (-2 : Int32)).bind fun q11 =>
      some (q11.1, q11.2, T3)
  else
    (f_X6_troubleWithSayings Z0 T1 T2 T3 G4 R4 P5 O7 B7 p1 p2).bind fun q13 =>
    if q13 = 0 then
      (f_X0_silentOf T1 T3 G4 R4 p1 p2 p3).bind fun q16 =>
      (f_X5_whoIsBarred T1 p3).bind fun q18 =>
      (f_X0_mouthsBehind T1 T3 G4 R4 p1 p2 p3).bind fun q20 =>
      some (((q16 &&& (q18 ^^^ (-1 : Int32))) &&& q20.1), Z0, q20.2)
    else
      (f_X6_refuse Z0 T1 T2 T3 G4 R4 P5 O7 B7 q13).bind fun q22 =>
      some (q22.1, q22.2, T3)
def f_X6_hear (Z0 : TS) (T1 : TS) (T2 : TS) (T3 : TS) (G4 : TS) (R4 : LTS) (P5 : TS) (O7 : TS) (B7 : TS) (p1 : Int32) (p2 : Int32) (p3 : Int32) : Option (Int32 × TS × TS) :=
  if (f_X5_isOne T1 p1) = 0 then
    (f_X6_refuse Z0 T1 T2 T3 G4 R4 P5 O7 B7 (-2 : Int32)).bind fun q4 =>
    some (q4.1, q4.2, T1)
  else
    if (f_X5_isSight T1 p2) = 0 then
      (f_X6_refuse Z0 T1 T2 T3 G4 R4 P5 O7 B7 (-2 : Int32)).bind fun q8 =>
      some (q8.1, q8.2, T1)
    else
      if p1 < 0 ∨ 7 ≤ (p1).toNatClampNeg then none else
      (f_X5_putHeard T1 p1 p2 p3).bind fun q12 =>
      some ((if (f_X6_has ((T1 9) (p1).toNatClampNeg) p2) = p3 then (0 : Int32) else (1 : Int32)), Z0, q12)
def f_X6_heard (Z0 : TS) (T1 : TS) (T2 : TS) (T3 : TS) (G4 : TS) (R4 : LTS) (P5 : TS) (O7 : TS) (B7 : TS) (p1 : Int32) (p2 : Int32) (p3 : Int32) : Option (Int32 × TS × TS) :=
  if (f_X5_isOne T1 p3) = 0 then
    if (-2 : Int32) = 0 then
      (f_X0_firstWrong T1 T3 G4 R4 p1 p2).bind fun q5 =>
      if q5.1 = (-1 : Int32) then
        if p3 < 0 ∨ 7 ≤ (p3).toNatClampNeg then none else
        some (((q5.2 9) (p3).toNatClampNeg), Z0, q5.2)
      else
        (f_X6_refuse Z0 T1 T2 q5.2 G4 R4 P5 O7 B7 (-5 : Int32)).bind fun q9 =>
        some (q9.1, q9.2, q5.2)
    else
      (f_X6_refuse Z0 T1 T2 T3 G4 R4 P5 O7 B7 (-2 : Int32)).bind fun q11 =>
      some (q11.1, q11.2, T3)
  else
    (f_X6_troubleWithEvening Z0 T1 T2 T3 G4 R4 P5 O7 B7 p1 p2).bind fun q13 =>
    if q13 = 0 then
      (f_X0_firstWrong T1 T3 G4 R4 p1 p2).bind fun q16 =>
      if q16.1 = (-1 : Int32) then
        if p3 < 0 ∨ 7 ≤ (p3).toNatClampNeg then none else
        some (((q16.2 9) (p3).toNatClampNeg), Z0, q16.2)
      else
        (f_X6_refuse Z0 T1 T2 q16.2 G4 R4 P5 O7 B7 (-5 : Int32)).bind fun q20 =>
        some (q20.1, q20.2, q16.2)
    else
      (f_X6_refuse Z0 T1 T2 T3 G4 R4 P5 O7 B7 q13).bind fun q22 =>
      some (q22.1, q22.2, T3)
def f_X6_holds (Z0 : TS) (T1 : TS) (T2 : TS) (T3 : TS) (G4 : TS) (R4 : LTS) (P5 : TS) (O7 : TS) (B7 : TS) (p1 : Int32) : Option Int32 :=
  (f_X3_heldBy G4 R4 p1).bind fun q2 =>
  some q2
def f_X6_image (Z0 : TS) (T1 : TS) (T2 : TS) (T3 : TS) (G4 : TS) (R4 : LTS) (P5 : TS) (O7 : TS) (B7 : TS) : Option (Int32 × TS × TS) :=
  (f_X5_become T2 T1).bind fun q2 =>
  some ((1 : Int32), (up Z0 9 (fun _ => (1 : Int32))), q2)
def f_X6_isKind (p0 : Int32) : Int32 :=
  (f_X6_isWithin p0 (0 : Int32) (5 : Int32))
theorem bz_X6_isKind (p0 : Int32) : f_X6_isKind p0 = 0 ∨ f_X6_isKind p0 = 1 := by
  obtain ⟨rr, hM⟩ : ∃ rr, f_X6_isKind p0 = rr := ⟨_, rfl⟩
  rw [hM]
  rw [f_X6_isKind] at hM
  subst hM
  exact (bz_X6_isWithin p0 (0 : Int32) (5 : Int32))
def f_X6_judge (Z0 : TS) (T1 : TS) (T2 : TS) (T3 : TS) (G4 : TS) (R4 : LTS) (P5 : TS) (O7 : TS) (B7 : TS) (p1 : Int32) (p2 : Int32) : Option (Int32 × TS × TS) :=
  (f_X6_troubleWithEvening Z0 T1 T2 T3 G4 R4 P5 O7 B7 p1 p2).bind fun q2 =>
  if q2 = 0 then
    (f_X0_firstWrong T1 T3 G4 R4 p1 p2).bind fun q5 =>
    some (q5.1, Z0, q5.2)
  else
    (f_X6_refuse Z0 T1 T2 T3 G4 R4 P5 O7 B7 q2).bind fun q7 =>
    some (q7.1, q7.2, T3)
def f_X6_known (Z0 : TS) (T1 : TS) (T2 : TS) (T3 : TS) (G4 : TS) (R4 : LTS) (P5 : TS) (O7 : TS) (B7 : TS) : Option Int32 :=
  (f_X5_knownInAll T1).bind fun q2 =>
  some q2
def f_X6_knownBy (Z0 : TS) (T1 : TS) (T2 : TS) (T3 : TS) (G4 : TS) (R4 : LTS) (P5 : TS) (O7 : TS) (B7 : TS) (p1 : Int32) : Option (Int32 × TS × TS) :=
  if (f_X6_isRounds p1) = 0 then
    (f_X6_refuse Z0 T1 T2 T3 G4 R4 P5 O7 B7 (-2 : Int32)).bind fun q4 =>
    some (q4.1, q4.2, T3)
  else
    (f_X2_after T1 T3 p1).bind fun q6 =>
    (f_X5_knownInAll q6).bind fun q8 =>
    some (q8, Z0, q6)
def f_X6_loudest (Z0 : TS) (T1 : TS) (T2 : TS) (T3 : TS) (G4 : TS) (R4 : LTS) (P5 : TS) (O7 : TS) (B7 : TS) : Option (Int32 × TS) :=
  if (T1 1 0) = 0 then
    (f_X6_refuse Z0 T1 T2 T3 G4 R4 P5 O7 B7 (-5 : Int32)).bind fun q3 =>
    some (q3.1, q3.2)
  else
    (f_X5_whoMaySayMost T1).bind fun q5 =>
    some (q5, Z0)
def f_X6_may (Z0 : TS) (T1 : TS) (T2 : TS) (T3 : TS) (G4 : TS) (R4 : LTS) (P5 : TS) (O7 : TS) (B7 : TS) (p1 : Int32) (p2 : Int32) : Option (Int32 × TS) :=
  if (f_X5_isOne T1 p1) = 0 then
    (f_X6_refuse Z0 T1 T2 T3 G4 R4 P5 O7 B7 (-2 : Int32)).bind fun q4 =>
    some (q4.1, q4.2)
  else
    if (f_X5_isSight T1 p2) = 0 then
      (f_X6_refuse Z0 T1 T2 T3 G4 R4 P5 O7 B7 (-2 : Int32)).bind fun q8 =>
      some (q8.1, q8.2)
    else
      (f_X5_sayableBy T1 p1).bind fun q10 =>
      some ((if (f_X6_has q10 p2) = 0 then (0 : Int32) else (1 : Int32)), Z0)
def f_X6_mouths (Z0 : TS) (T1 : TS) (T2 : TS) (T3 : TS) (G4 : TS) (R4 : LTS) (P5 : TS) (O7 : TS) (B7 : TS) (p1 : Int32) : Option (Int32 × TS) :=
  if (f_X5_isSight T1 p1) = 0 then
    (f_X6_refuse Z0 T1 T2 T3 G4 R4 P5 O7 B7 (-2 : Int32)).bind fun q4 =>
    some (q4.1, q4.2)
  else
    (f_X5_whoMaySay T1 p1).bind fun q6 =>
    some (q6, Z0)
def f_X6_mouthsBy (Z0 : TS) (T1 : TS) (T2 : TS) (T3 : TS) (G4 : TS) (R4 : LTS) (P5 : TS) (O7 : TS) (B7 : TS) (p1 : Int32) (p2 : Int32) : Option (Int32 × TS × TS) :=
  if (f_X5_isSight T1 p1) = 0 then
    (f_X6_refuse Z0 T1 T2 T3 G4 R4 P5 O7 B7 (-2 : Int32)).bind fun q4 =>
    some (q4.1, q4.2, T3)
  else
    if (f_X6_isRounds p2) = 0 then
      (f_X6_refuse Z0 T1 T2 T3 G4 R4 P5 O7 B7 (-2 : Int32)).bind fun q8 =>
      some (q8.1, q8.2, T3)
    else
      (f_X2_after T1 T3 p2).bind fun q10 =>
      (f_X5_whoMaySay q10 p1).bind fun q12 =>
      some (q12, Z0, q10)
def f_X6_near (Z0 : TS) (T1 : TS) (T2 : TS) (T3 : TS) (G4 : TS) (R4 : LTS) (P5 : TS) (O7 : TS) (B7 : TS) (p1 : Int32) (p2 : Int32) (p3 : Int32) : Option (Int32 × TS × TS) :=
  if (f_X5_isOne T1 p1) = 0 then
    (f_X6_refuse Z0 T1 T2 T3 G4 R4 P5 O7 B7 (-2 : Int32)).bind fun q4 =>
    some (q4.1, q4.2, T1)
  else
    if (f_X5_isOne T1 p2) = 0 then
      (f_X6_refuse Z0 T1 T2 T3 G4 R4 P5 O7 B7 (-2 : Int32)).bind fun q8 =>
      some (q8.1, q8.2, T1)
    else
      if p1 = p2 then
        (f_X6_refuse Z0 T1 T2 T3 G4 R4 P5 O7 B7 (-2 : Int32)).bind fun q11 =>
        some (q11.1, q11.2, T1)
      else
        if p1 < 0 ∨ 7 ≤ (p1).toNatClampNeg then none else
        (f_X5_putHears T1 p1 p2 p3).bind fun q15 =>
        some ((if (f_X6_has ((T1 10) (p1).toNatClampNeg) p2) = p3 then (0 : Int32) else (1 : Int32)), Z0, q15)
def f_X6_never (Z0 : TS) (T1 : TS) (T2 : TS) (T3 : TS) (G4 : TS) (R4 : LTS) (P5 : TS) (O7 : TS) (B7 : TS) (p1 : Int32) : Option (Int32 × TS × TS) :=
  if (f_X5_isSight T1 p1) = 0 then
    (f_X6_refuse Z0 T1 T2 T3 G4 R4 P5 O7 B7 (-2 : Int32)).bind fun q4 =>
    some (q4.1, q4.2, T3)
  else
    (f_X2_after T1 T3 (20 : Int32)).bind fun q7 =>
    (f_X5_whoKnows q7 p1).bind fun q9 =>
    some (((f_X5_allPeople T1) &&& (q9 ^^^ (-1 : Int32))), Z0, q7)
def f_X6_night (Z0 : TS) (T1 : TS) (T2 : TS) (T3 : TS) (G4 : TS) (R4 : LTS) (P5 : TS) (O7 : TS) (B7 : TS) : Option (Int32 × TS) :=
  (f_X5_passNight T1).bind fun q2 =>
  some ((q2 5 0), q2)
def f_X6_order (Z0 : TS) (T1 : TS) (T2 : TS) (T3 : TS) (G4 : TS) (R4 : LTS) (P5 : TS) (O7 : TS) (B7 : TS) (p1 : Int32) : Option (Int32 × TS × TS × TS × TS) :=
  if (f_X6_isWithin p1 (-1 : Int32) ((T1 1 0) - (1 : Int32))) = 0 then
    (f_X6_refuse Z0 T1 T2 T3 G4 R4 P5 O7 B7 (-2 : Int32)).bind fun q4 =>
    some (q4.1, q4.2, T3, O7, B7)
  else
    (f_X1_search O7 B7 T1 T3).bind fun q6 =>
    if p1 = (-1 : Int32) then
      some ((f_X1_mostKnown q6.1 q6.2.1 T1 q6.2.2), Z0, q6.2.2, q6.1, q6.2.1)
    else
      (f_X1_speakerAt q6.1 q6.2.1 T1 q6.2.2 p1).bind fun q10 =>
      some (q10, Z0, q6.2.2, q6.1, q6.2.1)
def f_X6_pairs (Z0 : TS) (T1 : TS) (T2 : TS) (T3 : TS) (G4 : TS) (R4 : LTS) (P5 : TS) (O7 : TS) (B7 : TS) : Option Int32 :=
  (f_X5_pairsHearing T1).bind fun q2 =>
  some q2
def f_X6_parts (Z0 : TS) (T1 : TS) (T2 : TS) (T3 : TS) (G4 : TS) (R4 : LTS) (P5 : TS) (O7 : TS) (B7 : TS) (p1 : Int32) (p2 : Int32) (p3 : Int32) : Option (Int32 × TS) :=
  if (if (f_X6_isWithin p2 (1 : Int32) (10 : Int32)) = 0 then (0 : Int32) else (if (f_X6_isWithin p3 (0 : Int32) (f_X5_allPeople T1)) = 0 then (0 : Int32) else (1 : Int32))) = 0 then
    if (-2 : Int32) = 0 then
      (f_X3_isApart G4 R4 p1 p2 p3 (f_X5_allPeople T1)).bind fun q10 =>
      some ((if q10 = 0 then (0 : Int32) else (1 : Int32)), Z0)
    else
      (f_X6_refuse Z0 T1 T2 T3 G4 R4 P5 O7 B7 (-2 : Int32)).bind fun q13 =>
      some (q13.1, q13.2)
  else
    (f_X3_troubleWithRow G4 R4 p1 p2).bind fun q15 =>
    if q15 = 0 then
      (f_X3_isApart G4 R4 p1 p2 p3 (f_X5_allPeople T1)).bind fun q19 =>
      some ((if q19 = 0 then (0 : Int32) else (1 : Int32)), Z0)
    else
      (f_X6_refuse Z0 T1 T2 T3 G4 R4 P5 O7 B7 q15).bind fun q22 =>
      some (q22.1, q22.2)
def f_X6_person (Z0 : TS) (T1 : TS) (T2 : TS) (T3 : TS) (G4 : TS) (R4 : LTS) (P5 : TS) (O7 : TS) (B7 : TS) (p1 : Int32) (p2 : Int32) : Option (Int32 × TS × TS) :=
  if (f_X6_isKind p1) = 0 then
    (f_X6_refuse Z0 T1 T2 T3 G4 R4 P5 O7 B7 (-2 : Int32)).bind fun q4 =>
    some (q4.1, q4.2, T1)
  else
    if (f_X6_isWithin p2 (0 : Int32) (9 : Int32)) = 0 then
      (f_X6_refuse Z0 T1 T2 T3 G4 R4 P5 O7 B7 (-2 : Int32)).bind fun q8 =>
      some (q8.1, q8.2, T1)
    else
      if (f_X5_isFull T1) = 0 then
        (f_X5_join T1 p1 p2).bind fun q12 =>
        some (q12.1, Z0, q12.2)
      else
        (f_X6_refuse Z0 T1 T2 T3 G4 R4 P5 O7 B7 (-6 : Int32)).bind fun q14 =>
        some (q14.1, q14.2, T1)
def f_X6_personOf (Z0 : TS) (T1 : TS) (T2 : TS) (T3 : TS) (G4 : TS) (R4 : LTS) (P5 : TS) (O7 : TS) (B7 : TS) (p1 : Int32) (p2 : Int32) : Option (Int32 × TS) :=
  if (f_X5_isOne T1 p1) = 0 then
    (f_X6_refuse Z0 T1 T2 T3 G4 R4 P5 O7 B7 (-2 : Int32)).bind fun q4 =>
    some (q4.1, q4.2)
  else
    if (f_X6_isWithin p2 (0 : Int32) (7 : Int32)) = 0 then
      (f_X6_refuse Z0 T1 T2 T3 G4 R4 P5 O7 B7 (-2 : Int32)).bind fun q8 =>
      some (q8.1, q8.2)
    else
      (f_X5_factOf T1 p1 p2).bind fun q10 =>
      some (q10, Z0)
def f_X6_round (Z0 : TS) (T1 : TS) (T2 : TS) (T3 : TS) (G4 : TS) (R4 : LTS) (P5 : TS) (O7 : TS) (B7 : TS) : Option (Int32 × TS) :=
  (f_X5_passRound T1).bind fun q2 =>
  (f_X5_knownInAll q2.2).bind fun q4 =>
  some (q4, q2.2)
def f_X6_rounds (Z0 : TS) (T1 : TS) (T2 : TS) (T3 : TS) (G4 : TS) (R4 : LTS) (P5 : TS) (O7 : TS) (B7 : TS) : Option (Int32 × TS) :=
  (f_X2_untilStill T1 T3).bind fun q2 =>
  some (q2.1, q2.2)
def f_X6_row (Z0 : TS) (T1 : TS) (T2 : TS) (T3 : TS) (G4 : TS) (R4 : LTS) (P5 : TS) (O7 : TS) (B7 : TS) (p1 : Int32) (p2 : Int32) (p3 : Int32) : Option (Int32 × TS × TS × LTS) :=
  if (f_X6_isShelf p1) = 0 then
    (f_X6_refuse Z0 T1 T2 T3 G4 R4 P5 O7 B7 (-2 : Int32)).bind fun q4 =>
    some (q4.1, q4.2, G4, R4)
  else
    if (f_X6_isWithin p2 (0 : Int32) (4 : Int32)) = 0 then
      (f_X6_refuse Z0 T1 T2 T3 G4 R4 P5 O7 B7 (-2 : Int32)).bind fun q8 =>
      some (q8.1, q8.2, G4, R4)
    else
      if (f_X6_isWithin p3 (0 : Int32) (40 : Int32)) = 0 then
        (f_X6_refuse Z0 T1 T2 T3 G4 R4 P5 O7 B7 (-2 : Int32)).bind fun q12 =>
        some (q12.1, q12.2, G4, R4)
      else
        (f_X3_putRow G4 R4 p1 p2 p3).bind fun q14 =>
        some ((1 : Int32), Z0, q14.1, q14.2)
def f_X6_say (Z0 : TS) (T1 : TS) (T2 : TS) (T3 : TS) (G4 : TS) (R4 : LTS) (P5 : TS) (O7 : TS) (B7 : TS) (p1 : Int32) (p2 : Int32) : Option (Int32 × TS × TS) :=
  if (f_X5_isOne T1 p1) = 0 then
    (f_X6_refuse Z0 T1 T2 T3 G4 R4 P5 O7 B7 (-2 : Int32)).bind fun q4 =>
    some (q4.1, q4.2, T1)
  else
    if (f_X5_isSight T1 p2) = 0 then
      (f_X6_refuse Z0 T1 T2 T3 G4 R4 P5 O7 B7 (-2 : Int32)).bind fun q8 =>
      some (q8.1, q8.2, T1)
    else
      (f_X5_sayableBy T1 p1).bind fun q10 =>
      if (f_X6_has q10 p2) = 0 then
        (f_X6_refuse Z0 T1 T2 T3 G4 R4 P5 O7 B7 (-5 : Int32)).bind fun q14 =>
        some (q14.1, q14.2, T1)
      else
        (f_X5_tell T1 p1 ((1 : Int32) <<< (p2 &&& 31))).bind fun q16 =>
        some (q16.1, Z0, q16.2)
def f_X6_says (Z0 : TS) (T1 : TS) (T2 : TS) (T3 : TS) (G4 : TS) (R4 : LTS) (P5 : TS) (O7 : TS) (B7 : TS) (p1 : Int32) (p2 : Int32) : Option (Int32 × TS) :=
  if (f_X6_isShelf p1) = 0 then
    (f_X6_refuse Z0 T1 T2 T3 G4 R4 P5 O7 B7 (-2 : Int32)).bind fun q4 =>
    some (q4.1, q4.2)
  else
    if (f_X6_isKind p2) = 0 then
      (f_X6_refuse Z0 T1 T2 T3 G4 R4 P5 O7 B7 (-2 : Int32)).bind fun q8 =>
      some (q8.1, q8.2)
    else
      (f_X3_heldBy G4 R4 p1).bind fun q10 =>
      if q10 = (-1 : Int32) then
        (f_X6_refuse Z0 T1 T2 T3 G4 R4 P5 O7 B7 (-4 : Int32)).bind fun q13 =>
        some (q13.1, q13.2)
      else
        if (f_X5_isOne T1 (q10 - (10 : Int32))) = 0 then
          (f_X6_refuse Z0 T1 T2 T3 G4 R4 P5 O7 B7 (-3 : Int32)).bind fun q17 =>
          some (q17.1, q17.2)
        else
          (f_X5_isOfKind T1 (q10 - (10 : Int32)) p2).bind fun q19 =>
          if q19 = 0 then
            (f_X6_refuse Z0 T1 T2 T3 G4 R4 P5 O7 B7 (-3 : Int32)).bind fun q22 =>
            some (q22.1, q22.2)
          else
            (f_X5_sayingAs T1 (q10 - (10 : Int32)) p2).bind fun q24 =>
            some (q24, Z0)
def f_X6_see (Z0 : TS) (T1 : TS) (T2 : TS) (T3 : TS) (G4 : TS) (R4 : LTS) (P5 : TS) (O7 : TS) (B7 : TS) (p1 : Int32) (p2 : Int32) (p3 : Int32) : Option (Int32 × TS × TS) :=
  if (f_X5_isOne T1 p1) = 0 then
    (f_X6_refuse Z0 T1 T2 T3 G4 R4 P5 O7 B7 (-2 : Int32)).bind fun q4 =>
    some (q4.1, q4.2, T1)
  else
    if (f_X5_isSight T1 p2) = 0 then
      (f_X6_refuse Z0 T1 T2 T3 G4 R4 P5 O7 B7 (-2 : Int32)).bind fun q8 =>
      some (q8.1, q8.2, T1)
    else
      if (f_X6_isWithin p3 (0 : Int32) (2 : Int32)) = 0 then
        (f_X6_refuse Z0 T1 T2 T3 G4 R4 P5 O7 B7 (-2 : Int32)).bind fun q12 =>
        some (q12.1, q12.2, T1)
      else
        if p3 = 0 then
          (f_X5_howSeen T1 p1 p2).bind fun q15 =>
          (f_X5_putSeen T1 p1 p2 p3).bind fun q17 =>
          some (q15, Z0, q17)
        else
          (f_X5_kindOf T1 p1).bind fun q19 =>
          if q19 = (4 : Int32) then
            (f_X6_refuse Z0 T1 T2 T3 G4 R4 P5 O7 B7 (-5 : Int32)).bind fun q22 =>
            some (q22.1, q22.2, T1)
          else
            (f_X5_howSeen T1 p1 p2).bind fun q24 =>
            (f_X5_putSeen T1 p1 p2 p3).bind fun q26 =>
            some (q24, Z0, q26)
def f_X6_seed (Z0 : TS) (T1 : TS) (T2 : TS) (T3 : TS) (G4 : TS) (R4 : LTS) (P5 : TS) (O7 : TS) (B7 : TS) (p1 : Int32) : Option (Int32 × TS) :=
  some ((T1 6 0), (up T1 6 (fun _ => p1)))
def f_X6_set (Z0 : TS) (T1 : TS) (T2 : TS) (T3 : TS) (G4 : TS) (R4 : LTS) (P5 : TS) (O7 : TS) (B7 : TS) (p1 : Int32) (p2 : Int32) (p3 : Int64) : Option (Int32 × TS × LTS) :=
  (f_X3_troubleWithRow G4 R4 p1 (0 : Int32)).bind fun q2 =>
  if q2 = 0 then
    (f_X3_sizeOf G4 R4 p1).bind fun q5 =>
    if (f_X6_isWithin p2 (0 : Int32) (q5 - (1 : Int32))) = 0 then
      (f_X6_refuse Z0 T1 T2 T3 G4 R4 P5 O7 B7 (-2 : Int32)).bind fun q9 =>
      some (q9.1, q9.2, R4)
    else
      (f_X3_putElement G4 R4 p1 p2 p3).bind fun q11 =>
      some ((1 : Int32), Z0, q11)
  else
    (f_X6_refuse Z0 T1 T2 T3 G4 R4 P5 O7 B7 q2).bind fun q13 =>
    some (q13.1, q13.2, R4)
def f_X6_show (Z0 : TS) (T1 : TS) (T2 : TS) (T3 : TS) (G4 : TS) (R4 : LTS) (P5 : TS) (O7 : TS) (B7 : TS) (p1 : Int32) (p2 : Int32) : Option (Int32 × TS × TS) :=
  if (f_X6_isShelf p1) = 0 then
    (f_X6_refuse Z0 T1 T2 T3 G4 R4 P5 O7 B7 (-2 : Int32)).bind fun q4 =>
    some (q4.1, q4.2, G4)
  else
    if p2 = (-1 : Int32) then
      (f_X3_putOne G4 R4 p1 p2).bind fun q7 =>
      some ((1 : Int32), Z0, q7)
    else
      if (f_X5_isOne T1 p2) = 0 then
        (f_X6_refuse Z0 T1 T2 T3 G4 R4 P5 O7 B7 (-2 : Int32)).bind fun q11 =>
        some (q11.1, q11.2, G4)
      else
        (f_X3_putOne G4 R4 p1 p2).bind fun q13 =>
        some ((1 : Int32), Z0, q13)
def f_X6_sights (Z0 : TS) (T1 : TS) (T2 : TS) (T3 : TS) (G4 : TS) (R4 : LTS) (P5 : TS) (O7 : TS) (B7 : TS) (p1 : Int32) : Option (Int32 × TS × TS) :=
  if (f_X6_isWithin p1 (T1 0 0) (8 : Int32)) = 0 then
    (f_X6_refuse Z0 T1 T2 T3 G4 R4 P5 O7 B7 (-2 : Int32)).bind fun q4 =>
    some (q4.1, q4.2, T1)
  else
    some ((T1 0 0), Z0, (up T1 0 (fun _ => p1)))
def f_X6_sign (Z0 : TS) (T1 : TS) (T2 : TS) (T3 : TS) (G4 : TS) (R4 : LTS) (P5 : TS) (O7 : TS) (B7 : TS) (p1 : Int32) (p2 : Int32) (p3 : Int32) : Option (Int32 × TS × TS) :=
  if (f_X5_isOne T1 p1) = 0 then
    (f_X6_refuse Z0 T1 T2 T3 G4 R4 P5 O7 B7 (-2 : Int32)).bind fun q4 =>
    some (q4.1, q4.2, T1)
  else
    if (f_X5_isOne T1 p2) = 0 then
      (f_X6_refuse Z0 T1 T2 T3 G4 R4 P5 O7 B7 (-2 : Int32)).bind fun q8 =>
      some (q8.1, q8.2, T1)
    else
      if (f_X5_isSight T1 p3) = 0 then
        (f_X6_refuse Z0 T1 T2 T3 G4 R4 P5 O7 B7 (-2 : Int32)).bind fun q12 =>
        some (q12.1, q12.2, T1)
      else
        if p1 < 0 ∨ 7 ≤ (p1).toNatClampNeg then none else
        if (f_X6_has ((T1 7) (p1).toNatClampNeg) p3) = 0 then
          (f_X6_refuse Z0 T1 T2 T3 G4 R4 P5 O7 B7 (-5 : Int32)).bind fun q17 =>
          some (q17.1, q17.2, T1)
        else
          if p2 < 0 ∨ 7 ≤ (p2).toNatClampNeg then none else
          if (f_X6_has ((T1 10) (p2).toNatClampNeg) p1) = 0 then
            (f_X6_refuse Z0 T1 T2 T3 G4 R4 P5 O7 B7 (-5 : Int32)).bind fun q22 =>
            some (q22.1, q22.2, T1)
          else
            (f_X5_putHeard T1 p2 p3 (1 : Int32)).bind fun q25 =>
            some ((if (f_X6_has ((T1 9) (p2).toNatClampNeg) p3) = 0 then (1 : Int32) else (0 : Int32)), Z0, q25)
def f_X6_spread (Z0 : TS) (T1 : TS) (T2 : TS) (T3 : TS) (G4 : TS) (R4 : LTS) (P5 : TS) (O7 : TS) (B7 : TS) (p1 : Int32) (p2 : Int32) : Option (Int32 × TS × TS) :=
  if (f_X6_isRounds p1) = 0 then
    (f_X6_refuse Z0 T1 T2 T3 G4 R4 P5 O7 B7 (-2 : Int32)).bind fun q4 =>
    some (q4.1, q4.2, T3)
  else
    if (f_X5_isOne T1 p2) = 0 then
      (f_X6_refuse Z0 T1 T2 T3 G4 R4 P5 O7 B7 (-2 : Int32)).bind fun q8 =>
      some (q8.1, q8.2, T3)
    else
      (f_X2_after T1 T3 p1).bind fun q10 =>
      if p2 < 0 ∨ 7 ≤ (p2).toNatClampNeg then none else
      some (((q10 9) (p2).toNatClampNeg), Z0, q10)
def f_X6_status (Z0 : TS) (T1 : TS) (T2 : TS) (T3 : TS) (G4 : TS) (R4 : LTS) (P5 : TS) (O7 : TS) (B7 : TS) (p1 : Int32) : Option Int32 :=
  if p1 = (0 : Int32) then
    some (T1 0 0)
  else
  if p1 = (1 : Int32) then
    some (T1 1 0)
  else
  if p1 = (2 : Int32) then
    some (T1 2 0)
  else
  if p1 = (3 : Int32) then
    some (T1 3 0)
  else
  if p1 = (4 : Int32) then
    some (T1 4 0)
  else
  if p1 = (5 : Int32) then
    some (T1 5 0)
  else
  if p1 = (6 : Int32) then
    some (P5 0 0)
  else
  if p1 = (7 : Int32) then
    some (T1 6 0)
  else
  if p1 = (8 : Int32) then
    (f_X3_filled G4 R4).bind fun q3 =>
    some q3
  else
  if p1 = (9 : Int32) then
    (f_X5_knownInAll T1).bind fun q5 =>
    some q5
  else
  if p1 = (10 : Int32) then
    (f_X5_pairsHearing T1).bind fun q7 =>
    some q7
  else
  if (f_X6_isWithin p1 (12 : Int32) (16 : Int32)) = 0 then
    some (-1 : Int32)
  else
    if (p1 - (12 : Int32)) < 0 ∨ 5 ≤ ((p1 - (12 : Int32))).toNatClampNeg then none else
    some ((Z0 8) ((p1 - (12 : Int32))).toNatClampNeg)
def f_X6_stop (Z0 : TS) (T1 : TS) (T2 : TS) (T3 : TS) (G4 : TS) (R4 : LTS) (P5 : TS) (O7 : TS) (B7 : TS) (p1 : Int32) (p2 : Int32) : Option (Int32 × TS × TS) :=
  if (f_X5_isSight T1 p1) = 0 then
    (f_X6_refuse Z0 T1 T2 T3 G4 R4 P5 O7 B7 (-2 : Int32)).bind fun q4 =>
    some (q4.1, q4.2, T3)
  else
    if (f_X6_isRounds p2) = 0 then
      (f_X6_refuse Z0 T1 T2 T3 G4 R4 P5 O7 B7 (-2 : Int32)).bind fun q8 =>
      some (q8.1, q8.2, T3)
    else
      (f_X2_fewestToShow T1 T3 p1 p2).bind fun q10 =>
      some (q10.1, Z0, q10.2)
def f_X6_surely (Z0 : TS) (T1 : TS) (T2 : TS) (T3 : TS) (G4 : TS) (R4 : LTS) (P5 : TS) (O7 : TS) (B7 : TS) (p1 : Int32) (p2 : Int32) (p3 : Int32) : Option (Int32 × TS) :=
  if (f_X5_isSight T1 p3) = 0 then
    if (-2 : Int32) = 0 then
      (f_X0_silentOf T1 T3 G4 R4 p1 p2 p3).bind fun q5 =>
      (f_X5_whoIsBarred T1 p3).bind fun q7 =>
      some ((q5 &&& q7), Z0)
    else
      (f_X6_refuse Z0 T1 T2 T3 G4 R4 P5 O7 B7 (-2 : Int32)).bind fun q9 =>
      some (q9.1, q9.2)
  else
    (f_X6_troubleWithSayings Z0 T1 T2 T3 G4 R4 P5 O7 B7 p1 p2).bind fun q11 =>
    if q11 = 0 then
      (f_X0_silentOf T1 T3 G4 R4 p1 p2 p3).bind fun q14 =>
      (f_X5_whoIsBarred T1 p3).bind fun q16 =>
      some ((q14 &&& q16), Z0)
    else
      (f_X6_refuse Z0 T1 T2 T3 G4 R4 P5 O7 B7 q11).bind fun q18 =>
      some (q18.1, q18.2)
def f_X6_talk (Z0 : TS) (T1 : TS) (T2 : TS) (T3 : TS) (G4 : TS) (R4 : LTS) (P5 : TS) (O7 : TS) (B7 : TS) (p1 : Int32) : Option (Int32 × TS × TS) :=
  if (f_X6_isWithin p1 (1 : Int32) (40 : Int32)) = 0 then
    (f_X6_refuse Z0 T1 T2 T3 G4 R4 P5 O7 B7 (-2 : Int32)).bind fun q4 =>
    some (q4.1, q4.2, T1)
  else
    if (T1 1 0) = 0 then
      (f_X6_refuse Z0 T1 T2 T3 G4 R4 P5 O7 B7 (-5 : Int32)).bind fun q7 =>
      some (q7.1, q7.2, T1)
    else
      (f_X5_sayByDraws T1 p1).bind fun q9 =>
      some (q9.1, Z0, q9.2)
def f_X6_when (Z0 : TS) (T1 : TS) (T2 : TS) (T3 : TS) (G4 : TS) (R4 : LTS) (P5 : TS) (O7 : TS) (B7 : TS) (p1 : Int32) (p2 : Int32) : Option (Int32 × TS × TS) :=
  if (f_X5_isOne T1 p1) = 0 then
    (f_X6_refuse Z0 T1 T2 T3 G4 R4 P5 O7 B7 (-2 : Int32)).bind fun q4 =>
    some (q4.1, q4.2, T3)
  else
    if (f_X5_isSight T1 p2) = 0 then
      (f_X6_refuse Z0 T1 T2 T3 G4 R4 P5 O7 B7 (-2 : Int32)).bind fun q8 =>
      some (q8.1, q8.2, T3)
    else
      (f_X2_untilKnown T1 T3 p1 p2).bind fun q10 =>
      some (q10.1, Z0, q10.2)
def f_X6_whom (Z0 : TS) (T1 : TS) (T2 : TS) (T3 : TS) (G4 : TS) (R4 : LTS) (P5 : TS) (O7 : TS) (B7 : TS) (p1 : Int32) (p2 : Int32) : Option (Int32 × TS) :=
  if (f_X6_isWithin p2 (1 : Int32) (10 : Int32)) = 0 then
    if (-2 : Int32) = 0 then
      (f_X3_fewestApart G4 R4 p1 p2 (f_X5_allPeople T1)).bind fun q6 =>
      some (q6, Z0)
    else
      (f_X6_refuse Z0 T1 T2 T3 G4 R4 P5 O7 B7 (-2 : Int32)).bind fun q8 =>
      some (q8.1, q8.2)
  else
    (f_X3_troubleWithRow G4 R4 p1 p2).bind fun q10 =>
    if q10 = 0 then
      (f_X3_fewestApart G4 R4 p1 p2 (f_X5_allPeople T1)).bind fun q14 =>
      some (q14, Z0)
    else
      (f_X6_refuse Z0 T1 T2 T3 G4 R4 P5 O7 B7 q10).bind fun q16 =>
      some (q16.1, q16.2)
def f_X6_wipe (Z0 : TS) (T1 : TS) (T2 : TS) (T3 : TS) (G4 : TS) (R4 : LTS) (P5 : TS) (O7 : TS) (B7 : TS) : Option (Int32 × TS) :=
  some ((P5 0 0), (up P5 0 (fun _ => (0 : Int32))))
def f_X6_worth (Z0 : TS) (T1 : TS) (T2 : TS) (T3 : TS) (G4 : TS) (R4 : LTS) (P5 : TS) (O7 : TS) (B7 : TS) (p1 : Int32) (p2 : Int32) : Option (Int32 × TS × TS) :=
  if (f_X5_isOne T1 p1) = 0 then
    (f_X6_refuse Z0 T1 T2 T3 G4 R4 P5 O7 B7 (-2 : Int32)).bind fun q4 =>
    some (q4.1, q4.2, T3)
  else
    if (f_X6_isRounds p2) = 0 then
      (f_X6_refuse Z0 T1 T2 T3 G4 R4 P5 O7 B7 (-2 : Int32)).bind fun q8 =>
      some (q8.1, q8.2, T3)
    else
      (f_X2_lostWithout T1 T3 p1 p2).bind fun q10 =>
      some (q10.1, Z0, q10.2)
def f_X7_addOne (U0 : TS) (p1 : Int32) (p2 : Int32) : Option TS :=
  if (U0 10 0) < 0 ∨ 7 ≤ ((U0 10 0)).toNatClampNeg then none else
  some (up (up (up (up (up (up (up U0 11 (upd (U0 11) ((U0 10 0)).toNatClampNeg p1)) 12 (upd (U0 12) ((U0 10 0)).toNatClampNeg p2)) 13 (upd (U0 13) ((U0 10 0)).toNatClampNeg (0 : Int32))) 14 (upd (U0 14) ((U0 10 0)).toNatClampNeg (0 : Int32))) 15 (upd (U0 15) ((U0 10 0)).toNatClampNeg (0 : Int32))) 16 (upd (U0 16) ((U0 10 0)).toNatClampNeg (0 : Int32))) 10 (fun _ => ((U0 10 0) + (1 : Int32))))
def f_X7_barredBy (U0 : TS) (p1 : Int32) : Option Int32 :=
  if ((U0 17) ((0 : Int32)).toNatClampNeg) = (1 : Int32) then
    if p1 < 0 ∨ 7 ≤ (p1).toNatClampNeg then none else
    some (((U0 13) (p1).toNatClampNeg) ||| ((U0 14) (p1).toNatClampNeg))
  else
    if p1 < 0 ∨ 7 ≤ (p1).toNatClampNeg then none else
    some ((U0 13) (p1).toNatClampNeg)
def f_X7_allSights (U0 : TS) : Int32 :=
  (((1 : Int32) <<< ((U0 9 0) &&& 31)) - (1 : Int32))
def f_X7_has (p0 : Int32) (p1 : Int32) : Int32 :=
  (if ((p0 >>> (p1 &&& 31)) &&& (1 : Int32)) = 0 then (0 : Int32) else (1 : Int32))
theorem bz_X7_has (p0 : Int32) (p1 : Int32) : f_X7_has p0 p1 = 0 ∨ f_X7_has p0 p1 = 1 := by
  obtain ⟨rr, hM⟩ : ∃ rr, f_X7_has p0 p1 = rr := ⟨_, rfl⟩
  rw [hM]
  rw [f_X7_has] at hM
  subst hM
  exact (by repeat (first | exact Or.inl rfl | exact Or.inr rfl | split))
def L_X7_mayOf_60 (U0 : TS) (p1 : Int32) : Nat → Int32 → Int32 → Option Int32
  | 0, _, _ => none
  | n + 1, v5_9, v4_10 =>
    if (U0 10 0) ≤ v5_9 then
      some v4_10
    else
      if (f_X7_has ((U0 16) (p1).toNatClampNeg) v5_9) = 0 then
        L_X7_mayOf_60 U0 p1 n (v5_9 + (1 : Int32)) (v4_10 ||| (0 : Int32))
      else
        if v5_9 < 0 ∨ 7 ≤ (v5_9).toNatClampNeg then none else
        L_X7_mayOf_60 U0 p1 n (v5_9 + (1 : Int32)) (v4_10 ||| (((U0 15) (v5_9).toNatClampNeg) ||| ((U0 13) (v5_9).toNatClampNeg)))
def L_X7_mayOf_139 (U0 : TS) (q2 : Int32) : Nat → Int32 → Int32 → Int32 → Option Int32
  | 0, _, _, _ => none
  | n + 1, v5_17, v4_18, v3_19 =>
    if (U0 9 0) ≤ v5_17 then
      some v3_19
    else
      if v4_18 ≤ 0 then
        some v3_19
      else
        L_X7_mayOf_139 U0 q2 n (v5_17 + (1 : Int32)) (if (f_X7_has q2 v5_17) = 0 then v4_18 else (v4_18 + (-1 : Int32))) (if (f_X7_has q2 v5_17) = 0 then v3_19 else (v3_19 ||| ((1 : Int32) <<< (v5_17 &&& 31))))
def f_X7_mayOf (U0 : TS) (p1 : Int32) : Option Int32 :=
  (f_X7_barredBy U0 p1).bind fun q2 =>
  if p1 < 0 ∨ 7 ≤ (p1).toNatClampNeg then none else
  if ((U0 11) (p1).toNatClampNeg) = (1 : Int32) then
    (L_X7_mayOf_60 U0 p1 300 (0 : Int32) (0 : Int32)).bind fun q11 =>
    if ((U0 11) (p1).toNatClampNeg) = (3 : Int32) then
      (L_X7_mayOf_139 U0 q2 300 (0 : Int32) ((U0 17) ((2 : Int32)).toNatClampNeg) (((if ((U0 11) (p1).toNatClampNeg) = (2 : Int32) then (f_X7_allSights U0) else (if ((U0 11) (p1).toNatClampNeg) = (3 : Int32) then (f_X7_allSights U0) else ((U0 15) (p1).toNatClampNeg))) &&& (q2 ^^^ (-1 : Int32))) &&& q11)).bind fun q20 =>
      some q20
    else
      some (((if ((U0 11) (p1).toNatClampNeg) = (2 : Int32) then (f_X7_allSights U0) else (if ((U0 11) (p1).toNatClampNeg) = (3 : Int32) then (f_X7_allSights U0) else ((U0 15) (p1).toNatClampNeg))) &&& (q2 ^^^ (-1 : Int32))) &&& q11)
  else
    if ((U0 11) (p1).toNatClampNeg) = (3 : Int32) then
      (L_X7_mayOf_139 U0 q2 300 (0 : Int32) ((U0 17) ((2 : Int32)).toNatClampNeg) ((if ((U0 11) (p1).toNatClampNeg) = (2 : Int32) then (f_X7_allSights U0) else (if ((U0 11) (p1).toNatClampNeg) = (3 : Int32) then (f_X7_allSights U0) else ((U0 15) (p1).toNatClampNeg))) &&& (q2 ^^^ (-1 : Int32)))).bind fun q29 =>
      some q29
    else
      some ((if ((U0 11) (p1).toNatClampNeg) = (2 : Int32) then (f_X7_allSights U0) else (if ((U0 11) (p1).toNatClampNeg) = (3 : Int32) then (f_X7_allSights U0) else ((U0 15) (p1).toNatClampNeg))) &&& (q2 ^^^ (-1 : Int32)))
def L_X7_bits_4 (p0 : Int32) : Nat → Int32 → Int32 → Option Int32
  | 0, _, _ => none
  | n + 1, v2_1, v1_2 =>
    if (8 : Int32) ≤ v2_1 then
      some v1_2
    else
      L_X7_bits_4 p0 n (v2_1 + (1 : Int32)) (v1_2 + ((p0 >>> (v2_1 &&& 31)) &&& (1 : Int32)))
def f_X7_bits (p0 : Int32) : Option Int32 :=
  (L_X7_bits_4 p0 300 (0 : Int32) (0 : Int32)).bind fun q3 =>
  some q3
def L_X7_isSaid_5 (p1 : Int32) (p2 : Int32) : Nat → Int32 → Int32 → TS → Option (Int32 × TS)
  | 0, _, _, _ => none
  | n + 1, v4_1, v3_2, UL3 =>
    if (UL3 10 0) ≤ v4_1 then
      some (v3_2, UL3)
    else
      if v4_1 < 0 ∨ 7 ≤ (v4_1).toNatClampNeg then none else
      if (f_X7_has ((UL3 16) (v4_1).toNatClampNeg) p1) = 0 then
        L_X7_isSaid_5 p1 p2 n (v4_1 + (1 : Int32)) v3_2 UL3
      else
        (f_X7_bits (p2 &&& (((UL3 15) (v4_1).toNatClampNeg) ^^^ (-1 : Int32)))).bind fun q10 =>
        L_X7_isSaid_5 p1 p2 n (v4_1 + (1 : Int32)) (v3_2 + q10) (up UL3 15 (upd (UL3 15) (v4_1).toNatClampNeg (((UL3 15) (v4_1).toNatClampNeg) ||| p2)))
def f_X7_isSaid (U0 : TS) (p1 : Int32) (p2 : Int32) : Option (Int32 × TS) :=
  (L_X7_isSaid_5 p1 p2 300 (0 : Int32) (0 : Int32) U0).bind fun q4 =>
  some (q4.1, q4.2)
def L_X7_goesRound_4 : Nat → Int32 → TS → Option TS
  | 0, _, _ => none
  | n + 1, v2_1, UL2 =>
    if (UL2 10 0) ≤ v2_1 then
      some UL2
    else
      (f_X7_mayOf UL2 v2_1).bind fun q6 =>
      if v2_1 < 0 ∨ 7 ≤ (v2_1).toNatClampNeg then none else
      L_X7_goesRound_4 n (v2_1 + (1 : Int32)) (up UL2 29 (upd (UL2 29) (v2_1).toNatClampNeg q6))
def L_X7_goesRound_31 : Nat → Int32 → Int32 → TS → Option (Int32 × TS)
  | 0, _, _, _ => none
  | n + 1, v2_8, v1_9, UL10 =>
    if (UL10 10 0) ≤ v2_8 then
      some (v1_9, UL10)
    else
      if v2_8 < 0 ∨ 7 ≤ (v2_8).toNatClampNeg then none else
      (f_X7_isSaid UL10 v2_8 ((UL10 29) (v2_8).toNatClampNeg)).bind fun q15 =>
      L_X7_goesRound_31 n (v2_8 + (1 : Int32)) (v1_9 ||| (if q15.1 ≤ 0 then (0 : Int32) else (1 : Int32))) q15.2
def L_X7_goesRound_99 (v3_17 : Int32) (v4_23 : Int32) : Nat → Int32 → Int32 → Int32 → TS → Option (Int32 × Int32 × TS)
  | 0, _, _, _, _ => none
  | n + 1, v5_29, v2_30, v1_31, UL32 =>
    if (UL32 9 0) ≤ v5_29 then
      some (v2_30, v1_31, UL32)
    else
      if v4_23 < 0 ∨ 7 ≤ (v4_23).toNatClampNeg then none else
      if (f_X7_has ((UL32 16) (v4_23).toNatClampNeg) v3_17) = 0 then
        some (v2_30, v1_31, UL32)
      else
        if v2_30 ≤ 0 then
          L_X7_goesRound_99 v3_17 v4_23 n (v5_29 + (1 : Int32)) v2_30 v1_31 UL32
        else
          if v3_17 < 0 ∨ 7 ≤ (v3_17).toNatClampNeg then none else
          if (f_X7_has ((UL32 13) (v3_17).toNatClampNeg) v5_29) = 0 then
            L_X7_goesRound_99 v3_17 v4_23 n (v5_29 + (1 : Int32)) v2_30 v1_31 UL32
          else
            if (f_X7_has ((UL32 15) (v4_23).toNatClampNeg) v5_29) = 0 then
              L_X7_goesRound_99 v3_17 v4_23 n (v5_29 + (1 : Int32)) (v2_30 + (-1 : Int32)) (1 : Int32) (up UL32 15 (upd (UL32 15) (v4_23).toNatClampNeg (((UL32 15) (v4_23).toNatClampNeg) ||| ((1 : Int32) <<< (v5_29 &&& 31)))))
            else
              L_X7_goesRound_99 v3_17 v4_23 n (v5_29 + (1 : Int32)) v2_30 v1_31 UL32
def L_X7_goesRound_87 (v3_17 : Int32) : Nat → Int32 → Int32 → Int32 → TS → Option (Int32 × Int32 × TS)
  | 0, _, _, _, _ => none
  | n + 1, v4_23, v2_24, v1_25, UL26 =>
    if (UL26 10 0) ≤ v4_23 then
      some (v2_24, v1_25, UL26)
    else
      (L_X7_goesRound_99 v3_17 v4_23 300 (0 : Int32) v2_24 v1_25 UL26).bind fun q33 =>
      L_X7_goesRound_87 v3_17 n (v4_23 + (1 : Int32)) q33.1 q33.2.1 q33.2.2
def L_X7_goesRound_76 : Nat → Int32 → Int32 → Int32 → TS → Option (Int32 × TS)
  | 0, _, _, _, _ => none
  | n + 1, v3_17, v2_18, v1_19, UL20 =>
    if (UL20 10 0) ≤ v3_17 then
      some (v1_19, UL20)
    else
      (L_X7_goesRound_87 v3_17 300 (0 : Int32) v2_18 v1_19 UL20).bind fun q27 =>
      L_X7_goesRound_76 n (v3_17 + (1 : Int32)) q27.1 q27.2.1 q27.2.2
def f_X7_goesRound (U0 : TS) : Option (Int32 × TS) :=
  (L_X7_goesRound_4 300 (0 : Int32) U0).bind fun q3 =>
  (L_X7_goesRound_31 300 (0 : Int32) (0 : Int32) q3).bind fun q11 =>
  (L_X7_goesRound_76 300 (0 : Int32) ((q11.2 17) ((1 : Int32)).toNatClampNeg) q11.1 q11.2).bind fun q21 =>
  if ¬ (q21.1 = 0 ∨ q21.1 = 1) then none else
  some (q21.1, q21.2)
def L_X7_after_7 (p1 : Int32) : Nat → Int32 → TS → Option TS
  | 0, _, _ => none
  | n + 1, v3_4, UL5 =>
    if p1 ≤ v3_4 then
      some UL5
    else
      (f_X7_goesRound UL5).bind fun q9 =>
      L_X7_after_7 p1 n (v3_4 + (1 : Int32)) q9.2
def f_X7_after (U0 : TS) (V0 : TS) (M0 : LTS) (R0 : LTS) (tp0 : Option (Nat → Int32)) (p1 : Int32) : Option TS :=
  (L_X7_after_7 p1 300 (0 : Int32) (fr0 U0 tp0)).bind fun q6 =>
  some q6
def L_X7_alone_4 (U0 : TS) : Nat → Int32 → Int32 → Option Int32
  | 0, _, _ => none
  | n + 1, v2_1, v1_2 =>
    if (U0 10 0) ≤ v2_1 then
      some v1_2
    else
      if v2_1 < 0 ∨ 7 ≤ (v2_1).toNatClampNeg then none else
      L_X7_alone_4 U0 n (v2_1 + (1 : Int32)) (v1_2 ||| ((U0 16) (v2_1).toNatClampNeg))
def f_X7_alone (U0 : TS) (V0 : TS) (M0 : LTS) (R0 : LTS) : Option Int32 :=
  (L_X7_alone_4 U0 300 (0 : Int32) (0 : Int32)).bind fun q3 =>
  some ((((1 : Int32) <<< ((U0 10 0) &&& 31)) - (1 : Int32)) &&& (q3 ^^^ (-1 : Int32)))
def f_X7_in (p0 : Int64) (p1 : Int64) (p2 : Int64) : Int32 :=
  (if (lg_cmp p0 p1) < 0 then (0 : Int32) else (if 0 < (lg_cmp p0 p2) then (0 : Int32) else (1 : Int32)))
theorem bz_X7_in (p0 : Int64) (p1 : Int64) (p2 : Int64) : f_X7_in p0 p1 p2 = 0 ∨ f_X7_in p0 p1 p2 = 1 := by
  obtain ⟨rr, hM⟩ : ∃ rr, f_X7_in p0 p1 p2 = rr := ⟨_, rfl⟩
  rw [hM]
  rw [f_X7_in] at hM
  subst hM
  exact (by repeat (first | exact Or.inl rfl | exact Or.inr rfl | split))
def f_X7_refuse (U0 : TS) (V0 : TS) (M0 : LTS) (R0 : LTS) (p1 : Int32) : Option (Int32 × TS) :=
  if (-p1) < 0 ∨ 8 ≤ ((-p1)).toNatClampNeg then none else
  some (p1, (up V0 8 (upd (V0 8) ((-p1)).toNatClampNeg (((V0 8) ((-p1)).toNatClampNeg) + (1 : Int32)))))
def f_X7_mostOf (p0 : Int32) : Int32 :=
  (if p0 = 0 then (1 : Int32) else (9 : Int32))
def f_X7_ask (U0 : TS) (V0 : TS) (M0 : LTS) (R0 : LTS) (p1 : Int32) (p2 : Int32) : Option (Int32 × TS × TS) :=
  if (f_X7_in ((p1).toInt64) (0 : Int64) (2 : Int64)) = 0 then
    (f_X7_refuse U0 V0 M0 R0 (-2 : Int32)).bind fun q4 =>
    some (q4.1, U0, q4.2)
  else
    if (f_X7_in ((p2).toInt64) (0 : Int64) (((f_X7_mostOf p1)).toInt64)) = 0 then
      (f_X7_refuse U0 V0 M0 R0 (-2 : Int32)).bind fun q9 =>
      some (q9.1, U0, q9.2)
    else
      if p1 < 0 ∨ 3 ≤ (p1).toNatClampNeg then none else
      some (((U0 17) (p1).toNatClampNeg), (up U0 17 (upd (U0 17) (p1).toNatClampNeg p2)), V0)
def f_X7_isLetter (p0 : Int32) : Int32 :=
  (if p0 < (97 : Int32) then (0 : Int32) else (if (122 : Int32) < p0 then (0 : Int32) else (1 : Int32)))
theorem bz_X7_isLetter (p0 : Int32) : f_X7_isLetter p0 = 0 ∨ f_X7_isLetter p0 = 1 := by
  obtain ⟨rr, hM⟩ : ∃ rr, f_X7_isLetter p0 = rr := ⟨_, rfl⟩
  rw [hM]
  rw [f_X7_isLetter] at hM
  subst hM
  exact (by repeat (first | exact Or.inl rfl | exact Or.inr rfl | split))
def f_X7_isDigit (p0 : Int32) : Int32 :=
  (if p0 < (48 : Int32) then (0 : Int32) else (if (57 : Int32) < p0 then (0 : Int32) else (1 : Int32)))
theorem bz_X7_isDigit (p0 : Int32) : f_X7_isDigit p0 = 0 ∨ f_X7_isDigit p0 = 1 := by
  obtain ⟨rr, hM⟩ : ∃ rr, f_X7_isDigit p0 = rr := ⟨_, rfl⟩
  rw [hM]
  rw [f_X7_isDigit] at hM
  subst hM
  exact (by repeat (first | exact Or.inl rfl | exact Or.inr rfl | split))
def L_X7_look_0 : Nat → TS → Option TS
  | 0, _ => none
  | n + 1, VL1 =>
    if (VL1 7 0) ≤ (VL1 22 0) then
      some VL1
    else
      if (VL1 22 0) < 0 ∨ 250 ≤ ((VL1 22 0)).toNatClampNeg then none else
      if ((VL1 6) ((VL1 22 0)).toNatClampNeg) = (32 : Int32) then
        L_X7_look_0 n (up VL1 22 (fun _ => ((VL1 22 0) + (1 : Int32))))
      else
        some VL1
def L_X7_look_149 : Nat → TS → Option TS
  | 0, _ => none
  | n + 1, VL13 =>
    if (VL13 7 0) ≤ (VL13 22 0) then
      some VL13
    else
      if (VL13 22 0) < 0 ∨ 250 ≤ ((VL13 22 0)).toNatClampNeg then none else
      if (f_X7_isDigit ((VL13 6) ((VL13 22 0)).toNatClampNeg)) = 0 then
        some VL13
      else
        L_X7_look_149 n (up (up VL13 25 (fun _ => (if (2 : Int32) ≤ ((VL13 22 0) - (VL13 24 0)) then (100000 : Int32) else ((((VL13 25 0) * (10 : Int32)) + ((VL13 6) ((VL13 22 0)).toNatClampNeg)) - (48 : Int32))))) 22 (fun _ => ((VL13 22 0) + (1 : Int32))))
def L_X7_look_90 : Nat → TS → Option TS
  | 0, _ => none
  | n + 1, VL20 =>
    if (VL20 7 0) ≤ (VL20 22 0) then
      some VL20
    else
      if (VL20 22 0) < 0 ∨ 250 ≤ ((VL20 22 0)).toNatClampNeg then none else
      if (f_X7_isLetter ((VL20 6) ((VL20 22 0)).toNatClampNeg)) = 0 then
        some VL20
      else
        L_X7_look_90 n (up VL20 22 (fun _ => ((VL20 22 0) + (1 : Int32))))
def f_X7_look (U0 : TS) (V0 : TS) (M0 : LTS) (R0 : LTS) : Option TS :=
  (L_X7_look_0 300 V0).bind fun q2 =>
  if (q2 22 0) = (q2 7 0) then
    some (up (up (up q2 24 (fun _ => (q2 22 0))) 25 (fun _ => (0 : Int32))) 23 (fun _ => (0 : Int32)))
  else
    if (q2 22 0) < 0 ∨ 250 ≤ ((q2 22 0)).toNatClampNeg then none else
    if (f_X7_isLetter ((q2 6) ((q2 22 0)).toNatClampNeg)) = 0 then
      if (f_X7_isDigit ((q2 6) ((q2 22 0)).toNatClampNeg)) = 0 then
        some (up (up (up (up q2 24 (fun _ => (q2 22 0))) 25 (fun _ => (0 : Int32))) 23 (fun _ => (if ((q2 6) ((q2 22 0)).toNatClampNeg) = (59 : Int32) then (3 : Int32) else (4 : Int32)))) 22 (fun _ => ((q2 22 0) + (1 : Int32))))
      else
        (L_X7_look_149 300 (up (up (up q2 24 (fun _ => (q2 22 0))) 25 (fun _ => (0 : Int32))) 23 (fun _ => (2 : Int32)))).bind fun q14 =>
        some q14
    else
      (L_X7_look_90 300 (up (up (up q2 24 (fun _ => (q2 22 0))) 25 (fun _ => (0 : Int32))) 23 (fun _ => (1 : Int32)))).bind fun q21 =>
      some q21
def f_X7_wrong (U0 : TS) (V0 : TS) (M0 : LTS) (R0 : LTS) : Option (Int32 × TS) :=
  some ((0 : Int32), (up V0 26 (fun _ => (V0 24 0))))
theorem bz_X7_wrong {U0 : TS} {V0 : TS} {M0 : LTS} {R0 : LTS} {q : (Int32 × TS)} (hM : f_X7_wrong U0 V0 M0 R0 = some q) : q.1 = 0 ∨ q.1 = 1 := by
  rw [f_X7_wrong] at hM
  obtain rfl := Option.some.inj hM
  exact (Or.inl rfl)
def f_X7_number (U0 : TS) (V0 : TS) (M0 : LTS) (R0 : LTS) (p1 : Int32) (p2 : Int32) (p3 : Int32) : Option (Int32 × TS) :=
  if (V0 23 0) = (2 : Int32) then
    if (f_X7_in (((V0 25 0)).toInt64) ((p2).toInt64) ((p3).toInt64)) = 0 then
      (f_X7_wrong U0 V0 M0 R0).bind fun q5 =>
      some (q5.1, q5.2)
    else
      if p1 < 0 ∨ 2 ≤ (p1).toNatClampNeg then none else
      (f_X7_look U0 (up V0 27 (upd (V0 27) (p1).toNatClampNeg (V0 25 0))) M0 R0).bind fun q8 =>
      some ((1 : Int32), q8)
  else
    (f_X7_wrong U0 V0 M0 R0).bind fun q10 =>
    some (q10.1, q10.2)
theorem bz_X7_number {U0 : TS} {V0 : TS} {M0 : LTS} {R0 : LTS} {p1 : Int32} {p2 : Int32} {p3 : Int32} {q : (Int32 × TS)} (hM : f_X7_number U0 V0 M0 R0 p1 p2 p3 = some q) : q.1 = 0 ∨ q.1 = 1 := by
  rw [f_X7_number] at hM
  by_cases c1 : (V0 23 0) = (2 : Int32)
  · replace hM := itp c1 hM
    by_cases c3 : (f_X7_in (((V0 25 0)).toInt64) ((p2).toInt64) ((p3).toInt64)) = 0
    · replace hM := itp c3 hM
      obtain ⟨q5, h4, hM⟩ := bd hM
      obtain rfl := Option.some.inj hM
      exact (bz_X7_wrong h4)
    · replace hM := itn c3 hM
      obtain ⟨k6, hM⟩ := ck hM
      obtain ⟨q8, h7, hM⟩ := bd hM
      obtain rfl := Option.some.inj hM
      exact (Or.inr rfl)
  · replace hM := itn c1 hM
    obtain ⟨q10, h9, hM⟩ := bd hM
    obtain rfl := Option.some.inj hM
    exact (bz_X7_wrong h9)
def f_X7_tells (U0 : TS) (V0 : TS) (M0 : LTS) (R0 : LTS) (p1 : Int32) (p2 : Int32) : Option (Int32 × TS) :=
  (f_X7_look U0 V0 M0 R0).bind fun q2 =>
  (f_X7_number U0 q2 M0 R0 (0 : Int32) p1 p2).bind fun q4 =>
  some (q4.1, q4.2)
theorem bz_X7_tells {U0 : TS} {V0 : TS} {M0 : LTS} {R0 : LTS} {p1 : Int32} {p2 : Int32} {q : (Int32 × TS)} (hM : f_X7_tells U0 V0 M0 R0 p1 p2 = some q) : q.1 = 0 ∨ q.1 = 1 := by
  rw [f_X7_tells] at hM
  obtain ⟨q2, h1, hM⟩ := bd hM
  obtain ⟨q4, h3, hM⟩ := bd hM
  obtain rfl := Option.some.inj hM
  exact (bz_X7_number h3)
def f_X7_askedTold (U0 : TS) (V0 : TS) (M0 : LTS) (R0 : LTS) (p1 : Int32) : Option (Int32 × TS × TS) :=
  (f_X7_tells U0 V0 M0 R0 (0 : Int32) (f_X7_mostOf p1)).bind fun q3 =>
  if q3.1 = 0 then
    if p1 < 0 ∨ 3 ≤ (p1).toNatClampNeg then none else
    some (q3.1, (up U0 17 (upd (U0 17) (p1).toNatClampNeg ((U0 17) (p1).toNatClampNeg))), q3.2)
  else
    if p1 < 0 ∨ 3 ≤ (p1).toNatClampNeg then none else
    some (q3.1, (up U0 17 (upd (U0 17) (p1).toNatClampNeg ((q3.2 27) ((0 : Int32)).toNatClampNeg))), q3.2)
theorem bz_X7_askedTold {U0 : TS} {V0 : TS} {M0 : LTS} {R0 : LTS} {p1 : Int32} {q : (Int32 × TS × TS)} (hM : f_X7_askedTold U0 V0 M0 R0 p1 = some q) : q.1 = 0 ∨ q.1 = 1 := by
  rw [f_X7_askedTold] at hM
  obtain ⟨q3, h2, hM⟩ := bd hM
  by_cases c4 : q3.1 = 0
  · replace hM := itp c4 hM
    obtain ⟨k5, hM⟩ := ck hM
    obtain rfl := Option.some.inj hM
    exact (bz_X7_tells h2)
  · replace hM := itn c4 hM
    obtain ⟨k6, hM⟩ := ck hM
    obtain rfl := Option.some.inj hM
    exact (bz_X7_tells h2)
def f_X7_isSight (U0 : TS) (p1 : Int32) : Int32 :=
  (f_X7_in ((p1).toInt64) (0 : Int64) ((((U0 9 0) - (1 : Int32))).toInt64))
theorem bz_X7_isSight (U0 : TS) (p1 : Int32) : f_X7_isSight U0 p1 = 0 ∨ f_X7_isSight U0 p1 = 1 := by
  obtain ⟨rr, hM⟩ : ∃ rr, f_X7_isSight U0 p1 = rr := ⟨_, rfl⟩
  rw [hM]
  rw [f_X7_isSight] at hM
  subst hM
  exact (bz_X7_in ((p1).toInt64) (0 : Int64) ((((U0 9 0) - (1 : Int32))).toInt64))
def L_X7_barredOf_4 (U0 : TS) (p1 : Int32) : Nat → Int32 → Int32 → Option Int32
  | 0, _, _ => none
  | n + 1, v3_1, v2_2 =>
    if (U0 10 0) ≤ v3_1 then
      some v2_2
    else
      (f_X7_barredBy U0 v3_1).bind fun q6 =>
      L_X7_barredOf_4 U0 p1 n (v3_1 + (1 : Int32)) (v2_2 ||| (if (f_X7_has q6 p1) = 0 then (0 : Int32) else ((1 : Int32) <<< (v3_1 &&& 31))))
def f_X7_barredOf (U0 : TS) (p1 : Int32) : Option Int32 :=
  (L_X7_barredOf_4 U0 p1 300 (0 : Int32) (0 : Int32)).bind fun q3 =>
  some q3
def f_X7_barred (U0 : TS) (V0 : TS) (M0 : LTS) (R0 : LTS) (p1 : Int32) : Option (Int32 × TS) :=
  if (f_X7_isSight U0 p1) = 0 then
    (f_X7_refuse U0 V0 M0 R0 (-2 : Int32)).bind fun q4 =>
    some (q4.1, q4.2)
  else
    (f_X7_barredOf U0 p1).bind fun q6 =>
    some (q6, V0)
def f_X7_below (U0 : TS) (p1 : Int32) : Option (Int32 × TS) :=
  if p1 = 0 then none else
  some (((((((U0 19 0) * (1103515245 : Int32)) + (12345 : Int32))).toUInt32 >>> (((16 : Int32)).toUInt32 &&& Int32.toUInt32 31)).toInt32 - (((((U0 19 0) * (1103515245 : Int32)) + (12345 : Int32))).toUInt32 >>> (((16 : Int32)).toUInt32 &&& Int32.toUInt32 31)).toInt32 / p1 * p1), (up U0 19 (fun _ => (((U0 19 0) * (1103515245 : Int32)) + (12345 : Int32)))))
def f_X7_isOne (U0 : TS) (p1 : Int32) : Int32 :=
  (f_X7_in ((p1).toInt64) (0 : Int64) ((((U0 10 0) - (1 : Int32))).toInt64))
theorem bz_X7_isOne (U0 : TS) (p1 : Int32) : f_X7_isOne U0 p1 = 0 ∨ f_X7_isOne U0 p1 = 1 := by
  obtain ⟨rr, hM⟩ : ∃ rr, f_X7_isOne U0 p1 = rr := ⟨_, rfl⟩
  rw [hM]
  rw [f_X7_isOne] at hM
  subst hM
  exact (bz_X7_in ((p1).toInt64) (0 : Int64) ((((U0 10 0) - (1 : Int32))).toInt64))
def f_X7_isRounds (p0 : Int32) : Int32 :=
  (f_X7_in ((p0).toInt64) (0 : Int64) (20 : Int64))
theorem bz_X7_isRounds (p0 : Int32) : f_X7_isRounds p0 = 0 ∨ f_X7_isRounds p0 = 1 := by
  obtain ⟨rr, hM⟩ : ∃ rr, f_X7_isRounds p0 = rr := ⟨_, rfl⟩
  rw [hM]
  rw [f_X7_isRounds] at hM
  subst hM
  exact (bz_X7_in ((p0).toInt64) (0 : Int64) (20 : Int64))
def f_X7_knows (U0 : TS) (p1 : Int32) : Option Int32 :=
  if p1 < 0 ∨ 7 ≤ (p1).toNatClampNeg then none else
  some ((((U0 13) (p1).toNatClampNeg) ||| ((U0 14) (p1).toNatClampNeg)) ||| ((U0 15) (p1).toNatClampNeg))
def L_X7_knownNow_4 (U0 : TS) : Nat → Int32 → Int32 → Option Int32
  | 0, _, _ => none
  | n + 1, v2_1, v1_2 =>
    if (U0 10 0) ≤ v2_1 then
      some v1_2
    else
      (f_X7_knows U0 v2_1).bind fun q6 =>
      (f_X7_bits q6).bind fun q8 =>
      L_X7_knownNow_4 U0 n (v2_1 + (1 : Int32)) (v1_2 + q8)
def f_X7_knownNow (U0 : TS) : Option Int32 :=
  (L_X7_knownNow_4 U0 300 (0 : Int32) (0 : Int32)).bind fun q3 =>
  some q3
def L_X7_blind_93 (p2 : Int32) : Nat → Int32 → TS → Option TS
  | 0, _, _ => none
  | n + 1, v5_19, UL20 =>
    if p2 ≤ v5_19 then
      some UL20
    else
      (f_X7_goesRound UL20).bind fun q24 =>
      L_X7_blind_93 p2 n (v5_19 + (1 : Int32)) q24.2
def f_X7_blind (U0 : TS) (V0 : TS) (M0 : LTS) (R0 : LTS) (tp0 : Option (Nat → Int32)) (p1 : Int32) (p2 : Int32) : Option (Int32 × TS × (Option (Nat → Int32))) :=
  if (f_X7_isOne U0 p1) = 0 then
    (f_X7_refuse U0 V0 M0 R0 (-2 : Int32)).bind fun q4 =>
    some (((-1000000 : Int32) + q4.1), q4.2, tp0)
  else
    if (f_X7_isRounds p2) = 0 then
      (f_X7_refuse U0 V0 M0 R0 (-2 : Int32)).bind fun q8 =>
      some (((-1000000 : Int32) + q8.1), q8.2, tp0)
    else
      (f_X7_after U0 V0 M0 R0 tp0 p2).bind fun q12 =>
      (f_X7_knownNow q12).bind fun q14 =>
      if p1 < 0 ∨ 7 ≤ (p1).toNatClampNeg then none else
      (L_X7_blind_93 p2 300 (0 : Int32) (up (up (up (up (fr0 U0 (some (q12 29))) 11 (upd ((fr0 U0 (some (q12 29))) 11) (p1).toNatClampNeg (4 : Int32))) 15 (upd ((fr0 U0 (some (q12 29))) 15) (p1).toNatClampNeg ((((fr0 U0 (some (q12 29))) 15) (p1).toNatClampNeg) ||| ((((fr0 U0 (some (q12 29))) 13) (p1).toNatClampNeg) ||| (((fr0 U0 (some (q12 29))) 14) (p1).toNatClampNeg))))) 13 (upd ((fr0 U0 (some (q12 29))) 13) (p1).toNatClampNeg (0 : Int32))) 14 (upd ((fr0 U0 (some (q12 29))) 14) (p1).toNatClampNeg (0 : Int32)))).bind fun q21 =>
      (f_X7_knownNow q21).bind fun q26 =>
      some ((q26 - q14), V0, (some (q21 29)))
def L_X7_chain_71 (U0 : TS) (v5_14 : Int32) : Nat → Int32 → Int32 → Option Int32
  | 0, _, _ => none
  | n + 1, v8_20, v7_21 =>
    if (U0 10 0) ≤ v8_20 then
      some v7_21
    else
      if v8_20 < 0 ∨ 7 ≤ (v8_20).toNatClampNeg then none else
      L_X7_chain_71 U0 v5_14 n (v8_20 + (1 : Int32)) (v7_21 ||| (if (((U0 16) (v8_20).toNatClampNeg) &&& v5_14) = 0 then (0 : Int32) else ((1 : Int32) <<< (v8_20 &&& 31))))
def L_X7_chain_43 (U0 : TS) (V0 : TS) (p2 : Int32) (p3 : Int32) : Nat → Int32 → Int32 → Int32 → Option ((Int32 × TS) ⊕ Unit)
  | 0, _, _, _ => none
  | n + 1, v6_13, v5_14, v4_15 =>
    if (U0 10 0) < v6_13 then
      some (.inr ())
    else
      if (f_X7_has v4_15 p2) = 0 then
        (L_X7_chain_71 U0 v5_14 300 (0 : Int32) v4_15).bind fun q22 =>
        (f_X7_barredOf U0 p3).bind fun q27 =>
        L_X7_chain_43 U0 V0 p2 p3 n (v6_13 + (1 : Int32)) (v5_14 ||| (q22 &&& (q27 ^^^ (-1 : Int32)))) q22
      else
        some (.inl (v6_13, V0))
def f_X7_chain (U0 : TS) (V0 : TS) (M0 : LTS) (R0 : LTS) (p1 : Int32) (p2 : Int32) (p3 : Int32) : Option (Int32 × TS) :=
  if (f_X7_isOne U0 p1) = 0 then
    (f_X7_refuse U0 V0 M0 R0 (-2 : Int32)).bind fun q4 =>
    some (q4.1, q4.2)
  else
    if (f_X7_isOne U0 p2) = 0 then
      (f_X7_refuse U0 V0 M0 R0 (-2 : Int32)).bind fun q8 =>
      some (q8.1, q8.2)
    else
      if (f_X7_isSight U0 p3) = 0 then
        (f_X7_refuse U0 V0 M0 R0 (-2 : Int32)).bind fun q12 =>
        some (q12.1, q12.2)
      else
        (L_X7_chain_43 U0 V0 p2 p3 300 (0 : Int32) ((1 : Int32) <<< (p1 &&& 31)) ((1 : Int32) <<< (p1 &&& 31))).bind (eo fun q16x =>
        some ((-1 : Int32), V0))
def L_X7_copy_191 (R0 : LTS) (p1 : Int32) (p3 : Int32) (p5 : Int32) : Nat → Int32 → LTS → Option LTS
  | 0, _, _ => none
  | n + 1, v6_45, ML46 =>
    if p5 ≤ v6_45 then
      some ML46
    else
      if (p3 + v6_45) < 0 ∨ 40 ≤ ((p3 + v6_45)).toNatClampNeg then none else
      if v6_45 < 0 ∨ 40 ≤ (v6_45).toNatClampNeg then none else
      L_X7_copy_191 R0 p1 p3 p5 n (v6_45 + (1 : Int32)) (upL ML46 4 (vp_updL (ML46 4) (v6_45).toNatClampNeg ((R0 (p1).toNatClampNeg) ((p3 + v6_45)).toNatClampNeg)))
def L_X7_copy_225 (p2 : Int32) (p4 : Int32) (p5 : Int32) (q47 : LTS) : Nat → Int32 → LTS → Option LTS
  | 0, _, _ => none
  | n + 1, v6_51, RL52 =>
    if p5 ≤ v6_51 then
      some RL52
    else
      if v6_51 < 0 ∨ 40 ≤ (v6_51).toNatClampNeg then none else
      if (p4 + v6_51) < 0 ∨ 40 ≤ ((p4 + v6_51)).toNatClampNeg then none else
      L_X7_copy_225 p2 p4 p5 q47 n (v6_51 + (1 : Int32)) (upL RL52 (p2).toNatClampNeg (vp_updL (RL52 (p2).toNatClampNeg) ((p4 + v6_51)).toNatClampNeg ((q47 4) (v6_51).toNatClampNeg)))
def f_X7_copy (U0 : TS) (V0 : TS) (M0 : LTS) (R0 : LTS) (p1 : Int32) (p2 : Int32) (p3 : Int32) (p4 : Int32) (p5 : Int32) : Option (Int32 × TS × LTS × LTS) :=
  if (f_X7_in ((p1).toInt64) (0 : Int64) (7 : Int64)) = 0 then
    (f_X7_refuse U0 V0 M0 R0 (-2 : Int32)).bind fun q4 =>
    some (q4.1, q4.2, M0, R0)
  else
    if (f_X7_in ((p2).toInt64) (0 : Int64) (7 : Int64)) = 0 then
      (f_X7_refuse U0 V0 M0 R0 (-2 : Int32)).bind fun q8 =>
      some (q8.1, q8.2, M0, R0)
    else
      if p1 < 0 ∨ 8 ≤ (p1).toNatClampNeg then none else
      if ((V0 0) (p1).toNatClampNeg) = (2 : Int32) then
        (f_X7_refuse U0 V0 M0 R0 (-3 : Int32)).bind fun q12 =>
        some (q12.1, q12.2, M0, R0)
      else
        if p2 < 0 ∨ 8 ≤ (p2).toNatClampNeg then none else
        if ((V0 0) (p2).toNatClampNeg) = (2 : Int32) then
          (f_X7_refuse U0 V0 M0 R0 (-3 : Int32)).bind fun q16 =>
          some (q16.1, q16.2, M0, R0)
        else
          if ((V0 0) (p1).toNatClampNeg) = (1 : Int32) then
            if ((V0 0) (p2).toNatClampNeg) = (1 : Int32) then
              if ((V0 1) (p1).toNatClampNeg) = ((V0 1) (p2).toNatClampNeg) then
                if ((V0 0) (p1).toNatClampNeg) = 0 then
                  (f_X7_refuse U0 V0 M0 R0 (-4 : Int32)).bind fun q22 =>
                  some (q22.1, q22.2, M0, R0)
                else
                  if ((V0 0) (p2).toNatClampNeg) = 0 then
                    (f_X7_refuse U0 V0 M0 R0 (-4 : Int32)).bind fun q25 =>
                    some (q25.1, q25.2, M0, R0)
                  else
                    if p5 < 0 then
                      (f_X7_refuse U0 V0 M0 R0 (-2 : Int32)).bind fun q28 =>
                      some (q28.1, q28.2, M0, R0)
                    else
                      if p3 < 0 then
                        (f_X7_refuse U0 V0 M0 R0 (-2 : Int32)).bind fun q31 =>
                        some (q31.1, q31.2, M0, R0)
                      else
                        if p4 < 0 then
                          (f_X7_refuse U0 V0 M0 R0 (-2 : Int32)).bind fun q34 =>
                          some (q34.1, q34.2, M0, R0)
                        else
                          if ((V0 2) (p1).toNatClampNeg) < p5 then
                            (f_X7_refuse U0 V0 M0 R0 (-2 : Int32)).bind fun q37 =>
                            some (q37.1, q37.2, M0, R0)
                          else
                            if ((V0 2) (p2).toNatClampNeg) < p5 then
                              (f_X7_refuse U0 V0 M0 R0 (-2 : Int32)).bind fun q40 =>
                              some (q40.1, q40.2, M0, R0)
                            else
                              if (((V0 2) (p1).toNatClampNeg) - p5) < p3 then
                                (f_X7_refuse U0 V0 M0 R0 (-2 : Int32)).bind fun q43 =>
                                some (q43.1, q43.2, M0, R0)
                              else
                                if p4 ≤ (((V0 2) (p2).toNatClampNeg) - p5) then
                                  (L_X7_copy_191 R0 p1 p3 p5 300 (0 : Int32) M0).bind fun q47 =>
                                  (L_X7_copy_225 p2 p4 p5 q47 300 (0 : Int32) R0).bind fun q53 =>
                                  some (p5, V0, q47, q53)
                                else
                                  (f_X7_refuse U0 V0 M0 R0 (-2 : Int32)).bind fun q58 =>
                                  some (q58.1, q58.2, M0, R0)
              else
                (f_X7_refuse U0 V0 M0 R0 (-3 : Int32)).bind fun q60 =>
                some (q60.1, q60.2, M0, R0)
            else
              if ((V0 0) (p1).toNatClampNeg) = 0 then
                (f_X7_refuse U0 V0 M0 R0 (-4 : Int32)).bind fun q63 =>
                some (q63.1, q63.2, M0, R0)
              else
                if ((V0 0) (p2).toNatClampNeg) = 0 then
                  (f_X7_refuse U0 V0 M0 R0 (-4 : Int32)).bind fun q66 =>
                  some (q66.1, q66.2, M0, R0)
                else
                  if p5 < 0 then
                    (f_X7_refuse U0 V0 M0 R0 (-2 : Int32)).bind fun q69 =>
                    some (q69.1, q69.2, M0, R0)
                  else
                    if p3 < 0 then
                      (f_X7_refuse U0 V0 M0 R0 (-2 : Int32)).bind fun q72 =>
                      some (q72.1, q72.2, M0, R0)
                    else
                      if p4 < 0 then
                        (f_X7_refuse U0 V0 M0 R0 (-2 : Int32)).bind fun q75 =>
                        some (q75.1, q75.2, M0, R0)
                      else
                        if ((V0 2) (p1).toNatClampNeg) < p5 then
                          (f_X7_refuse U0 V0 M0 R0 (-2 : Int32)).bind fun q78 =>
                          some (q78.1, q78.2, M0, R0)
                        else
                          if ((V0 2) (p2).toNatClampNeg) < p5 then
                            (f_X7_refuse U0 V0 M0 R0 (-2 : Int32)).bind fun q81 =>
                            some (q81.1, q81.2, M0, R0)
                          else
                            if (((V0 2) (p1).toNatClampNeg) - p5) < p3 then
                              (f_X7_refuse U0 V0 M0 R0 (-2 : Int32)).bind fun q84 =>
                              some (q84.1, q84.2, M0, R0)
                            else
                              if p4 ≤ (((V0 2) (p2).toNatClampNeg) - p5) then
                                (L_X7_copy_191 R0 p1 p3 p5 300 (0 : Int32) M0).bind fun q88 =>
                                (L_X7_copy_225 p2 p4 p5 q88 300 (0 : Int32) R0).bind fun q94 =>
                                some (p5, V0, q88, q94)
                              else
                                (f_X7_refuse U0 V0 M0 R0 (-2 : Int32)).bind fun q99 =>
                                some (q99.1, q99.2, M0, R0)
          else
            if ((V0 0) (p1).toNatClampNeg) = 0 then
              (f_X7_refuse U0 V0 M0 R0 (-4 : Int32)).bind fun q102 =>
              some (q102.1, q102.2, M0, R0)
            else
              if ((V0 0) (p2).toNatClampNeg) = 0 then
                (f_X7_refuse U0 V0 M0 R0 (-4 : Int32)).bind fun q105 =>
                some (q105.1, q105.2, M0, R0)
              else
                if p5 < 0 then
                  (f_X7_refuse U0 V0 M0 R0 (-2 : Int32)).bind fun q108 =>
                  some (q108.1, q108.2, M0, R0)
                else
                  if p3 < 0 then
                    (f_X7_refuse U0 V0 M0 R0 (-2 : Int32)).bind fun q111 =>
                    some (q111.1, q111.2, M0, R0)
                  else
                    if p4 < 0 then
                      (f_X7_refuse U0 V0 M0 R0 (-2 : Int32)).bind fun q114 =>
                      some (q114.1, q114.2, M0, R0)
                    else
                      if ((V0 2) (p1).toNatClampNeg) < p5 then
                        (f_X7_refuse U0 V0 M0 R0 (-2 : Int32)).bind fun q117 =>
                        some (q117.1, q117.2, M0, R0)
                      else
                        if ((V0 2) (p2).toNatClampNeg) < p5 then
                          (f_X7_refuse U0 V0 M0 R0 (-2 : Int32)).bind fun q120 =>
                          some (q120.1, q120.2, M0, R0)
                        else
                          if (((V0 2) (p1).toNatClampNeg) - p5) < p3 then
                            (f_X7_refuse U0 V0 M0 R0 (-2 : Int32)).bind fun q123 =>
                            some (q123.1, q123.2, M0, R0)
                          else
                            if p4 ≤ (((V0 2) (p2).toNatClampNeg) - p5) then
                              (L_X7_copy_191 R0 p1 p3 p5 300 (0 : Int32) M0).bind fun q127 =>
                              (L_X7_copy_225 p2 p4 p5 q127 300 (0 : Int32) R0).bind fun q133 =>
                              some (p5, V0, q127, q133)
                            else
                              (f_X7_refuse U0 V0 M0 R0 (-2 : Int32)).bind fun q138 =>
                              some (q138.1, q138.2, M0, R0)
def L_X7_doesPart_22 (U0 : TS) (R0 : LTS) (p1 : Int32) (p3 : Int32) (v5_1 : Int32) : Nat → Int32 → Option (Int32 ⊕ Unit)
  | 0, _ => none
  | n + 1, v6_4 =>
    if v5_1 ≤ v6_4 then
      some (.inr ())
    else
      if p1 < 0 ∨ 8 ≤ (p1).toNatClampNeg then none else
      if v5_1 < 0 ∨ 40 ≤ (v5_1).toNatClampNeg then none else
      if v6_4 < 0 ∨ 40 ≤ (v6_4).toNatClampNeg then none else
      if ((((((R0 (p1).toNatClampNeg) (v5_1).toNatClampNeg) ^^^ ((R0 (p1).toNatClampNeg) (v6_4).toNatClampNeg))).toInt32) &&& (((1 : Int32) <<< ((U0 10 0) &&& 31)) - (1 : Int32))) = 0 then
        L_X7_doesPart_22 U0 R0 p1 p3 v5_1 n (v6_4 + (1 : Int32))
      else
        if (((((((R0 (p1).toNatClampNeg) (v5_1).toNatClampNeg) ^^^ ((R0 (p1).toNatClampNeg) (v6_4).toNatClampNeg))).toInt32) &&& (((1 : Int32) <<< ((U0 10 0) &&& 31)) - (1 : Int32))) &&& p3) = 0 then
          some (.inl (0 : Int32))
        else
          L_X7_doesPart_22 U0 R0 p1 p3 v5_1 n (v6_4 + (1 : Int32))
def L_X7_doesPart_13 (U0 : TS) (R0 : LTS) (p1 : Int32) (p2 : Int32) (p3 : Int32) : Nat → Int32 → Option (Int32 ⊕ Unit)
  | 0, _ => none
  | n + 1, v5_1 =>
    if p2 ≤ v5_1 then
      some (.inr ())
    else
      (L_X7_doesPart_22 U0 R0 p1 p3 v5_1 300 (0 : Int32)).bind (eoS fun q5x =>
      L_X7_doesPart_13 U0 R0 p1 p2 p3 n (v5_1 + (1 : Int32)))
def f_X7_doesPart (U0 : TS) (V0 : TS) (M0 : LTS) (R0 : LTS) (p1 : Int32) (p2 : Int32) (p3 : Int32) : Option Int32 :=
  (L_X7_doesPart_13 U0 R0 p1 p2 p3 300 (0 : Int32)).bind (eo fun q2x =>
  some (1 : Int32))
def L_X7_knownBehind_15 (p2 : Int32) : Nat → Int32 → TS → Option TS
  | 0, _, _ => none
  | n + 1, v4_4, UL5 =>
    if p2 ≤ v4_4 then
      some UL5
    else
      (f_X7_goesRound UL5).bind fun q9 =>
      L_X7_knownBehind_15 p2 n (v4_4 + (1 : Int32)) q9.2
def f_X7_knownBehind (U0 : TS) (V0 : TS) (M0 : LTS) (R0 : LTS) (tp0 : Option (Nat → Int32)) (p1 : Int32) (p2 : Int32) : Option (Int32 × (Option (Nat → Int32))) :=
  (L_X7_knownBehind_15 p2 300 (0 : Int32) (up (fr0 U0 tp0) 17 (upd ((fr0 U0 tp0) 17) ((0 : Int32)).toNatClampNeg p1))).bind fun q6 =>
  (f_X7_knownNow q6).bind fun q11 =>
  some (q11, (some (q6 29)))
def f_X7_dusk (U0 : TS) (V0 : TS) (M0 : LTS) (R0 : LTS) (tp0 : Option (Nat → Int32)) (p1 : Int32) : Option (Int32 × TS × (Option (Nat → Int32))) :=
  if (f_X7_isRounds p1) = 0 then
    (f_X7_refuse U0 V0 M0 R0 (-2 : Int32)).bind fun q4 =>
    some (((-1000000 : Int32) + q4.1), q4.2, tp0)
  else
    (f_X7_knownBehind U0 V0 M0 R0 tp0 (0 : Int32) p1).bind fun q6 =>
    if q6.2 = none then none else
    (f_X7_knownBehind U0 V0 M0 R0 q6.2 (1 : Int32) p1).bind fun q12 =>
    if q12.2 = none then none else
    some ((q6.1 - q12.1), V0, q12.2)
def f_X7_element (U0 : TS) (V0 : TS) (M0 : LTS) (R0 : LTS) (p1 : Int32) (p2 : Int32) : Option Int64 :=
  if (f_X7_in ((p1).toInt64) (0 : Int64) (7 : Int64)) = 0 then
    some (0 : Int64)
  else
    if p1 < 0 ∨ 8 ≤ (p1).toNatClampNeg then none else
    if ((V0 0) (p1).toNatClampNeg) = (1 : Int32) then
      if (f_X7_in ((p2).toInt64) (0 : Int64) (((((V0 2) (p1).toNatClampNeg) - (1 : Int32))).toInt64)) = 0 then
        some (0 : Int64)
      else
        if p2 < 0 ∨ 40 ≤ (p2).toNatClampNeg then none else
        some ((R0 (p1).toNatClampNeg) (p2).toNatClampNeg)
    else
      some (0 : Int64)
def f_X7_noRow (U0 : TS) (V0 : TS) (M0 : LTS) (R0 : LTS) (p1 : Int32) : Option (Int32 × TS) :=
  if (f_X7_in ((p1).toInt64) (0 : Int64) (7 : Int64)) = 0 then
    (f_X7_refuse U0 V0 M0 R0 (-2 : Int32)).bind fun q4 =>
    some (q4.1, q4.2)
  else
    if p1 < 0 ∨ 8 ≤ (p1).toNatClampNeg then none else
    if ((V0 0) (p1).toNatClampNeg) = (2 : Int32) then
      (f_X7_refuse U0 V0 M0 R0 (-3 : Int32)).bind fun q8 =>
      some (q8.1, q8.2)
    else
      if ((V0 0) (p1).toNatClampNeg) = 0 then
        (f_X7_refuse U0 V0 M0 R0 (-4 : Int32)).bind fun q11 =>
        some (q11.1, q11.2)
      else
        some ((0 : Int32), V0)
def f_X7_noEvening (U0 : TS) (V0 : TS) (M0 : LTS) (R0 : LTS) (p1 : Int32) (p2 : Int32) : Option (Int32 × TS) :=
  if (f_X7_in ((p1).toInt64) (0 : Int64) (7 : Int64)) = 0 then
    (f_X7_refuse U0 V0 M0 R0 (-2 : Int32)).bind fun q4 =>
    some (q4.1, q4.2)
  else
    if (f_X7_in ((p2).toInt64) (0 : Int64) (40 : Int64)) = 0 then
      (f_X7_refuse U0 V0 M0 R0 (-2 : Int32)).bind fun q8 =>
      some (q8.1, q8.2)
    else
      (f_X7_noRow U0 V0 M0 R0 p1).bind fun q10 =>
      if q10.1 = 0 then
        if p1 < 0 ∨ 8 ≤ (p1).toNatClampNeg then none else
        if p2 ≤ ((q10.2 2) (p1).toNatClampNeg) then
          some ((0 : Int32), q10.2)
        else
          (f_X7_refuse U0 q10.2 M0 R0 (-2 : Int32)).bind fun q15 =>
          some (q15.1, q15.2)
      else
        some (q10.1, q10.2)
def f_X7_isSaying (U0 : TS) (p1 : Int64) : Int32 :=
  (if (lg_cmp p1 (0 : Int64)) < 0 then (0 : Int32) else (if 0 ≤ (lg_cmp (p1 / (10 : Int64)) (((U0 10 0)).toInt64)) then (0 : Int32) else (if 0 ≤ (lg_cmp (p1 - p1 / (10 : Int64) * (10 : Int64)) (((U0 9 0)).toInt64)) then (0 : Int32) else (1 : Int32))))
theorem bz_X7_isSaying (U0 : TS) (p1 : Int64) : f_X7_isSaying U0 p1 = 0 ∨ f_X7_isSaying U0 p1 = 1 := by
  obtain ⟨rr, hM⟩ : ∃ rr, f_X7_isSaying U0 p1 = rr := ⟨_, rfl⟩
  rw [hM]
  rw [f_X7_isSaying] at hM
  subst hM
  exact (by repeat (first | exact Or.inl rfl | exact Or.inr rfl | split))
def L_X7_goesBy_2 (Y1 : LTS) (p2 : Int32) : Nat → Int32 → TS → Option ((Int32 × TS) ⊕ TS)
  | 0, _, _ => none
  | n + 1, v3_1, UL2 =>
    if p2 ≤ v3_1 then
      some (.inr UL2)
    else
      if v3_1 < 0 ∨ 40 ≤ (v3_1).toNatClampNeg then none else
      if (f_X7_isSaying UL2 ((Y1 0) (v3_1).toNatClampNeg)) = 0 then
        some (.inl (v3_1, UL2))
      else
        (f_X7_mayOf UL2 (((((Y1 0) (v3_1).toNatClampNeg) / (10 : Int64))).toInt32)).bind fun q9 =>
        if (f_X7_has q9 (((((Y1 0) (v3_1).toNatClampNeg) - ((Y1 0) (v3_1).toNatClampNeg) / (10 : Int64) * (10 : Int64))).toInt32)) = 0 then
          some (.inl (v3_1, UL2))
        else
          (f_X7_isSaid UL2 (((((Y1 0) (v3_1).toNatClampNeg) / (10 : Int64))).toInt32) ((1 : Int32) <<< ((((((Y1 0) (v3_1).toNatClampNeg) - ((Y1 0) (v3_1).toNatClampNeg) / (10 : Int64) * (10 : Int64))).toInt32) &&& 31))).bind fun q13 =>
          L_X7_goesBy_2 Y1 p2 n (v3_1 + (1 : Int32)) q13.2
def f_X7_goesBy (U0 : TS) (Y1 : LTS) (p2 : Int32) : Option (Int32 × TS) :=
  (L_X7_goesBy_2 Y1 p2 300 (0 : Int32) U0).bind (eo fun q3x =>
  some ((-1 : Int32), q3x))
def f_X7_evening (U0 : TS) (V0 : TS) (M0 : LTS) (R0 : LTS) (tp0 : Option (Nat → Int32)) (p1 : Int32) (p2 : Int32) : Option (Int32 × TS × TS × (Option (Nat → Int32))) :=
  (f_X7_noEvening U0 V0 M0 R0 p1 p2).bind fun q2 =>
  if q2.1 = 0 then
    if p1 < 0 ∨ 8 ≤ (p1).toNatClampNeg then none else
    (f_X7_goesBy (fr0 U0 tp0) (fun _ => (R0 (p1).toNatClampNeg)) p2).bind fun q9 =>
    if q9.1 = (-1 : Int32) then
      (f_X7_goesBy U0 (fun _ => (R0 (p1).toNatClampNeg)) p2).bind fun q12 =>
      (f_X7_knownNow q12.2).bind fun q14 =>
      some (q14, q12.2, q2.2, (some (q9.2 29)))
    else
      (f_X7_refuse U0 q2.2 M0 R0 (-5 : Int32)).bind fun q16 =>
      some (q16.1, U0, q16.2, (some (q9.2 29)))
  else
    some (q2.1, U0, q2.2, tp0)
def L_X7_noSayings_16 (U0 : TS) (M0 : LTS) (R0 : LTS) (p1 : Int32) (p2 : Int32) : Nat → Int32 → TS → Option ((Int32 × TS) ⊕ TS)
  | 0, _, _ => none
  | n + 1, v4_4, VL5 =>
    if p2 ≤ v4_4 then
      some (.inr VL5)
    else
      if p1 < 0 ∨ 8 ≤ (p1).toNatClampNeg then none else
      if v4_4 < 0 ∨ 40 ≤ (v4_4).toNatClampNeg then none else
      if (f_X7_isSaying U0 ((R0 (p1).toNatClampNeg) (v4_4).toNatClampNeg)) = 0 then
        (f_X7_refuse U0 VL5 M0 R0 (-2 : Int32)).bind fun q13 =>
        some (.inl (q13.1, q13.2))
      else
        L_X7_noSayings_16 U0 M0 R0 p1 p2 n (v4_4 + (1 : Int32)) VL5
def f_X7_noSayings (U0 : TS) (V0 : TS) (M0 : LTS) (R0 : LTS) (p1 : Int32) (p2 : Int32) : Option (Int32 × TS) :=
  (f_X7_noEvening U0 V0 M0 R0 p1 p2).bind fun q2 =>
  if q2.1 = 0 then
    (L_X7_noSayings_16 U0 M0 R0 p1 p2 300 (0 : Int32) q2.2).bind (eo fun q6x =>
    some ((0 : Int32), q6x))
  else
    some (q2.1, q2.2)
def L_X7_falsely_19 (U0 : TS) (R0 : LTS) (p1 : Int32) (p2 : Int32) : Nat → Int32 → Int32 → Option Int32
  | 0, _, _ => none
  | n + 1, v5_4, v4_5 =>
    if p2 ≤ v5_4 then
      some v4_5
    else
      if p1 < 0 ∨ 8 ≤ (p1).toNatClampNeg then none else
      if v5_4 < 0 ∨ 40 ≤ (v5_4).toNatClampNeg then none else
      (f_X7_barredBy U0 (((((R0 (p1).toNatClampNeg) (v5_4).toNatClampNeg)).toInt32) / (10 : Int32))).bind fun q11 =>
      L_X7_falsely_19 U0 R0 p1 p2 n (v5_4 + (1 : Int32)) (v4_5 + (if (f_X7_has q11 (((((R0 (p1).toNatClampNeg) (v5_4).toNatClampNeg)).toInt32) - ((((R0 (p1).toNatClampNeg) (v5_4).toNatClampNeg)).toInt32) / (10 : Int32) * (10 : Int32))) = 0 then (0 : Int32) else (1 : Int32)))
def f_X7_falsely (U0 : TS) (V0 : TS) (M0 : LTS) (R0 : LTS) (p1 : Int32) (p2 : Int32) : Option (Int32 × TS) :=
  (f_X7_noSayings U0 V0 M0 R0 p1 p2).bind fun q2 =>
  if q2.1 = 0 then
    (L_X7_falsely_19 U0 R0 p1 p2 300 (0 : Int32) (0 : Int32)).bind fun q6 =>
    some (q6, q2.2)
  else
    some (q2.1, q2.2)
def f_X7_feed (U0 : TS) (V0 : TS) (M0 : LTS) (R0 : LTS) (p1 : Int32) : Option (Int32 × TS) :=
  if (f_X7_in ((p1).toInt64) (0 : Int64) (255 : Int64)) = 0 then
    (f_X7_refuse U0 V0 M0 R0 (-2 : Int32)).bind fun q4 =>
    some (q4.1, q4.2)
  else
    if (V0 7 0) = (250 : Int32) then
      (f_X7_refuse U0 V0 M0 R0 (-6 : Int32)).bind fun q7 =>
      some (q7.1, q7.2)
    else
      if (V0 7 0) < 0 ∨ 250 ≤ ((V0 7 0)).toNatClampNeg then none else
      some (((V0 7 0) + (1 : Int32)), (up (up V0 7 (fun _ => ((V0 7 0) + (1 : Int32)))) 6 (upd (V0 6) ((V0 7 0)).toNatClampNeg p1)))
def L_X7_first_76 (p2 : Int32) : Nat → Int32 → TS → Option TS
  | 0, _, _ => none
  | n + 1, v7_25, UL26 =>
    if p2 ≤ v7_25 then
      some UL26
    else
      (f_X7_goesRound UL26).bind fun q30 =>
      L_X7_first_76 p2 n (v7_25 + (1 : Int32)) q30.2
def L_X7_first_100 (U0 : TS) (p1 : Int32) (q27 : TS) : Nat → Int32 → Int32 → Option Int32
  | 0, _, _ => none
  | n + 1, v8_31, v7_32 =>
    if (U0 10 0) ≤ v8_31 then
      some v7_32
    else
      (f_X7_knows q27 v8_31).bind fun q36 =>
      L_X7_first_100 U0 p1 q27 n (v8_31 + (1 : Int32)) (v7_32 + (if (f_X7_has q36 p1) = 0 then (0 : Int32) else (1 : Int32)))
def L_X7_first_44 (U0 : TS) (p1 : Int32) (p2 : Int32) : Nat → Int32 → Int32 → Int32 → Option (Nat → Int32) → Option (Int32 × Option (Nat → Int32))
  | 0, _, _, _, _ => none
  | n + 1, v5_12, v4_13, v3_14, tpL16 =>
    if (U0 10 0) ≤ v5_12 then
      some (v3_14, tpL16)
    else
      if v5_12 < 0 ∨ 7 ≤ (v5_12).toNatClampNeg then none else
      (L_X7_first_76 p2 300 (0 : Int32) (up (fr0 U0 tpL16) 15 (upd ((fr0 U0 tpL16) 15) (v5_12).toNatClampNeg ((((fr0 U0 tpL16) 15) (v5_12).toNatClampNeg) ||| ((1 : Int32) <<< (p1 &&& 31)))))).bind fun q27 =>
      (L_X7_first_100 U0 p1 q27 300 (0 : Int32) (0 : Int32)).bind fun q33 =>
      L_X7_first_44 U0 p1 p2 n (v5_12 + (1 : Int32)) (if q33 ≤ v4_13 then v4_13 else q33) (if q33 ≤ v4_13 then v3_14 else v5_12) (some (q27 29))
def f_X7_first (U0 : TS) (V0 : TS) (M0 : LTS) (R0 : LTS) (tp0 : Option (Nat → Int32)) (p1 : Int32) (p2 : Int32) : Option (Int32 × TS × (Option (Nat → Int32))) :=
  if (f_X7_isSight U0 p1) = 0 then
    (f_X7_refuse U0 V0 M0 R0 (-2 : Int32)).bind fun q4 =>
    some (q4.1, q4.2, tp0)
  else
    if (f_X7_isRounds p2) = 0 then
      (f_X7_refuse U0 V0 M0 R0 (-2 : Int32)).bind fun q8 =>
      some (q8.1, q8.2, tp0)
    else
      if (U0 10 0) = 0 then
        (f_X7_refuse U0 V0 M0 R0 (-5 : Int32)).bind fun q11 =>
        some (q11.1, q11.2, tp0)
      else
        (L_X7_first_44 U0 p1 p2 300 (0 : Int32) (-1 : Int32) (0 : Int32) tp0).bind fun q19 =>
        some (q19.1, V0, q19.2)
def L_X7_firstOf_2 (p0 : Int32) : Nat → Int32 → Option (Int32 ⊕ Unit)
  | 0, _ => none
  | n + 1, v1_1 =>
    if (8 : Int32) ≤ v1_1 then
      some (.inr ())
    else
      if (f_X7_has p0 v1_1) = 0 then
        L_X7_firstOf_2 p0 n (v1_1 + (1 : Int32))
      else
        some (.inl v1_1)
def f_X7_firstOf (p0 : Int32) : Option Int32 :=
  (L_X7_firstOf_2 p0 300 (0 : Int32)).bind (eo fun q2x =>
  some (-1 : Int32))
def f_X7_fit (p0 : Int32) (p1 : Int64) : Int64 :=
  if p0 = (0 : Int32) then
    ((((((p1).toInt32)).toInt8.toInt32)).toInt64)
  else
  if p0 = (1 : Int32) then
    ((((((p1).toInt32)).toInt16.toInt32)).toInt64)
  else
  if p0 = (2 : Int32) then
    ((((p1).toInt32)).toInt64)
  else
  if p0 = (3 : Int32) then
    p1
  else
  (if (lg_cmp p1 (0 : Int64)) = 0 then (0 : Int64) else (1 : Int64))
def L_X7_silent_24 (U0 : TS) (R0 : LTS) (p1 : Int32) (p2 : Int32) (p3 : Int32) (v5_1 : Int32) : Nat → Int32 → Int32 → Int32 → Option (Int32 × Int32)
  | 0, _, _, _ => none
  | n + 1, v8_5, v7_6, v6_7 =>
    if p2 ≤ v8_5 then
      some (v7_6, v6_7)
    else
      if p1 < 0 ∨ 8 ≤ (p1).toNatClampNeg then none else
      if v8_5 < 0 ∨ 40 ≤ (v8_5).toNatClampNeg then none else
      if (((((R0 (p1).toNatClampNeg) (v8_5).toNatClampNeg)).toInt32) - ((((R0 (p1).toNatClampNeg) (v8_5).toNatClampNeg)).toInt32) / (10 : Int32) * (10 : Int32)) = p3 then
        if v5_1 < 0 ∨ 7 ≤ (v5_1).toNatClampNeg then none else
        L_X7_silent_24 U0 R0 p1 p2 p3 v5_1 n (v8_5 + (1 : Int32)) (v7_6 ||| (if v6_7 = 0 then (0 : Int32) else (if (((((R0 (p1).toNatClampNeg) (v8_5).toNatClampNeg)).toInt32) / (10 : Int32)) = v5_1 then (1 : Int32) else (0 : Int32)))) (v6_7 ||| (f_X7_has ((U0 16) (v5_1).toNatClampNeg) (((((R0 (p1).toNatClampNeg) (v8_5).toNatClampNeg)).toInt32) / (10 : Int32))))
      else
        L_X7_silent_24 U0 R0 p1 p2 p3 v5_1 n (v8_5 + (1 : Int32)) v7_6 v6_7
def L_X7_silent_6 (U0 : TS) (R0 : LTS) (p1 : Int32) (p2 : Int32) (p3 : Int32) : Nat → Int32 → Int32 → Option Int32
  | 0, _, _ => none
  | n + 1, v5_1, v4_2 =>
    if (U0 10 0) ≤ v5_1 then
      some v4_2
    else
      (L_X7_silent_24 U0 R0 p1 p2 p3 v5_1 300 (0 : Int32) (0 : Int32) (0 : Int32)).bind fun q8 =>
      L_X7_silent_6 U0 R0 p1 p2 p3 n (v5_1 + (1 : Int32)) (v4_2 ||| (if q8.2 = 0 then (0 : Int32) else (if q8.1 = 0 then ((1 : Int32) <<< (v5_1 &&& 31)) else (0 : Int32))))
def f_X7_silent (U0 : TS) (V0 : TS) (M0 : LTS) (R0 : LTS) (p1 : Int32) (p2 : Int32) (p3 : Int32) : Option Int32 :=
  (L_X7_silent_6 U0 R0 p1 p2 p3 300 (0 : Int32) (0 : Int32)).bind fun q3 =>
  some q3
def L_X7_mouthsOf_4 (U0 : TS) (p1 : Int32) : Nat → Int32 → Int32 → Option Int32
  | 0, _, _ => none
  | n + 1, v3_1, v2_2 =>
    if (U0 10 0) ≤ v3_1 then
      some v2_2
    else
      (f_X7_mayOf U0 v3_1).bind fun q6 =>
      L_X7_mouthsOf_4 U0 p1 n (v3_1 + (1 : Int32)) (v2_2 ||| (if (f_X7_has q6 p1) = 0 then (0 : Int32) else ((1 : Int32) <<< (v3_1 &&& 31))))
def f_X7_mouthsOf (U0 : TS) (p1 : Int32) : Option Int32 :=
  (L_X7_mouthsOf_4 U0 p1 300 (0 : Int32) (0 : Int32)).bind fun q3 =>
  some q3
def L_X7_free_40 (R0 : LTS) (p1 : Int32) (p2 : Int32) : Nat → Int32 → TS → Option TS
  | 0, _, _ => none
  | n + 1, v6_11, UL12 =>
    if p2 ≤ v6_11 then
      some UL12
    else
      if p1 < 0 ∨ 8 ≤ (p1).toNatClampNeg then none else
      if v6_11 < 0 ∨ 40 ≤ (v6_11).toNatClampNeg then none else
      (f_X7_isSaid UL12 (((((R0 (p1).toNatClampNeg) (v6_11).toNatClampNeg)).toInt32) / (10 : Int32)) ((1 : Int32) <<< ((((((R0 (p1).toNatClampNeg) (v6_11).toNatClampNeg)).toInt32) - ((((R0 (p1).toNatClampNeg) (v6_11).toNatClampNeg)).toInt32) / (10 : Int32) * (10 : Int32)) &&& 31))).bind fun q18 =>
      L_X7_free_40 R0 p1 p2 n (v6_11 + (1 : Int32)) q18.2
def f_X7_free (U0 : TS) (V0 : TS) (M0 : LTS) (R0 : LTS) (tp0 : Option (Nat → Int32)) (p1 : Int32) (p2 : Int32) (p3 : Int32) : Option (Int32 × TS × (Option (Nat → Int32))) :=
  if (f_X7_isSight U0 p3) = 0 then
    (f_X7_refuse U0 V0 M0 R0 (-2 : Int32)).bind fun q4 =>
    some (q4.1, q4.2, tp0)
  else
    (f_X7_noSayings U0 V0 M0 R0 p1 p2).bind fun q6 =>
    if q6.1 = 0 then
      (L_X7_free_40 R0 p1 p2 300 (0 : Int32) (fr0 U0 tp0)).bind fun q13 =>
      (f_X7_silent U0 q6.2 M0 R0 p1 p2 p3).bind fun q20 =>
      (f_X7_barredOf U0 p3).bind fun q22 =>
      (f_X7_mouthsOf q13 p3).bind fun q24 =>
      some (((q20 &&& (q22 ^^^ (-1 : Int32))) &&& q24), q6.2, (some (q13 29)))
    else
      some (q6.1, q6.2, tp0)
def f_X7_hear (U0 : TS) (V0 : TS) (M0 : LTS) (R0 : LTS) (p1 : Int32) (p2 : Int32) (p3 : Int32) : Option (Int32 × TS × TS) :=
  if (f_X7_isOne U0 p1) = 0 then
    (f_X7_refuse U0 V0 M0 R0 (-2 : Int32)).bind fun q4 =>
    some (q4.1, U0, q4.2)
  else
    if (f_X7_isSight U0 p2) = 0 then
      (f_X7_refuse U0 V0 M0 R0 (-2 : Int32)).bind fun q8 =>
      some (q8.1, U0, q8.2)
    else
      if p1 < 0 ∨ 7 ≤ (p1).toNatClampNeg then none else
      some ((if (f_X7_has ((U0 15) (p1).toNatClampNeg) p2) = p3 then (0 : Int32) else (1 : Int32)), (up U0 15 (upd (U0 15) (p1).toNatClampNeg (if p3 = 0 then (((U0 15) (p1).toNatClampNeg) &&& (((1 : Int32) <<< (p2 &&& 31)) ^^^ (-1 : Int32))) else (((U0 15) (p1).toNatClampNeg) ||| ((1 : Int32) <<< (p2 &&& 31)))))), V0)
def f_X7_heard (U0 : TS) (V0 : TS) (M0 : LTS) (R0 : LTS) (tp0 : Option (Nat → Int32)) (p1 : Int32) (p2 : Int32) (p3 : Int32) : Option (Int32 × TS × (Option (Nat → Int32))) :=
  if (f_X7_isOne U0 p3) = 0 then
    (f_X7_refuse U0 V0 M0 R0 (-2 : Int32)).bind fun q4 =>
    some (q4.1, q4.2, tp0)
  else
    (f_X7_noEvening U0 V0 M0 R0 p1 p2).bind fun q6 =>
    if q6.1 = 0 then
      if p1 < 0 ∨ 8 ≤ (p1).toNatClampNeg then none else
      (f_X7_goesBy (fr0 U0 tp0) (fun _ => (R0 (p1).toNatClampNeg)) p2).bind fun q13 =>
      if q13.1 = (-1 : Int32) then
        if p3 < 0 ∨ 7 ≤ (p3).toNatClampNeg then none else
        some (((q13.2 15) (p3).toNatClampNeg), q6.2, (some (q13.2 29)))
      else
        (f_X7_refuse U0 q6.2 M0 R0 (-5 : Int32)).bind fun q17 =>
        some (q17.1, q17.2, (some (q13.2 29)))
    else
      some (q6.1, q6.2, tp0)
def f_X7_holds (U0 : TS) (V0 : TS) (M0 : LTS) (R0 : LTS) (p1 : Int32) : Option Int32 :=
  if (f_X7_in ((p1).toInt64) (0 : Int64) (7 : Int64)) = 0 then
    some (-1 : Int32)
  else
    if p1 < 0 ∨ 8 ≤ (p1).toNatClampNeg then none else
    if ((V0 0) (p1).toNatClampNeg) = 0 then
      some (-1 : Int32)
    else
      some (if ((V0 0) (p1).toNatClampNeg) = (1 : Int32) then ((V0 1) (p1).toNatClampNeg) else ((10 : Int32) + ((V0 5) (p1).toNatClampNeg)))
def f_X7_sees (U0 : TS) (p1 : Int32) (p2 : Int32) (p3 : Int32) : Option TS :=
  if p1 < 0 ∨ 7 ≤ (p1).toNatClampNeg then none else
  some (up (up U0 13 (upd (upd (U0 13) (p1).toNatClampNeg (((U0 13) (p1).toNatClampNeg) &&& (((1 : Int32) <<< (p2 &&& 31)) ^^^ (-1 : Int32)))) (p1).toNatClampNeg (((upd (U0 13) (p1).toNatClampNeg (((U0 13) (p1).toNatClampNeg) &&& (((1 : Int32) <<< (p2 &&& 31)) ^^^ (-1 : Int32)))) (p1).toNatClampNeg) ||| (if p3 = (2 : Int32) then ((1 : Int32) <<< (p2 &&& 31)) else (0 : Int32))))) 14 (upd (upd (U0 14) (p1).toNatClampNeg (((U0 14) (p1).toNatClampNeg) &&& (((1 : Int32) <<< (p2 &&& 31)) ^^^ (-1 : Int32)))) (p1).toNatClampNeg (((upd (U0 14) (p1).toNatClampNeg (((U0 14) (p1).toNatClampNeg) &&& (((1 : Int32) <<< (p2 &&& 31)) ^^^ (-1 : Int32)))) (p1).toNatClampNeg) ||| (if p3 = (1 : Int32) then ((1 : Int32) <<< (p2 &&& 31)) else (0 : Int32)))))
def L_X7_isStopped_9 (U0 : TS) (p1 : Int32) (p2 : Int32) : Nat → Int32 → TS → Option ((Int32 × (Option (Nat → Int32))) ⊕ TS)
  | 0, _, _ => none
  | n + 1, v5_4, UL5 =>
    if (U0 10 0) ≤ v5_4 then
      some (.inr UL5)
    else
      if (f_X7_has p1 v5_4) = 0 then
        L_X7_isStopped_9 U0 p1 p2 n (v5_4 + (1 : Int32)) UL5
      else
        if v5_4 < 0 ∨ 7 ≤ (v5_4).toNatClampNeg then none else
        if ((U0 11) (v5_4).toNatClampNeg) = (4 : Int32) then
          some (.inl ((0 : Int32), (some (UL5 29))))
        else
          (f_X7_sees UL5 v5_4 p2 (2 : Int32)).bind fun q13 =>
          L_X7_isStopped_9 U0 p1 p2 n (v5_4 + (1 : Int32)) q13
def L_X7_isStopped_58 (p2 : Int32) (p3 : Int32) : Nat → Int32 → TS → Option ((Int32 × (Option (Nat → Int32))) ⊕ TS)
  | 0, _, _ => none
  | n + 1, v5_14, UL15 =>
    if p3 ≤ v5_14 then
      some (.inr UL15)
    else
      (f_X7_mouthsOf UL15 p2).bind fun q19 =>
      if q19 = 0 then
        (f_X7_goesRound UL15).bind fun q22 =>
        L_X7_isStopped_58 p2 p3 n (v5_14 + (1 : Int32)) q22.2
      else
        some (.inl ((0 : Int32), (some (UL15 29))))
def f_X7_isStopped (U0 : TS) (V0 : TS) (M0 : LTS) (R0 : LTS) (tp0 : Option (Nat → Int32)) (p1 : Int32) (p2 : Int32) (p3 : Int32) : Option (Int32 × (Option (Nat → Int32))) :=
  (L_X7_isStopped_9 U0 p1 p2 300 (0 : Int32) (fr0 U0 tp0)).bind (eo fun q6x =>
  (L_X7_isStopped_58 p2 p3 300 (0 : Int32) q6x).bind (eo fun q16x =>
  (f_X7_mouthsOf q16x p2).bind fun q24 =>
  some ((if q24 = 0 then (1 : Int32) else (0 : Int32)), (some (q16x 29)))))
def f_X7_isUnder (p0 : Int32) (p1 : Int32) : Int32 :=
  (if p1 = 0 then (1 : Int32) else (if p0 = p1 then (1 : Int32) else (if p1 = (2 : Int32) then (if p0 = (3 : Int32) then (1 : Int32) else (0 : Int32)) else (0 : Int32))))
theorem bz_X7_isUnder (p0 : Int32) (p1 : Int32) : f_X7_isUnder p0 p1 = 0 ∨ f_X7_isUnder p0 p1 = 1 := by
  obtain ⟨rr, hM⟩ : ∃ rr, f_X7_isUnder p0 p1 = rr := ⟨_, rfl⟩
  rw [hM]
  rw [f_X7_isUnder] at hM
  subst hM
  exact (by repeat (first | exact Or.inl rfl | exact Or.inr rfl | split))
def f_X7_judge (U0 : TS) (V0 : TS) (M0 : LTS) (R0 : LTS) (tp0 : Option (Nat → Int32)) (p1 : Int32) (p2 : Int32) : Option (Int32 × TS × (Option (Nat → Int32))) :=
  (f_X7_noEvening U0 V0 M0 R0 p1 p2).bind fun q2 =>
  if q2.1 = 0 then
    if p1 < 0 ∨ 8 ≤ (p1).toNatClampNeg then none else
    (f_X7_goesBy (fr0 U0 tp0) (fun _ => (R0 (p1).toNatClampNeg)) p2).bind fun q9 =>
    some (q9.1, q2.2, (some (q9.2 29)))
  else
    some (q2.1, q2.2, tp0)
def f_X7_known (U0 : TS) (V0 : TS) (M0 : LTS) (R0 : LTS) : Option Int32 :=
  (f_X7_knownNow U0).bind fun q2 =>
  some q2
def f_X7_knownBy (U0 : TS) (V0 : TS) (M0 : LTS) (R0 : LTS) (tp0 : Option (Nat → Int32)) (p1 : Int32) : Option (Int32 × TS × (Option (Nat → Int32))) :=
  if (f_X7_isRounds p1) = 0 then
    (f_X7_refuse U0 V0 M0 R0 (-2 : Int32)).bind fun q4 =>
    some (q4.1, q4.2, tp0)
  else
    (f_X7_after U0 V0 M0 R0 tp0 p1).bind fun q8 =>
    (f_X7_knownNow q8).bind fun q10 =>
    some (q10, V0, (some (q8 29)))
def L_X7_knownTo_4 (U0 : TS) (p1 : Int32) : Nat → Int32 → Int32 → Option Int32
  | 0, _, _ => none
  | n + 1, v3_1, v2_2 =>
    if (U0 10 0) ≤ v3_1 then
      some v2_2
    else
      if v3_1 = p1 then
        L_X7_knownTo_4 U0 p1 n (v3_1 + (1 : Int32)) (v2_2 + (0 : Int32))
      else
        (f_X7_knows U0 v3_1).bind fun q7 =>
        (f_X7_bits q7).bind fun q9 =>
        L_X7_knownTo_4 U0 p1 n (v3_1 + (1 : Int32)) (v2_2 + q9)
def f_X7_knownTo (U0 : TS) (p1 : Int32) : Option Int32 :=
  (L_X7_knownTo_4 U0 p1 300 (0 : Int32) (0 : Int32)).bind fun q3 =>
  some q3
def L_X7_loudest_18 (U0 : TS) : Nat → Int32 → Int32 → Option Int32
  | 0, _, _ => none
  | n + 1, v2_4, v1_5 =>
    if (U0 10 0) ≤ v2_4 then
      some v1_5
    else
      (f_X7_mayOf U0 v2_4).bind fun q9 =>
      (f_X7_bits q9).bind fun q11 =>
      (f_X7_mayOf U0 v1_5).bind fun q13 =>
      (f_X7_bits q13).bind fun q15 =>
      L_X7_loudest_18 U0 n (v2_4 + (1 : Int32)) (if q11 ≤ q15 then v1_5 else v2_4)
def f_X7_loudest (U0 : TS) (V0 : TS) (M0 : LTS) (R0 : LTS) : Option (Int32 × TS) :=
  if (U0 10 0) = 0 then
    (f_X7_refuse U0 V0 M0 R0 (-5 : Int32)).bind fun q3 =>
    some (q3.1, q3.2)
  else
    (L_X7_loudest_18 U0 300 (1 : Int32) (0 : Int32)).bind fun q6 =>
    some (q6, V0)
def f_X7_may (U0 : TS) (V0 : TS) (M0 : LTS) (R0 : LTS) (p1 : Int32) (p2 : Int32) : Option (Int32 × TS) :=
  if (f_X7_isOne U0 p1) = 0 then
    (f_X7_refuse U0 V0 M0 R0 (-2 : Int32)).bind fun q4 =>
    some (q4.1, q4.2)
  else
    if (f_X7_isSight U0 p2) = 0 then
      (f_X7_refuse U0 V0 M0 R0 (-2 : Int32)).bind fun q8 =>
      some (q8.1, q8.2)
    else
      (f_X7_mayOf U0 p1).bind fun q10 =>
      some ((if (f_X7_has q10 p2) = 0 then (0 : Int32) else (1 : Int32)), V0)
def f_X7_mouths (U0 : TS) (V0 : TS) (M0 : LTS) (R0 : LTS) (p1 : Int32) : Option (Int32 × TS) :=
  if (f_X7_isSight U0 p1) = 0 then
    (f_X7_refuse U0 V0 M0 R0 (-2 : Int32)).bind fun q4 =>
    some (q4.1, q4.2)
  else
    (f_X7_mouthsOf U0 p1).bind fun q6 =>
    some (q6, V0)
def f_X7_mouthsBy (U0 : TS) (V0 : TS) (M0 : LTS) (R0 : LTS) (tp0 : Option (Nat → Int32)) (p1 : Int32) (p2 : Int32) : Option (Int32 × TS × (Option (Nat → Int32))) :=
  if (f_X7_isSight U0 p1) = 0 then
    (f_X7_refuse U0 V0 M0 R0 (-2 : Int32)).bind fun q4 =>
    some (q4.1, q4.2, tp0)
  else
    if (f_X7_isRounds p2) = 0 then
      (f_X7_refuse U0 V0 M0 R0 (-2 : Int32)).bind fun q8 =>
      some (q8.1, q8.2, tp0)
    else
      (f_X7_after U0 V0 M0 R0 tp0 p2).bind fun q12 =>
      (f_X7_mouthsOf q12 p1).bind fun q14 =>
      some (q14, V0, (some (q12 29)))
def f_X7_near (U0 : TS) (V0 : TS) (M0 : LTS) (R0 : LTS) (p1 : Int32) (p2 : Int32) (p3 : Int32) : Option (Int32 × TS × TS) :=
  if (f_X7_isOne U0 p1) = 0 then
    (f_X7_refuse U0 V0 M0 R0 (-2 : Int32)).bind fun q4 =>
    some (q4.1, U0, q4.2)
  else
    if (f_X7_isOne U0 p2) = 0 then
      (f_X7_refuse U0 V0 M0 R0 (-2 : Int32)).bind fun q8 =>
      some (q8.1, U0, q8.2)
    else
      if p1 = p2 then
        (f_X7_refuse U0 V0 M0 R0 (-2 : Int32)).bind fun q11 =>
        some (q11.1, U0, q11.2)
      else
        if p1 < 0 ∨ 7 ≤ (p1).toNatClampNeg then none else
        some ((if (f_X7_has ((U0 16) (p1).toNatClampNeg) p2) = p3 then (0 : Int32) else (1 : Int32)), (up U0 16 (upd (U0 16) (p1).toNatClampNeg (if p3 = 0 then (((U0 16) (p1).toNatClampNeg) &&& (((1 : Int32) <<< (p2 &&& 31)) ^^^ (-1 : Int32))) else (((U0 16) (p1).toNatClampNeg) ||| ((1 : Int32) <<< (p2 &&& 31)))))), V0)
def f_X7_nearTold (U0 : TS) (V0 : TS) (M0 : LTS) (R0 : LTS) : Option (Int32 × TS × TS) :=
  (f_X7_tells U0 V0 M0 R0 (0 : Int32) ((U0 10 0) - (1 : Int32))).bind fun q2 =>
  if q2.1 = 0 then
    some ((0 : Int32), U0, q2.2)
  else
    if (q2.2 23 0) = (2 : Int32) then
      if (q2.2 25 0) = ((q2.2 27) ((0 : Int32)).toNatClampNeg) then
        (f_X7_wrong U0 q2.2 M0 R0).bind fun q7 =>
        some (q7.1, U0, q7.2)
      else
        (f_X7_number U0 q2.2 M0 R0 (1 : Int32) (0 : Int32) ((U0 10 0) - (1 : Int32))).bind fun q9 =>
        if q9.1 = 0 then
          (f_X7_wrong U0 q9.2 M0 R0).bind fun q12 =>
          some (q12.1, U0, q12.2)
        else
          if ((q9.2 27) ((0 : Int32)).toNatClampNeg) < 0 ∨ 7 ≤ (((q9.2 27) ((0 : Int32)).toNatClampNeg)).toNatClampNeg then none else
          some ((1 : Int32), (up U0 16 (upd (U0 16) (((q9.2 27) ((0 : Int32)).toNatClampNeg)).toNatClampNeg (((U0 16) (((q9.2 27) ((0 : Int32)).toNatClampNeg)).toNatClampNeg) ||| ((1 : Int32) <<< (((q9.2 27) ((1 : Int32)).toNatClampNeg) &&& 31))))), q9.2)
    else
      (f_X7_number U0 q2.2 M0 R0 (1 : Int32) (0 : Int32) ((U0 10 0) - (1 : Int32))).bind fun q15 =>
      if q15.1 = 0 then
        (f_X7_wrong U0 q15.2 M0 R0).bind fun q18 =>
        some (q18.1, U0, q18.2)
      else
        if ((q15.2 27) ((0 : Int32)).toNatClampNeg) < 0 ∨ 7 ≤ (((q15.2 27) ((0 : Int32)).toNatClampNeg)).toNatClampNeg then none else
        some ((1 : Int32), (up U0 16 (upd (U0 16) (((q15.2 27) ((0 : Int32)).toNatClampNeg)).toNatClampNeg (((U0 16) (((q15.2 27) ((0 : Int32)).toNatClampNeg)).toNatClampNeg) ||| ((1 : Int32) <<< (((q15.2 27) ((1 : Int32)).toNatClampNeg) &&& 31))))), q15.2)
theorem bz_X7_nearTold {U0 : TS} {V0 : TS} {M0 : LTS} {R0 : LTS} {q : (Int32 × TS × TS)} (hM : f_X7_nearTold U0 V0 M0 R0 = some q) : q.1 = 0 ∨ q.1 = 1 := by
  rw [f_X7_nearTold] at hM
  obtain ⟨q2, h1, hM⟩ := bd hM
  by_cases c3 : q2.1 = 0
  · replace hM := itp c3 hM
    obtain rfl := Option.some.inj hM
    exact (Or.inl rfl)
  · replace hM := itn c3 hM
    by_cases c4 : (q2.2 23 0) = (2 : Int32)
    · replace hM := itp c4 hM
      by_cases c5 : (q2.2 25 0) = ((q2.2 27) ((0 : Int32)).toNatClampNeg)
      · replace hM := itp c5 hM
        obtain ⟨q7, h6, hM⟩ := bd hM
        obtain rfl := Option.some.inj hM
        exact (bz_X7_wrong h6)
      · replace hM := itn c5 hM
        obtain ⟨q9, h8, hM⟩ := bd hM
        by_cases c10 : q9.1 = 0
        · replace hM := itp c10 hM
          obtain ⟨q12, h11, hM⟩ := bd hM
          obtain rfl := Option.some.inj hM
          exact (bz_X7_wrong h11)
        · replace hM := itn c10 hM
          obtain ⟨k13, hM⟩ := ck hM
          obtain rfl := Option.some.inj hM
          exact (Or.inr rfl)
    · replace hM := itn c4 hM
      obtain ⟨q15, h14, hM⟩ := bd hM
      by_cases c16 : q15.1 = 0
      · replace hM := itp c16 hM
        obtain ⟨q18, h17, hM⟩ := bd hM
        obtain rfl := Option.some.inj hM
        exact (bz_X7_wrong h17)
      · replace hM := itn c16 hM
        obtain ⟨k19, hM⟩ := ck hM
        obtain rfl := Option.some.inj hM
        exact (Or.inr rfl)
def L_X7_never_27 (U0 : TS) (p1 : Int32) (q8 : TS) : Nat → Int32 → Int32 → Option Int32
  | 0, _, _ => none
  | n + 1, v4_9, v3_10 =>
    if (U0 10 0) ≤ v4_9 then
      some v3_10
    else
      (f_X7_knows q8 v4_9).bind fun q14 =>
      L_X7_never_27 U0 p1 q8 n (v4_9 + (1 : Int32)) (v3_10 ||| (if (f_X7_has q14 p1) = 0 then ((1 : Int32) <<< (v4_9 &&& 31)) else (0 : Int32)))
def f_X7_never (U0 : TS) (V0 : TS) (M0 : LTS) (R0 : LTS) (tp0 : Option (Nat → Int32)) (p1 : Int32) : Option (Int32 × TS × (Option (Nat → Int32))) :=
  if (f_X7_isSight U0 p1) = 0 then
    (f_X7_refuse U0 V0 M0 R0 (-2 : Int32)).bind fun q4 =>
    some (q4.1, q4.2, tp0)
  else
    (f_X7_after U0 V0 M0 R0 tp0 (20 : Int32)).bind fun q8 =>
    (L_X7_never_27 U0 p1 q8 300 (0 : Int32) (0 : Int32)).bind fun q11 =>
    some (q11, V0, (some (q8 29)))
def L_X7_night_2 : Nat → Int32 → TS → Option TS
  | 0, _, _ => none
  | n + 1, v1_1, UL2 =>
    if (UL2 10 0) ≤ v1_1 then
      some UL2
    else
      if v1_1 < 0 ∨ 7 ≤ (v1_1).toNatClampNeg then none else
      if ((UL2 11) (v1_1).toNatClampNeg) = (5 : Int32) then
        (f_X7_firstOf ((UL2 13) (v1_1).toNatClampNeg)).bind fun q8 =>
        if q8 = (-1 : Int32) then
          L_X7_night_2 n (v1_1 + (1 : Int32)) UL2
        else
          L_X7_night_2 n (v1_1 + (1 : Int32)) (up (up UL2 13 (upd (UL2 13) (v1_1).toNatClampNeg (((UL2 13) (v1_1).toNatClampNeg) &&& (((1 : Int32) <<< (q8 &&& 31)) ^^^ (-1 : Int32))))) 15 (upd (UL2 15) (v1_1).toNatClampNeg (((UL2 15) (v1_1).toNatClampNeg) ||| ((1 : Int32) <<< (q8 &&& 31)))))
      else
        if (-1 : Int32) = (-1 : Int32) then
          L_X7_night_2 n (v1_1 + (1 : Int32)) UL2
        else
          L_X7_night_2 n (v1_1 + (1 : Int32)) (up (up UL2 13 (upd (UL2 13) (v1_1).toNatClampNeg (((UL2 13) (v1_1).toNatClampNeg) &&& (((1 : Int32) <<< ((-1 : Int32) &&& 31)) ^^^ (-1 : Int32))))) 15 (upd (UL2 15) (v1_1).toNatClampNeg (((UL2 15) (v1_1).toNatClampNeg) ||| ((1 : Int32) <<< ((-1 : Int32) &&& 31)))))
def f_X7_night (U0 : TS) (V0 : TS) (M0 : LTS) (R0 : LTS) : Option (Int32 × TS) :=
  (L_X7_night_2 300 (0 : Int32) U0).bind fun q3 =>
  some (((q3 18 0) + (1 : Int32)), (up q3 18 (fun _ => ((q3 18 0) + (1 : Int32)))))
def f_X7_noSets (U0 : TS) (V0 : TS) (M0 : LTS) (R0 : LTS) (p1 : Int32) (p2 : Int32) : Option (Int32 × TS) :=
  if (f_X7_in ((p1).toInt64) (0 : Int64) (7 : Int64)) = 0 then
    (f_X7_refuse U0 V0 M0 R0 (-2 : Int32)).bind fun q4 =>
    some (q4.1, q4.2)
  else
    if (f_X7_in ((p2).toInt64) (1 : Int64) (10 : Int64)) = 0 then
      (f_X7_refuse U0 V0 M0 R0 (-2 : Int32)).bind fun q8 =>
      some (q8.1, q8.2)
    else
      (f_X7_noRow U0 V0 M0 R0 p1).bind fun q10 =>
      if q10.1 = 0 then
        if p1 < 0 ∨ 8 ≤ (p1).toNatClampNeg then none else
        if p2 ≤ ((q10.2 2) (p1).toNatClampNeg) then
          some ((0 : Int32), q10.2)
        else
          (f_X7_refuse U0 q10.2 M0 R0 (-2 : Int32)).bind fun q15 =>
          some (q15.1, q15.2)
      else
        some (q10.1, q10.2)
def L_X7_seekOrder_16 (U0 : TS) (V0 : TS) : Nat → Int32 → TS → Option TS
  | 0, _, _ => none
  | n + 1, v4_5, UL6 =>
    if (U0 10 0) ≤ v4_5 then
      some UL6
    else
      if v4_5 < 0 ∨ 7 ≤ (v4_5).toNatClampNeg then none else
      (f_X7_mayOf UL6 ((V0 30) (v4_5).toNatClampNeg)).bind fun q11 =>
      (f_X7_isSaid UL6 ((V0 30) (v4_5).toNatClampNeg) q11).bind fun q13 =>
      L_X7_seekOrder_16 U0 V0 n (v4_5 + (1 : Int32)) q13.2
def L_X7_seekOrder_78 (U0 : TS) : Nat → Int32 → TS → Option TS
  | 0, _, _ => none
  | n + 1, v5_17, VL18 =>
    if (U0 10 0) ≤ v5_17 then
      some VL18
    else
      if v5_17 < 0 ∨ 7 ≤ (v5_17).toNatClampNeg then none else
      L_X7_seekOrder_78 U0 n (v5_17 + (1 : Int32)) (up VL18 31 (upd (VL18 31) (v5_17).toNatClampNeg ((VL18 30) (v5_17).toNatClampNeg)))
def L_X7_seekOrder_110 (rc : (TS → TS → LTS → LTS → Option (Nat → Int32) → Int32 → Int32 → Option (TS × (Option (Nat → Int32))))) (U0 : TS) (M0 : LTS) (R0 : LTS) (p1 : Int32) (p2 : Int32) : Nat → Int32 → Option (Nat → Int32) → TS → Option (Option (Nat → Int32) × TS)
  | 0, _, _, _ => none
  | n + 1, v3_22, tpL24, VL27 =>
    if (U0 10 0) ≤ v3_22 then
      some (tpL24, VL27)
    else
      if (f_X7_has p2 v3_22) = 0 then
        if p1 < 0 ∨ 7 ≤ (p1).toNatClampNeg then none else
        (rc U0 (up VL27 30 (upd (VL27 30) (p1).toNatClampNeg v3_22)) M0 R0 tpL24 (p1 + (1 : Int32)) (p2 ||| ((1 : Int32) <<< (v3_22 &&& 31)))).bind fun q34 =>
        if q34.2 = none then none else
        L_X7_seekOrder_110 rc U0 M0 R0 p1 p2 n (v3_22 + (1 : Int32)) q34.2 q34.1
      else
        L_X7_seekOrder_110 rc U0 M0 R0 p1 p2 n (v3_22 + (1 : Int32)) tpL24 VL27
def f_X7_seekOrder : Nat → TS → TS → LTS → LTS → Option (Nat → Int32) → Int32 → Int32 → Option (TS × (Option (Nat → Int32)))
  | 0, _, _, _, _, _, _, _ => none
  | d + 1, U0, V0, M0, R0, tp0, p1, p2 =>
    if p1 = (U0 10 0) then
      (L_X7_seekOrder_16 U0 V0 300 (0 : Int32) (fr0 U0 tp0)).bind fun q7 =>
      (f_X7_knownNow q7).bind fun q15 =>
      if q15 ≤ (V0 32 0) then
        some (V0, (some (q7 29)))
      else
        (L_X7_seekOrder_78 U0 300 (0 : Int32) (up V0 32 (fun _ => q15))).bind fun q19 =>
        some (q19, (some (q7 29)))
    else
      (L_X7_seekOrder_110 (f_X7_seekOrder d) U0 M0 R0 p1 p2 300 (0 : Int32) tp0 V0).bind fun q28 =>
      some (q28.2, q28.1)
def f_X7_order (U0 : TS) (V0 : TS) (M0 : LTS) (R0 : LTS) (tp0 : Option (Nat → Int32)) (p1 : Int32) : Option (Int32 × TS × (Option (Nat → Int32))) :=
  if (f_X7_in ((p1).toInt64) (-1 : Int64) ((((U0 10 0) - (1 : Int32))).toInt64)) = 0 then
    (f_X7_refuse U0 V0 M0 R0 (-2 : Int32)).bind fun q4 =>
    some (q4.1, q4.2, tp0)
  else
    (f_X7_seekOrder 9 U0 (up V0 32 (fun _ => (-1 : Int32))) M0 R0 tp0 (0 : Int32) (0 : Int32)).bind fun q6 =>
    if q6.2 = none then none else
    if p1 = (-1 : Int32) then
      some ((q6.1 32 0), q6.1, q6.2)
    else
      if p1 < 0 ∨ 7 ≤ (p1).toNatClampNeg then none else
      some (((q6.1 31) (p1).toNatClampNeg), q6.1, q6.2)
def L_X7_over_2 (N0 : Nat) (X0 : TS) (N1 : Nat) : Nat → Int32 → TS → Option TS
  | 0, _, _ => none
  | n + 1, v2_1, XL2 =>
    if (Int32.ofNat N0) ≤ v2_1 then
      some XL2
    else
      if v2_1 < 0 ∨ N0 ≤ (v2_1).toNatClampNeg then none else
      if v2_1 < 0 ∨ N1 ≤ (v2_1).toNatClampNeg then none else
      L_X7_over_2 N0 X0 N1 n (v2_1 + (1 : Int32)) (up XL2 0 (upd (XL2 0) (v2_1).toNatClampNeg ((X0 0) (v2_1).toNatClampNeg)))
def f_X7_over (N0 : Nat) (X0 : TS) (N1 : Nat) (X1 : TS) : Option TS :=
  (L_X7_over_2 N0 X0 N1 300 (0 : Int32) X1).bind fun q3 =>
  some q3
def L_X7_pairsNow_14 (U0 : TS) (v2_1 : Int32) : Nat → Int32 → Int32 → Option Int32
  | 0, _, _ => none
  | n + 1, v3_5, v1_6 =>
    if v2_1 ≤ v3_5 then
      some v1_6
    else
      if v2_1 < 0 ∨ 7 ≤ (v2_1).toNatClampNeg then none else
      if (f_X7_has ((U0 16) (v2_1).toNatClampNeg) v3_5) = 0 then
        L_X7_pairsNow_14 U0 v2_1 n (v3_5 + (1 : Int32)) (v1_6 + (0 : Int32))
      else
        if v3_5 < 0 ∨ 7 ≤ (v3_5).toNatClampNeg then none else
        L_X7_pairsNow_14 U0 v2_1 n (v3_5 + (1 : Int32)) (v1_6 + (if (f_X7_has ((U0 16) (v3_5).toNatClampNeg) v2_1) = 0 then (0 : Int32) else (1 : Int32)))
def L_X7_pairsNow_4 (U0 : TS) : Nat → Int32 → Int32 → Option Int32
  | 0, _, _ => none
  | n + 1, v2_1, v1_2 =>
    if (U0 10 0) ≤ v2_1 then
      some v1_2
    else
      (L_X7_pairsNow_14 U0 v2_1 300 (0 : Int32) v1_2).bind fun q7 =>
      L_X7_pairsNow_4 U0 n (v2_1 + (1 : Int32)) q7
def f_X7_pairsNow (U0 : TS) : Option Int32 :=
  (L_X7_pairsNow_4 U0 300 (0 : Int32) (0 : Int32)).bind fun q3 =>
  some q3
def f_X7_pairs (U0 : TS) (V0 : TS) (M0 : LTS) (R0 : LTS) : Option Int32 :=
  (f_X7_pairsNow U0).bind fun q2 =>
  some q2
def f_X7_parts (U0 : TS) (V0 : TS) (M0 : LTS) (R0 : LTS) (p1 : Int32) (p2 : Int32) (p3 : Int32) : Option (Int32 × TS) :=
  if (f_X7_in ((p1).toInt64) (0 : Int64) (7 : Int64)) = 0 then
    (f_X7_refuse U0 V0 M0 R0 (-2 : Int32)).bind fun q4 =>
    some (q4.1, q4.2)
  else
    if (f_X7_in ((p2).toInt64) (1 : Int64) (10 : Int64)) = 0 then
      (f_X7_refuse U0 V0 M0 R0 (-2 : Int32)).bind fun q8 =>
      some (q8.1, q8.2)
    else
      if (f_X7_in ((p3).toInt64) (0 : Int64) (((((1 : Int32) <<< ((U0 10 0) &&& 31)) - (1 : Int32))).toInt64)) = 0 then
        (f_X7_refuse U0 V0 M0 R0 (-2 : Int32)).bind fun q12 =>
        some (q12.1, q12.2)
      else
        (f_X7_noSets U0 V0 M0 R0 p1 p2).bind fun q14 =>
        if q14.1 = 0 then
          (f_X7_doesPart U0 q14.2 M0 R0 p1 p2 p3).bind fun q17 =>
          some ((if q17 = 0 then (0 : Int32) else (1 : Int32)), q14.2)
        else
          some (q14.1, q14.2)
def f_X7_person (U0 : TS) (V0 : TS) (M0 : LTS) (R0 : LTS) (p1 : Int32) (p2 : Int32) : Option (Int32 × TS × TS) :=
  if (f_X7_in ((p1).toInt64) (0 : Int64) (5 : Int64)) = 0 then
    (f_X7_refuse U0 V0 M0 R0 (-2 : Int32)).bind fun q4 =>
    some (q4.1, U0, q4.2)
  else
    if (f_X7_in ((p2).toInt64) (0 : Int64) (9 : Int64)) = 0 then
      (f_X7_refuse U0 V0 M0 R0 (-2 : Int32)).bind fun q8 =>
      some (q8.1, U0, q8.2)
    else
      if (U0 10 0) = (7 : Int32) then
        (f_X7_refuse U0 V0 M0 R0 (-6 : Int32)).bind fun q11 =>
        some (q11.1, U0, q11.2)
      else
        (f_X7_addOne U0 p1 p2).bind fun q13 =>
        some (((q13 10 0) - (1 : Int32)), q13, V0)
def f_X7_personOf (U0 : TS) (V0 : TS) (M0 : LTS) (R0 : LTS) (p1 : Int32) (p2 : Int32) : Option (Int32 × TS) :=
  if (f_X7_isOne U0 p1) = 0 then
    (f_X7_refuse U0 V0 M0 R0 (-2 : Int32)).bind fun q4 =>
    some (q4.1, q4.2)
  else
    if (f_X7_in ((p2).toInt64) (0 : Int64) (7 : Int64)) = 0 then
      (f_X7_refuse U0 V0 M0 R0 (-2 : Int32)).bind fun q8 =>
      some (q8.1, q8.2)
    else
      if p2 = (0 : Int32) then
        if p1 < 0 ∨ 7 ≤ (p1).toNatClampNeg then none else
        some (((U0 11) (p1).toNatClampNeg), V0)
      else
      if p2 = (1 : Int32) then
        if p1 < 0 ∨ 7 ≤ (p1).toNatClampNeg then none else
        some (((U0 12) (p1).toNatClampNeg), V0)
      else
      if p2 = (2 : Int32) then
        if p1 < 0 ∨ 7 ≤ (p1).toNatClampNeg then none else
        some (((U0 13) (p1).toNatClampNeg), V0)
      else
      if p2 = (3 : Int32) then
        if p1 < 0 ∨ 7 ≤ (p1).toNatClampNeg then none else
        some (((U0 14) (p1).toNatClampNeg), V0)
      else
      if p2 = (4 : Int32) then
        if p1 < 0 ∨ 7 ≤ (p1).toNatClampNeg then none else
        some (((U0 15) (p1).toNatClampNeg), V0)
      else
      if p2 = (5 : Int32) then
        if p1 < 0 ∨ 7 ≤ (p1).toNatClampNeg then none else
        some (((U0 16) (p1).toNatClampNeg), V0)
      else
      if p2 = (6 : Int32) then
        (f_X7_knows U0 p1).bind fun q17 =>
        some (q17, V0)
      else
      (f_X7_barredBy U0 p1).bind fun q19 =>
      some (q19, V0)
def f_X7_round (U0 : TS) (V0 : TS) (M0 : LTS) (R0 : LTS) : Option (Int32 × TS) :=
  (f_X7_goesRound U0).bind fun q2 =>
  (f_X7_knownNow q2.2).bind fun q4 =>
  some (q4, q2.2)
def L_X7_rounds_7 : Nat → Int32 → TS → Option (Int32 × TS)
  | 0, _, _ => none
  | n + 1, v2_4, UL5 =>
    if (20 : Int32) ≤ v2_4 then
      some (v2_4, UL5)
    else
      (f_X7_goesRound UL5).bind fun q9 =>
      if q9.1 = 0 then
        some (v2_4, q9.2)
      else
        L_X7_rounds_7 n (v2_4 + (1 : Int32)) q9.2
def f_X7_rounds (U0 : TS) (V0 : TS) (M0 : LTS) (R0 : LTS) (tp0 : Option (Nat → Int32)) : Option (Int32 × (Option (Nat → Int32))) :=
  (L_X7_rounds_7 300 (0 : Int32) (fr0 U0 tp0)).bind fun q6 =>
  some (q6.1, (some (q6.2 29)))
def L_X7_row_67 (p1 : Int32) : Nat → Int32 → LTS → Option LTS
  | 0, _, _ => none
  | n + 1, v4_14, RL15 =>
    if (40 : Int32) ≤ v4_14 then
      some RL15
    else
      if v4_14 < 0 ∨ 40 ≤ (v4_14).toNatClampNeg then none else
      L_X7_row_67 p1 n (v4_14 + (1 : Int32)) (upL RL15 (p1).toNatClampNeg (vp_updL (RL15 (p1).toNatClampNeg) (v4_14).toNatClampNeg (0 : Int64)))
def f_X7_row (U0 : TS) (V0 : TS) (M0 : LTS) (R0 : LTS) (p1 : Int32) (p2 : Int32) (p3 : Int32) : Option (Int32 × TS × LTS) :=
  if (f_X7_in ((p1).toInt64) (0 : Int64) (7 : Int64)) = 0 then
    (f_X7_refuse U0 V0 M0 R0 (-2 : Int32)).bind fun q4 =>
    some (q4.1, q4.2, R0)
  else
    if (f_X7_in ((p2).toInt64) (0 : Int64) (4 : Int64)) = 0 then
      (f_X7_refuse U0 V0 M0 R0 (-2 : Int32)).bind fun q8 =>
      some (q8.1, q8.2, R0)
    else
      if (f_X7_in ((p3).toInt64) (0 : Int64) (40 : Int64)) = 0 then
        (f_X7_refuse U0 V0 M0 R0 (-2 : Int32)).bind fun q12 =>
        some (q12.1, q12.2, R0)
      else
        if p1 < 0 ∨ 8 ≤ (p1).toNatClampNeg then none else
        (L_X7_row_67 p1 300 (0 : Int32) R0).bind fun q16 =>
        some ((1 : Int32), (up (up (up V0 0 (upd (V0 0) (p1).toNatClampNeg (1 : Int32))) 1 (upd (V0 1) (p1).toNatClampNeg p2)) 2 (upd (V0 2) (p1).toNatClampNeg p3)), q16)
def f_X7_say (U0 : TS) (V0 : TS) (M0 : LTS) (R0 : LTS) (p1 : Int32) (p2 : Int32) : Option (Int32 × TS × TS) :=
  if (f_X7_isOne U0 p1) = 0 then
    (f_X7_refuse U0 V0 M0 R0 (-2 : Int32)).bind fun q4 =>
    some (q4.1, U0, q4.2)
  else
    if (f_X7_isSight U0 p2) = 0 then
      (f_X7_refuse U0 V0 M0 R0 (-2 : Int32)).bind fun q8 =>
      some (q8.1, U0, q8.2)
    else
      (f_X7_mayOf U0 p1).bind fun q10 =>
      if (f_X7_has q10 p2) = 0 then
        (f_X7_refuse U0 V0 M0 R0 (-5 : Int32)).bind fun q14 =>
        some (q14.1, U0, q14.2)
      else
        (f_X7_isSaid U0 p1 ((1 : Int32) <<< (p2 &&& 31))).bind fun q16 =>
        some (q16.1, q16.2, V0)
def f_X7_says (U0 : TS) (V0 : TS) (M0 : LTS) (R0 : LTS) (p1 : Int32) (p2 : Int32) : Option (Int32 × TS) :=
  if (f_X7_in ((p1).toInt64) (0 : Int64) (7 : Int64)) = 0 then
    (f_X7_refuse U0 V0 M0 R0 (-2 : Int32)).bind fun q4 =>
    some (q4.1, q4.2)
  else
    if (f_X7_in ((p2).toInt64) (0 : Int64) (5 : Int64)) = 0 then
      (f_X7_refuse U0 V0 M0 R0 (-2 : Int32)).bind fun q8 =>
      some (q8.1, q8.2)
    else
      if p1 < 0 ∨ 8 ≤ (p1).toNatClampNeg then none else
      if ((V0 0) (p1).toNatClampNeg) = (1 : Int32) then
        (f_X7_refuse U0 V0 M0 R0 (-3 : Int32)).bind fun q12 =>
        some (q12.1, q12.2)
      else
        if ((V0 0) (p1).toNatClampNeg) = (2 : Int32) then
          if ((V0 5) (p1).toNatClampNeg) < 0 ∨ 7 ≤ (((V0 5) (p1).toNatClampNeg)).toNatClampNeg then none else
          if (f_X7_isUnder ((U0 11) (((V0 5) (p1).toNatClampNeg)).toNatClampNeg) p2) = 0 then
            (f_X7_refuse U0 V0 M0 R0 (-3 : Int32)).bind fun q18 =>
            some (q18.1, q18.2)
          else
            if ((V0 0) (p1).toNatClampNeg) = 0 then
              (f_X7_refuse U0 V0 M0 R0 (-4 : Int32)).bind fun q21 =>
              some (q21.1, q21.2)
            else
              if p2 = (0 : Int32) then
                (f_X7_mayOf U0 ((V0 5) (p1).toNatClampNeg)).bind fun q24 =>
                some (q24, V0)
              else
              if p2 = (1 : Int32) then
                (f_X7_bits ((U0 16) (((V0 5) (p1).toNatClampNeg)).toNatClampNeg)).bind fun q26 =>
                some (q26, V0)
              else
              if p2 = (2 : Int32) then
                (f_X7_barredBy U0 ((V0 5) (p1).toNatClampNeg)).bind fun q29 =>
                (f_X7_bits ((f_X7_allSights U0) &&& (q29 ^^^ (-1 : Int32)))).bind fun q31 =>
                some (q31, V0)
              else
              if p2 = (3 : Int32) then
                (f_X7_barredBy U0 ((V0 5) (p1).toNatClampNeg)).bind fun q33 =>
                (f_X7_firstOf q33).bind fun q35 =>
                some (q35, V0)
              else
              if p2 = (4 : Int32) then
                (f_X7_bits ((U0 15) (((V0 5) (p1).toNatClampNeg)).toNatClampNeg)).bind fun q37 =>
                some (q37, V0)
              else
              (f_X7_firstOf ((U0 13) (((V0 5) (p1).toNatClampNeg)).toNatClampNeg)).bind fun q39 =>
              some (q39, V0)
        else
          if ((V0 0) (p1).toNatClampNeg) = 0 then
            (f_X7_refuse U0 V0 M0 R0 (-4 : Int32)).bind fun q42 =>
            some (q42.1, q42.2)
          else
            if p2 = (0 : Int32) then
              (f_X7_mayOf U0 ((V0 5) (p1).toNatClampNeg)).bind fun q45 =>
              some (q45, V0)
            else
            if p2 = (1 : Int32) then
              if ((V0 5) (p1).toNatClampNeg) < 0 ∨ 7 ≤ (((V0 5) (p1).toNatClampNeg)).toNatClampNeg then none else
              (f_X7_bits ((U0 16) (((V0 5) (p1).toNatClampNeg)).toNatClampNeg)).bind fun q48 =>
              some (q48, V0)
            else
            if p2 = (2 : Int32) then
              (f_X7_barredBy U0 ((V0 5) (p1).toNatClampNeg)).bind fun q51 =>
              (f_X7_bits ((f_X7_allSights U0) &&& (q51 ^^^ (-1 : Int32)))).bind fun q53 =>
              some (q53, V0)
            else
            if p2 = (3 : Int32) then
              (f_X7_barredBy U0 ((V0 5) (p1).toNatClampNeg)).bind fun q55 =>
              (f_X7_firstOf q55).bind fun q57 =>
              some (q57, V0)
            else
            if p2 = (4 : Int32) then
              if ((V0 5) (p1).toNatClampNeg) < 0 ∨ 7 ≤ (((V0 5) (p1).toNatClampNeg)).toNatClampNeg then none else
              (f_X7_bits ((U0 15) (((V0 5) (p1).toNatClampNeg)).toNatClampNeg)).bind fun q60 =>
              some (q60, V0)
            else
            if ((V0 5) (p1).toNatClampNeg) < 0 ∨ 7 ≤ (((V0 5) (p1).toNatClampNeg)).toNatClampNeg then none else
            (f_X7_firstOf ((U0 13) (((V0 5) (p1).toNatClampNeg)).toNatClampNeg)).bind fun q63 =>
            some (q63, V0)
def f_X7_see (U0 : TS) (V0 : TS) (M0 : LTS) (R0 : LTS) (p1 : Int32) (p2 : Int32) (p3 : Int32) : Option (Int32 × TS × TS) :=
  if (f_X7_isOne U0 p1) = 0 then
    (f_X7_refuse U0 V0 M0 R0 (-2 : Int32)).bind fun q4 =>
    some (q4.1, U0, q4.2)
  else
    if (f_X7_isSight U0 p2) = 0 then
      (f_X7_refuse U0 V0 M0 R0 (-2 : Int32)).bind fun q8 =>
      some (q8.1, U0, q8.2)
    else
      if (f_X7_in ((p3).toInt64) (0 : Int64) (2 : Int64)) = 0 then
        (f_X7_refuse U0 V0 M0 R0 (-2 : Int32)).bind fun q12 =>
        some (q12.1, U0, q12.2)
      else
        if p1 < 0 ∨ 7 ≤ (p1).toNatClampNeg then none else
        if ((U0 11) (p1).toNatClampNeg) = (4 : Int32) then
          if p3 = 0 then
            (f_X7_sees U0 p1 p2 p3).bind fun q21 =>
            some ((if (f_X7_has ((U0 13) (p1).toNatClampNeg) p2) = 0 then (if (f_X7_has ((U0 14) (p1).toNatClampNeg) p2) = 0 then (0 : Int32) else (1 : Int32)) else (2 : Int32)), q21, V0)
          else
            (f_X7_refuse U0 V0 M0 R0 (-5 : Int32)).bind fun q23 =>
            some (q23.1, U0, q23.2)
        else
          (f_X7_sees U0 p1 p2 p3).bind fun q29 =>
          some ((if (f_X7_has ((U0 13) (p1).toNatClampNeg) p2) = 0 then (if (f_X7_has ((U0 14) (p1).toNatClampNeg) p2) = 0 then (0 : Int32) else (1 : Int32)) else (2 : Int32)), q29, V0)
def f_X7_seed (U0 : TS) (V0 : TS) (M0 : LTS) (R0 : LTS) (p1 : Int32) : Option (Int32 × TS) :=
  some ((U0 19 0), (up U0 19 (fun _ => p1)))
def f_X7_seenTold (U0 : TS) (V0 : TS) (M0 : LTS) (R0 : LTS) (p1 : Int32) : Option (Int32 × TS × TS) :=
  (f_X7_look U0 V0 M0 R0).bind fun q2 =>
  if (q2 23 0) = (2 : Int32) then
    if (U0 10 0) ≤ (q2 25 0) then
      (f_X7_number U0 q2 M0 R0 (0 : Int32) (0 : Int32) ((U0 10 0) - (1 : Int32))).bind fun q6 =>
      if q6.1 = 0 then
        some ((0 : Int32), U0, q6.2)
      else
        (f_X7_number U0 q6.2 M0 R0 (1 : Int32) (0 : Int32) ((U0 9 0) - (1 : Int32))).bind fun q9 =>
        if q9.1 = 0 then
          some ((0 : Int32), U0, q9.2)
        else
          (f_X7_sees U0 ((q9.2 27) ((0 : Int32)).toNatClampNeg) ((q9.2 27) ((1 : Int32)).toNatClampNeg) p1).bind fun q12 =>
          some ((1 : Int32), q12, q9.2)
    else
      if (q2 25 0) < 0 ∨ 7 ≤ ((q2 25 0)).toNatClampNeg then none else
      if ((U0 11) ((q2 25 0)).toNatClampNeg) = (4 : Int32) then
        (f_X7_wrong U0 q2 M0 R0).bind fun q16 =>
        some (q16.1, U0, q16.2)
      else
        (f_X7_number U0 q2 M0 R0 (0 : Int32) (0 : Int32) ((U0 10 0) - (1 : Int32))).bind fun q18 =>
        if q18.1 = 0 then
          some ((0 : Int32), U0, q18.2)
        else
          (f_X7_number U0 q18.2 M0 R0 (1 : Int32) (0 : Int32) ((U0 9 0) - (1 : Int32))).bind fun q21 =>
          if q21.1 = 0 then
            some ((0 : Int32), U0, q21.2)
          else
            (f_X7_sees U0 ((q21.2 27) ((0 : Int32)).toNatClampNeg) ((q21.2 27) ((1 : Int32)).toNatClampNeg) p1).bind fun q24 =>
            some ((1 : Int32), q24, q21.2)
  else
    (f_X7_number U0 q2 M0 R0 (0 : Int32) (0 : Int32) ((U0 10 0) - (1 : Int32))).bind fun q26 =>
    if q26.1 = 0 then
      some ((0 : Int32), U0, q26.2)
    else
      (f_X7_number U0 q26.2 M0 R0 (1 : Int32) (0 : Int32) ((U0 9 0) - (1 : Int32))).bind fun q29 =>
      if q29.1 = 0 then
        some ((0 : Int32), U0, q29.2)
      else
        (f_X7_sees U0 ((q29.2 27) ((0 : Int32)).toNatClampNeg) ((q29.2 27) ((1 : Int32)).toNatClampNeg) p1).bind fun q32 =>
        some ((1 : Int32), q32, q29.2)
theorem bz_X7_seenTold {U0 : TS} {V0 : TS} {M0 : LTS} {R0 : LTS} {p1 : Int32} {q : (Int32 × TS × TS)} (hM : f_X7_seenTold U0 V0 M0 R0 p1 = some q) : q.1 = 0 ∨ q.1 = 1 := by
  rw [f_X7_seenTold] at hM
  obtain ⟨q2, h1, hM⟩ := bd hM
  by_cases c3 : (q2 23 0) = (2 : Int32)
  · replace hM := itp c3 hM
    by_cases c4 : (U0 10 0) ≤ (q2 25 0)
    · replace hM := itp c4 hM
      obtain ⟨q6, h5, hM⟩ := bd hM
      by_cases c7 : q6.1 = 0
      · replace hM := itp c7 hM
        obtain rfl := Option.some.inj hM
        exact (Or.inl rfl)
      · replace hM := itn c7 hM
        obtain ⟨q9, h8, hM⟩ := bd hM
        by_cases c10 : q9.1 = 0
        · replace hM := itp c10 hM
          obtain rfl := Option.some.inj hM
          exact (Or.inl rfl)
        · replace hM := itn c10 hM
          obtain ⟨q12, h11, hM⟩ := bd hM
          obtain rfl := Option.some.inj hM
          exact (Or.inr rfl)
    · replace hM := itn c4 hM
      obtain ⟨k13, hM⟩ := ck hM
      by_cases c14 : ((U0 11) ((q2 25 0)).toNatClampNeg) = (4 : Int32)
      · replace hM := itp c14 hM
        obtain ⟨q16, h15, hM⟩ := bd hM
        obtain rfl := Option.some.inj hM
        exact (bz_X7_wrong h15)
      · replace hM := itn c14 hM
        obtain ⟨q18, h17, hM⟩ := bd hM
        by_cases c19 : q18.1 = 0
        · replace hM := itp c19 hM
          obtain rfl := Option.some.inj hM
          exact (Or.inl rfl)
        · replace hM := itn c19 hM
          obtain ⟨q21, h20, hM⟩ := bd hM
          by_cases c22 : q21.1 = 0
          · replace hM := itp c22 hM
            obtain rfl := Option.some.inj hM
            exact (Or.inl rfl)
          · replace hM := itn c22 hM
            obtain ⟨q24, h23, hM⟩ := bd hM
            obtain rfl := Option.some.inj hM
            exact (Or.inr rfl)
  · replace hM := itn c3 hM
    obtain ⟨q26, h25, hM⟩ := bd hM
    by_cases c27 : q26.1 = 0
    · replace hM := itp c27 hM
      obtain rfl := Option.some.inj hM
      exact (Or.inl rfl)
    · replace hM := itn c27 hM
      obtain ⟨q29, h28, hM⟩ := bd hM
      by_cases c30 : q29.1 = 0
      · replace hM := itp c30 hM
        obtain rfl := Option.some.inj hM
        exact (Or.inl rfl)
      · replace hM := itn c30 hM
        obtain ⟨q32, h31, hM⟩ := bd hM
        obtain rfl := Option.some.inj hM
        exact (Or.inr rfl)
def f_X7_set (U0 : TS) (V0 : TS) (M0 : LTS) (R0 : LTS) (p1 : Int32) (p2 : Int32) (p3 : Int64) : Option (Int32 × TS × LTS) :=
  (f_X7_noRow U0 V0 M0 R0 p1).bind fun q2 =>
  if q2.1 = 0 then
    if p1 < 0 ∨ 8 ≤ (p1).toNatClampNeg then none else
    if (f_X7_in ((p2).toInt64) (0 : Int64) (((((q2.2 2) (p1).toNatClampNeg) - (1 : Int32))).toInt64)) = 0 then
      (f_X7_refuse U0 q2.2 M0 R0 (-2 : Int32)).bind fun q8 =>
      some (q8.1, q8.2, R0)
    else
      if p2 < 0 ∨ 40 ≤ (p2).toNatClampNeg then none else
      some ((1 : Int32), q2.2, (upL R0 (p1).toNatClampNeg (vp_updL (R0 (p1).toNatClampNeg) (p2).toNatClampNeg (f_X7_fit ((q2.2 1) (p1).toNatClampNeg) p3))))
  else
    some (q2.1, q2.2, R0)
def f_X7_show (U0 : TS) (V0 : TS) (M0 : LTS) (R0 : LTS) (p1 : Int32) (p2 : Int32) : Option (Int32 × TS) :=
  if (f_X7_in ((p1).toInt64) (0 : Int64) (7 : Int64)) = 0 then
    (f_X7_refuse U0 V0 M0 R0 (-2 : Int32)).bind fun q4 =>
    some (q4.1, q4.2)
  else
    if p2 = (-1 : Int32) then
      if p1 < 0 ∨ 8 ≤ (p1).toNatClampNeg then none else
      some ((1 : Int32), (up (up V0 0 (upd (V0 0) (p1).toNatClampNeg (if p2 = (-1 : Int32) then (0 : Int32) else (2 : Int32)))) 5 (upd (V0 5) (p1).toNatClampNeg p2)))
    else
      if (f_X7_isOne U0 p2) = 0 then
        (f_X7_refuse U0 V0 M0 R0 (-2 : Int32)).bind fun q11 =>
        some (q11.1, q11.2)
      else
        if p1 < 0 ∨ 8 ≤ (p1).toNatClampNeg then none else
        some ((1 : Int32), (up (up V0 0 (upd (V0 0) (p1).toNatClampNeg (if p2 = (-1 : Int32) then (0 : Int32) else (2 : Int32)))) 5 (upd (V0 5) (p1).toNatClampNeg p2)))
def f_X7_sights (U0 : TS) (V0 : TS) (M0 : LTS) (R0 : LTS) (p1 : Int32) : Option (Int32 × TS × TS) :=
  if (f_X7_in ((p1).toInt64) (((U0 9 0)).toInt64) (8 : Int64)) = 0 then
    (f_X7_refuse U0 V0 M0 R0 (-2 : Int32)).bind fun q4 =>
    some (q4.1, U0, q4.2)
  else
    some ((U0 9 0), (up U0 9 (fun _ => p1)), V0)
def f_X7_sign (U0 : TS) (V0 : TS) (M0 : LTS) (R0 : LTS) (p1 : Int32) (p2 : Int32) (p3 : Int32) : Option (Int32 × TS × TS) :=
  if (f_X7_isOne U0 p1) = 0 then
    (f_X7_refuse U0 V0 M0 R0 (-2 : Int32)).bind fun q4 =>
    some (q4.1, U0, q4.2)
  else
    if (f_X7_isOne U0 p2) = 0 then
      (f_X7_refuse U0 V0 M0 R0 (-2 : Int32)).bind fun q8 =>
      some (q8.1, U0, q8.2)
    else
      if (f_X7_isSight U0 p3) = 0 then
        (f_X7_refuse U0 V0 M0 R0 (-2 : Int32)).bind fun q12 =>
        some (q12.1, U0, q12.2)
      else
        if p1 < 0 ∨ 7 ≤ (p1).toNatClampNeg then none else
        if (f_X7_has ((U0 13) (p1).toNatClampNeg) p3) = 0 then
          (f_X7_refuse U0 V0 M0 R0 (-5 : Int32)).bind fun q17 =>
          some (q17.1, U0, q17.2)
        else
          if p2 < 0 ∨ 7 ≤ (p2).toNatClampNeg then none else
          if (f_X7_has ((U0 16) (p2).toNatClampNeg) p1) = 0 then
            (f_X7_refuse U0 V0 M0 R0 (-5 : Int32)).bind fun q22 =>
            some (q22.1, U0, q22.2)
          else
            some (((1 : Int32) - (if (f_X7_has ((U0 15) (p2).toNatClampNeg) p3) = 0 then (0 : Int32) else (1 : Int32))), (up U0 15 (upd (U0 15) (p2).toNatClampNeg (((U0 15) (p2).toNatClampNeg) ||| ((1 : Int32) <<< (p3 &&& 31))))), V0)
def f_X7_spread (U0 : TS) (V0 : TS) (M0 : LTS) (R0 : LTS) (tp0 : Option (Nat → Int32)) (p1 : Int32) (p2 : Int32) : Option (Int32 × TS × (Option (Nat → Int32))) :=
  if (f_X7_isRounds p1) = 0 then
    (f_X7_refuse U0 V0 M0 R0 (-2 : Int32)).bind fun q4 =>
    some (q4.1, q4.2, tp0)
  else
    if (f_X7_isOne U0 p2) = 0 then
      (f_X7_refuse U0 V0 M0 R0 (-2 : Int32)).bind fun q8 =>
      some (q8.1, q8.2, tp0)
    else
      (f_X7_after U0 V0 M0 R0 tp0 p1).bind fun q12 =>
      if p2 < 0 ∨ 7 ≤ (p2).toNatClampNeg then none else
      some (((q12 15) (p2).toNatClampNeg), V0, (some (q12 29)))
def L_X7_status_96 (V0 : TS) : Nat → Int32 → Int32 → Option Int32
  | 0, _, _ => none
  | n + 1, v3_5, v2_6 =>
    if (8 : Int32) ≤ v3_5 then
      some v2_6
    else
      if v3_5 < 0 ∨ 8 ≤ (v3_5).toNatClampNeg then none else
      L_X7_status_96 V0 n (v3_5 + (1 : Int32)) (v2_6 + (if ((V0 0) (v3_5).toNatClampNeg) = 0 then (0 : Int32) else (1 : Int32)))
def f_X7_status (U0 : TS) (V0 : TS) (M0 : LTS) (R0 : LTS) (p1 : Int32) : Option Int32 :=
  if p1 = (0 : Int32) then
    some (U0 9 0)
  else
  if p1 = (1 : Int32) then
    some (U0 10 0)
  else
  if p1 = (2 : Int32) then
    if (p1 - (2 : Int32)) < 0 ∨ 3 ≤ ((p1 - (2 : Int32))).toNatClampNeg then none else
    some ((U0 17) ((p1 - (2 : Int32))).toNatClampNeg)
  else
  if p1 = (3 : Int32) then
    if (p1 - (2 : Int32)) < 0 ∨ 3 ≤ ((p1 - (2 : Int32))).toNatClampNeg then none else
    some ((U0 17) ((p1 - (2 : Int32))).toNatClampNeg)
  else
  if p1 = (4 : Int32) then
    if (p1 - (2 : Int32)) < 0 ∨ 3 ≤ ((p1 - (2 : Int32))).toNatClampNeg then none else
    some ((U0 17) ((p1 - (2 : Int32))).toNatClampNeg)
  else
  if p1 = (5 : Int32) then
    some (U0 18 0)
  else
  if p1 = (6 : Int32) then
    some (V0 7 0)
  else
  if p1 = (7 : Int32) then
    some (U0 19 0)
  else
  if p1 = (8 : Int32) then
    (L_X7_status_96 V0 300 (0 : Int32) (0 : Int32)).bind fun q7 =>
    some q7
  else
  if p1 = (9 : Int32) then
    (f_X7_knownNow U0).bind fun q12 =>
    some q12
  else
  if p1 = (10 : Int32) then
    (f_X7_pairsNow U0).bind fun q14 =>
    some q14
  else
  if (f_X7_in ((p1).toInt64) (12 : Int64) (16 : Int64)) = 0 then
    some (-1 : Int32)
  else
    if (p1 - (10 : Int32)) < 0 ∨ 8 ≤ ((p1 - (10 : Int32))).toNatClampNeg then none else
    some ((V0 8) ((p1 - (10 : Int32))).toNatClampNeg)
def L_X7_stop_27 (U0 : TS) (V0 : TS) (M0 : LTS) (R0 : LTS) (p1 : Int32) (p2 : Int32) : Nat → Int32 → Int32 → Option (Nat → Int32) → Option (Int32 × Option (Nat → Int32))
  | 0, _, _, _ => none
  | n + 1, v4_9, v3_10, tpL12 =>
    if ((1 : Int32) <<< ((U0 10 0) &&& 31)) ≤ v4_9 then
      some (v3_10, tpL12)
    else
      if v3_10 = (-1 : Int32) then
        (f_X7_isStopped U0 V0 M0 R0 tpL12 v4_9 p1 p2).bind fun q19 =>
        if q19.2 = none then none else
        L_X7_stop_27 U0 V0 M0 R0 p1 p2 n (v4_9 + (1 : Int32)) (if q19.1 = 0 then v3_10 else v4_9) q19.2
      else
        (f_X7_bits v4_9).bind fun q26 =>
        (f_X7_bits v3_10).bind fun q28 =>
        if q28 ≤ q26 then
          L_X7_stop_27 U0 V0 M0 R0 p1 p2 n (v4_9 + (1 : Int32)) v3_10 tpL12
        else
          (f_X7_isStopped U0 V0 M0 R0 tpL12 v4_9 p1 p2).bind fun q31 =>
          if q31.2 = none then none else
          L_X7_stop_27 U0 V0 M0 R0 p1 p2 n (v4_9 + (1 : Int32)) (if q31.1 = 0 then v3_10 else v4_9) q31.2
def f_X7_stop (U0 : TS) (V0 : TS) (M0 : LTS) (R0 : LTS) (tp0 : Option (Nat → Int32)) (p1 : Int32) (p2 : Int32) : Option (Int32 × TS × (Option (Nat → Int32))) :=
  if (f_X7_isSight U0 p1) = 0 then
    (f_X7_refuse U0 V0 M0 R0 (-2 : Int32)).bind fun q4 =>
    some (q4.1, q4.2, tp0)
  else
    if (f_X7_isRounds p2) = 0 then
      (f_X7_refuse U0 V0 M0 R0 (-2 : Int32)).bind fun q8 =>
      some (q8.1, q8.2, tp0)
    else
      (L_X7_stop_27 U0 V0 M0 R0 p1 p2 300 (0 : Int32) (-1 : Int32) tp0).bind fun q15 =>
      some (q15.1, V0, q15.2)
def f_X7_surely (U0 : TS) (V0 : TS) (M0 : LTS) (R0 : LTS) (p1 : Int32) (p2 : Int32) (p3 : Int32) : Option (Int32 × TS) :=
  if (f_X7_isSight U0 p3) = 0 then
    (f_X7_refuse U0 V0 M0 R0 (-2 : Int32)).bind fun q4 =>
    some (q4.1, q4.2)
  else
    (f_X7_noSayings U0 V0 M0 R0 p1 p2).bind fun q6 =>
    if q6.1 = 0 then
      (f_X7_silent U0 q6.2 M0 R0 p1 p2 p3).bind fun q9 =>
      (f_X7_barredOf U0 p3).bind fun q11 =>
      some ((q9 &&& q11), q6.2)
    else
      some (q6.1, q6.2)
def f_X7_takeFrom (U0 : TS) (U1 : TS) : Option TS :=
  (f_X7_over 7 (fun _ => (U1 11)) 7 (fun _ => (U0 11))).bind fun q2 =>
  (f_X7_over 7 (fun _ => (U1 12)) 7 (fun _ => (U0 12))).bind fun q4 =>
  (f_X7_over 7 (fun _ => (U1 13)) 7 (fun _ => (U0 13))).bind fun q6 =>
  (f_X7_over 7 (fun _ => (U1 14)) 7 (fun _ => (U0 14))).bind fun q8 =>
  (f_X7_over 7 (fun _ => (U1 15)) 7 (fun _ => (U0 15))).bind fun q10 =>
  (f_X7_over 7 (fun _ => (U1 16)) 7 (fun _ => (U0 16))).bind fun q12 =>
  (f_X7_over 3 (fun _ => (U1 17)) 3 (fun _ => (U0 17))).bind fun q14 =>
  some (up (up (up (up (up (up (up (up (up (up (up U0 9 (fun _ => (U1 9 0))) 10 (fun _ => (U1 10 0))) 11 (q2 0)) 12 (q4 0)) 13 (q6 0)) 14 (q8 0)) 15 (q10 0)) 16 (q12 0)) 17 (q14 0)) 18 (fun _ => (U1 18 0))) 19 (fun _ => (U1 19 0)))
def L_X7_talk_37 (p1 : Int32) : Nat → Int32 → Int32 → TS → Option (Int32 × TS)
  | 0, _, _, _ => none
  | n + 1, v3_8, v2_9, UL10 =>
    if p1 ≤ v3_8 then
      some (v2_9, UL10)
    else
      (f_X7_below UL10 (UL10 10 0)).bind fun q14 =>
      (f_X7_below q14.2 (q14.2 9 0)).bind fun q16 =>
      (f_X7_mayOf q16.2 q14.1).bind fun q18 =>
      if (f_X7_has q18 q16.1) = 0 then
        L_X7_talk_37 p1 n (v3_8 + (1 : Int32)) v2_9 q16.2
      else
        (f_X7_isSaid q16.2 q14.1 ((1 : Int32) <<< (q16.1 &&& 31))).bind fun q22 =>
        L_X7_talk_37 p1 n (v3_8 + (1 : Int32)) (v2_9 + (1 : Int32)) q22.2
def f_X7_talk (U0 : TS) (V0 : TS) (M0 : LTS) (R0 : LTS) (p1 : Int32) : Option (Int32 × TS × TS) :=
  if (f_X7_in ((p1).toInt64) (1 : Int64) (40 : Int64)) = 0 then
    (f_X7_refuse U0 V0 M0 R0 (-2 : Int32)).bind fun q4 =>
    some (q4.1, U0, q4.2)
  else
    if (U0 10 0) = 0 then
      (f_X7_refuse U0 V0 M0 R0 (-5 : Int32)).bind fun q7 =>
      some (q7.1, U0, q7.2)
    else
      (L_X7_talk_37 p1 300 (0 : Int32) (0 : Int32) U0).bind fun q11 =>
      some (q11.1, q11.2, V0)
def L_X7_when_31 (V0 : TS) (p1 : Int32) (p2 : Int32) : Nat → Int32 → TS → Option ((Int32 × TS × (Option (Nat → Int32))) ⊕ TS)
  | 0, _, _ => none
  | n + 1, v4_12, UL13 =>
    if (20 : Int32) < v4_12 then
      some (.inr UL13)
    else
      (f_X7_knows UL13 p1).bind fun q17 =>
      if (f_X7_has q17 p2) = 0 then
        (f_X7_goesRound UL13).bind fun q21 =>
        L_X7_when_31 V0 p1 p2 n (v4_12 + (1 : Int32)) q21.2
      else
        some (.inl (v4_12, V0, (some (UL13 29))))
def f_X7_when (U0 : TS) (V0 : TS) (M0 : LTS) (R0 : LTS) (tp0 : Option (Nat → Int32)) (p1 : Int32) (p2 : Int32) : Option (Int32 × TS × (Option (Nat → Int32))) :=
  if (f_X7_isOne U0 p1) = 0 then
    (f_X7_refuse U0 V0 M0 R0 (-2 : Int32)).bind fun q4 =>
    some (q4.1, q4.2, tp0)
  else
    if (f_X7_isSight U0 p2) = 0 then
      (f_X7_refuse U0 V0 M0 R0 (-2 : Int32)).bind fun q8 =>
      some (q8.1, q8.2, tp0)
    else
      (L_X7_when_31 V0 p1 p2 300 (0 : Int32) (fr0 U0 tp0)).bind (eo fun q14x =>
      some ((-1 : Int32), V0, (some (q14x 29))))
def L_X7_whom_27 (U0 : TS) (M0 : LTS) (R0 : LTS) (p1 : Int32) (p2 : Int32) (q2 : (Int32 × TS)) : Nat → Int32 → Int32 → Option Int32
  | 0, _, _ => none
  | n + 1, v5_4, v4_5 =>
    if v5_4 < 0 then
      some v4_5
    else
      (f_X7_bits v5_4).bind fun q9 =>
      (f_X7_bits v4_5).bind fun q11 =>
      if q11 < q9 then
        L_X7_whom_27 U0 M0 R0 p1 p2 q2 n (v5_4 + (-1 : Int32)) v4_5
      else
        (f_X7_doesPart U0 q2.2 M0 R0 p1 p2 v5_4).bind fun q14 =>
        L_X7_whom_27 U0 M0 R0 p1 p2 q2 n (v5_4 + (-1 : Int32)) (if q14 = 0 then v4_5 else v5_4)
def f_X7_whom (U0 : TS) (V0 : TS) (M0 : LTS) (R0 : LTS) (p1 : Int32) (p2 : Int32) : Option (Int32 × TS) :=
  (f_X7_noSets U0 V0 M0 R0 p1 p2).bind fun q2 =>
  if q2.1 = 0 then
    (L_X7_whom_27 U0 M0 R0 p1 p2 q2 300 (((1 : Int32) <<< ((U0 10 0) &&& 31)) - (1 : Int32)) (((1 : Int32) <<< ((U0 10 0) &&& 31)) - (1 : Int32))).bind fun q6 =>
    some (q6, q2.2)
  else
    some (q2.1, q2.2)
def f_X7_wipe (U0 : TS) (V0 : TS) (M0 : LTS) (R0 : LTS) : Option (Int32 × TS) :=
  some ((V0 7 0), (up V0 7 (fun _ => (0 : Int32))))
def L_X7_worth_49 (U0 : TS) (p1 : Int32) : Nat → Int32 → TS → Option TS
  | 0, _, _ => none
  | n + 1, v5_19, UL20 =>
    if (U0 10 0) ≤ v5_19 then
      some UL20
    else
      if v5_19 < 0 ∨ 7 ≤ (v5_19).toNatClampNeg then none else
      L_X7_worth_49 U0 p1 n (v5_19 + (1 : Int32)) (up UL20 16 (upd (UL20 16) (v5_19).toNatClampNeg (((UL20 16) (v5_19).toNatClampNeg) &&& (((1 : Int32) <<< (p1 &&& 31)) ^^^ (-1 : Int32)))))
def L_X7_worth_83 (p2 : Int32) : Nat → Int32 → TS → Option TS
  | 0, _, _ => none
  | n + 1, v5_24, UL25 =>
    if p2 ≤ v5_24 then
      some UL25
    else
      (f_X7_goesRound UL25).bind fun q29 =>
      L_X7_worth_83 p2 n (v5_24 + (1 : Int32)) q29.2
def f_X7_worth (U0 : TS) (V0 : TS) (M0 : LTS) (R0 : LTS) (tp0 : Option (Nat → Int32)) (p1 : Int32) (p2 : Int32) : Option (Int32 × TS × (Option (Nat → Int32))) :=
  if (f_X7_isOne U0 p1) = 0 then
    (f_X7_refuse U0 V0 M0 R0 (-2 : Int32)).bind fun q4 =>
    some (q4.1, q4.2, tp0)
  else
    if (f_X7_isRounds p2) = 0 then
      (f_X7_refuse U0 V0 M0 R0 (-2 : Int32)).bind fun q8 =>
      some (q8.1, q8.2, tp0)
    else
      (f_X7_after U0 V0 M0 R0 tp0 p2).bind fun q12 =>
      (f_X7_knownTo q12 p1).bind fun q14 =>
      if p1 < 0 ∨ 7 ≤ (p1).toNatClampNeg then none else
      (L_X7_worth_49 U0 p1 300 (0 : Int32) (up (fr0 U0 (some (q12 29))) 16 (upd ((fr0 U0 (some (q12 29))) 16) (p1).toNatClampNeg (0 : Int32)))).bind fun q21 =>
      (L_X7_worth_83 p2 300 (0 : Int32) q21).bind fun q26 =>
      (f_X7_knownTo q26 p1).bind fun q31 =>
      some ((q14 - q31), V0, (some (q26 29)))
