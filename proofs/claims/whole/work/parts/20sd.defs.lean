theorem pm_9_5_3 {α : Type} (b0 b1 b2 b3 b4 b5 b6 b7 b8 : List α) : List.Perm (b0 ++ (b1 ++ (b2 ++ (b3 ++ (b4 ++ (b5 ++ (b6 ++ (b7 ++ b8)))))))) ((b5 ++ b3) ++ (b0 ++ (b1 ++ (b2 ++ (b4 ++ (b6 ++ (b7 ++ b8))))))) := by
  classical
  exact List.perm_iff_count.mpr (fun x => by simp only [List.count_append, List.count_nil] <;> omega)
def L_X4_isWord_28 (P0 : TS) (i1 : Nat) : Nat → Int32 → Option (Int32 ⊕ Unit)
  | 0, _ => none
  | n + 1, v2_3 =>
    if (nI (lenS.getD i1 0)) ≤ v2_3 then
      some (.inr ())
    else
      (f_X4_letterAt P0 ((P0 4 0) + v2_3)).bind fun q7 =>
      if v2_3 < 0 ∨ lenS.getD i1 0 ≤ (v2_3).toNatClampNeg then none else
      if q7 = ((bytS.getD i1 []).getD (v2_3).toNatClampNeg 0 &&& 255) then
        L_X4_isWord_28 P0 i1 n (v2_3 + (1 : Int32))
      else
        some (.inl (0 : Int32))
def f_X4_isWord (P0 : TS) (i1 : Nat) : Option Int32 :=
  if (P0 3 0) = (1 : Int32) then
    if ((P0 5 0) - (P0 4 0)) = (nI (lenS.getD i1 0)) then
      (L_X4_isWord_28 P0 i1 300 (0 : Int32)).bind (eo fun q4x =>
      some (1 : Int32))
    else
      some (0 : Int32)
  else
    some (0 : Int32)
def f_X4_readPerson (P0 : TS) (T1 : TS) : Option (Int32 × TS × TS) :=
  (f_X4_advance P0).bind fun q2 =>
  (f_X4_takeNumber q2 (0 : Int32) (5 : Int32) (0 : Int32)).bind fun q4 =>
  if q4.1 = (-1 : Int32) then
    if (-1 : Int32) = (-1 : Int32) then
      some ((0 : Int32), q4.2, T1)
    else
      (f_X5_join T1 q4.1 (-1 : Int32)).bind fun q8 =>
      (f_X4_isWord q4.2 2).bind fun q10 =>
      if q10 = 0 then
        (f_X4_isWord q4.2 4).bind fun q13 =>
        if q13 = 0 then
          some ((1 : Int32), q4.2, q8.2)
        else
          (f_X4_advance q4.2).bind fun q16 =>
          (f_X4_readSightHeard q16 q8.2 q8.1).bind fun q18 =>
          some (q18.1, q18.2.1, q18.2.2)
      else
        if q4.1 = (4 : Int32) then
          (f_X4_isFault q4.2).bind fun q21 =>
          some (q21.1, q21.2, q8.2)
        else
          (f_X4_advance q4.2).bind fun q23 =>
          (f_X4_readSightSeen q23 q8.2 q8.1 (2 : Int32)).bind fun q25 =>
          if q25.1 = 0 then
            some ((0 : Int32), q25.2.1, q25.2.2)
          else
            (f_X4_isWord q25.2.1 4).bind fun q28 =>
            if q28 = 0 then
              some ((1 : Int32), q25.2.1, q25.2.2)
            else
              (f_X4_advance q25.2.1).bind fun q31 =>
              (f_X4_readSightHeard q31 q25.2.2 q8.1).bind fun q33 =>
              some (q33.1, q33.2.1, q33.2.2)
  else
    (f_X4_takeNumber q4.2 (0 : Int32) (9 : Int32) (0 : Int32)).bind fun q35 =>
    if q35.1 = (-1 : Int32) then
      some ((0 : Int32), q35.2, T1)
    else
      (f_X5_join T1 q4.1 q35.1).bind fun q38 =>
      (f_X4_isWord q35.2 2).bind fun q40 =>
      if q40 = 0 then
        (f_X4_isWord q35.2 4).bind fun q43 =>
        if q43 = 0 then
          some ((1 : Int32), q35.2, q38.2)
        else
          (f_X4_advance q35.2).bind fun q46 =>
          (f_X4_readSightHeard q46 q38.2 q38.1).bind fun q48 =>
          some (q48.1, q48.2.1, q48.2.2)
      else
        if q4.1 = (4 : Int32) then
          (f_X4_isFault q35.2).bind fun q51 =>
          some (q51.1, q51.2, q38.2)
        else
          (f_X4_advance q35.2).bind fun q53 =>
          (f_X4_readSightSeen q53 q38.2 q38.1 (2 : Int32)).bind fun q55 =>
          if q55.1 = 0 then
            some ((0 : Int32), q55.2.1, q55.2.2)
          else
            (f_X4_isWord q55.2.1 4).bind fun q58 =>
            if q58 = 0 then
              some ((1 : Int32), q55.2.1, q55.2.2)
            else
              (f_X4_advance q55.2.1).bind fun q61 =>
              (f_X4_readSightHeard q61 q55.2.2 q38.1).bind fun q63 =>
              some (q63.1, q63.2.1, q63.2.2)
theorem bz_X4_readPerson {P0 : TS} {T1 : TS} {q : (Int32 × TS × TS)} (hM : f_X4_readPerson P0 T1 = some q) : q.1 = 0 ∨ q.1 = 1 := by
  rw [f_X4_readPerson] at hM
  obtain ⟨q2, h1, hM⟩ := bd hM
  obtain ⟨q4, h3, hM⟩ := bd hM
  by_cases c5 : q4.1 = (-1 : Int32)
  · replace hM := itp c5 hM
    by_cases c6 : (-1 : Int32) = (-1 : Int32)
    · replace hM := itp c6 hM
      obtain rfl := Option.some.inj hM
      exact (Or.inl rfl)
    · replace hM := itn c6 hM
      obtain ⟨q8, h7, hM⟩ := bd hM
      obtain ⟨q10, h9, hM⟩ := bd hM
      by_cases c11 : q10 = 0
      · replace hM := itp c11 hM
        obtain ⟨q13, h12, hM⟩ := bd hM
        by_cases c14 : q13 = 0
        · replace hM := itp c14 hM
          obtain rfl := Option.some.inj hM
          exact (Or.inr rfl)
        · replace hM := itn c14 hM
          obtain ⟨q16, h15, hM⟩ := bd hM
          obtain ⟨q18, h17, hM⟩ := bd hM
          obtain rfl := Option.some.inj hM
          exact (bz_X4_readSightHeard h17)
      · replace hM := itn c11 hM
        by_cases c19 : q4.1 = (4 : Int32)
        · replace hM := itp c19 hM
          obtain ⟨q21, h20, hM⟩ := bd hM
          obtain rfl := Option.some.inj hM
          exact (bz_X4_isFault h20)
        · replace hM := itn c19 hM
          obtain ⟨q23, h22, hM⟩ := bd hM
          obtain ⟨q25, h24, hM⟩ := bd hM
          by_cases c26 : q25.1 = 0
          · replace hM := itp c26 hM
            obtain rfl := Option.some.inj hM
            exact (Or.inl rfl)
          · replace hM := itn c26 hM
            obtain ⟨q28, h27, hM⟩ := bd hM
            by_cases c29 : q28 = 0
            · replace hM := itp c29 hM
              obtain rfl := Option.some.inj hM
              exact (Or.inr rfl)
            · replace hM := itn c29 hM
              obtain ⟨q31, h30, hM⟩ := bd hM
              obtain ⟨q33, h32, hM⟩ := bd hM
              obtain rfl := Option.some.inj hM
              exact (bz_X4_readSightHeard h32)
  · replace hM := itn c5 hM
    obtain ⟨q35, h34, hM⟩ := bd hM
    by_cases c36 : q35.1 = (-1 : Int32)
    · replace hM := itp c36 hM
      obtain rfl := Option.some.inj hM
      exact (Or.inl rfl)
    · replace hM := itn c36 hM
      obtain ⟨q38, h37, hM⟩ := bd hM
      obtain ⟨q40, h39, hM⟩ := bd hM
      by_cases c41 : q40 = 0
      · replace hM := itp c41 hM
        obtain ⟨q43, h42, hM⟩ := bd hM
        by_cases c44 : q43 = 0
        · replace hM := itp c44 hM
          obtain rfl := Option.some.inj hM
          exact (Or.inr rfl)
        · replace hM := itn c44 hM
          obtain ⟨q46, h45, hM⟩ := bd hM
          obtain ⟨q48, h47, hM⟩ := bd hM
          obtain rfl := Option.some.inj hM
          exact (bz_X4_readSightHeard h47)
      · replace hM := itn c41 hM
        by_cases c49 : q4.1 = (4 : Int32)
        · replace hM := itp c49 hM
          obtain ⟨q51, h50, hM⟩ := bd hM
          obtain rfl := Option.some.inj hM
          exact (bz_X4_isFault h50)
        · replace hM := itn c49 hM
          obtain ⟨q53, h52, hM⟩ := bd hM
          obtain ⟨q55, h54, hM⟩ := bd hM
          by_cases c56 : q55.1 = 0
          · replace hM := itp c56 hM
            obtain rfl := Option.some.inj hM
            exact (Or.inl rfl)
          · replace hM := itn c56 hM
            obtain ⟨q58, h57, hM⟩ := bd hM
            by_cases c59 : q58 = 0
            · replace hM := itp c59 hM
              obtain rfl := Option.some.inj hM
              exact (Or.inr rfl)
            · replace hM := itn c59 hM
              obtain ⟨q61, h60, hM⟩ := bd hM
              obtain ⟨q63, h62, hM⟩ := bd hM
              obtain rfl := Option.some.inj hM
              exact (bz_X4_readSightHeard h62)
def f_X4_readStatement (P0 : TS) (T1 : TS) : Option (Int32 × TS × TS) :=
  (f_X4_isWord P0 0).bind fun q2 =>
  if q2 = 0 then
    (f_X4_isWord P0 1).bind fun q5 =>
    if q5 = 0 then
      (f_X4_isWord P0 2).bind fun q8 =>
      if q8 = 0 then
        (f_X4_isWord P0 3).bind fun q11 =>
        if q11 = 0 then
          (f_X4_isWord P0 4).bind fun q14 =>
          if q14 = 0 then
            (f_X4_isWord P0 5).bind fun q17 =>
            if q17 = 0 then
              (f_X4_isWord P0 6).bind fun q20 =>
              if q20 = 0 then
                (f_X4_isWord P0 7).bind fun q23 =>
                if q23 = 0 then
                  (f_X4_isWord P0 8).bind fun q26 =>
                  if q26 = 0 then
                    (f_X4_isFault P0).bind fun q29 =>
                    some (q29.1, q29.2, T1)
                  else
                    (f_X4_readSetting P0 T1 (2 : Int32)).bind fun q31 =>
                    some (q31.1, q31.2.1, q31.2.2)
                else
                  (f_X4_readSetting P0 T1 (1 : Int32)).bind fun q33 =>
                  some (q33.1, q33.2.1, q33.2.2)
              else
                (f_X4_readSetting P0 T1 (0 : Int32)).bind fun q35 =>
                some (q35.1, q35.2.1, q35.2.2)
            else
              (f_X4_readHears P0 T1).bind fun q37 =>
              some (q37.1, q37.2.1, q37.2.2)
          else
            (f_X4_readHeard P0 T1).bind fun q39 =>
            some (q39.1, q39.2.1, q39.2.2)
        else
          (f_X4_readSeen P0 T1 (1 : Int32)).bind fun q41 =>
          some (q41.1, q41.2.1, q41.2.2)
      else
        (f_X4_readSeen P0 T1 (2 : Int32)).bind fun q43 =>
        some (q43.1, q43.2.1, q43.2.2)
    else
      if (f_X5_isFull T1) = 0 then
        (f_X4_readPerson P0 T1).bind fun q47 =>
        some (q47.1, q47.2.1, q47.2.2)
      else
        (f_X4_isFault P0).bind fun q49 =>
        some (q49.1, q49.2, T1)
  else
    (f_X4_readSights P0 T1).bind fun q51 =>
    some (q51.1, q51.2.1, q51.2.2)
theorem bz_X4_readStatement {P0 : TS} {T1 : TS} {q : (Int32 × TS × TS)} (hM : f_X4_readStatement P0 T1 = some q) : q.1 = 0 ∨ q.1 = 1 := by
  rw [f_X4_readStatement] at hM
  obtain ⟨q2, h1, hM⟩ := bd hM
  by_cases c3 : q2 = 0
  · replace hM := itp c3 hM
    obtain ⟨q5, h4, hM⟩ := bd hM
    by_cases c6 : q5 = 0
    · replace hM := itp c6 hM
      obtain ⟨q8, h7, hM⟩ := bd hM
      by_cases c9 : q8 = 0
      · replace hM := itp c9 hM
        obtain ⟨q11, h10, hM⟩ := bd hM
        by_cases c12 : q11 = 0
        · replace hM := itp c12 hM
          obtain ⟨q14, h13, hM⟩ := bd hM
          by_cases c15 : q14 = 0
          · replace hM := itp c15 hM
            obtain ⟨q17, h16, hM⟩ := bd hM
            by_cases c18 : q17 = 0
            · replace hM := itp c18 hM
              obtain ⟨q20, h19, hM⟩ := bd hM
              by_cases c21 : q20 = 0
              · replace hM := itp c21 hM
                obtain ⟨q23, h22, hM⟩ := bd hM
                by_cases c24 : q23 = 0
                · replace hM := itp c24 hM
                  obtain ⟨q26, h25, hM⟩ := bd hM
                  by_cases c27 : q26 = 0
                  · replace hM := itp c27 hM
                    obtain ⟨q29, h28, hM⟩ := bd hM
                    obtain rfl := Option.some.inj hM
                    exact (bz_X4_isFault h28)
                  · replace hM := itn c27 hM
                    obtain ⟨q31, h30, hM⟩ := bd hM
                    obtain rfl := Option.some.inj hM
                    exact (bz_X4_readSetting h30)
                · replace hM := itn c24 hM
                  obtain ⟨q33, h32, hM⟩ := bd hM
                  obtain rfl := Option.some.inj hM
                  exact (bz_X4_readSetting h32)
              · replace hM := itn c21 hM
                obtain ⟨q35, h34, hM⟩ := bd hM
                obtain rfl := Option.some.inj hM
                exact (bz_X4_readSetting h34)
            · replace hM := itn c18 hM
              obtain ⟨q37, h36, hM⟩ := bd hM
              obtain rfl := Option.some.inj hM
              exact (bz_X4_readHears h36)
          · replace hM := itn c15 hM
            obtain ⟨q39, h38, hM⟩ := bd hM
            obtain rfl := Option.some.inj hM
            exact (bz_X4_readHeard h38)
        · replace hM := itn c12 hM
          obtain ⟨q41, h40, hM⟩ := bd hM
          obtain rfl := Option.some.inj hM
          exact (bz_X4_readSeen h40)
      · replace hM := itn c9 hM
        obtain ⟨q43, h42, hM⟩ := bd hM
        obtain rfl := Option.some.inj hM
        exact (bz_X4_readSeen h42)
    · replace hM := itn c6 hM
      by_cases c45 : (f_X5_isFull T1) = 0
      · replace hM := itp c45 hM
        obtain ⟨q47, h46, hM⟩ := bd hM
        obtain rfl := Option.some.inj hM
        exact (bz_X4_readPerson h46)
      · replace hM := itn c45 hM
        obtain ⟨q49, h48, hM⟩ := bd hM
        obtain rfl := Option.some.inj hM
        exact (bz_X4_isFault h48)
  · replace hM := itn c3 hM
    obtain ⟨q51, h50, hM⟩ := bd hM
    obtain rfl := Option.some.inj hM
    exact (bz_X4_readSights h50)
def L_X4_readInto_11 : Nat → Int32 → TS → TS → Option ((Int32 × TS × TS) ⊕ (TS × TS))
  | 0, _, _, _ => none
  | n + 1, v2_3, PL4, TL5 =>
    if (250 : Int32) < v2_3 then
      some (.inr (PL4, TL5))
    else
      (f_X4_readStatement PL4 TL5).bind fun q9 =>
      if q9.1 = 0 then
        some (.inl ((-1 : Int32), q9.2.1, q9.2.2))
      else
        if (q9.2.1 3 0) = 0 then
          some (.inl (v2_3, q9.2.1, q9.2.2))
        else
          if (q9.2.1 3 0) = (3 : Int32) then
            (f_X4_advance q9.2.1).bind fun q14 =>
            L_X4_readInto_11 n (v2_3 + (1 : Int32)) q14 q9.2.2
          else
            some (.inl ((-1 : Int32), (up q9.2.1 1 (fun _ => (q9.2.1 4 0))), q9.2.2))
def f_X4_readInto (P0 : TS) (T1 : TS) : Option (Int32 × TS × TS) :=
  (f_X4_advance (up P0 5 (fun _ => (0 : Int32)))).bind fun q2 =>
  (L_X4_readInto_11 300 (1 : Int32) q2 T1).bind (eo fun q6x =>
  some ((-1 : Int32), (up q6x.1 1 (fun _ => (q6x.1 4 0))), q6x.2))
def f_X6_town (Z0 : TS) (T1 : TS) (T2 : TS) (T3 : TS) (G4 : TS) (R4 : LTS) (P5 : TS) (O7 : TS) (B7 : TS) : Option (Int32 × TS × TS × TS × TS) :=
  (f_X5_become T3 T1).bind fun q2 =>
  (f_X4_readInto P5 q2).bind fun q4 =>
  if q4.1 = (-1 : Int32) then
    (f_X6_refuse Z0 T1 T2 q4.2.2 G4 R4 (up q4.2.1 0 (fun _ => (0 : Int32))) O7 B7 (-2 : Int32)).bind fun q7 =>
    some (((-20 : Int32) - (q4.2.1 1 0)), q7.2, T1, q4.2.2, (up q4.2.1 0 (fun _ => (0 : Int32))))
  else
    (f_X5_become T1 q4.2.2).bind fun q9 =>
    some (q4.1, Z0, q9, q4.2.2, (up q4.2.1 0 (fun _ => (0 : Int32))))
def L_X7_isWord_28 (V0 : TS) (i1 : Nat) : Nat → Int32 → Option (Int32 ⊕ Unit)
  | 0, _ => none
  | n + 1, v2_3 =>
    if (nI (lenS.getD i1 0)) ≤ v2_3 then
      some (.inr ())
    else
      if ((V0 24 0) + v2_3) < 0 ∨ 250 ≤ (((V0 24 0) + v2_3)).toNatClampNeg then none else
      if v2_3 < 0 ∨ lenS.getD i1 0 ≤ (v2_3).toNatClampNeg then none else
      if ((V0 6) (((V0 24 0) + v2_3)).toNatClampNeg) = ((bytS.getD i1 []).getD (v2_3).toNatClampNeg 0 &&& 255) then
        L_X7_isWord_28 V0 i1 n (v2_3 + (1 : Int32))
      else
        some (.inl (0 : Int32))
def f_X7_isWord (U0 : TS) (V0 : TS) (M0 : LTS) (R0 : LTS) (i1 : Nat) : Option Int32 :=
  if (V0 23 0) = (1 : Int32) then
    if ((V0 22 0) - (V0 24 0)) = (nI (lenS.getD i1 0)) then
      (L_X7_isWord_28 V0 i1 300 (0 : Int32)).bind (eo fun q4x =>
      some (1 : Int32))
    else
      some (0 : Int32)
  else
    some (0 : Int32)
def f_X7_personTold (U0 : TS) (V0 : TS) (M0 : LTS) (R0 : LTS) : Option (Int32 × TS × TS) :=
  (f_X7_tells U0 V0 M0 R0 (0 : Int32) (5 : Int32)).bind fun q2 =>
  if q2.1 = 0 then
    some ((0 : Int32), U0, q2.2)
  else
    (f_X7_number U0 q2.2 M0 R0 (1 : Int32) (0 : Int32) (9 : Int32)).bind fun q5 =>
    if q5.1 = 0 then
      some ((0 : Int32), U0, q5.2)
    else
      (f_X7_addOne U0 ((q5.2 27) ((0 : Int32)).toNatClampNeg) ((q5.2 27) ((1 : Int32)).toNatClampNeg)).bind fun q8 =>
      (f_X7_isWord q8 q5.2 M0 R0 2).bind fun q10 =>
      if q10 = 0 then
        (f_X7_isWord q8 q5.2 M0 R0 4).bind fun q13 =>
        if q13 = 0 then
          some ((1 : Int32), q8, q5.2)
        else
          (f_X7_tells q8 q5.2 M0 R0 (0 : Int32) ((q8 9 0) - (1 : Int32))).bind fun q16 =>
          if q16.1 = 0 then
            some ((0 : Int32), q8, q16.2)
          else
            if ((q8 10 0) - (1 : Int32)) < 0 ∨ 7 ≤ (((q8 10 0) - (1 : Int32))).toNatClampNeg then none else
            some ((1 : Int32), (up q8 15 (upd (q8 15) (((q8 10 0) - (1 : Int32))).toNatClampNeg (((q8 15) (((q8 10 0) - (1 : Int32))).toNatClampNeg) ||| ((1 : Int32) <<< (((q16.2 27) ((0 : Int32)).toNatClampNeg) &&& 31))))), q16.2)
      else
        if ((q8 10 0) - (1 : Int32)) < 0 ∨ 7 ≤ (((q8 10 0) - (1 : Int32))).toNatClampNeg then none else
        if ((q8 11) (((q8 10 0) - (1 : Int32))).toNatClampNeg) = (4 : Int32) then
          (f_X7_isWord q8 q5.2 M0 R0 4).bind fun q22 =>
          if q22 = 0 then
            some ((1 : Int32), q8, q5.2)
          else
            (f_X7_tells q8 q5.2 M0 R0 (0 : Int32) ((q8 9 0) - (1 : Int32))).bind fun q25 =>
            if q25.1 = 0 then
              some ((0 : Int32), q8, q25.2)
            else
              some ((1 : Int32), (up q8 15 (upd (q8 15) (((q8 10 0) - (1 : Int32))).toNatClampNeg (((q8 15) (((q8 10 0) - (1 : Int32))).toNatClampNeg) ||| ((1 : Int32) <<< (((q25.2 27) ((0 : Int32)).toNatClampNeg) &&& 31))))), q25.2)
        else
          (f_X7_tells q8 q5.2 M0 R0 (0 : Int32) ((q8 9 0) - (1 : Int32))).bind fun q28 =>
          if q28.1 = 0 then
            some ((0 : Int32), q8, q28.2)
          else
            (f_X7_sees q8 ((q8 10 0) - (1 : Int32)) ((q28.2 27) ((0 : Int32)).toNatClampNeg) (2 : Int32)).bind fun q31 =>
            (f_X7_isWord q31 q28.2 M0 R0 4).bind fun q33 =>
            if q33 = 0 then
              some ((1 : Int32), q31, q28.2)
            else
              (f_X7_tells q31 q28.2 M0 R0 (0 : Int32) ((q31 9 0) - (1 : Int32))).bind fun q36 =>
              if q36.1 = 0 then
                some ((0 : Int32), q31, q36.2)
              else
                some ((1 : Int32), (up q31 15 (upd (q31 15) (((q8 10 0) - (1 : Int32))).toNatClampNeg (((q31 15) (((q8 10 0) - (1 : Int32))).toNatClampNeg) ||| ((1 : Int32) <<< (((q36.2 27) ((0 : Int32)).toNatClampNeg) &&& 31))))), q36.2)
theorem bz_X7_personTold {U0 : TS} {V0 : TS} {M0 : LTS} {R0 : LTS} {q : (Int32 × TS × TS)} (hM : f_X7_personTold U0 V0 M0 R0 = some q) : q.1 = 0 ∨ q.1 = 1 := by
  rw [f_X7_personTold] at hM
  obtain ⟨q2, h1, hM⟩ := bd hM
  by_cases c3 : q2.1 = 0
  · replace hM := itp c3 hM
    obtain rfl := Option.some.inj hM
    exact (Or.inl rfl)
  · replace hM := itn c3 hM
    obtain ⟨q5, h4, hM⟩ := bd hM
    by_cases c6 : q5.1 = 0
    · replace hM := itp c6 hM
      obtain rfl := Option.some.inj hM
      exact (Or.inl rfl)
    · replace hM := itn c6 hM
      obtain ⟨q8, h7, hM⟩ := bd hM
      obtain ⟨q10, h9, hM⟩ := bd hM
      by_cases c11 : q10 = 0
      · replace hM := itp c11 hM
        obtain ⟨q13, h12, hM⟩ := bd hM
        by_cases c14 : q13 = 0
        · replace hM := itp c14 hM
          obtain rfl := Option.some.inj hM
          exact (Or.inr rfl)
        · replace hM := itn c14 hM
          obtain ⟨q16, h15, hM⟩ := bd hM
          by_cases c17 : q16.1 = 0
          · replace hM := itp c17 hM
            obtain rfl := Option.some.inj hM
            exact (Or.inl rfl)
          · replace hM := itn c17 hM
            obtain ⟨k18, hM⟩ := ck hM
            obtain rfl := Option.some.inj hM
            exact (Or.inr rfl)
      · replace hM := itn c11 hM
        obtain ⟨k19, hM⟩ := ck hM
        by_cases c20 : ((q8 11) (((q8 10 0) - (1 : Int32))).toNatClampNeg) = (4 : Int32)
        · replace hM := itp c20 hM
          obtain ⟨q22, h21, hM⟩ := bd hM
          by_cases c23 : q22 = 0
          · replace hM := itp c23 hM
            obtain rfl := Option.some.inj hM
            exact (Or.inr rfl)
          · replace hM := itn c23 hM
            obtain ⟨q25, h24, hM⟩ := bd hM
            by_cases c26 : q25.1 = 0
            · replace hM := itp c26 hM
              obtain rfl := Option.some.inj hM
              exact (Or.inl rfl)
            · replace hM := itn c26 hM
              obtain rfl := Option.some.inj hM
              exact (Or.inr rfl)
        · replace hM := itn c20 hM
          obtain ⟨q28, h27, hM⟩ := bd hM
          by_cases c29 : q28.1 = 0
          · replace hM := itp c29 hM
            obtain rfl := Option.some.inj hM
            exact (Or.inl rfl)
          · replace hM := itn c29 hM
            obtain ⟨q31, h30, hM⟩ := bd hM
            obtain ⟨q33, h32, hM⟩ := bd hM
            by_cases c34 : q33 = 0
            · replace hM := itp c34 hM
              obtain rfl := Option.some.inj hM
              exact (Or.inr rfl)
            · replace hM := itn c34 hM
              obtain ⟨q36, h35, hM⟩ := bd hM
              by_cases c37 : q36.1 = 0
              · replace hM := itp c37 hM
                obtain rfl := Option.some.inj hM
                exact (Or.inl rfl)
              · replace hM := itn c37 hM
                obtain rfl := Option.some.inj hM
                exact (Or.inr rfl)
def f_X7_statement (U0 : TS) (V0 : TS) (M0 : LTS) (R0 : LTS) : Option (Int32 × TS × TS) :=
  (f_X7_isWord U0 V0 M0 R0 0).bind fun q2 =>
  if q2 = 0 then
    (f_X7_isWord U0 V0 M0 R0 1).bind fun q5 =>
    if q5 = 0 then
      (f_X7_isWord U0 V0 M0 R0 2).bind fun q8 =>
      if q8 = 0 then
        (f_X7_isWord U0 V0 M0 R0 3).bind fun q11 =>
        if q11 = 0 then
          (f_X7_isWord U0 V0 M0 R0 4).bind fun q14 =>
          if q14 = 0 then
            (f_X7_isWord U0 V0 M0 R0 5).bind fun q17 =>
            if q17 = 0 then
              (f_X7_isWord U0 V0 M0 R0 6).bind fun q20 =>
              if q20 = 0 then
                (f_X7_isWord U0 V0 M0 R0 7).bind fun q23 =>
                if q23 = 0 then
                  (f_X7_isWord U0 V0 M0 R0 8).bind fun q26 =>
                  if q26 = 0 then
                    (f_X7_wrong U0 V0 M0 R0).bind fun q29 =>
                    some (q29.1, U0, q29.2)
                  else
                    (f_X7_askedTold U0 V0 M0 R0 (2 : Int32)).bind fun q31 =>
                    some (q31.1, q31.2.1, q31.2.2)
                else
                  (f_X7_askedTold U0 V0 M0 R0 (1 : Int32)).bind fun q33 =>
                  some (q33.1, q33.2.1, q33.2.2)
              else
                (f_X7_askedTold U0 V0 M0 R0 (0 : Int32)).bind fun q35 =>
                some (q35.1, q35.2.1, q35.2.2)
            else
              (f_X7_nearTold U0 V0 M0 R0).bind fun q37 =>
              some (q37.1, q37.2.1, q37.2.2)
          else
            (f_X7_tells U0 V0 M0 R0 (0 : Int32) ((U0 10 0) - (1 : Int32))).bind fun q39 =>
            if q39.1 = 0 then
              some ((0 : Int32), U0, q39.2)
            else
              (f_X7_number U0 q39.2 M0 R0 (1 : Int32) (0 : Int32) ((U0 9 0) - (1 : Int32))).bind fun q42 =>
              if q42.1 = 0 then
                some ((0 : Int32), U0, q42.2)
              else
                if ((q42.2 27) ((0 : Int32)).toNatClampNeg) < 0 ∨ 7 ≤ (((q42.2 27) ((0 : Int32)).toNatClampNeg)).toNatClampNeg then none else
                some ((1 : Int32), (up U0 15 (upd (U0 15) (((q42.2 27) ((0 : Int32)).toNatClampNeg)).toNatClampNeg (((U0 15) (((q42.2 27) ((0 : Int32)).toNatClampNeg)).toNatClampNeg) ||| ((1 : Int32) <<< (((q42.2 27) ((1 : Int32)).toNatClampNeg) &&& 31))))), q42.2)
        else
          (f_X7_seenTold U0 V0 M0 R0 (1 : Int32)).bind fun q46 =>
          some (q46.1, q46.2.1, q46.2.2)
      else
        (f_X7_seenTold U0 V0 M0 R0 (2 : Int32)).bind fun q48 =>
        some (q48.1, q48.2.1, q48.2.2)
    else
      if (7 : Int32) ≤ (U0 10 0) then
        (f_X7_isWord U0 V0 M0 R0 2).bind fun q51 =>
        if q51 = 0 then
          (f_X7_isWord U0 V0 M0 R0 3).bind fun q54 =>
          if q54 = 0 then
            (f_X7_isWord U0 V0 M0 R0 4).bind fun q57 =>
            if q57 = 0 then
              (f_X7_isWord U0 V0 M0 R0 5).bind fun q60 =>
              if q60 = 0 then
                (f_X7_isWord U0 V0 M0 R0 6).bind fun q63 =>
                if q63 = 0 then
                  (f_X7_isWord U0 V0 M0 R0 7).bind fun q66 =>
                  if q66 = 0 then
                    (f_X7_isWord U0 V0 M0 R0 8).bind fun q69 =>
                    if q69 = 0 then
                      (f_X7_wrong U0 V0 M0 R0).bind fun q72 =>
                      some (q72.1, U0, q72.2)
                    else
                      (f_X7_askedTold U0 V0 M0 R0 (2 : Int32)).bind fun q74 =>
                      some (q74.1, q74.2.1, q74.2.2)
                  else
                    (f_X7_askedTold U0 V0 M0 R0 (1 : Int32)).bind fun q76 =>
                    some (q76.1, q76.2.1, q76.2.2)
                else
                  (f_X7_askedTold U0 V0 M0 R0 (0 : Int32)).bind fun q78 =>
                  some (q78.1, q78.2.1, q78.2.2)
              else
                (f_X7_nearTold U0 V0 M0 R0).bind fun q80 =>
                some (q80.1, q80.2.1, q80.2.2)
            else
              (f_X7_tells U0 V0 M0 R0 (0 : Int32) ((U0 10 0) - (1 : Int32))).bind fun q82 =>
              if q82.1 = 0 then
                some ((0 : Int32), U0, q82.2)
              else
                (f_X7_number U0 q82.2 M0 R0 (1 : Int32) (0 : Int32) ((U0 9 0) - (1 : Int32))).bind fun q85 =>
                if q85.1 = 0 then
                  some ((0 : Int32), U0, q85.2)
                else
                  if ((q85.2 27) ((0 : Int32)).toNatClampNeg) < 0 ∨ 7 ≤ (((q85.2 27) ((0 : Int32)).toNatClampNeg)).toNatClampNeg then none else
                  some ((1 : Int32), (up U0 15 (upd (U0 15) (((q85.2 27) ((0 : Int32)).toNatClampNeg)).toNatClampNeg (((U0 15) (((q85.2 27) ((0 : Int32)).toNatClampNeg)).toNatClampNeg) ||| ((1 : Int32) <<< (((q85.2 27) ((1 : Int32)).toNatClampNeg) &&& 31))))), q85.2)
          else
            (f_X7_seenTold U0 V0 M0 R0 (1 : Int32)).bind fun q89 =>
            some (q89.1, q89.2.1, q89.2.2)
        else
          (f_X7_seenTold U0 V0 M0 R0 (2 : Int32)).bind fun q91 =>
          some (q91.1, q91.2.1, q91.2.2)
      else
        (f_X7_personTold U0 V0 M0 R0).bind fun q93 =>
        some (q93.1, q93.2.1, q93.2.2)
  else
    (f_X7_tells U0 V0 M0 R0 (U0 9 0) (8 : Int32)).bind fun q95 =>
    some (q95.1, (up U0 9 (fun _ => (if q95.1 = 0 then (U0 9 0) else ((q95.2 27) ((0 : Int32)).toNatClampNeg)))), q95.2)
theorem bz_X7_statement {U0 : TS} {V0 : TS} {M0 : LTS} {R0 : LTS} {q : (Int32 × TS × TS)} (hM : f_X7_statement U0 V0 M0 R0 = some q) : q.1 = 0 ∨ q.1 = 1 := by
  rw [f_X7_statement] at hM
  obtain ⟨q2, h1, hM⟩ := bd hM
  by_cases c3 : q2 = 0
  · replace hM := itp c3 hM
    obtain ⟨q5, h4, hM⟩ := bd hM
    by_cases c6 : q5 = 0
    · replace hM := itp c6 hM
      obtain ⟨q8, h7, hM⟩ := bd hM
      by_cases c9 : q8 = 0
      · replace hM := itp c9 hM
        obtain ⟨q11, h10, hM⟩ := bd hM
        by_cases c12 : q11 = 0
        · replace hM := itp c12 hM
          obtain ⟨q14, h13, hM⟩ := bd hM
          by_cases c15 : q14 = 0
          · replace hM := itp c15 hM
            obtain ⟨q17, h16, hM⟩ := bd hM
            by_cases c18 : q17 = 0
            · replace hM := itp c18 hM
              obtain ⟨q20, h19, hM⟩ := bd hM
              by_cases c21 : q20 = 0
              · replace hM := itp c21 hM
                obtain ⟨q23, h22, hM⟩ := bd hM
                by_cases c24 : q23 = 0
                · replace hM := itp c24 hM
                  obtain ⟨q26, h25, hM⟩ := bd hM
                  by_cases c27 : q26 = 0
                  · replace hM := itp c27 hM
                    obtain ⟨q29, h28, hM⟩ := bd hM
                    obtain rfl := Option.some.inj hM
                    exact (bz_X7_wrong h28)
                  · replace hM := itn c27 hM
                    obtain ⟨q31, h30, hM⟩ := bd hM
                    obtain rfl := Option.some.inj hM
                    exact (bz_X7_askedTold h30)
                · replace hM := itn c24 hM
                  obtain ⟨q33, h32, hM⟩ := bd hM
                  obtain rfl := Option.some.inj hM
                  exact (bz_X7_askedTold h32)
              · replace hM := itn c21 hM
                obtain ⟨q35, h34, hM⟩ := bd hM
                obtain rfl := Option.some.inj hM
                exact (bz_X7_askedTold h34)
            · replace hM := itn c18 hM
              obtain ⟨q37, h36, hM⟩ := bd hM
              obtain rfl := Option.some.inj hM
              exact (bz_X7_nearTold h36)
          · replace hM := itn c15 hM
            obtain ⟨q39, h38, hM⟩ := bd hM
            by_cases c40 : q39.1 = 0
            · replace hM := itp c40 hM
              obtain rfl := Option.some.inj hM
              exact (Or.inl rfl)
            · replace hM := itn c40 hM
              obtain ⟨q42, h41, hM⟩ := bd hM
              by_cases c43 : q42.1 = 0
              · replace hM := itp c43 hM
                obtain rfl := Option.some.inj hM
                exact (Or.inl rfl)
              · replace hM := itn c43 hM
                obtain ⟨k44, hM⟩ := ck hM
                obtain rfl := Option.some.inj hM
                exact (Or.inr rfl)
        · replace hM := itn c12 hM
          obtain ⟨q46, h45, hM⟩ := bd hM
          obtain rfl := Option.some.inj hM
          exact (bz_X7_seenTold h45)
      · replace hM := itn c9 hM
        obtain ⟨q48, h47, hM⟩ := bd hM
        obtain rfl := Option.some.inj hM
        exact (bz_X7_seenTold h47)
    · replace hM := itn c6 hM
      by_cases c49 : (7 : Int32) ≤ (U0 10 0)
      · replace hM := itp c49 hM
        obtain ⟨q51, h50, hM⟩ := bd hM
        by_cases c52 : q51 = 0
        · replace hM := itp c52 hM
          obtain ⟨q54, h53, hM⟩ := bd hM
          by_cases c55 : q54 = 0
          · replace hM := itp c55 hM
            obtain ⟨q57, h56, hM⟩ := bd hM
            by_cases c58 : q57 = 0
            · replace hM := itp c58 hM
              obtain ⟨q60, h59, hM⟩ := bd hM
              by_cases c61 : q60 = 0
              · replace hM := itp c61 hM
                obtain ⟨q63, h62, hM⟩ := bd hM
                by_cases c64 : q63 = 0
                · replace hM := itp c64 hM
                  obtain ⟨q66, h65, hM⟩ := bd hM
                  by_cases c67 : q66 = 0
                  · replace hM := itp c67 hM
                    obtain ⟨q69, h68, hM⟩ := bd hM
                    by_cases c70 : q69 = 0
                    · replace hM := itp c70 hM
                      obtain ⟨q72, h71, hM⟩ := bd hM
                      obtain rfl := Option.some.inj hM
                      exact (bz_X7_wrong h71)
                    · replace hM := itn c70 hM
                      obtain ⟨q74, h73, hM⟩ := bd hM
                      obtain rfl := Option.some.inj hM
                      exact (bz_X7_askedTold h73)
                  · replace hM := itn c67 hM
                    obtain ⟨q76, h75, hM⟩ := bd hM
                    obtain rfl := Option.some.inj hM
                    exact (bz_X7_askedTold h75)
                · replace hM := itn c64 hM
                  obtain ⟨q78, h77, hM⟩ := bd hM
                  obtain rfl := Option.some.inj hM
                  exact (bz_X7_askedTold h77)
              · replace hM := itn c61 hM
                obtain ⟨q80, h79, hM⟩ := bd hM
                obtain rfl := Option.some.inj hM
                exact (bz_X7_nearTold h79)
            · replace hM := itn c58 hM
              obtain ⟨q82, h81, hM⟩ := bd hM
              by_cases c83 : q82.1 = 0
              · replace hM := itp c83 hM
                obtain rfl := Option.some.inj hM
                exact (Or.inl rfl)
              · replace hM := itn c83 hM
                obtain ⟨q85, h84, hM⟩ := bd hM
                by_cases c86 : q85.1 = 0
                · replace hM := itp c86 hM
                  obtain rfl := Option.some.inj hM
                  exact (Or.inl rfl)
                · replace hM := itn c86 hM
                  obtain ⟨k87, hM⟩ := ck hM
                  obtain rfl := Option.some.inj hM
                  exact (Or.inr rfl)
          · replace hM := itn c55 hM
            obtain ⟨q89, h88, hM⟩ := bd hM
            obtain rfl := Option.some.inj hM
            exact (bz_X7_seenTold h88)
        · replace hM := itn c52 hM
          obtain ⟨q91, h90, hM⟩ := bd hM
          obtain rfl := Option.some.inj hM
          exact (bz_X7_seenTold h90)
      · replace hM := itn c49 hM
        obtain ⟨q93, h92, hM⟩ := bd hM
        obtain rfl := Option.some.inj hM
        exact (bz_X7_personTold h92)
  · replace hM := itn c3 hM
    obtain ⟨q95, h94, hM⟩ := bd hM
    obtain rfl := Option.some.inj hM
    exact (bz_X7_tells h94)
def L_X7_readAll_23 (M0 : LTS) (R0 : LTS) : Nat → TS → TS → Option ((Int32 × TS × TS) ⊕ (TS × TS))
  | 0, _, _ => none
  | n + 1, UL6, VL7 =>
    if (VL7 23 0) = 0 then
      some (.inr (UL6, VL7))
    else
      if (VL7 23 0) = (3 : Int32) then
        (f_X7_look UL6 VL7 M0 R0).bind fun q12 =>
        (f_X7_statement UL6 q12 M0 R0).bind fun q14 =>
        if q14.1 = 0 then
          some (.inl ((0 : Int32), q14.2.1, q14.2.2))
        else
          L_X7_readAll_23 M0 R0 n q14.2.1 (up q14.2.2 28 (fun _ => ((q14.2.2 28 0) + (1 : Int32))))
      else
        (f_X7_wrong UL6 VL7 M0 R0).bind fun q17 =>
        some (.inl (q17.1, UL6, q17.2))
def f_X7_readAll (U0 : TS) (V0 : TS) (M0 : LTS) (R0 : LTS) : Option (Int32 × TS × TS) :=
  (f_X7_look U0 (up (up V0 28 (fun _ => (1 : Int32))) 22 (fun _ => (0 : Int32))) M0 R0).bind fun q2 =>
  (f_X7_statement U0 q2 M0 R0).bind fun q4 =>
  if q4.1 = 0 then
    some ((0 : Int32), q4.2.1, q4.2.2)
  else
    (L_X7_readAll_23 M0 R0 300 q4.2.1 q4.2.2).bind (eo fun q8x =>
    some ((1 : Int32), q8x.1, q8x.2))
def f_X7_town (U0 : TS) (V0 : TS) (M0 : LTS) (R0 : LTS) (tp0 : Option (Nat → Int32)) : Option (Int32 × TS × TS × (Option (Nat → Int32))) :=
  (f_X7_readAll U0 V0 M0 R0).bind fun q5 =>
  if q5.1 = 0 then
    (f_X7_takeFrom q5.2.1 (fr0 U0 tp0)).bind fun q8 =>
    (f_X7_refuse q8 (up q5.2.2 7 (fun _ => (0 : Int32))) M0 R0 (-2 : Int32)).bind fun q10 =>
    some (((-20 : Int32) - (q10.2 26 0)), q8, q10.2, (some ((fr0 U0 tp0) 29)))
  else
    some ((q5.2.2 28 0), q5.2.1, (up q5.2.2 7 (fun _ => (0 : Int32))), (some ((fr0 U0 tp0) 29)))
def L_X7_back_24 (q2 : TS) : Nat → Int32 → TS → Option TS
  | 0, _, _ => none
  | n + 1, v1_3, VL4 =>
    if (8 : Int32) ≤ v1_3 then
      some VL4
    else
      if v1_3 < 0 ∨ 8 ≤ (v1_3).toNatClampNeg then none else
      if ((VL4 0) (v1_3).toNatClampNeg) = (2 : Int32) then
        if ((VL4 5) (v1_3).toNatClampNeg) < (q2 10 0) then
          L_X7_back_24 q2 n (v1_3 + (1 : Int32)) VL4
        else
          L_X7_back_24 q2 n (v1_3 + (1 : Int32)) (up VL4 0 (upd (VL4 0) (v1_3).toNatClampNeg (0 : Int32)))
      else
        L_X7_back_24 q2 n (v1_3 + (1 : Int32)) VL4
def f_X7_back (U0 : TS) (V0 : TS) (M0 : LTS) (R0 : LTS) (U1 : TS) : Option (Int32 × TS × TS) :=
  (f_X7_takeFrom U0 U1).bind fun q2 =>
  (L_X7_back_24 q2 300 (0 : Int32) V0).bind fun q5 =>
  some ((1 : Int32), q2, q5)
