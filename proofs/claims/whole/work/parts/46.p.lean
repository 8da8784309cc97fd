/-! ===== pure: the town's own calls ===== -/
theorem pm_with {m x : Nat} (hx : x < 32) (b : Bool) : (if (if b then (1 : Int32) else (0 : Int32)) = 0 then nI m &&& (((1 : Int32) <<< (nI x &&& 31)) ^^^ (-1 : Int32)) else nI m ||| ((1 : Int32) <<< (nI x &&& 31))) = nI (wb m x b) := by
  rw [pu_one x hx]
  cases b
  · rw [if_pos (by decide), pu_dif]; rfl
  · rw [if_neg (by decide), pu_or]; rfl
/-- seen, half seen, neither -/
def sn (t : Tn) (p x k : Nat) : Tn := upn (upn t 7 (updn (t 7) p (wb (t 7 p) x (decide (k = 2))))) 8 (updn (t 8) p (wb (t 8 p) x (decide (k = 1))))
theorem sn_wf {t : Tn} (hw : wf t) {p x k : Nat} (hp : p < t 1 0) (hx : x < t 0 0) : wf (sn t p x k) := by
  have a : wf (upn t 7 (updn (t 7) p (wb (t 7 p) x (decide (k = 2))))) := hw.put (by decide) (fun q hq => by
    show (if q = p then _ else t 7 q) < 2 ^ t 0 0
    split
    · exact wb_lt _ (hw.see hp) hx
    · exact hw.see hq)
  exact a.put (by decide) (fun q hq => by
    show (if q = p then _ else t 8 q) < 2 ^ t 0 0
    split
    · exact wb_lt _ (hw.half hp) hx
    · exact hw.half hq)
theorem dk2 {k : Nat} (c : Nat) (hk : k < 256) (hc : c < 256) : (if nI k = nI c then (1 : Int32) else (0 : Int32)) = if decide (k = c) then (1 : Int32) else (0 : Int32) := by
  by_cases e : k = c
  · subst e; rw [if_pos rfl, decide_eq_true rfl]; rfl
  · rw [if_neg (fun z => e ((nI_eq (by omega) (by omega)).mp z)), decide_eq_false e]; rfl
theorem pc_see {t : Tn} {T : TS} (h : TC t T) (hw : wf t) {p x k : Nat} (hp : p < t 1 0) (hx : x < t 0 0) (hk : k < 3) : ∃ T', f_X5_putSeen T (nI p) (nI x) (nI k) = some T' ∧ TC (sn t p x k) T' ∧ ∀ j, j ≠ 7 → j ≠ 8 → T' j = T j := by
  have p7 := lt7 hw hp
  have h8 := hw.1.2.1
  unfold f_X5_putSeen
  rw [if_neg (in7 p7), cl7 p7, h.see hp, h.half hp, show (2 : Int32) = nI 2 from rfl, show (if nI k = (1 : Int32) then (1 : Int32) else (0 : Int32)) = (if decide (k = 1) then (1 : Int32) else (0 : Int32)) from dk2 1 (by omega) (by decide), dk2 2 (by omega) (by decide), pu_with (by omega), pu_with (by omega)]
  refine ⟨_, rfl, ?_, fun j h1 h2 => by rw [up_ne _ _ h2, up_ne _ _ h1]⟩
  have a := h.put (j := 7) (f := updn (t 7) p (wb (t 7 p) x (decide (k = 2)))) (by decide) (upd_n (p := p) (x := wb (t 7 p) x (decide (k = 2))) (fun q hq => h.see hq))
  exact a.put (j := 8) (f := updn (t 8) p (wb (t 8 p) x (decide (k = 1)))) (by decide) (upd_n (p := p) (x := wb (t 8 p) x (decide (k = 1))) (fun q hq => h.half hq))
theorem sees_v {m x : Nat} (hx : x < 32) (b : Bool) : (nI m &&& (((1 : Int32) <<< (nI x &&& 31)) ^^^ (-1 : Int32))) ||| (if b then ((1 : Int32) <<< (nI x &&& 31)) else (0 : Int32)) = nI (wb m x b) := by
  rw [pu_one x hx, pu_dif]
  cases b
  · rw [if_neg (by decide), show (0 : Int32) = nI 0 from rfl, pu_or, Nat.or_zero]; rfl
  · rw [if_pos rfl, pu_or]
    apply nI_ext
    intro i _
    rw [Nat.testBit_or, dif_bit]
    unfold wb
    rw [if_pos rfl, Nat.testBit_or]
    cases m.testBit i <;> cases (2 ^ x).testBit i <;> rfl
theorem dk3 {k : Nat} (c : Nat) {A : Int32} (hk : k < 256) (hc : c < 256) : (if nI k = nI c then A else (0 : Int32)) = if decide (k = c) then A else (0 : Int32) := by
  by_cases e : k = c
  · subst e; rw [if_pos rfl, decide_eq_true rfl]; rfl
  · rw [if_neg (fun z => e ((nI_eq (by omega) (by omega)).mp z)), decide_eq_false e]; rfl
theorem pm_see {t : Tn} {T : TS} (h : TM t T) (hw : wf t) {p x k : Nat} (hp : p < t 1 0) (hx : x < t 0 0) (hk : k < 3) : ∃ T', f_X7_sees T (nI p) (nI x) (nI k) = some T' ∧ TM (sn t p x k) T' ∧ ∀ j, j ≠ 13 → j ≠ 14 → T' j = T j := by
  have p7 := lt7 hw hp
  have h8 := hw.1.2.1
  unfold f_X7_sees
  rw [if_neg (in7 p7), cl7 p7, pk_us, pk_us, h.see hp, h.half hp, show (2 : Int32) = nI 2 from rfl, show (if nI k = (1 : Int32) then ((1 : Int32) <<< (nI x &&& 31)) else (0 : Int32)) = (if decide (k = 1) then ((1 : Int32) <<< (nI x &&& 31)) else (0 : Int32)) from dk3 1 (by omega) (by decide), dk3 2 (by omega) (by decide), sees_v (by omega), sees_v (by omega)]
  refine ⟨_, rfl, ?_, fun j h1 h2 => by rw [up_ne _ _ h2, up_ne _ _ h1]⟩
  have uu : ∀ (f : Nat → Int32) (g : Nat → Nat) (y : Int32) (m : Nat), (∀ q, q < t 1 0 → f q = nI (g q)) → ∀ q, q < t 1 0 → upd (upd f p y) p (nI m) q = nI (updn g p m q) := fun f g y m hf q hq => by
    by_cases e : q = p
    · subst e; rw [pk_us, updn_same]
    · rw [pk_un e, pk_un e, updn_ne _ _ e, hf q hq]
  have a := h.put (j := 7) (f := updn (t 7) p (wb (t 7 p) x (decide (k = 2)))) (by decide) (by decide) (uu (T 13) (t 7) (nI (t 7 p) &&& (((1 : Int32) <<< (nI x &&& 31)) ^^^ (-1 : Int32))) (wb (t 7 p) x (decide (k = 2))) (fun q hq => h.see hq))
  exact a.put (j := 8) (f := updn (t 8) p (wb (t 8 p) x (decide (k = 1)))) (by decide) (by decide) (uu (T 14) (t 8) (nI (t 8 p) &&& (((1 : Int32) <<< (nI x &&& 31)) ^^^ (-1 : Int32))) (wb (t 8 p) x (decide (k = 1))) (fun q hq => h.half hq))
/-- one put into what's heard, whom one hears -/
theorem putHeard_c {t : Tn} {T : TS} (h : TC t T) (hw : wf t) {p x : Nat} (hp : p < t 1 0) (hx : x < 32) (b : Bool) : f_X5_putHeard T (nI p) (nI x) (if b then (1 : Int32) else (0 : Int32)) = some (up T 9 (upd (T 9) p (nI (wb (t 9 p) x b)))) := by
  have p7 := lt7 hw hp
  unfold f_X5_putHeard
  rw [if_neg (in7 p7), cl7 p7, h.heard hp, pu_with hx]
theorem putHears_c {t : Tn} {T : TS} (h : TC t T) (hw : wf t) {p x : Nat} (hp : p < t 1 0) (hx : x < 32) (b : Bool) : f_X5_putHears T (nI p) (nI x) (if b then (1 : Int32) else (0 : Int32)) = some (up T 10 (upd (T 10) p (nI (wb (t 10 p) x b)))) := by
  have p7 := lt7 hw hp
  unfold f_X5_putHears
  rw [if_neg (in7 p7), cl7 p7, h.hears hp, pu_with hx]
theorem bo01 {x : Int32} (h : x = 0 ∨ x = 1) : ∃ b : Bool, x = if b then (1 : Int32) else (0 : Int32) := by
  rcases h with rfl | rfl
  · exact ⟨false, rfl⟩
  · exact ⟨true, rfl⟩
section OPS
variable {Z T1 T2 G P U V : TS} {R R' : LTS} {ku : Option TS}
theorem op_hear (h : Rl Z T1 T2 G R P U V R' ku) (T3 O B : TS) (M : LTS) (p1 : Int32) (p2 : Int32) (p3 : Int32) (hb : p3 = 0 ∨ p3 = 1) : ∃ a Z' T1' U' V', f_X6_hear Z T1 T2 T3 G R P O B p1 p2 p3 = some (a, Z', T1') ∧ f_X7_hear U V M R' p1 p2 p3 = some (a, U', V') ∧ Rl Z' T1' T2 G R P U' V' R' ku := by
  obtain ⟨t, ht, hs, hr, hp, hz, hk⟩ := id h
  obtain ⟨b, rfl⟩ := bo01 hb
  rcases one_c ht p1 with ⟨p, hp1, rfl, g0, m0⟩ | ⟨g0, m0⟩
  rotate_left
  · refine ⟨(-2 : Int32), rz Z 0, T1, U, rv V 0, ?_, ?_, h.ref (by decide)⟩
    · unfold f_X6_hear
      rw [if_pos g0]
      exact ob (rc2 _ _ _ _ _ _ _ _) rfl
    · unfold f_X7_hear
      rw [if_pos m0]
      exact ob (rm2 _ _ _) rfl
  rcases sgt_c ht p2 with ⟨x, hx, rfl, g1, m1⟩ | ⟨g1, m1⟩
  rotate_left
  · refine ⟨(-2 : Int32), rz Z 0, T1, U, rv V 0, ?_, ?_, h.ref (by decide)⟩
    · unfold f_X6_hear
      rw [if_neg g0, if_pos g1]
      exact ob (rc2 _ _ _ _ _ _ _ _) rfl
    · unfold f_X7_hear
      rw [if_neg m0, if_pos m1]
      exact ob (rm2 _ _ _) rfl
  have p7 := lt7 ht.1 hp1
  have h8 := ht.1.1.2.1
  refine ⟨if f_X6_has (nI (t 9 p)) (nI x) = (if b then (1 : Int32) else (0 : Int32)) then (0 : Int32) else (1 : Int32), Z, up T1 9 (upd (T1 9) p (nI (wb (t 9 p) x b))), up U 15 (upd (U 15) p (nI (wb (t 9 p) x b))), V, ?_, ?_, _, ht.put (j := 9) (by decide) (by decide) (wb_lt b (ht.1.heard hp1) hx), hs, hr, hp, hz, hk⟩
  · unfold f_X6_hear
    rw [if_neg g0, if_neg g1, if_neg (in7 p7), cl7 p7, ht.2.1.heard hp1]
    exact ob (putHeard_c ht.2.1 ht.1 hp1 (by omega) b) rfl
  · unfold f_X7_hear
    rw [if_neg m0, if_neg m1, if_neg (in7 p7), cl7 p7, ht.2.2.1.heard hp1, pm_with (by omega)]
    rfl
theorem op_near (h : Rl Z T1 T2 G R P U V R' ku) (T3 O B : TS) (M : LTS) (p1 : Int32) (p2 : Int32) (p3 : Int32) (hb : p3 = 0 ∨ p3 = 1) : ∃ a Z' T1' U' V', f_X6_near Z T1 T2 T3 G R P O B p1 p2 p3 = some (a, Z', T1') ∧ f_X7_near U V M R' p1 p2 p3 = some (a, U', V') ∧ Rl Z' T1' T2 G R P U' V' R' ku := by
  obtain ⟨t, ht, hs, hr, hp, hz, hk⟩ := id h
  obtain ⟨b, rfl⟩ := bo01 hb
  rcases one_c ht p1 with ⟨p, hp1, rfl, g0, m0⟩ | ⟨g0, m0⟩
  rotate_left
  · refine ⟨(-2 : Int32), rz Z 0, T1, U, rv V 0, ?_, ?_, h.ref (by decide)⟩
    · unfold f_X6_near
      rw [if_pos g0]
      exact ob (rc2 _ _ _ _ _ _ _ _) rfl
    · unfold f_X7_near
      rw [if_pos m0]
      exact ob (rm2 _ _ _) rfl
  rcases one_c ht p2 with ⟨x, hx, rfl, g1, m1⟩ | ⟨g1, m1⟩
  rotate_left
  · refine ⟨(-2 : Int32), rz Z 0, T1, U, rv V 0, ?_, ?_, h.ref (by decide)⟩
    · unfold f_X6_near
      rw [if_neg g0, if_pos g1]
      exact ob (rc2 _ _ _ _ _ _ _ _) rfl
    · unfold f_X7_near
      rw [if_neg m0, if_pos m1]
      exact ob (rm2 _ _ _) rfl
  have p7 := lt7 ht.1 hp1
  have x7 := lt7 ht.1 hx
  by_cases e : p = x
  · subst e
    refine ⟨(-2 : Int32), rz Z 0, T1, U, rv V 0, ?_, ?_, h.ref (by decide)⟩
    · unfold f_X6_near
      rw [if_neg g0, if_neg g1, if_pos rfl]
      exact ob (rc2 _ _ _ _ _ _ _ _) rfl
    · unfold f_X7_near
      rw [if_neg m0, if_neg m1, if_pos rfl]
      exact ob (rm2 _ _ _) rfl
  · have e1 : ¬ nI p = nI x := fun z => e ((nI_eq (by omega) (by omega)).mp z)
    refine ⟨if f_X6_has (nI (t 10 p)) (nI x) = (if b then (1 : Int32) else (0 : Int32)) then (0 : Int32) else (1 : Int32), Z, up T1 10 (upd (T1 10) p (nI (wb (t 10 p) x b))), up U 16 (upd (U 16) p (nI (wb (t 10 p) x b))), V, ?_, ?_, _, ht.put (j := 10) (by decide) (by decide) (wb_lt b (ht.1.hears hp1) hx), hs, hr, hp, hz, hk⟩
    · unfold f_X6_near
      rw [if_neg g0, if_neg g1, if_neg e1, if_neg (in7 p7), cl7 p7, ht.2.1.hears hp1]
      exact ob (putHears_c ht.2.1 ht.1 hp1 (by omega) b) rfl
    · unfold f_X7_near
      rw [if_neg m0, if_neg m1, if_neg e1, if_neg (in7 p7), cl7 p7, ht.2.2.1.hears hp1, pm_with (by omega)]
      rfl
theorem op_see (h : Rl Z T1 T2 G R P U V R' ku) (T3 O B : TS) (M : LTS) (p1 : Int32) (p2 : Int32) (p3 : Int32) : ∃ a Z' T1' U' V', f_X6_see Z T1 T2 T3 G R P O B p1 p2 p3 = some (a, Z', T1') ∧ f_X7_see U V M R' p1 p2 p3 = some (a, U', V') ∧ Rl Z' T1' T2 G R P U' V' R' ku := by
  obtain ⟨t, ht, hs, hr, hp, hz, hk⟩ := id h
  rcases one_c ht p1 with ⟨p, hp1, rfl, g0, m0⟩ | ⟨g0, m0⟩
  rotate_left
  · refine ⟨(-2 : Int32), rz Z 0, T1, U, rv V 0, ?_, ?_, h.ref (by decide)⟩
    · unfold f_X6_see
      rw [if_pos g0]
      exact ob (rc2 _ _ _ _ _ _ _ _) rfl
    · unfold f_X7_see
      rw [if_pos m0]
      exact ob (rm2 _ _ _) rfl
  rcases sgt_c ht p2 with ⟨x, hx, rfl, g1, m1⟩ | ⟨g1, m1⟩
  rotate_left
  · refine ⟨(-2 : Int32), rz Z 0, T1, U, rv V 0, ?_, ?_, h.ref (by decide)⟩
    · unfold f_X6_see
      rw [if_neg g0, if_pos g1]
      exact ob (rc2 _ _ _ _ _ _ _ _) rfl
    · unfold f_X7_see
      rw [if_neg m0, if_pos m1]
      exact ob (rm2 _ _ _) rfl
  rcases wi_c p3 0 2 (a := (0 : Int32)) (b := (2 : Int32)) (A := (0 : Int64)) (B := (2 : Int64)) rfl rfl (by decide) (by decide) (by decide) (by decide) with ⟨k, k0, hk2, rfl, g2, m2⟩ | ⟨g2, m2⟩
  rotate_left
  · refine ⟨(-2 : Int32), rz Z 0, T1, U, rv V 0, ?_, ?_, h.ref (by decide)⟩
    · unfold f_X6_see
      rw [if_neg g0, if_neg g1, if_pos g2]
      exact ob (rc2 _ _ _ _ _ _ _ _) rfl
    · unfold f_X7_see
      rw [if_neg m0, if_neg m1, if_pos m2]
      exact ob (rm2 _ _ _) rfl
  have p7 := lt7 ht.1 hp1
  have h8 := ht.1.1.2.1
  have hkd := ht.1.kind hp1
  obtain ⟨T', a1, a2, a3⟩ := pc_see ht.2.1 ht.1 hp1 hx (k := k) (by omega)
  obtain ⟨U', b1, b2, b3⟩ := pm_see ht.2.2.1 ht.1 hp1 hx (k := k) (by omega)
  have hT : TR (sn t p x k) T' U' := ht.via (sn_wf ht.1 hp1 hx) a2 b2 (by rw [a3 5 (by decide) (by decide)]) (by rw [a3 6 (by decide) (by decide)]) (by rw [b3 18 (by decide) (by decide)]) (by rw [b3 19 (by decide) (by decide)])
  have fin : Rl Z T' T2 G R P U' V R' ku := ⟨_, hT, hs, hr, hp, hz, hk⟩
  have hw6 : f_X5_howSeen T1 (nI p) (nI x) = some (if (f_X6_has (nI (t 7 p)) (nI x)) = 0 then (if (f_X6_has (nI (t 8 p)) (nI x)) = 0 then (0 : Int32) else (1 : Int32)) else (2 : Int32)) := by
    unfold f_X5_howSeen
    rw [if_neg (in7 p7), cl7 p7, ht.2.1.see hp1, ht.2.1.half hp1]
    by_cases z : f_X6_has (nI (t 7 p)) (nI x) = 0
    · rw [if_pos z, if_pos z]
    · rw [if_neg z, if_neg z]
  have ek : nI k = 0 ↔ k = 0 := nI_eq (b := 0) (by omega) (by decide)
  have e4 : nI (t 11 p) = (4 : Int32) ↔ t 11 p = 4 := nI_eq (b := 4) (by omega) (by decide)
  by_cases k0 : k = 0
  · refine ⟨(if (f_X6_has (nI (t 7 p)) (nI x)) = 0 then (if (f_X6_has (nI (t 8 p)) (nI x)) = 0 then (0 : Int32) else (1 : Int32)) else (2 : Int32)), Z, T', U', V, ?_, ?_, fin⟩
    · unfold f_X6_see
      rw [if_neg g0, if_neg g1, if_neg g2, if_pos (ek.mpr k0)]
      exact ob hw6 (ob a1 rfl)
    · unfold f_X7_see
      rw [if_neg m0, if_neg m1, if_neg m2, if_neg (in7 p7), cl7 p7, ht.2.2.1.kind hp1, ht.2.2.1.see hp1, ht.2.2.1.half hp1]
      by_cases z : t 11 p = 4
      · rw [if_pos (e4.mpr z), if_pos (ek.mpr k0)]
        exact ob b1 rfl
      · rw [if_neg (fun y => z (e4.mp y))]
        exact ob b1 rfl
  · by_cases z : t 11 p = 4
    · refine ⟨(-5 : Int32), rz Z 3, T1, U, rv V 3, ?_, ?_, h.ref (by decide)⟩
      · unfold f_X6_see
        rw [if_neg g0, if_neg g1, if_neg g2, if_neg (fun y => k0 (ek.mp y))]
        refine ob (q := nI (t 11 p)) (by unfold f_X5_kindOf; rw [if_neg (in7 p7), cl7 p7, ht.2.1.kind hp1]) ?_
        rw [if_pos (e4.mpr z)]
        exact ob (rc5 _ _ _ _ _ _ _ _) rfl
      · unfold f_X7_see
        rw [if_neg m0, if_neg m1, if_neg m2, if_neg (in7 p7), cl7 p7, ht.2.2.1.kind hp1, if_pos (e4.mpr z), if_neg (fun y => k0 (ek.mp y))]
        exact ob (rm5 _ _ _) rfl
    · refine ⟨(if (f_X6_has (nI (t 7 p)) (nI x)) = 0 then (if (f_X6_has (nI (t 8 p)) (nI x)) = 0 then (0 : Int32) else (1 : Int32)) else (2 : Int32)), Z, T', U', V, ?_, ?_, fin⟩
      · unfold f_X6_see
        rw [if_neg g0, if_neg g1, if_neg g2, if_neg (fun y => k0 (ek.mp y))]
        refine ob (q := nI (t 11 p)) (by unfold f_X5_kindOf; rw [if_neg (in7 p7), cl7 p7, ht.2.1.kind hp1]) ?_
        rw [if_neg (fun y => z (e4.mp y))]
        exact ob hw6 (ob a1 rfl)
      · unfold f_X7_see
        rw [if_neg m0, if_neg m1, if_neg m2, if_neg (in7 p7), cl7 p7, ht.2.2.1.kind hp1, ht.2.2.1.see hp1, ht.2.2.1.half hp1, if_neg (fun y => z (e4.mp y))]
        exact ob b1 rfl
theorem op_sign (h : Rl Z T1 T2 G R P U V R' ku) (T3 O B : TS) (M : LTS) (p1 : Int32) (p2 : Int32) (p3 : Int32) : ∃ a Z' T1' U' V', f_X6_sign Z T1 T2 T3 G R P O B p1 p2 p3 = some (a, Z', T1') ∧ f_X7_sign U V M R' p1 p2 p3 = some (a, U', V') ∧ Rl Z' T1' T2 G R P U' V' R' ku := by
  obtain ⟨t, ht, hs, hr, hp, hz, hk⟩ := id h
  rcases one_c ht p1 with ⟨p, hp1, rfl, g0, m0⟩ | ⟨g0, m0⟩
  rotate_left
  · refine ⟨(-2 : Int32), rz Z 0, T1, U, rv V 0, ?_, ?_, h.ref (by decide)⟩
    · unfold f_X6_sign
      rw [if_pos g0]
      exact ob (rc2 _ _ _ _ _ _ _ _) rfl
    · unfold f_X7_sign
      rw [if_pos m0]
      exact ob (rm2 _ _ _) rfl
  rcases one_c ht p2 with ⟨q, hq, rfl, g1, m1⟩ | ⟨g1, m1⟩
  rotate_left
  · refine ⟨(-2 : Int32), rz Z 0, T1, U, rv V 0, ?_, ?_, h.ref (by decide)⟩
    · unfold f_X6_sign
      rw [if_neg g0, if_pos g1]
      exact ob (rc2 _ _ _ _ _ _ _ _) rfl
    · unfold f_X7_sign
      rw [if_neg m0, if_pos m1]
      exact ob (rm2 _ _ _) rfl
  rcases sgt_c ht p3 with ⟨x, hx, rfl, g2, m2⟩ | ⟨g2, m2⟩
  rotate_left
  · refine ⟨(-2 : Int32), rz Z 0, T1, U, rv V 0, ?_, ?_, h.ref (by decide)⟩
    · unfold f_X6_sign
      rw [if_neg g0, if_neg g1, if_pos g2]
      exact ob (rc2 _ _ _ _ _ _ _ _) rfl
    · unfold f_X7_sign
      rw [if_neg m0, if_neg m1, if_pos m2]
      exact ob (rm2 _ _ _) rfl
  have p7 := lt7 ht.1 hp1
  have q7 := lt7 ht.1 hq
  have h8 := ht.1.1.2.1
  by_cases z1 : f_X6_has (nI (t 7 p)) (nI x) = 0
  · refine ⟨(-5 : Int32), rz Z 3, T1, U, rv V 3, ?_, ?_, h.ref (by decide)⟩
    · unfold f_X6_sign
      rw [if_neg g0, if_neg g1, if_neg g2, if_neg (in7 p7), cl7 p7, ht.2.1.see hp1, if_pos z1]
      exact ob (rc5 _ _ _ _ _ _ _ _) rfl
    · unfold f_X7_sign
      rw [if_neg m0, if_neg m1, if_neg m2, if_neg (in7 p7), cl7 p7, ht.2.2.1.see hp1, if_pos (show f_X7_has (nI (t 7 p)) (nI x) = 0 from z1)]
      exact ob (rm5 _ _ _) rfl
  · by_cases z2 : f_X6_has (nI (t 10 q)) (nI p) = 0
    · refine ⟨(-5 : Int32), rz Z 3, T1, U, rv V 3, ?_, ?_, h.ref (by decide)⟩
      · unfold f_X6_sign
        rw [if_neg g0, if_neg g1, if_neg g2, if_neg (in7 p7), cl7 p7, ht.2.1.see hp1, if_neg z1, if_neg (in7 q7), cl7 q7, ht.2.1.hears hq, if_pos z2]
        exact ob (rc5 _ _ _ _ _ _ _ _) rfl
      · unfold f_X7_sign
        rw [if_neg m0, if_neg m1, if_neg m2, if_neg (in7 p7), cl7 p7, ht.2.2.1.see hp1, if_neg (show ¬ f_X7_has (nI (t 7 p)) (nI x) = 0 from z1), if_neg (in7 q7), cl7 q7, ht.2.2.1.hears hq, if_pos (show f_X7_has (nI (t 10 q)) (nI p) = 0 from z2)]
        exact ob (rm5 _ _ _) rfl
    · refine ⟨(if f_X6_has (nI (t 9 q)) (nI x) = 0 then (1 : Int32) else (0 : Int32)), Z, up T1 9 (upd (T1 9) q (nI (wb (t 9 q) x true))), up U 15 (upd (U 15) q (nI (wb (t 9 q) x true))), V, ?_, ?_, _, ht.put (j := 9) (by decide) (by decide) (wb_lt true (ht.1.heard hq) hx), hs, hr, hp, hz, hk⟩
      · unfold f_X6_sign
        rw [if_neg g0, if_neg g1, if_neg g2, if_neg (in7 p7), cl7 p7, ht.2.1.see hp1, if_neg z1, if_neg (in7 q7), cl7 q7, ht.2.1.hears hq, if_neg z2, ht.2.1.heard hq]
        exact ob (putHeard_c ht.2.1 ht.1 hq (by omega) true) rfl
      · unfold f_X7_sign
        rw [if_neg m0, if_neg m1, if_neg m2, if_neg (in7 p7), cl7 p7, ht.2.2.1.see hp1, if_neg (show ¬ f_X7_has (nI (t 7 p)) (nI x) = 0 from z1), if_neg (in7 q7), cl7 q7, ht.2.2.1.hears hq, if_neg (show ¬ f_X7_has (nI (t 10 q)) (nI p) = 0 from z2), ht.2.2.1.heard hq, pu_one x (by omega), pu_or]
        show some ((1 : Int32) - (if f_X6_has (nI (t 9 q)) (nI x) = 0 then (0 : Int32) else (1 : Int32)), _, V) = _
        by_cases z3 : f_X6_has (nI (t 9 q)) (nI x) = 0
        · rw [if_pos z3, if_pos z3]; rfl
        · rw [if_neg z3, if_neg z3]; rfl
theorem op_say (h : Rl Z T1 T2 G R P U V R' ku) (T3 O B : TS) (M : LTS) (p1 : Int32) (p2 : Int32) : ∃ a Z' T1' U' V', f_X6_say Z T1 T2 T3 G R P O B p1 p2 = some (a, Z', T1') ∧ f_X7_say U V M R' p1 p2 = some (a, U', V') ∧ Rl Z' T1' T2 G R P U' V' R' ku := by
  obtain ⟨t, ht, hs, hr, hp, hz, hk⟩ := id h
  rcases one_c ht p1 with ⟨p, hp1, rfl, g0, m0⟩ | ⟨g0, m0⟩
  rotate_left
  · refine ⟨(-2 : Int32), rz Z 0, T1, U, rv V 0, ?_, ?_, h.ref (by decide)⟩
    · unfold f_X6_say
      rw [if_pos g0]
      exact ob (rc2 _ _ _ _ _ _ _ _) rfl
    · unfold f_X7_say
      rw [if_pos m0]
      exact ob (rm2 _ _ _) rfl
  rcases sgt_c ht p2 with ⟨x, hx, rfl, g1, m1⟩ | ⟨g1, m1⟩
  rotate_left
  · refine ⟨(-2 : Int32), rz Z 0, T1, U, rv V 0, ?_, ?_, h.ref (by decide)⟩
    · unfold f_X6_say
      rw [if_neg g0, if_pos g1]
      exact ob (rc2 _ _ _ _ _ _ _ _) rfl
    · unfold f_X7_say
      rw [if_neg m0, if_pos m1]
      exact ob (rm2 _ _ _) rfl
  have p7 := lt7 ht.1 hp1
  have h8 := ht.1.1.2.1
  by_cases z : f_X6_has (nI (say t p)) (nI x) = 0
  · refine ⟨(-5 : Int32), rz Z 3, T1, U, rv V 3, ?_, ?_, h.ref (by decide)⟩
    · unfold f_X6_say
      rw [if_neg g0, if_neg g1]
      refine ob (pc_say ht.2.1 ht.1 hp1) ?_
      rw [if_pos z]
      exact ob (rc5 _ _ _ _ _ _ _ _) rfl
    · unfold f_X7_say
      rw [if_neg m0, if_neg m1]
      refine ob (pm_say ht.2.2.1 ht.1 hp1) ?_
      rw [if_pos (show f_X7_has (nI (say t p)) (nI x) = 0 from z)]
      exact ob (rm5 _ _ _) rfl
  · obtain ⟨T', b1, b2, b3⟩ := pc_tell ht.2.1 ht.1 (p := p) (m := 2 ^ x) (by omega) (Nat.pow_lt_pow_right (by decide) hx)
    obtain ⟨U', c1, c2, c3⟩ := pm_tell ht.2.2.1 ht.1 (p := p) (m := 2 ^ x) (by omega) (Nat.pow_lt_pow_right (by decide) hx)
    refine ⟨nI (tlc t p (2 ^ x)), Z, T', U', V, ?_, ?_, _, ht.via (tl_wf ht.1 (Nat.pow_lt_pow_right (by decide) hx)) b2 c2 (by rw [b3 5 (by decide)]) (by rw [b3 6 (by decide)]) (by rw [c3 18 (by decide)]) (by rw [c3 19 (by decide)]), hs, hr, hp, hz, hk⟩
    · unfold f_X6_say
      rw [if_neg g0, if_neg g1]
      refine ob (pc_say ht.2.1 ht.1 hp1) ?_
      rw [if_neg z, pu_one x (by omega)]
      exact ob b1 rfl
    · unfold f_X7_say
      rw [if_neg m0, if_neg m1]
      refine ob (pm_say ht.2.2.1 ht.1 hp1) ?_
      rw [if_neg (show ¬ f_X7_has (nI (say t p)) (nI x) = 0 from z), pu_one x (by omega)]
      exact ob c1 rfl
theorem op_may (h : Rl Z T1 T2 G R P U V R' ku) (T3 O B : TS) (M : LTS) (p1 : Int32) (p2 : Int32) : ∃ a Z' V', f_X6_may Z T1 T2 T3 G R P O B p1 p2 = some (a, Z') ∧ f_X7_may U V M R' p1 p2 = some (a, V') ∧ Rl Z' T1 T2 G R P U V' R' ku := by
  obtain ⟨t, ht, hs, hr, hp, hz, hk⟩ := id h
  rcases one_c ht p1 with ⟨p, hp1, rfl, g0, m0⟩ | ⟨g0, m0⟩
  rotate_left
  · refine ⟨(-2 : Int32), rz Z 0, rv V 0, ?_, ?_, h.ref (by decide)⟩
    · unfold f_X6_may
      rw [if_pos g0]
      exact ob (rc2 _ _ _ _ _ _ _ _) rfl
    · unfold f_X7_may
      rw [if_pos m0]
      exact ob (rm2 _ _ _) rfl
  rcases sgt_c ht p2 with ⟨x, hx, rfl, g1, m1⟩ | ⟨g1, m1⟩
  rotate_left
  · refine ⟨(-2 : Int32), rz Z 0, rv V 0, ?_, ?_, h.ref (by decide)⟩
    · unfold f_X6_may
      rw [if_neg g0, if_pos g1]
      exact ob (rc2 _ _ _ _ _ _ _ _) rfl
    · unfold f_X7_may
      rw [if_neg m0, if_pos m1]
      exact ob (rm2 _ _ _) rfl
  refine ⟨(if f_X6_has (nI (say t p)) (nI x) = 0 then (0 : Int32) else (1 : Int32)), Z, V, ?_, ?_, h⟩
  · unfold f_X6_may
    rw [if_neg g0, if_neg g1]
    exact ob (pc_say ht.2.1 ht.1 hp1) rfl
  · unfold f_X7_may
    rw [if_neg m0, if_neg m1]
    exact ob (pm_say ht.2.2.1 ht.1 hp1) rfl
theorem op_mouths (h : Rl Z T1 T2 G R P U V R' ku) (T3 O B : TS) (M : LTS) (p1 : Int32) : ∃ a Z' V', f_X6_mouths Z T1 T2 T3 G R P O B p1 = some (a, Z') ∧ f_X7_mouths U V M R' p1 = some (a, V') ∧ Rl Z' T1 T2 G R P U V' R' ku := by
  obtain ⟨t, ht, hs, hr, hp, hz, hk⟩ := id h
  rcases sgt_c ht p1 with ⟨x, hx, rfl, g0, m0⟩ | ⟨g0, m0⟩
  rotate_left
  · refine ⟨(-2 : Int32), rz Z 0, rv V 0, ?_, ?_, h.ref (by decide)⟩
    · unfold f_X6_mouths
      rw [if_pos g0]
      exact ob (rc2 _ _ _ _ _ _ _ _) rfl
    · unfold f_X7_mouths
      rw [if_pos m0]
      exact ob (rm2 _ _ _) rfl
  have h8 := ht.1.1.2.1
  refine ⟨nI (mou t x), Z, V, ?_, ?_, h⟩
  · unfold f_X6_mouths
    rw [if_neg g0]
    exact ob (pc_mou ht.2.1 ht.1 (by omega)) rfl
  · unfold f_X7_mouths
    rw [if_neg m0]
    exact ob (pm_mou ht.2.2.1 ht.1 (by omega)) rfl
theorem op_barred (h : Rl Z T1 T2 G R P U V R' ku) (T3 O B : TS) (M : LTS) (p1 : Int32) : ∃ a Z' V', f_X6_barred Z T1 T2 T3 G R P O B p1 = some (a, Z') ∧ f_X7_barred U V M R' p1 = some (a, V') ∧ Rl Z' T1 T2 G R P U V' R' ku := by
  obtain ⟨t, ht, hs, hr, hp, hz, hk⟩ := id h
  rcases sgt_c ht p1 with ⟨x, hx, rfl, g0, m0⟩ | ⟨g0, m0⟩
  rotate_left
  · refine ⟨(-2 : Int32), rz Z 0, rv V 0, ?_, ?_, h.ref (by decide)⟩
    · unfold f_X6_barred
      rw [if_pos g0]
      exact ob (rc2 _ _ _ _ _ _ _ _) rfl
    · unfold f_X7_barred
      rw [if_pos m0]
      exact ob (rm2 _ _ _) rfl
  have h8 := ht.1.1.2.1
  refine ⟨nI (bad t x), Z, V, ?_, ?_, h⟩
  · unfold f_X6_barred
    rw [if_neg g0]
    exact ob (pc_bad ht.2.1 ht.1 (by omega)) rfl
  · unfold f_X7_barred
    rw [if_neg m0]
    exact ob (pm_bad ht.2.2.1 ht.1 (by omega)) rfl
theorem op_personOf (h : Rl Z T1 T2 G R P U V R' ku) (T3 O B : TS) (M : LTS) (p1 : Int32) (p2 : Int32) : ∃ a Z' V', f_X6_personOf Z T1 T2 T3 G R P O B p1 p2 = some (a, Z') ∧ f_X7_personOf U V M R' p1 p2 = some (a, V') ∧ Rl Z' T1 T2 G R P U V' R' ku := by
  obtain ⟨t, ht, hs, hr, hp, hz, hk⟩ := id h
  rcases one_c ht p1 with ⟨p, hp1, rfl, g0, m0⟩ | ⟨g0, m0⟩
  rotate_left
  · refine ⟨(-2 : Int32), rz Z 0, rv V 0, ?_, ?_, h.ref (by decide)⟩
    · unfold f_X6_personOf
      rw [if_pos g0]
      exact ob (rc2 _ _ _ _ _ _ _ _) rfl
    · unfold f_X7_personOf
      rw [if_pos m0]
      exact ob (rm2 _ _ _) rfl
  rcases wi_c p2 0 7 (a := (0 : Int32)) (b := (7 : Int32)) (A := (0 : Int64)) (B := (7 : Int64)) rfl rfl (by decide) (by decide) (by decide) (by decide) with ⟨k, k0, hk7, rfl, g1, m1⟩ | ⟨g1, m1⟩
  rotate_left
  · refine ⟨(-2 : Int32), rz Z 0, rv V 0, ?_, ?_, h.ref (by decide)⟩
    · unfold f_X6_personOf
      rw [if_neg g0, if_pos g1]
      exact ob (rc2 _ _ _ _ _ _ _ _) rfl
    · unfold f_X7_personOf
      rw [if_neg m0, if_pos m1]
      exact ob (rm2 _ _ _) rfl
  have p7 := lt7 ht.1 hp1
  refine ⟨(if k = 0 then nI (t 11 p) else if k = 1 then nI (t 12 p) else if k = 2 then nI (t 7 p) else if k = 3 then nI (t 8 p) else if k = 4 then nI (t 9 p) else if k = 5 then nI (t 10 p) else if k = 6 then nI (knw t p) else nI (bar t p)), Z, V, ?_, ?_, h⟩
  · unfold f_X6_personOf
    rw [if_neg g0, if_neg g1]
    refine ob (q := (if k = 0 then nI (t 11 p) else if k = 1 then nI (t 12 p) else if k = 2 then nI (t 7 p) else if k = 3 then nI (t 8 p) else if k = 4 then nI (t 9 p) else if k = 5 then nI (t 10 p) else if k = 6 then nI (knw t p) else nI (bar t p))) ?_ rfl
    clear g0 m0 g1 m1
    unfold f_X5_factOf
    rw [if_neg (in7 p7), if_neg (in7 p7), if_neg (in7 p7), if_neg (in7 p7), if_neg (in7 p7), if_neg (in7 p7), cl7 p7, ht.2.1.kind hp1, ht.2.1.mark hp1, ht.2.1.see hp1, ht.2.1.half hp1, ht.2.1.heard hp1, ht.2.1.hears hp1, pc_knw ht.2.1 ht.1 hp1, pc_bar ht.2.1 ht.1 hp1]
    rcases (show k = 0 ∨ k = 1 ∨ k = 2 ∨ k = 3 ∨ k = 4 ∨ k = 5 ∨ k = 6 ∨ k = 7 by omega) with rfl | rfl | rfl | rfl | rfl | rfl | rfl | rfl <;> rfl
  · unfold f_X7_personOf
    rw [if_neg m0, if_neg m1]
    clear g0 m0 g1 m1
    rw [if_neg (in7 p7), if_neg (in7 p7), if_neg (in7 p7), if_neg (in7 p7), if_neg (in7 p7), if_neg (in7 p7), cl7 p7, ht.2.2.1.kind hp1, ht.2.2.1.mark hp1, ht.2.2.1.see hp1, ht.2.2.1.half hp1, ht.2.2.1.heard hp1, ht.2.2.1.hears hp1, pm_knw ht.2.2.1 ht.1 hp1, pm_bar ht.2.2.1 ht.1 hp1]
    rcases (show k = 0 ∨ k = 1 ∨ k = 2 ∨ k = 3 ∨ k = 4 ∨ k = 5 ∨ k = 6 ∨ k = 7 by omega) with rfl | rfl | rfl | rfl | rfl | rfl | rfl | rfl <;> rfl
theorem op_known (h : Rl Z T1 T2 G R P U V R' ku) (T3 O B : TS) (M : LTS) : ∃ a, f_X6_known Z T1 T2 T3 G R P O B  = some a ∧ f_X7_known U V M R'  = some a ∧ Rl Z T1 T2 G R P U V R' ku := by
  obtain ⟨t, ht, hs, hr, hp, hz, hk⟩ := id h
  exact ⟨_, ob (pc_kal ht.2.1 ht.1) rfl, ob (pm_kal ht.2.2.1 ht.1) rfl, h⟩
theorem op_pairs (h : Rl Z T1 T2 G R P U V R' ku) (T3 O B : TS) (M : LTS) : ∃ a, f_X6_pairs Z T1 T2 T3 G R P O B  = some a ∧ f_X7_pairs U V M R'  = some a ∧ Rl Z T1 T2 G R P U V R' ku := by
  obtain ⟨t, ht, hs, hr, hp, hz, hk⟩ := id h
  exact ⟨_, ob (pc_prs ht.2.1 ht.1) rfl, ob (pm_prs ht.2.2.1 ht.1) rfl, h⟩
theorem op_alone (h : Rl Z T1 T2 G R P U V R' ku) (T3 O B : TS) (M : LTS) : ∃ a, f_X6_alone Z T1 T2 T3 G R P O B  = some a ∧ f_X7_alone U V M R'  = some a ∧ Rl Z T1 T2 G R P U V R' ku := by
  obtain ⟨t, ht, hs, hr, hp, hz, hk⟩ := id h
  exact ⟨_, ob (pc_aln ht.2.1 ht.1) rfl, pm_aln ht.2.2.1 ht.1 V M R', h⟩
theorem op_loudest (h : Rl Z T1 T2 G R P U V R' ku) (T3 O B : TS) (M : LTS) : ∃ a Z' V', f_X6_loudest Z T1 T2 T3 G R P O B  = some (a, Z') ∧ f_X7_loudest U V M R'  = some (a, V') ∧ Rl Z' T1 T2 G R P U V' R' ku := by
  obtain ⟨t, ht, hs, hr, hp, hz, hk⟩ := id h
  have h7 := ht.1.n7
  by_cases n0 : t 1 0 = 0
  · have e6 : T1 1 0 = 0 := by rw [ht.2.1.n, n0]; rfl
    have e7 : U 10 0 = 0 := by rw [ht.2.2.1.n, n0]; rfl
    refine ⟨(-5 : Int32), rz Z 3, rv V 3, ?_, ?_, h.ref (by decide)⟩
    · unfold f_X6_loudest
      rw [if_pos e6]
      exact ob (rc5 _ _ _ _ _ _ _ _) rfl
    · unfold f_X7_loudest
      rw [if_pos e7]
      exact ob (rm5 _ _ _) rfl
  · have e6 : ¬ T1 1 0 = 0 := by rw [ht.2.1.n]; exact nI_ne0 (by omega) (by omega)
    have e7 : ¬ U 10 0 = 0 := by rw [ht.2.2.1.n]; exact nI_ne0 (by omega) (by omega)
    refine ⟨nI (lou t), Z, V, ?_, ?_, h⟩
    · unfold f_X6_loudest
      rw [if_neg e6]
      exact ob (pc_lou ht.2.1 ht.1 (by omega)) rfl
    · unfold f_X7_loudest
      rw [if_neg e7]
      exact ob (pm_lou ht.2.2.1 ht.1 (by omega)) rfl
theorem op_round (h : Rl Z T1 T2 G R P U V R' ku) (T3 O B : TS) (M : LTS) : ∃ a T1' U', f_X6_round Z T1 T2 T3 G R P O B  = some (a, T1') ∧ f_X7_round U V M R'  = some (a, U') ∧ Rl Z T1' T2 G R P U' V R' ku := by
  obtain ⟨t, ht, hs, hr, hp, hz, hk⟩ := id h
  obtain ⟨T', b1, b2, b3⟩ := pc_round ht.2.1 ht.1
  obtain ⟨U', c1, c2, c3⟩ := pm_round ht.2.2.1 ht.1
  refine ⟨_, T', U', ob b1 (ob (pc_kal b2 (rnd_wf ht.1)) rfl), ob c1 (ob (pm_kal c2 (rnd_wf ht.1)) rfl), _, ht.via (rnd_wf ht.1) b2 c2 (by rw [b3 5 (by decide) (by decide)]) (by rw [b3 6 (by decide) (by decide)]) (by rw [c3 18 (by decide) (by decide)]) (by rw [c3 19 (by decide) (by decide)]), ?_, hr, hp, hz, hk⟩
  rw [rnd_ne t 1 (by decide)]
  exact hs
theorem op_seed (h : Rl Z T1 T2 G R P U V R' ku) (T3 O B : TS) (M : LTS) (p1 : Int32) : ∃ a T1' U', f_X6_seed Z T1 T2 T3 G R P O B p1 = some (a, T1') ∧ f_X7_seed U V M R' p1 = some (a, U') ∧ Rl Z T1' T2 G R P U' V R' ku := by
  obtain ⟨t, ht, hs, hr, hp, hz, hk⟩ := id h
  refine ⟨T1 6 0, up T1 6 (fun _ => p1), up U 19 (fun _ => p1), rfl, ?_, t, ⟨ht.1, ht.2.1.junk (by decide), ht.2.2.1.junk (by decide), ht.2.2.2.1, rfl⟩, hs, hr, hp, hz, hk⟩
  unfold f_X7_seed
  rw [ht.2.2.2.2]
theorem TR.sgt {t : Tn} {T U : TS} (h : TR t T U) {n : Nat} (h1 : t 0 0 ≤ n) (h2 : n ≤ 8) : TR (upn t 0 (fun _ => n)) (up T 0 (fun _ => nI n)) (up U 9 (fun _ => nI n)) := by
  have h4 := h.1.1.1
  have hb : ∀ j p : Nat, 7 ≤ j → j ≤ 12 → p < t 1 0 → t j p < bnd (upn t 0 (fun _ => n)) j := fun j p a b c => by
    have h3 := h.1.2 j p a b c
    have hp : 2 ^ t 0 0 ≤ 2 ^ n := Nat.pow_le_pow_right (by decide) h1
    have e1 : upn t 0 (fun _ => n) 1 = t 1 := upn_ne t _ (by decide)
    have e0 : upn t 0 (fun _ => n) 0 0 = n := rfl
    unfold bnd at h3 ⊢
    rw [e1, e0]
    split at h3
    · rename_i z; rw [if_pos z]; exact h3
    · rename_i z; rw [if_neg z]
      split at h3
      · rename_i z; rw [if_pos z]; exact h3
      · rename_i z; rw [if_neg z]
        split at h3
        · rename_i z; rw [if_pos z]; exact h3
        · rename_i z; rw [if_neg z]; omega
  refine ⟨⟨⟨?_, h2, h.1.1.2.2⟩, fun j p a b c => ?_⟩, ⟨fun j hj => ?_, fun j p a b c => ?_⟩, ⟨rfl, h.2.2.1.2.1, h.2.2.1.2.2.1, fun j p a b c => ?_⟩, h.2.2.2⟩
  · show 4 ≤ n
    omega
  · have c : p < t 1 0 := c
    rw [upn_ne t _ (by omega)]
    exact hb j p a b c
  · by_cases e : j = 0
    · subst e; rfl
    · rw [up_ne T _ e, upn_ne t _ e]; exact h.2.1.1 j hj
  · have c : p < t 1 0 := c
    rw [up_ne T _ (by omega), upn_ne t _ (by omega)]
    exact h.2.1.2 j p a b c
  · have c : p < t 1 0 := c
    have l := mj_lt a b
    rw [up_ne U _ (by omega), upn_ne t _ (by omega)]
    exact h.2.2.1.2.2.2 j p a b c
theorem op_sights (h : Rl Z T1 T2 G R P U V R' ku) (T3 O B : TS) (M : LTS) (p1 : Int32) : ∃ a Z' T1' U' V', f_X6_sights Z T1 T2 T3 G R P O B p1 = some (a, Z', T1') ∧ f_X7_sights U V M R' p1 = some (a, U', V') ∧ Rl Z' T1' T2 G R P U' V' R' ku := by
  obtain ⟨t, ht, hs, hr, hp, hz, hk⟩ := id h
  have h8 := ht.1.1.2.1
  rcases wi_c p1 (t 0 0) 8 (a := T1 0 0) (b := (8 : Int32)) (A := (U 9 0).toInt64) (B := (8 : Int64)) (ht.2.1.1 0 (by decide)) rfl (by rw [ht.2.2.1.1, ht.2.1.1 0 (by decide)]) (by decide) h8 (by decide) with ⟨k, k1, k2, rfl, g0, m0⟩ | ⟨g0, m0⟩
  rotate_left
  · refine ⟨(-2 : Int32), rz Z 0, T1, U, rv V 0, ?_, ?_, h.ref (by decide)⟩
    · unfold f_X6_sights
      rw [if_pos g0]
      exact ob (rc2 _ _ _ _ _ _ _ _) rfl
    · unfold f_X7_sights
      rw [if_pos m0]
      exact ob (rm2 _ _ _) rfl
  refine ⟨nI (t 0 0), Z, up T1 0 (fun _ => nI k), up U 9 (fun _ => nI k), V, ?_, ?_, _, ht.sgt k1 k2, hs, hr, hp, hz, hk⟩
  · unfold f_X6_sights
    rw [if_neg g0, ht.2.1.1 0 (by decide)]
  · unfold f_X7_sights
    rw [if_neg m0, ht.2.2.1.1]
theorem TR.ask {t : Tn} {T U : TS} (h : TR t T U) {k v : Nat} (hk : k < 3) (hv : v ≤ (if k = 0 then 1 else 9)) : TR (upn t (k + 2) (fun _ => v)) (up T (k + 2) (fun _ => nI v)) (up U 17 (upd (U 17) k (nI v))) := by
  have e0 : upn t (k + 2) (fun _ => v) 0 = t 0 := upn_ne t _ (by omega)
  have e1 : upn t (k + 2) (fun _ => v) 1 = t 1 := upn_ne t _ (by omega)
  have es : ∀ j, 2 ≤ j → j < 5 → upn t (k + 2) (fun _ => v) j 0 ≤ (if j = 2 then 1 else 9) := fun j a b => by
    by_cases e : j = k + 2
    · subst e; rw [upn_same]
      by_cases z : k = 0
      · subst z; exact hv
      · rw [if_neg z] at hv; rw [if_neg (by omega)]; exact hv
    · rw [upn_ne t _ e]
      have := h.1.1.2.2.2
      rcases (show j = 2 ∨ j = 3 ∨ j = 4 by omega) with rfl | rfl | rfl
      · exact this.1
      · exact this.2.1
      · exact this.2.2
  refine ⟨⟨⟨by rw [e0]; exact h.1.1.1, by rw [e0]; exact h.1.1.2.1, by rw [e1]; exact h.1.1.2.2.1, es 2 (by decide) (by decide), es 3 (by decide) (by decide), es 4 (by decide) (by decide)⟩, fun j p a b c => ?_⟩, ⟨fun j hj => ?_, fun j p a b c => ?_⟩, ⟨by rw [e0]; exact h.2.2.1.1, by rw [e1]; exact h.2.2.1.2.1, fun j hj => ?_, fun j p a b c => ?_⟩, ?_, by rw [up_ne T _ (by omega)]; exact h.2.2.2.2⟩
  · rw [e1] at c
    have hb : bnd (upn t (k + 2) (fun _ => v)) j = bnd t j := by unfold bnd; rw [e0, e1]
    rw [hb, upn_ne t _ (by omega)]
    exact h.1.2 j p a b c
  · by_cases e : j = k + 2
    · subst e; rw [up_same, upn_same]
    · rw [up_ne T _ e, upn_ne t _ e]; exact h.2.1.1 j hj
  · rw [e1] at c
    rw [up_ne T _ (by omega), upn_ne t _ (by omega)]
    exact h.2.1.2 j p a b c
  · rw [up_same]
    by_cases e : j = k
    · subst e; rw [pk_us, upn_same]
    · rw [pk_un e, upn_ne t _ (by omega)]; exact h.2.2.1.2.2.1 j hj
  · rw [e1] at c
    have l := mj_lt a b
    rw [up_ne U _ (by omega), upn_ne t _ (by omega)]
    exact h.2.2.1.2.2.2 j p a b c
  · rw [up_ne T _ (by omega)]
    exact h.2.2.2.1
theorem op_ask (h : Rl Z T1 T2 G R P U V R' ku) (T3 O B : TS) (M : LTS) (p1 : Int32) (p2 : Int32) : ∃ a Z' T1' U' V', f_X6_ask Z T1 T2 T3 G R P O B p1 p2 = some (a, Z', T1') ∧ f_X7_ask U V M R' p1 p2 = some (a, U', V') ∧ Rl Z' T1' T2 G R P U' V' R' ku := by
  obtain ⟨t, ht, hs, hr, hp, hz, hk⟩ := id h
  rcases wi_c p1 0 2 (a := (0 : Int32)) (b := (2 : Int32)) (A := (0 : Int64)) (B := (2 : Int64)) rfl rfl (by decide) (by decide) (by decide) (by decide) with ⟨k, k0, hk2, rfl, g0, m0⟩ | ⟨g0, m0⟩
  rotate_left
  · refine ⟨(-2 : Int32), rz Z 0, T1, U, rv V 0, ?_, ?_, h.ref (by decide)⟩
    · unfold f_X6_ask
      rw [if_pos g0]
      exact ob (rc2 _ _ _ _ _ _ _ _) rfl
    · unfold f_X7_ask
      rw [if_pos m0]
      exact ob (rm2 _ _ _) rfl
  have hmo : f_X5_mostOf (nI k) = nI (if k = 0 then 1 else 9) := by
    rcases (show k = 0 ∨ k = 1 ∨ k = 2 by omega) with rfl | rfl | rfl <;> rfl
  rcases wi_c p2 0 (if k = 0 then 1 else 9) (a := (0 : Int32)) (b := f_X5_mostOf (nI k)) (A := (0 : Int64)) (B := (f_X7_mostOf (nI k)).toInt64) rfl hmo (by decide) rfl (by split <;> decide) (by split <;> decide) with ⟨v, v0, hv, rfl, g1, m1⟩ | ⟨g1, m1⟩
  rotate_left
  · refine ⟨(-2 : Int32), rz Z 0, T1, U, rv V 0, ?_, ?_, h.ref (by decide)⟩
    · unfold f_X6_ask
      rw [if_neg g0, if_pos g1]
      exact ob (rc2 _ _ _ _ _ _ _ _) rfl
    · unfold f_X7_ask
      rw [if_neg m0, if_pos m1]
      exact ob (rm2 _ _ _) rfl
  have hT := ht.ask (k := k) (v := v) (by omega) hv
  refine ⟨nI (t (k + 2) 0), Z, up T1 (k + 2) (fun _ => nI v), up U 17 (upd (U 17) k (nI v)), V, ?_, ?_, _, hT, by rw [upn_ne t _ (show 1 ≠ k + 2 by omega)]; exact hs, hr, hp, hz, hk⟩
  · unfold f_X6_ask
    rw [if_neg g0, if_neg g1]
    clear g0 m0 g1 m1 hmo hT hv
    have e2 := ht.2.1.1 2 (by decide)
    have e3 := ht.2.1.1 3 (by decide)
    have e4 := ht.2.1.1 4 (by decide)
    rcases (show k = 0 ∨ k = 1 ∨ k = 2 by omega) with rfl | rfl | rfl
    · show some (T1 2 0, Z, _) = _
      rw [e2]
    · show some (T1 3 0, Z, _) = _
      rw [e3]
    · show some (T1 4 0, Z, _) = _
      rw [e4]
  · unfold f_X7_ask
    rw [if_neg m0, if_neg m1, if_neg (nI_in (show k < 3 by omega) (by decide)), nI_clamp (by omega), ht.2.2.1.2.2.1 k (by omega)]
def jn (t : Tn) (k a : Nat) : Tn := fun j => if j = 1 then (fun _ => t 1 0 + 1) else if 7 ≤ j ∧ j ≤ 12 then updn (t j) (t 1 0) (if j = 11 then k else if j = 12 then a else 0) else t j
theorem jn_sc (t : Tn) (k a : Nat) {j : Nat} (h1 : j ≠ 1) (h : j < 7) : jn t k a j = t j := by
  show (if j = 1 then _ else if 7 ≤ j ∧ j ≤ 12 then _ else t j) = t j
  rw [if_neg h1, if_neg (by omega)]
theorem jn_ar (t : Tn) (k a : Nat) {j : Nat} (h1 : 7 ≤ j) (h2 : j ≤ 12) : jn t k a j = updn (t j) (t 1 0) (if j = 11 then k else if j = 12 then a else 0) := by
  show (if j = 1 then _ else if 7 ≤ j ∧ j ≤ 12 then _ else t j) = _
  rw [if_neg (by omega), if_pos ⟨h1, h2⟩]
theorem jn_wf {t : Tn} (hw : wf t) {k a : Nat} (hn : t 1 0 < 7) (hk : k < 6) (ha : a < 10) : wf (jn t k a) := by
  have e0 : jn t k a 0 = t 0 := jn_sc t k a (by decide) (by decide)
  have e2 : jn t k a 2 = t 2 := jn_sc t k a (by decide) (by decide)
  have e3 : jn t k a 3 = t 3 := jn_sc t k a (by decide) (by decide)
  have e4 : jn t k a 4 = t 4 := jn_sc t k a (by decide) (by decide)
  refine ⟨⟨by rw [e0]; exact hw.1.1, by rw [e0]; exact hw.1.2.1, hn, by rw [e2]; exact hw.1.2.2.2.1, by rw [e3]; exact hw.1.2.2.2.2.1, by rw [e4]; exact hw.1.2.2.2.2.2⟩, fun j p h1 h2 hp => ?_⟩
  have hp : p < t 1 0 + 1 := hp
  rw [jn_ar t k a h1 h2]
  have hb : bnd (jn t k a) j = if j = 10 then 2 ^ (t 1 0 + 1) else if j = 11 then 6 else if j = 12 then 10 else 2 ^ t 0 0 := by unfold bnd; rw [e0]; rfl
  rw [hb]
  by_cases e : p = t 1 0
  · subst e
    rw [updn_same]
    have z0 := Nat.two_pow_pos (t 0 0)
    have z1 := Nat.two_pow_pos (t 1 0 + 1)
    rcases (show j = 7 ∨ j = 8 ∨ j = 9 ∨ j = 10 ∨ j = 11 ∨ j = 12 by omega) with rfl | rfl | rfl | rfl | rfl | rfl
    · exact z0
    · exact z0
    · exact z0
    · exact z1
    · exact hk
    · exact ha
  · rw [updn_ne _ _ e]
    have h3 := hw.2 j p h1 h2 (by omega)
    have z1 : 2 ^ t 1 0 ≤ 2 ^ (t 1 0 + 1) := Nat.pow_le_pow_right (by decide) (by omega)
    rcases (show j = 7 ∨ j = 8 ∨ j = 9 ∨ j = 10 ∨ j = 11 ∨ j = 12 by omega) with rfl | rfl | rfl | rfl | rfl | rfl
    · exact h3
    · exact h3
    · exact h3
    · exact Nat.lt_of_lt_of_le h3 z1
    · exact h3
    · exact h3
theorem pc_join {t : Tn} {T : TS} (h : TC t T) (hw : wf t) {k a : Nat} (hn : t 1 0 < 7) : ∃ T', f_X5_join T (nI k) (nI a) = some (nI (t 1 0), T') ∧ TC (jn t k a) T' ∧ T' 5 = T 5 ∧ T' 6 = T 6 := by
  unfold f_X5_join
  rw [h.n, if_neg (in7 hn), cl7 hn]
  refine ⟨_, rfl, ⟨fun j hj => ?_, fun j p h1 h2 hp => ?_⟩, rfl, rfl⟩
  · by_cases e : j = 1
    · subst e
      show nI (t 1 0) + 1 = nI (t 1 0 + 1)
      rw [nI_1]
    · rw [jn_sc t k a e (by omega), ← h.1 j hj]
      rcases (show j = 0 ∨ j = 2 ∨ j = 3 ∨ j = 4 by omega) with rfl | rfl | rfl | rfl <;> rfl
  · have hp : p < t 1 0 + 1 := hp
    rw [jn_ar t k a h1 h2]
    have hu : ∀ (f : Nat → Int32) (g : Nat → Nat) (m : Nat), (p < t 1 0 → f p = nI (g p)) → upd f (t 1 0) (nI m) p = nI (updn g (t 1 0) m p) := fun f g m hf => by
      by_cases e : p = t 1 0
      · subst e; rw [pk_us, updn_same]
      · rw [pk_un e, updn_ne _ _ e, hf (by omega)]
    rcases (show j = 7 ∨ j = 8 ∨ j = 9 ∨ j = 10 ∨ j = 11 ∨ j = 12 by omega) with rfl | rfl | rfl | rfl | rfl | rfl
    · exact hu (T 7) (t 7) 0 (fun hp => h.see hp)
    · exact hu (T 8) (t 8) 0 (fun hp => h.half hp)
    · exact hu (T 9) (t 9) 0 (fun hp => h.heard hp)
    · exact hu (T 10) (t 10) 0 (fun hp => h.hears hp)
    · exact hu (T 11) (t 11) k (fun hp => h.kind hp)
    · exact hu (T 12) (t 12) a (fun hp => h.mark hp)
theorem pm_join {t : Tn} {T : TS} (h : TM t T) (hw : wf t) {k a : Nat} (hn : t 1 0 < 7) : ∃ T', f_X7_addOne T (nI k) (nI a) = some T' ∧ TM (jn t k a) T' ∧ T' 18 = T 18 ∧ T' 19 = T 19 := by
  unfold f_X7_addOne
  rw [h.n, if_neg (in7 hn), cl7 hn]
  refine ⟨_, rfl, ⟨h.1, ?_, fun j hj => ?_, fun j p h1 h2 hp => ?_⟩, rfl, rfl⟩
  · show nI (t 1 0) + 1 = nI (t 1 0 + 1)
    rw [nI_1]
  · rw [jn_sc t k a (by omega) (by omega)]
    exact h.2.2.1 j hj
  · have hp : p < t 1 0 + 1 := hp
    rw [jn_ar t k a h1 h2]
    have hu : ∀ (f : Nat → Int32) (g : Nat → Nat) (m : Nat), (p < t 1 0 → f p = nI (g p)) → upd f (t 1 0) (nI m) p = nI (updn g (t 1 0) m p) := fun f g m hf => by
      by_cases e : p = t 1 0
      · subst e; rw [pk_us, updn_same]
      · rw [pk_un e, updn_ne _ _ e, hf (by omega)]
    rcases (show j = 7 ∨ j = 8 ∨ j = 9 ∨ j = 10 ∨ j = 11 ∨ j = 12 by omega) with rfl | rfl | rfl | rfl | rfl | rfl
    · exact hu (T 13) (t 7) 0 (fun hp => h.see hp)
    · exact hu (T 14) (t 8) 0 (fun hp => h.half hp)
    · exact hu (T 15) (t 9) 0 (fun hp => h.heard hp)
    · exact hu (T 16) (t 10) 0 (fun hp => h.hears hp)
    · exact hu (T 11) (t 11) k (fun hp => h.kind hp)
    · exact hu (T 12) (t 12) a (fun hp => h.mark hp)
theorem op_person (h : Rl Z T1 T2 G R P U V R' ku) (T3 O B : TS) (M : LTS) (p1 : Int32) (p2 : Int32) : ∃ a Z' T1' U' V', f_X6_person Z T1 T2 T3 G R P O B p1 p2 = some (a, Z', T1') ∧ f_X7_person U V M R' p1 p2 = some (a, U', V') ∧ Rl Z' T1' T2 G R P U' V' R' ku := by
  obtain ⟨t, ht, hs, hr, hp, hz, hk⟩ := id h
  rcases wi_c p1 0 5 (a := (0 : Int32)) (b := (5 : Int32)) (A := (0 : Int64)) (B := (5 : Int64)) rfl rfl (by decide) (by decide) (by decide) (by decide) with ⟨k, k0, hk5, rfl, g0, m0⟩ | ⟨g0, m0⟩
  rotate_left
  · refine ⟨(-2 : Int32), rz Z 0, T1, U, rv V 0, ?_, ?_, h.ref (by decide)⟩
    · unfold f_X6_person f_X6_isKind
      rw [if_pos g0]
      exact ob (rc2 _ _ _ _ _ _ _ _) rfl
    · unfold f_X7_person
      rw [if_pos m0]
      exact ob (rm2 _ _ _) rfl
  rcases wi_c p2 0 9 (a := (0 : Int32)) (b := (9 : Int32)) (A := (0 : Int64)) (B := (9 : Int64)) rfl rfl (by decide) (by decide) (by decide) (by decide) with ⟨v, v0, hv, rfl, g1, m1⟩ | ⟨g1, m1⟩
  rotate_left
  · refine ⟨(-2 : Int32), rz Z 0, T1, U, rv V 0, ?_, ?_, h.ref (by decide)⟩
    · unfold f_X6_person f_X6_isKind
      rw [if_neg g0, if_pos g1]
      exact ob (rc2 _ _ _ _ _ _ _ _) rfl
    · unfold f_X7_person
      rw [if_neg m0, if_pos m1]
      exact ob (rm2 _ _ _) rfl
  have h7 := ht.1.n7
  by_cases n7 : t 1 0 = 7
  · refine ⟨(-6 : Int32), rz Z 4, T1, U, rv V 4, ?_, ?_, h.ref (by decide)⟩
    · unfold f_X6_person f_X6_isKind f_X5_isFull
      rw [if_neg g0, if_neg g1, ht.2.1.n, n7, if_neg (show ¬ (if nI 7 < (7 : Int32) then (0 : Int32) else (1 : Int32)) = 0 by decide)]
      exact ob (rc6 _ _ _ _ _ _ _ _) rfl
    · unfold f_X7_person
      rw [if_neg m0, if_neg m1, ht.2.2.1.n, n7, if_pos (show nI 7 = (7 : Int32) from rfl)]
      exact ob (rm6 _ _ _) rfl
  · obtain ⟨T', b1, b2, b3, b4⟩ := pc_join ht.2.1 ht.1 (k := k) (a := v) (by omega)
    obtain ⟨U', c1, c2, c3, c4⟩ := pm_join ht.2.2.1 ht.1 (k := k) (a := v) (by omega)
    refine ⟨nI (t 1 0), Z, T', U', V, ?_, ?_, _, ht.via (jn_wf ht.1 (k := k) (a := v) (by omega) (by omega) (by omega)) b2 c2 (by rw [b3]) (by rw [b4]) (by rw [c3]) (by rw [c4]), hs.mono (Nat.le_succ _), hr, hp, hz, hk⟩
    · unfold f_X6_person f_X6_isKind f_X5_isFull
      rw [if_neg g0, if_neg g1, ht.2.1.n, if_pos (show nI (t 1 0) < (7 : Int32) from nI_lt (b := 7) (by omega) (by decide)), if_pos rfl]
      exact ob b1 rfl
    · unfold f_X7_person
      rw [if_neg m0, if_neg m1, ht.2.2.1.n, ifL n7 (by omega) (by decide)]
      refine ob c1 ?_
      show some (U' 10 0 - 1, U', V) = _
      rw [c2.n, show jn t k v 1 0 = t 1 0 + 1 from rfl, nI_pred]
end OPS
