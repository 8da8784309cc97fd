/-! ===== the law: its start ===== -/
theorem inlX6 : ∀ w ∈ wsX60, w ∈ wsL_law := fun _ h => List.mem_append_left _ (List.mem_append_left _ (List.mem_append_left _ (List.mem_append_left _ (List.mem_append_left _ (List.mem_append_left _ (List.mem_append_left _ (List.mem_append_left _ (List.mem_append_right _ h))))))))
theorem inlX7 : ∀ w ∈ wsX70, w ∈ wsL_law := fun _ h => List.mem_append_left _ (List.mem_append_left _ (List.mem_append_left _ (List.mem_append_left _ (List.mem_append_left _ (List.mem_append_left _ (List.mem_append_left _ (List.mem_append_right _ h)))))))
theorem in_rr {big : List Cond} (ws : List Cond) (ps : List Nat) (hp : ws = ps.filterMap (fun i => big[i]?)) : ∀ w ∈ ws, w ∈ big := by
  intro w hw
  rw [hp] at hw
  obtain ⟨i, -, hi⟩ := List.mem_filterMap.mp hw
  exact List.mem_of_getElem? hi
def wsZs : List Cond := [Cond.instantiable RX0 3, Cond.instantiable RX1 7, Cond.instantiable RX2 2, Cond.instantiable RX3 3, Cond.instantiable RX4 6, Cond.instantiable RX5 14, Cond.instantiable RX6 10, Cond.instantiable RX7 33, Cond.arrayClass .int, Cond.arrayClass .long, Cond.arrayOver (.array .int), Cond.arrayOver (.array .long), Cond.laysStatic "java/lang/String" "COMPACT_STRINGS" "Z", Cond.initialized "java/lang/String", Cond.laysStatic "jdk/internal/util/Preconditions" "SIOOBE_FORMATTER" "Ljava/util/function/BiFunction;", Cond.initialized "jdk/internal/util/Preconditions", Cond.stringRef RX4 63 "sights", Cond.stringRef RX4 72 "person", Cond.stringRef RX4 86 "saw", Cond.stringRef RX4 92 "half", Cond.stringRef RX4 94 "heard", Cond.stringRef RX4 99 "hears", Cond.stringRef RX4 104 "dusk", Cond.stringRef RX4 109 "signs", Cond.stringRef RX4 111 "lies", Cond.stringRef RX7 207 "sights", Cond.stringRef RX7 208 "person", Cond.stringRef RX7 200 "saw", Cond.stringRef RX7 216 "half", Cond.stringRef RX7 206 "heard", Cond.stringRef RX7 217 "hears", Cond.stringRef RX7 221 "dusk", Cond.stringRef RX7 226 "signs", Cond.stringRef RX7 228 "lies"]
set_option maxRecDepth 20000 in
theorem wsZs_in : ∀ w ∈ wsZs, w ∈ lw_tbl := in_rr _ [255, 225, 212, 166, 185, 96, 88, 1070, 164, 183, 231, 172, 556, 83, 572, 85, 542, 605, 616, 636, 622, 641, 647, 654, 655, 1337, 1356, 1361, 1367, 1362, 1368, 1373, 1378, 1379] (by decide +kernel)
set_option maxRecDepth 20000 in
theorem nest_in : ∀ w ∈ nestL.map (fun q => Cond.methodLinkNest q.1 q.2.1 q.2.2 RX6), w ∈ lw_tbl := in_rr _ [97, 167, 186, 327, 410, 428, 463, 468, 603, 604, 761, 817, 820, 969, 1004] (by decide +kernel)
theorem lw_eqI {args : Array Value} {s : State} {t : Term} {x : Int32} (h : (Cond.eq t (.int x)).before args s = true) : t.eval args s none [] s = some (.int x) := by
  unfold Cond.before at h
  simp only [Cond.holds, Cond.value, Term.eval] at h
  cases ht : t.eval args s none [] s with
  | none => simp [ht] at h
  | some w => cases w <;> simp [ht] at h; rw [h]
theorem lw_eqT {args : Array Value} {s : State} {t u : Term} {a : Nat} (h : (Cond.eq t u).before args s = true) (h1 : t.eval args s none [] s = some (.ref a)) : u.eval args s none [] s = some (.ref a) := by
  unfold Cond.before at h
  simp only [Cond.holds, Cond.value] at h
  rw [h1] at h
  cases hu : u.eval args s none [] s with
  | none => simp [hu] at h
  | some w => cases w <;> simp [hu] at h; rw [h]
theorem lw_arr {ty : FieldType} {args : Array Value} {s : State} (h : (Cond.arrayClass ty).before args s = true) : ∃ cA : ClassId, ArrOfT s cA ty ∧ s.vm.findClass ("[" ++ ty.toString) = some cA := by
  obtain ⟨c, k, comp, h1, h2, h3⟩ := Cond.arrayClass_spec h
  exact ⟨c, fun n z => ⟨fun k h => (by cases h), k, h2, comp, h3⟩, h1⟩
theorem lw_arr2 {ty : FieldType} {args : Array Value} {s : State} (h : (Cond.arrayOver (.array ty)).before args s = true) : ∃ cA : ClassId, ArrOfT s cA (.array ty) ∧ s.vm.findClass ("[" ++ (FieldType.array ty).toString) = some cA := by
  obtain ⟨comp, c, k, h1, h2, h3, h4⟩ := Cond.arrayOver_specA h
  exact ⟨c, fun n z => ⟨fun k h => (by cases h), k, h2, comp, h3⟩, h4⟩
set_option maxRecDepth 20000 in
theorem lw_Kn {args : Array Value} {s : State} (hts : ∀ w ∈ lw_tbl, w.before args s = true) : ∃ g : Gm, Kn g s := by
  obtain ⟨c0, i0, k0⟩ := u_known (C := RX0) (T := TX0) (N := 3) (n := 3) hts in_wsX00 (hts _ (wsZs_in _ (mi 0 rfl)))
  obtain ⟨c1, i1, k1⟩ := u_known (C := RX1) (T := TX1) (N := 7) (n := 7) hts in_wsX10 (hts _ (wsZs_in _ (mi 1 rfl)))
  obtain ⟨c2, i2, k2⟩ := u_known (C := RX2) (T := TX2) (N := 2) (n := 2) hts in_wsX20 (hts _ (wsZs_in _ (mi 2 rfl)))
  obtain ⟨c3, i3, k3⟩ := u_known (C := RX3) (T := TX3) (N := 3) (n := 3) hts in_wsX30 (hts _ (wsZs_in _ (mi 3 rfl)))
  obtain ⟨c4, i4, k4⟩ := u_known (C := RX4) (T := TX4) (N := 6) (n := 6) hts in_wsX40 (hts _ (wsZs_in _ (mi 4 rfl)))
  obtain ⟨c5, i5, k5⟩ := u_known (C := RX5) (T := TX5) (N := 14) (n := 14) hts in_wsX50 (hts _ (wsZs_in _ (mi 5 rfl)))
  obtain ⟨c6, i6, k6⟩ := u_known (C := RX6) (T := TX6) (N := 10) (n := 10) hts in_wsX60 (hts _ (wsZs_in _ (mi 6 rfl)))
  obtain ⟨c7, i7, k7⟩ := u_known (C := RX7) (T := TX7) (N := 33) (n := 33) hts in_wsX70 (hts _ (wsZs_in _ (mi 7 rfl)))
  obtain ⟨a0, p0, q0⟩ := lw_arr (hts _ (wsZs_in _ (mi 8 rfl)))
  obtain ⟨a1, p1, q1⟩ := lw_arr (hts _ (wsZs_in _ (mi 9 rfl)))
  obtain ⟨a2, p2, q2⟩ := lw_arr2 (hts _ (wsZs_in _ (mi 10 rfl)))
  obtain ⟨a3, p3, q3⟩ := lw_arr2 (hts _ (wsZs_in _ (mi 11 rfl)))
  refine ⟨((fun k => match k with | 0 => c0 | 1 => c1 | 2 => c2 | 3 => c3 | 4 => c4 | 5 => c5 | 6 => c6 | _ => c7, fun k => match k with | 0 => i0 | 1 => i1 | 2 => i2 | 3 => i3 | 4 => i4 | 5 => i5 | 6 => i6 | _ => i7), fun k => match k with | 0 => a0 | 1 => a1 | 2 => a2 | _ => a3), ⟨?_, ?_⟩, ?_, ?_, ?_⟩
  · intro k q hq
    match k, hq with
    | 0, hq => cases hq; exact k0
    | 1, hq => cases hq; exact k1
    | 2, hq => cases hq; exact k2
    | 3, hq => cases hq; exact k3
    | 4, hq => cases hq; exact k4
    | 5, hq => cases hq; exact k5
    | 6, hq => cases hq; exact k6
    | 7, hq => cases hq; exact k7
    | k + 8, hq => simp [vwCl] at hq
  · intro k q hq
    match k, hq with
    | 0, hq => cases hq; exact ⟨p0, q0⟩
    | 1, hq => cases hq; exact ⟨p1, q1⟩
    | 2, hq => cases hq; exact ⟨p2, q2⟩
    | 3, hq => cases hq; exact ⟨p3, q3⟩
    | k + 4, hq => simp [tysG] at hq
  · exact fun q hq => va_Nw.of rfl (hts _ (nest_in _ (List.mem_map.mpr ⟨q, hq, rfl⟩)))
  · exact va_AOA.of (hts _ (wsZs_in _ (mi 10 rfl)))
  · exact va_AOA.of (hts _ (wsZs_in _ (mi 11 rfl)))
set_option maxRecDepth 20000 in
theorem sg_ex : ∀ i, i < 9 → Cond.exactly (.string RX4 (ixT i)) "java/lang/String" ∈ flatC (Jvm.Cond.and given_1 narrow_1) := by decide +kernel
set_option maxRecDepth 20000 in
theorem sg_co : ∀ i, i < 9 → Cond.eq (.field (.string RX4 (ixT i)) "java/lang/String" "coder" "B") (.int 0) ∈ flatC (Jvm.Cond.and given_1 narrow_1) := by decide +kernel
set_option maxRecDepth 20000 in
theorem sg_ar : ∀ i, i < 9 → Cond.arrayOf (.field (.string RX4 (ixT i)) "java/lang/String" "value" "[B") .byte ∈ flatC (Jvm.Cond.and given_1 narrow_1) := by decide +kernel
set_option maxRecDepth 20000 in
theorem sg_le : ∀ i, i < 9 → Cond.eq (.length (.field (.string RX4 (ixT i)) "java/lang/String" "value" "[B")) (.int (Int32.ofNat (lenS.getD i 0))) ∈ flatC (Jvm.Cond.and given_1 narrow_1) := by decide +kernel
set_option maxRecDepth 20000 in
theorem sg_el : ∀ i, i < 9 → ∀ j, j < lenS.getD i 0 → Cond.eq (.elem (.field (.string RX4 (ixT i)) "java/lang/String" "value" "[B") (.int (Int32.ofNat j))) (.int ((bytS.getD i []).getD j 0)) ∈ flatC (Jvm.Cond.and given_1 narrow_1) := by decide +kernel
set_option maxRecDepth 20000 in
theorem sg_ne : ∀ i, i < 9 → ∀ j, j < 9 → i ≠ j → (Cond.not (Cond.eq (.string RX4 (ixT i)) (.string RX4 (ixT j))) ∈ flatC (Jvm.Cond.and given_1 narrow_1) ∨ Cond.not (Cond.eq (.string RX4 (ixT j)) (.string RX4 (ixT i))) ∈ flatC (Jvm.Cond.and given_1 narrow_1)) := by decide +kernel
set_option maxRecDepth 20000 in
theorem sg_mm : ∀ i, i < 9 → Cond.eq (.string RX4 (ixT i)) (.string RX7 (ixM i)) ∈ flatC (Jvm.Cond.and given_1 narrow_1) := by decide +kernel
set_option maxRecDepth 20000 in
theorem sg_cs : Cond.eq (.static "java/lang/String" "COMPACT_STRINGS" "Z") (.int 1) ∈ flatC (Jvm.Cond.and given_1 narrow_1) := by decide +kernel
set_option maxRecDepth 20000 in
theorem sg_fm : Cond.isRef (.static "jdk/internal/util/Preconditions" "SIOOBE_FORMATTER" "Ljava/util/function/BiFunction;") ∈ flatC (Jvm.Cond.and given_1 narrow_1) := by decide +kernel
set_option maxRecDepth 20000 in
theorem sr_T : ∀ i, i < 9 → Cond.stringRef RX4 (ixT i) (txS i) ∈ wsZs := by decide +kernel
set_option maxRecDepth 20000 in
theorem sr_M : ∀ i, i < 9 → Cond.stringRef RX7 (ixM i) (txS i) ∈ wsZs := by decide +kernel
theorem lw_Sg {args : Array Value} {s : State} {A : Nat → Prop} (hts : ∀ w ∈ lw_tbl, w.before args s = true) (hgv : (Jvm.Cond.and given_1 narrow_1).before args s = true) (hA : ∀ a : Nat, a < s.heap.size → ¬ A a) : ∃ k : SgT, Sg k A s s.heap := by
  have hs := flat_of_before _ hgv
  obtain ⟨adK, adV, h1, h2⟩ := vk_Sof (args := args) (s := s) (N := 9) (tm := fun i => Term.string RX4 (ixT i)) (len := lenS) (byt := bytS) (A := A) (fun i hi => lenS_lt hi) (fun i hi => hs _ (sg_ex i hi)) (fun i hi => hs _ (sg_co i hi)) (fun i hi => hs _ (sg_ar i hi)) (fun i hi => hs _ (sg_le i hi)) (fun i hi j hj => hs _ (sg_el i hi j hj)) (fun i j hi hj hij => (sg_ne i hi j hj hij).imp (fun z => hs _ z) (fun z => hs _ z)) hA
  refine ⟨(adK, adV), h1, va_Zof (hts _ (wsZs_in _ (mi 12 rfl))) (hts _ (wsZs_in _ (mi 13 rfl))) (lw_eqI (hs _ sg_cs)) hA, ?_, fun i hi => ⟨vk_R.of (hts _ (wsZs_in _ (sr_T i hi))) (h2 i hi), vk_R.of (hts _ (wsZs_in _ (sr_M i hi))) (lw_eqT (hs _ (sg_mm i hi)) (h2 i hi))⟩⟩
  obtain ⟨v, e1, e2⟩ := Cond.isRef_spec (hs _ sg_fm)
  cases v with
  | ref t => exact Or.inr ⟨t, va_Zof (hts _ (wsZs_in _ (mi 14 rfl))) (hts _ (wsZs_in _ (mi 15 rfl))) e1 hA⟩
  | null => exact Or.inl (va_Zof (hts _ (wsZs_in _ (mi 14 rfl))) (hts _ (wsZs_in _ (mi 15 rfl))) e1 hA)
  | int x => cases e2
  | long x => cases e2
  | float x => cases e2
  | double x => cases e2
  | retAddr x => cases e2
theorem Rl_start : Rl iZ6 iT5 iT5 iG3 iR3 iP4 iU7 iV7 iR7 none := by
  refine ⟨fun k => if k = 0 then (fun _ => 4) else fun _ => 0, ⟨⟨⟨by decide, by decide, by decide, by decide, by decide, by decide⟩, fun j p _ _ hp => absurd hp (Nat.not_lt_zero p)⟩, ⟨?_, fun j p _ _ hp => absurd hp (Nat.not_lt_zero p)⟩, ⟨by decide, by decide, ?_, fun j p _ _ hp => absurd hp (Nat.not_lt_zero p)⟩, by decide, by decide⟩, ?_, fun s i _ _ => rfl, ⟨0, by decide, by decide, by decide, fun i hi => absurd hi (Nat.not_lt_zero i)⟩, fun k _ => rfl, Or.inl ⟨rfl, rfl⟩⟩
  · decide
  · decide
  · intro s hs
    have : ∀ s, s < 8 → iG3 0 s = -1 ∧ iV7 0 s = 0 ∧ iG3 1 s = 0 := by decide
    exact Or.inl (this s hs)
