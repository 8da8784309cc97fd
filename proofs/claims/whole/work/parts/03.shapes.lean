/-! ===== shapes: the cells of an object, by its state ===== -/
def wX5 (g : Gm) (a : Nat → Nat) (T : TS) : va_W := [(a 0, .inr (5, [.int (T 0 0), .int (T 1 0), .int (T 2 0), .int (T 3 0), .int (T 4 0), .int (T 5 0), .int (T 6 0), .ref (a 1), .ref (a 2), .ref (a 3), .ref (a 4), .ref (a 5), .ref (a 6), .ref (a 7)])), (a 1, .inl (g.2 0, 7, .inl (T 7))), (a 2, .inl (g.2 0, 7, .inl (T 8))), (a 3, .inl (g.2 0, 7, .inl (T 9))), (a 4, .inl (g.2 0, 7, .inl (T 10))), (a 5, .inl (g.2 0, 7, .inl (T 11))), (a 6, .inl (g.2 0, 7, .inl (T 12))), (a 7, .inl (g.2 0, 7, .inl (T 13)))]
def wX3 (g : Gm) (a : Nat → Nat) (G : TS) (R : LTS) : va_W := [(a 0, .inr (3, [.ref (a 1), .ref (a 2), .ref (a 3)])), (a 1, .inl (g.2 0, 8, .inl (G 0))), (a 2, .inl (g.2 0, 8, .inl (G 1))), (a 3, .inl (g.2 3, 8, .inr (.inr (.inr (.inr (fun i => some (a (4 + i)))))))) ] ++ (List.range 8).map (fun i => (a (4 + i), .inl (g.2 1, 40, .inr (.inl (R i)))))
def wX4 (g : Gm) (a : Nat → Nat) (P : TS) : va_W := [(a 0, .inr (4, [.int (P 0 0), .int (P 1 0), .ref (a 1), .int (P 3 0), .int (P 4 0), .int (P 5 0)])), (a 1, .inl (g.2 0, 250, .inl (P 2)))]
def wX2 (g : Gm) (a : Nat → Nat) (n t : Nat) : va_W := [(a 0, .inr (2, [.ref n, .ref t]))]
def wX1 (g : Gm) (a : Nat → Nat) (n t : Nat) (O B : TS) : va_W := [(a 0, .inr (1, [.ref n, .ref t, .ref (a 1), .ref (a 2), .ref (a 3), .int (O 5 0), .int (O 6 0)])), (a 1, .inl (g.2 2, 7, .inr (.inr (.inr (.inr (fun i => some (a (4 + i)))))))), (a 2, .inl (g.2 0, 7, .inl (O 3))), (a 3, .inl (g.2 0, 7, .inl (O 4)))] ++ (List.range 7).map (fun i => (a (4 + i), .inl (g.2 0, 7, .inl (B i))))
def wX0 (g : Gm) (a : Nat → Nat) (n t sh : Nat) : va_W := [(a 0, .inr (0, [.ref n, .ref t, .ref sh]))]
def wX6 (g : Gm) (a : Nat → Nat) (n k t sh tp ro od ev : Nat) (Z : TS) : va_W := [(a 0, .inr (6, [.ref n, .ref k, .ref t, .ref sh, .ref tp, .ref ro, .ref od, .ref ev, .ref (a 1), .int (Z 9 0)])), (a 1, .inl (g.2 0, 5, .inl (Z 8)))]
theorem rows_get {n i : Nat} (f : Nat → Nat × va_E) (X Y : va_W) (h : i < n) : ((X ++ (List.range n).map f) ++ Y)[X.length + i]? = some (f i) := by
  rw [List.getElem?_append_left (by simp; omega), List.getElem?_append_right (by omega), Nat.add_sub_cancel_left, List.getElem?_map, List.getElem?_range h]
  rfl
theorem rows_set {n i : Nat} (f f' : Nat → Nat × va_E) (X Y : va_W) (h : i < n) {q : Nat × va_E} (hi : f' i = q) (ho : ∀ j, j ≠ i → f' j = f j) : ((X ++ (List.range n).map f) ++ Y).set (X.length + i) q = (X ++ (List.range n).map f') ++ Y := by
  subst hi
  rw [List.set_append, if_pos (by simp; omega)]
  congr 1
  rw [List.set_append, if_neg (by omega), Nat.add_sub_cancel_left]
  congr 1
  apply List.ext_getElem?
  intro j
  by_cases hj : j = i
  · subst hj
    rw [List.getElem?_set_self (by simpa using h), List.getElem?_map, List.getElem?_range h]
    rfl
  · rw [List.getElem?_set_ne (Ne.symm hj), List.getElem?_map, List.getElem?_map]
    by_cases hn : j < n
    · rw [List.getElem?_range hn]
      show some (f j) = some (f' j)
      rw [ho j hj]
    · rw [List.getElem?_eq_none (by simpa using hn)]
      rfl
theorem wX3_row {g : Gm} {a : Nat → Nat} {G : TS} {R : LTS} {i : Nat} (h : i < 8) : (wX3 g a G R)[4 + i]? = some (a (4 + i), .inl (g.2 1, 40, .inr (.inl (R i)))) := by
  have := rows_get (fun i => ((a (4 + i), .inl (g.2 1, 40, .inr (.inl (R i)))) : Nat × va_E)) [(a 0, .inr (3, [.ref (a 1), .ref (a 2), .ref (a 3)])), (a 1, .inl (g.2 0, 8, .inl (G 0))), (a 2, .inl (g.2 0, 8, .inl (G 1))), (a 3, .inl (g.2 3, 8, .inr (.inr (.inr (.inr (fun i => some (a (4 + i)))))))) ] [] h
  rw [List.append_nil] at this
  exact this
theorem wX3_set {g : Gm} {a : Nat → Nat} {G : TS} {R : LTS} {i : Nat} {f : Nat → Int64} (h : i < 8) : (wX3 g a G R).set (4 + i) (a (4 + i), .inl (g.2 1, 40, .inr (.inl f))) = wX3 g a G (upL R i f) := by
  have := rows_set (fun i => ((a (4 + i), .inl (g.2 1, 40, .inr (.inl (R i)))) : Nat × va_E)) (fun j => (a (4 + j), .inl (g.2 1, 40, .inr (.inl (upL R i f j))))) [(a 0, .inr (3, [.ref (a 1), .ref (a 2), .ref (a 3)])), (a 1, .inl (g.2 0, 8, .inl (G 0))), (a 2, .inl (g.2 0, 8, .inl (G 1))), (a 3, .inl (g.2 3, 8, .inr (.inr (.inr (.inr (fun i => some (a (4 + i)))))))) ] [] h (q := (a (4 + i), .inl (g.2 1, 40, .inr (.inl f)))) (by simp only [upL_same]) (fun j hj => by simp only [upL_ne R f hj])
  rw [List.append_nil, List.append_nil] at this
  exact this
theorem wX1_rowA {g : Gm} {a : Nat → Nat} {n t : Nat} {O B : TS} {Y : va_W} {i : Nat} (h : i < 7) : (wX1 g a n t O B ++ Y)[4 + i]? = some (a (4 + i), .inl (g.2 0, 7, .inl (B i))) :=
  rows_get (fun i => ((a (4 + i), .inl (g.2 0, 7, .inl (B i))) : Nat × va_E)) [(a 0, .inr (1, [.ref n, .ref t, .ref (a 1), .ref (a 2), .ref (a 3), .int (O 5 0), .int (O 6 0)])), (a 1, .inl (g.2 2, 7, .inr (.inr (.inr (.inr (fun i => some (a (4 + i)))))))), (a 2, .inl (g.2 0, 7, .inl (O 3))), (a 3, .inl (g.2 0, 7, .inl (O 4)))] Y h
theorem wX1_setA {g : Gm} {a : Nat → Nat} {n t : Nat} {O B : TS} {Y : va_W} {i : Nat} {f : Nat → Int32} (h : i < 7) : (wX1 g a n t O B ++ Y).set (4 + i) (a (4 + i), .inl (g.2 0, 7, .inl f)) = wX1 g a n t O (up B i f) ++ Y :=
  rows_set (fun i => ((a (4 + i), .inl (g.2 0, 7, .inl (B i))) : Nat × va_E)) (fun j => (a (4 + j), .inl (g.2 0, 7, .inl (up B i f j)))) [(a 0, .inr (1, [.ref n, .ref t, .ref (a 1), .ref (a 2), .ref (a 3), .int (O 5 0), .int (O 6 0)])), (a 1, .inl (g.2 2, 7, .inr (.inr (.inr (.inr (fun i => some (a (4 + i)))))))), (a 2, .inl (g.2 0, 7, .inl (O 3))), (a 3, .inl (g.2 0, 7, .inl (O 4)))] Y h (q := (a (4 + i), .inl (g.2 0, 7, .inl f))) (by simp only [up_same]) (fun j hj => by simp only [up_ne B f hj])
theorem hP_sub {g : Gm} {ws wc : va_W} {H : Heap} (h : va_P g.1 vwCl ws H) (is : List Nat) (hC : is.map (fun i => ws[i]?) = wc.map some) : va_P g.1 vwCl wc H := fun k q hk => by
  obtain ⟨i, -, hi⟩ := va_in_of is hC hk
  exact h i q hi
theorem hP_nil {g : Gm} {H : Heap} : va_P g.1 vwCl [] H := fun k q hk => by simp at hk
theorem nz {x : Int32} (h : x = 0 ∨ x = 1) : narrow .boolean (.int x) = .int x := by
  rcases h with h | h <;> rw [h] <;> rfl
theorem eo_inr {R X : Type} {f : X → Option R} {x : X} {r : R} (h : eo f (.inr x) = some r) : f x = some r := h
theorem eo_inl {R X : Type} {f : X → Option R} {x r : R} (h : eo f (.inl x) = some r) : x = r := Option.some.inj h
theorem eoS_inr {R X Y : Type} {f : Y → Option (R ⊕ X)} {x : Y} {r : R ⊕ X} (h : eoS f (.inr x) = some r) : f x = some r := h
theorem eoS_inl {R X Y : Type} {f : Y → Option (R ⊕ X)} {x : R} {r : R ⊕ X} (h : eoS f (.inl x) = some r) : .inl x = r := Option.some.inj h
theorem sw_out {x : Int32} {lo hi : Int} (h1 : -2147483648 ≤ lo) (h2 : hi ≤ 2147483647) (h : ∀ k : Int, lo ≤ k → k ≤ hi → x.toInt = k → False) : x.toInt < lo ∨ hi < x.toInt := by
  by_cases a : x.toInt < lo
  · exact Or.inl a
  · by_cases b : hi < x.toInt
    · exact Or.inr b
    · exact (h x.toInt (by omega) (by omega) rfl).elim
section SHP
variable {p : Program} {l : Launch} {e : Env} {R : Room} {s : State} {m : MethodId} {args : Array Value} {below : List Frame} {meth : Method} {c : Code} {H : Heap} {locs : List Loc} {Q : State → Prop}
variable {cc : ByteArray} {pc a a0 : Nat} {ls : Array Slot} {rest : List Value} {g : Gm} {ws0 wq : va_W} {A : Nat → Prop} {H0 : Heap}
theorem wk_aald (hx : p.tables.exec = Jvm.exec) (hb : c.code = cc) (hK : Kn g s) (hP : va_P g.1 vwCl ws0 H) (q0 n : Nat) (r : Nat → Nat) (t0 : Nat) {ty : FieldType} (ha : ws0[q0]? = some (a, .inl (g.2 t0, n, .inr (.inr (.inr (.inr (fun i => some (r i)))))))) {i : Int32} (hin : ¬ (i < 0 ∨ n ≤ i.toNatClampNeg)) (ht : (tysG g)[t0]? = some (g.2 t0, ty)) (hty : ty.isReference = true) (hdg : decode cc pc = .ok (.aaload, 1))
    {cells slots : Nat} (kk : W p l e R s m args below meth c H locs cells slots Q (F0 m (pc + 1) ls (.ref (r i.toNatClampNeg) :: rest))) : W p l e R s m args below meth c H locs cells slots Q (F0 m pc ls (.int i :: .ref a :: rest)) := by
  have hlt : i.toNatClampNeg < n := Nat.not_le.mp fun q => hin (Or.inr q)
  exact W.aald (v := .ref (r i.toNatClampNeg)) hx hb (hP q0 _ ha) ((hK.1.2 t0 _ ht).1 n (fun j => va_rf (some (r j)))) hty (fun q => by cases q) (by show ¬ (i < 0 ∨ (arrV _ _ _).slots.size ≤ _); rw [arrV_size]; exact hin) (by show (arrV _ _ _).slots[_]? = _; rw [arrV_read _ _ hlt]; rfl) rfl rfl hdg kk
theorem wk_copyi (hx : p.tables.exec = Jvm.exec) (hb : c.code = cc) (hml : c.maxLocals = ls.size) {own : String} {index : Nat} (hown : s.vm.findClass own = some m.cls) (hlink : (Cond.methodLink own index arraycopyName).before args s = true) (hnat : (Cond.native arraycopyName).before args s = true) (hstat : (Cond.static arraycopyName).before args s = true) (hini : (Cond.initialized "java/lang/System").before args s = true) (hK : Kn g s) (hw : Wk g A H0 H locs ws0) (q0 q1 n0 n1 : Nat) (f f' : Nat → Int32)
    (ha0 : ws0[q0]? = some (a0, .inl (g.2 0, n0, .inl f))) (ha1 : ws0[q1]? = some (a, .inl (g.2 0, n1, .inl f'))) {sp dp n : Int32} (hin : ¬ (sp < 0 ∨ dp < 0 ∨ n < 0 ∨ n0 < sp.toNatClampNeg + n.toNatClampNeg ∨ n1 < dp.toNatClampNeg + n.toNatClampNeg)) (hframes : 1 ≤ R.frames) (hlocals : (rest.map fun v => v.category).sum + (nativeFrameWords "java/lang/System" "arraycopy" 5 + 11) ≤ R.locals) (hdg : decode cc pc = .ok (.invokestatic index, 3)) (hq : ws0.set q1 (a, .inl (g.2 0, n1, .inl (va_cpy f f' sp.toNatClampNeg dp.toNatClampNeg n.toNatClampNeg))) = wq)
    {cells slots : Nat} (kk : ∀ (H1 : Heap) (locs1 : List Loc), Wk g A H0 H1 locs1 wq → W p l e R s m args below meth c H1 locs1 cells slots Q (F0 m (pc + 3) ls rest)) : W p l e R s m args below meth c H locs cells slots Q (F0 m pc ls (.int n :: .int dp :: .ref a :: .int sp :: .ref a0 :: rest)) := by
  subst hq
  exact va_copyi hx hb hml hown hlink hnat hstat hini hK.1 hw.1 hw.2.1 hw.2.2 q0 q1 0 0 ha0 ha1 rfl rfl rfl (fun h => hin (Or.inl h)) (fun h => hin (Or.inr (Or.inl h))) (fun h => hin (Or.inr (Or.inr (Or.inl h)))) (Nat.le_of_not_lt fun h => hin (Or.inr (Or.inr (Or.inr (Or.inl h))))) (Nat.le_of_not_lt fun h => hin (Or.inr (Or.inr (Or.inr (Or.inr h))))) (fun _ _ => rfl) hframes hlocals hdg (fun H1 locs1 h1 h2 h3 => kk H1 locs1 ⟨h1, h2, h3⟩)
theorem wk_copyl (hx : p.tables.exec = Jvm.exec) (hb : c.code = cc) (hml : c.maxLocals = ls.size) {own : String} {index : Nat} (hown : s.vm.findClass own = some m.cls) (hlink : (Cond.methodLink own index arraycopyName).before args s = true) (hnat : (Cond.native arraycopyName).before args s = true) (hstat : (Cond.static arraycopyName).before args s = true) (hini : (Cond.initialized "java/lang/System").before args s = true) (hK : Kn g s) (hw : Wk g A H0 H locs ws0) (q0 q1 n0 n1 : Nat) (f f' : Nat → Int64)
    (ha0 : ws0[q0]? = some (a0, .inl (g.2 1, n0, .inr (.inl f)))) (ha1 : ws0[q1]? = some (a, .inl (g.2 1, n1, .inr (.inl f')))) {sp dp n : Int32} (hin : ¬ (sp < 0 ∨ dp < 0 ∨ n < 0 ∨ n0 < sp.toNatClampNeg + n.toNatClampNeg ∨ n1 < dp.toNatClampNeg + n.toNatClampNeg)) (hframes : 1 ≤ R.frames) (hlocals : (rest.map fun v => v.category).sum + (nativeFrameWords "java/lang/System" "arraycopy" 5 + 11) ≤ R.locals) (hdg : decode cc pc = .ok (.invokestatic index, 3)) (hq : ws0.set q1 (a, .inl (g.2 1, n1, .inr (.inl (va_cpy f f' sp.toNatClampNeg dp.toNatClampNeg n.toNatClampNeg)))) = wq)
    {cells slots : Nat} (kk : ∀ (H1 : Heap) (locs1 : List Loc), Wk g A H0 H1 locs1 wq → W p l e R s m args below meth c H1 locs1 cells slots Q (F0 m (pc + 3) ls rest)) : W p l e R s m args below meth c H locs cells slots Q (F0 m pc ls (.int n :: .int dp :: .ref a :: .int sp :: .ref a0 :: rest)) := by
  subst hq
  exact va_copyl hx hb hml hown hlink hnat hstat hini hK.1 hw.1 hw.2.1 hw.2.2 q0 q1 1 1 ha0 ha1 rfl rfl rfl (fun h => hin (Or.inl h)) (fun h => hin (Or.inr (Or.inl h))) (fun h => hin (Or.inr (Or.inr (Or.inl h)))) (Nat.le_of_not_lt fun h => hin (Or.inr (Or.inr (Or.inr (Or.inl h))))) (Nat.le_of_not_lt fun h => hin (Or.inr (Or.inr (Or.inr (Or.inr h))))) (fun _ _ => rfl) hframes hlocals hdg (fun H1 locs1 h1 h2 h3 => kk H1 locs1 ⟨h1, h2, h3⟩)
end SHP
