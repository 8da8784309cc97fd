def wsA57 : List Cond := wsL_law_r57
theorem inA57 : ∀ w ∈ wsA57, w ∈ lw_tbl := in_wsL_law_r57
def wsA56 : List Cond := wsL_law_r56 ++ wsA57
theorem inA56 : ∀ w ∈ wsA56, w ∈ lw_tbl := fun w h => (List.mem_append.mp h).elim (in_wsL_law_r56 w) (inA57 w)
def wsA55 : List Cond := wsL_law_r55 ++ wsA56
theorem inA55 : ∀ w ∈ wsA55, w ∈ lw_tbl := fun w h => (List.mem_append.mp h).elim (in_wsL_law_r55 w) (inA56 w)
def wsA54 : List Cond := wsL_law_r54 ++ wsA55
theorem inA54 : ∀ w ∈ wsA54, w ∈ lw_tbl := fun w h => (List.mem_append.mp h).elim (in_wsL_law_r54 w) (inA55 w)
def wsA53 : List Cond := wsL_law_r53 ++ wsA54
theorem inA53 : ∀ w ∈ wsA53, w ∈ lw_tbl := fun w h => (List.mem_append.mp h).elim (in_wsL_law_r53 w) (inA54 w)
def wsA52 : List Cond := wsL_law_r52 ++ wsA53
theorem inA52 : ∀ w ∈ wsA52, w ∈ lw_tbl := fun w h => (List.mem_append.mp h).elim (in_wsL_law_r52 w) (inA53 w)
def wsA51 : List Cond := wsL_law_r51 ++ wsA52
theorem inA51 : ∀ w ∈ wsA51, w ∈ lw_tbl := fun w h => (List.mem_append.mp h).elim (in_wsL_law_r51 w) (inA52 w)
def wsA50 : List Cond := wsL_law_r50 ++ wsA51
theorem inA50 : ∀ w ∈ wsA50, w ∈ lw_tbl := fun w h => (List.mem_append.mp h).elim (in_wsL_law_r50 w) (inA51 w)
def wsA49 : List Cond := wsL_law_r49 ++ wsA50
theorem inA49 : ∀ w ∈ wsA49, w ∈ lw_tbl := fun w h => (List.mem_append.mp h).elim (in_wsL_law_r49 w) (inA50 w)
def wsA48 : List Cond := wsL_law_r48 ++ wsA49
theorem inA48 : ∀ w ∈ wsA48, w ∈ lw_tbl := fun w h => (List.mem_append.mp h).elim (in_wsL_law_r48 w) (inA49 w)
def wsA47 : List Cond := wsL_law_r47 ++ wsA48
theorem inA47 : ∀ w ∈ wsA47, w ∈ lw_tbl := fun w h => (List.mem_append.mp h).elim (in_wsL_law_r47 w) (inA48 w)
def wsA46 : List Cond := wsL_law_r46 ++ wsA47
theorem inA46 : ∀ w ∈ wsA46, w ∈ lw_tbl := fun w h => (List.mem_append.mp h).elim (in_wsL_law_r46 w) (inA47 w)
def wsA45 : List Cond := wsL_law_r45 ++ wsA46
theorem inA45 : ∀ w ∈ wsA45, w ∈ lw_tbl := fun w h => (List.mem_append.mp h).elim (in_wsL_law_r45 w) (inA46 w)
def wsA44 : List Cond := wsL_law_r44 ++ wsA45
theorem inA44 : ∀ w ∈ wsA44, w ∈ lw_tbl := fun w h => (List.mem_append.mp h).elim (in_wsL_law_r44 w) (inA45 w)
def wsA43 : List Cond := wsL_law_r43 ++ wsA44
theorem inA43 : ∀ w ∈ wsA43, w ∈ lw_tbl := fun w h => (List.mem_append.mp h).elim (in_wsL_law_r43 w) (inA44 w)
def wsA42 : List Cond := wsL_law_r42 ++ wsA43
theorem inA42 : ∀ w ∈ wsA42, w ∈ lw_tbl := fun w h => (List.mem_append.mp h).elim (in_wsL_law_r42 w) (inA43 w)
def wsA41 : List Cond := wsL_law_r41 ++ wsA42
theorem inA41 : ∀ w ∈ wsA41, w ∈ lw_tbl := fun w h => (List.mem_append.mp h).elim (in_wsL_law_r41 w) (inA42 w)
def wsA40 : List Cond := wsL_law_r40 ++ wsA41
theorem inA40 : ∀ w ∈ wsA40, w ∈ lw_tbl := fun w h => (List.mem_append.mp h).elim (in_wsL_law_r40 w) (inA41 w)
def wsA39 : List Cond := wsL_law_r39 ++ wsA40
theorem inA39 : ∀ w ∈ wsA39, w ∈ lw_tbl := fun w h => (List.mem_append.mp h).elim (in_wsL_law_r39 w) (inA40 w)
def wsA38 : List Cond := wsL_law_r38 ++ wsA39
theorem inA38 : ∀ w ∈ wsA38, w ∈ lw_tbl := fun w h => (List.mem_append.mp h).elim (in_wsL_law_r38 w) (inA39 w)
def wsA37 : List Cond := wsL_law_r37 ++ wsA38
theorem inA37 : ∀ w ∈ wsA37, w ∈ lw_tbl := fun w h => (List.mem_append.mp h).elim (in_wsL_law_r37 w) (inA38 w)
def wsA36 : List Cond := wsL_law_r36 ++ wsA37
theorem inA36 : ∀ w ∈ wsA36, w ∈ lw_tbl := fun w h => (List.mem_append.mp h).elim (in_wsL_law_r36 w) (inA37 w)
def wsA35 : List Cond := wsL_law_r35 ++ wsA36
theorem inA35 : ∀ w ∈ wsA35, w ∈ lw_tbl := fun w h => (List.mem_append.mp h).elim (in_wsL_law_r35 w) (inA36 w)
def wsA34 : List Cond := wsL_law_r34 ++ wsA35
theorem inA34 : ∀ w ∈ wsA34, w ∈ lw_tbl := fun w h => (List.mem_append.mp h).elim (in_wsL_law_r34 w) (inA35 w)
def wsA33 : List Cond := wsL_law_r33 ++ wsA34
theorem inA33 : ∀ w ∈ wsA33, w ∈ lw_tbl := fun w h => (List.mem_append.mp h).elim (in_wsL_law_r33 w) (inA34 w)
def wsA32 : List Cond := wsL_law_r32 ++ wsA33
theorem inA32 : ∀ w ∈ wsA32, w ∈ lw_tbl := fun w h => (List.mem_append.mp h).elim (in_wsL_law_r32 w) (inA33 w)
def wsA31 : List Cond := wsL_law_r31 ++ wsA32
theorem inA31 : ∀ w ∈ wsA31, w ∈ lw_tbl := fun w h => (List.mem_append.mp h).elim (in_wsL_law_r31 w) (inA32 w)
def wsA30 : List Cond := wsL_law_r30 ++ wsA31
theorem inA30 : ∀ w ∈ wsA30, w ∈ lw_tbl := fun w h => (List.mem_append.mp h).elim (in_wsL_law_r30 w) (inA31 w)
def wsA29 : List Cond := wsL_law_r29 ++ wsA30
theorem inA29 : ∀ w ∈ wsA29, w ∈ lw_tbl := fun w h => (List.mem_append.mp h).elim (in_wsL_law_r29 w) (inA30 w)
def wsA28 : List Cond := wsL_law_r28 ++ wsA29
theorem inA28 : ∀ w ∈ wsA28, w ∈ lw_tbl := fun w h => (List.mem_append.mp h).elim (in_wsL_law_r28 w) (inA29 w)
def wsA27 : List Cond := wsL_law_r27 ++ wsA28
theorem inA27 : ∀ w ∈ wsA27, w ∈ lw_tbl := fun w h => (List.mem_append.mp h).elim (in_wsL_law_r27 w) (inA28 w)
def wsA26 : List Cond := wsL_law_r26 ++ wsA27
theorem inA26 : ∀ w ∈ wsA26, w ∈ lw_tbl := fun w h => (List.mem_append.mp h).elim (in_wsL_law_r26 w) (inA27 w)
def wsA25 : List Cond := wsL_law_r25 ++ wsA26
theorem inA25 : ∀ w ∈ wsA25, w ∈ lw_tbl := fun w h => (List.mem_append.mp h).elim (in_wsL_law_r25 w) (inA26 w)
def wsA24 : List Cond := wsL_law_r24 ++ wsA25
theorem inA24 : ∀ w ∈ wsA24, w ∈ lw_tbl := fun w h => (List.mem_append.mp h).elim (in_wsL_law_r24 w) (inA25 w)
def wsA23 : List Cond := wsL_law_r23 ++ wsA24
theorem inA23 : ∀ w ∈ wsA23, w ∈ lw_tbl := fun w h => (List.mem_append.mp h).elim (in_wsL_law_r23 w) (inA24 w)
def wsA22 : List Cond := wsL_law_r22 ++ wsA23
theorem inA22 : ∀ w ∈ wsA22, w ∈ lw_tbl := fun w h => (List.mem_append.mp h).elim (in_wsL_law_r22 w) (inA23 w)
def wsA21 : List Cond := wsL_law_r21 ++ wsA22
theorem inA21 : ∀ w ∈ wsA21, w ∈ lw_tbl := fun w h => (List.mem_append.mp h).elim (in_wsL_law_r21 w) (inA22 w)
def wsA20 : List Cond := wsL_law_r20 ++ wsA21
theorem inA20 : ∀ w ∈ wsA20, w ∈ lw_tbl := fun w h => (List.mem_append.mp h).elim (in_wsL_law_r20 w) (inA21 w)
def wsA19 : List Cond := wsL_law_r19 ++ wsA20
theorem inA19 : ∀ w ∈ wsA19, w ∈ lw_tbl := fun w h => (List.mem_append.mp h).elim (in_wsL_law_r19 w) (inA20 w)
def wsA18 : List Cond := wsL_law_r18 ++ wsA19
theorem inA18 : ∀ w ∈ wsA18, w ∈ lw_tbl := fun w h => (List.mem_append.mp h).elim (in_wsL_law_r18 w) (inA19 w)
def wsA17 : List Cond := wsL_law_r17 ++ wsA18
theorem inA17 : ∀ w ∈ wsA17, w ∈ lw_tbl := fun w h => (List.mem_append.mp h).elim (in_wsL_law_r17 w) (inA18 w)
def wsA16 : List Cond := wsL_law_r16 ++ wsA17
theorem inA16 : ∀ w ∈ wsA16, w ∈ lw_tbl := fun w h => (List.mem_append.mp h).elim (in_wsL_law_r16 w) (inA17 w)
def wsA15 : List Cond := wsL_law_r15 ++ wsA16
theorem inA15 : ∀ w ∈ wsA15, w ∈ lw_tbl := fun w h => (List.mem_append.mp h).elim (in_wsL_law_r15 w) (inA16 w)
def wsA14 : List Cond := wsL_law_r14 ++ wsA15
theorem inA14 : ∀ w ∈ wsA14, w ∈ lw_tbl := fun w h => (List.mem_append.mp h).elim (in_wsL_law_r14 w) (inA15 w)
def wsA13 : List Cond := wsL_law_r13 ++ wsA14
theorem inA13 : ∀ w ∈ wsA13, w ∈ lw_tbl := fun w h => (List.mem_append.mp h).elim (in_wsL_law_r13 w) (inA14 w)
def wsA12 : List Cond := wsL_law_r12 ++ wsA13
theorem inA12 : ∀ w ∈ wsA12, w ∈ lw_tbl := fun w h => (List.mem_append.mp h).elim (in_wsL_law_r12 w) (inA13 w)
def wsA11 : List Cond := wsL_law_r11 ++ wsA12
theorem inA11 : ∀ w ∈ wsA11, w ∈ lw_tbl := fun w h => (List.mem_append.mp h).elim (in_wsL_law_r11 w) (inA12 w)
def wsA10 : List Cond := wsL_law_r10 ++ wsA11
theorem inA10 : ∀ w ∈ wsA10, w ∈ lw_tbl := fun w h => (List.mem_append.mp h).elim (in_wsL_law_r10 w) (inA11 w)
def wsA9 : List Cond := wsL_law_r9 ++ wsA10
theorem inA9 : ∀ w ∈ wsA9, w ∈ lw_tbl := fun w h => (List.mem_append.mp h).elim (in_wsL_law_r9 w) (inA10 w)
def wsA8 : List Cond := wsL_law_r8 ++ wsA9
theorem inA8 : ∀ w ∈ wsA8, w ∈ lw_tbl := fun w h => (List.mem_append.mp h).elim (in_wsL_law_r8 w) (inA9 w)
def wsA7 : List Cond := wsL_law_r7 ++ wsA8
theorem inA7 : ∀ w ∈ wsA7, w ∈ lw_tbl := fun w h => (List.mem_append.mp h).elim (in_wsL_law_r7 w) (inA8 w)
def wsA6 : List Cond := wsL_law_r6 ++ wsA7
theorem inA6 : ∀ w ∈ wsA6, w ∈ lw_tbl := fun w h => (List.mem_append.mp h).elim (in_wsL_law_r6 w) (inA7 w)
def wsA5 : List Cond := wsL_law_r5 ++ wsA6
theorem inA5 : ∀ w ∈ wsA5, w ∈ lw_tbl := fun w h => (List.mem_append.mp h).elim (in_wsL_law_r5 w) (inA6 w)
def wsA4 : List Cond := wsL_law_r4 ++ wsA5
theorem inA4 : ∀ w ∈ wsA4, w ∈ lw_tbl := fun w h => (List.mem_append.mp h).elim (in_wsL_law_r4 w) (inA5 w)
def wsA3 : List Cond := wsL_law_r3 ++ wsA4
theorem inA3 : ∀ w ∈ wsA3, w ∈ lw_tbl := fun w h => (List.mem_append.mp h).elim (in_wsL_law_r3 w) (inA4 w)
def wsA2 : List Cond := wsL_law_r2 ++ wsA3
theorem inA2 : ∀ w ∈ wsA2, w ∈ lw_tbl := fun w h => (List.mem_append.mp h).elim (in_wsL_law_r2 w) (inA3 w)
def wsA1 : List Cond := wsL_law_r1 ++ wsA2
theorem inA1 : ∀ w ∈ wsA1, w ∈ lw_tbl := fun w h => (List.mem_append.mp h).elim (in_wsL_law_r1 w) (inA2 w)
def wsB0 : List Cond := wsA1 ++ wsX60
theorem inB0 : ∀ w ∈ wsB0, w ∈ lw_tbl := fun w h => (List.mem_append.mp h).elim (inA1 w) (in_wsX60 w)
def wsB1 : List Cond := wsB0 ++ wsX70
theorem inB1 : ∀ w ∈ wsB1, w ∈ lw_tbl := fun w h => (List.mem_append.mp h).elim (inB0 w) (in_wsX70 w)
def wsB2 : List Cond := wsB1 ++ wsX50
theorem inB2 : ∀ w ∈ wsB2, w ∈ lw_tbl := fun w h => (List.mem_append.mp h).elim (inB1 w) (in_wsX50 w)
def wsB3 : List Cond := wsB2 ++ wsX30
theorem inB3 : ∀ w ∈ wsB3, w ∈ lw_tbl := fun w h => (List.mem_append.mp h).elim (inB2 w) (in_wsX30 w)
def wsB4 : List Cond := wsB3 ++ wsX40
theorem inB4 : ∀ w ∈ wsB4, w ∈ lw_tbl := fun w h => (List.mem_append.mp h).elim (inB3 w) (in_wsX40 w)
def wsB5 : List Cond := wsB4 ++ wsX20
theorem inB5 : ∀ w ∈ wsB5, w ∈ lw_tbl := fun w h => (List.mem_append.mp h).elim (inB4 w) (in_wsX20 w)
def wsB6 : List Cond := wsB5 ++ wsX10
theorem inB6 : ∀ w ∈ wsB6, w ∈ lw_tbl := fun w h => (List.mem_append.mp h).elim (inB5 w) (in_wsX10 w)
def wsB7 : List Cond := wsB6 ++ wsX00
theorem inB7 : ∀ w ∈ wsB7, w ∈ lw_tbl := fun w h => (List.mem_append.mp h).elim (inB6 w) (in_wsX00 w)
theorem wsL_law_eq : wsL_law = wsB7 ++ ([] : List Cond) := rfl
theorem wsL_law_in : ∀ w ∈ wsL_law, w ∈ lw_tbl := fun w h => by rw [wsL_law_eq, List.append_nil] at h; exact inB7 w h
