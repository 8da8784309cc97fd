section LAW1
variable {p : Program} {l : Launch} {e : Env} {s : State} {m : MethodId} {below : List Frame} {meth : Method} {c : Code} {cells slots : Nat} {Q : State → Prop} {bS L i : Nat} {xs : Nat → Int32} {g : Gm} {A : Nat → Prop} {k : SgT} {a : Nat → Nat → Nat} {b : Nat → Nat}
set_option maxRecDepth 20000 in
theorem law_wipe (cx : LC p s m c bS L xs g A k) (hi : i + 5 < L) (hcs : cells + 28 ≤ 600000 ∧ slots + 759 ≤ 7302249) (hgo : LGo p l e s m below meth c bS Q g A a b 1909 i (cells + 28) (slots + 759)) : LGo p l e s m below meth c bS Q g A a b 839 i cells slots := by
  intro Z T1 T2 T3 G R P O B U V M R' kt t H locs ls h hw hl
  obtain ⟨⟨hx, hb, hml, hown, hts⟩, ⟨hX, hbl, hbA, hL⟩, hK, hA, hSg⟩ := id cx
  have hS : CallFix p m c cL_law 4 s #[Value.ref bS] wsL_law RL := ⟨hx, hb, hml, hown, hts⟩
  refine lv_aload_n hx hb dL_law_839 rfl (lv_at hl 2 rfl) ?_
  obtain ⟨ra, P', V', h1, h2, h3⟩ := op_wipe h T3 O B M
  refine rVWp (wq := wC g a Z T1 T2 T3 G R P' O B ++ wRf g b U V M R' kt t) (rs := wRf g b U V M R' kt t) (As := []) (rest := []) (q0 := 0) hS (c_X6_wipe l g (a 0) (a 1) (a 2) (a 3) (a 4) (a 5) (a 6) (a 7) (a 8) Z T1 T2 T3 G R P O B h1) gL_law_X6_wipe rfl hd_X6_wipe ⟨Nat.le_of_ble_eq_true rfl, Nat.le_of_ble_eq_true rfl⟩ hK hw hA (List.Perm.refl _) rfl (List.Perm.refl _) rfl rfl rfl rfl hl.1 rfl (Nat.le_of_ble_eq_true rfl) dL_law_840 ⟨show cells ≤ 600000 by omega, show slots ≤ 7302249 by omega⟩ (fun H locs hw => ?_)
  refine W.eq (g2 := F0 m 843 ls [.int ra]) rfl ?_
  refine lv_aload_n hx hb dL_law_843 rfl (lv_at hl 3 rfl) ?_
  refine rVWp (wq := wC g a Z T1 T2 T3 G R P' O B ++ wRf g b U V' M R' kt t) (rs := wC g a Z T1 T2 T3 G R P' O B ++ (wOT g t ++ wOT g kt)) (As := []) (rest := [.int ra]) (q0 := 0) hS (c_X7_wipe l g b (tvOf kt) (tvOf t) U V M R' h2) gL_law_X7_wipe rfl hd_X7_wipe ⟨Nat.le_of_ble_eq_true rfl, Nat.le_of_ble_eq_true rfl⟩ hK hw hA (lpmC _ _ _ _) rfl (lpmC _ _ _ _) rfl rfl rfl rfl hl.1 rfl (Nat.le_of_ble_eq_true rfl) dL_law_844 ⟨show cells ≤ 600000 by omega, show slots ≤ 7302249 by omega⟩ (fun H locs hw => ?_)
  refine W.eq (g2 := F0 m 847 ls [.int ra, .int ra]) rfl ?_
  refine W.widen (k := cells + 28) (n := slots + 759) (by omega) (by omega) ?_
  refine lv_icmp_eq (tgt := 1909) hx hb dL_law_847 (by decide) (fun _ => ?_) (fun z => absurd rfl z)
  exact hgo Z T1 T2 T3 G R P' O B U V' M R' kt t H locs ls h3 hw hl
set_option maxRecDepth 20000 in
theorem law_town (cx : LC p s m c bS L xs g A k) (hi : i + 5 < L) (hcs : cells + 28 ≤ 600000 ∧ slots + 759 ≤ 7302249) (hgo : LGo p l e s m below meth c bS Q g A a b 1909 i (cells + 28) (slots + 759)) : LGo p l e s m below meth c bS Q g A a b 852 i cells slots := by
  intro Z T1 T2 T3 G R P O B U V M R' kt t H locs ls h hw hl
  obtain ⟨⟨hx, hb, hml, hown, hts⟩, ⟨hX, hbl, hbA, hL⟩, hK, hA, hSg⟩ := id cx
  have hS : CallFix p m c cL_law 4 s #[Value.ref bS] wsL_law RL := ⟨hx, hb, hml, hown, hts⟩
  refine lv_aload_n hx hb dL_law_852 rfl (lv_at hl 2 rfl) ?_
  obtain ⟨ra, Z', T1', T3', P', U', V', tp', h1, h2, h3⟩ := op_town h T3 O B M (tpOf t)
  refine rVWS (wq := wC g a Z' T1' T2 T3' G R P' O B ++ wRf g b U V M R' kt t) (rs := wRf g b U V M R' kt t) (As := []) (rest := []) (q0 := 0) hS (c_X6_town l g k (a 0) (a 1) (a 2) (a 3) (a 4) (a 5) (a 6) (a 7) (a 8) Z T1 T2 T3 G R P O B h1) gL_law_X6_town rfl hd_X6_town ⟨Nat.le_of_ble_eq_true rfl, Nat.le_of_ble_eq_true rfl⟩ hK hSg hw hA (List.Perm.refl _) rfl (List.Perm.refl _) rfl rfl rfl rfl hl.1 rfl (Nat.le_of_ble_eq_true rfl) dL_law_853 ⟨show cells ≤ 600000 by omega, show slots ≤ 7302249 by omega⟩ (fun H locs hw => ?_)
  refine W.eq (g2 := F0 m 856 ls [.int ra]) rfl ?_
  refine lv_aload_n hx hb dL_law_856 rfl (lv_at hl 3 rfl) ?_
  refine rVBSp (t := t) (wr := wC g a Z' T1' T2 T3' G R P' O B ++ wOT g kt) (As := []) (rest := [.int ra]) hS (c_X7_town l g k b U V M R' (tvOf kt) t (tpOf t) rfl h2) gL_law_X7_town rfl hd_X7_town ⟨Nat.le_of_ble_eq_true rfl, Nat.le_of_ble_eq_true rfl⟩ hK hSg hw hA (lpmA _ _ _ _) rfl rfl hl.1 rfl (Nat.le_of_ble_eq_true rfl) dL_law_857 ⟨show cells + 28 * nlOf t ≤ 600000 by have := nl_le t; omega, show slots + 759 * nlOf t ≤ 7302249 by have := nl_le t; omega⟩ (fun t2 H locs ht2 hw => ?_)
  have hw : Wk g A s.heap H locs (wC g a Z' T1' T2 T3' G R P' O B ++ wRf g b U' V' M R' kt t2) := hw.perm (lpmA' _ _ _ _)
  refine W.eq (g2 := F0 m 860 ls [.int ra, .int ra]) rfl ?_
  refine W.widen (k := cells + 28) (n := slots + 759) (by have := nl_le t; omega) (by have := nl_le t; omega) ?_
  refine lv_icmp_eq (tgt := 1909) hx hb dL_law_860 (by decide) (fun _ => ?_) (fun z => absurd rfl z)
  exact hgo Z' T1' T2 T3' G R P' O B U' V' M R' kt t2 H locs ls h3 hw hl
set_option maxRecDepth 20000 in
theorem law_personOf (cx : LC p s m c bS L xs g A k) (hi : i + 5 < L) (hcs : cells + 28 ≤ 600000 ∧ slots + 759 ≤ 7302249) (hgo : LGo p l e s m below meth c bS Q g A a b 1909 i (cells + 28) (slots + 759)) : LGo p l e s m below meth c bS Q g A a b 865 i cells slots := by
  intro Z T1 T2 T3 G R P O B U V M R' kt t H locs ls h hw hl
  obtain ⟨⟨hx, hb, hml, hown, hts⟩, ⟨hX, hbl, hbA, hL⟩, hK, hA, hSg⟩ := id cx
  have hS : CallFix p m c cL_law 4 s #[Value.ref bS] wsL_law RL := ⟨hx, hb, hml, hown, hts⟩
  refine lv_aload_n hx hb dL_law_865 rfl (lv_at hl 2 rfl) ?_
  refine larg cx hw 1 (by omega) hl 866 (by decide) dL_law_866 dL_law_867 dL_law_868 dL_law_869 dL_law_870 ?_
  refine larg cx hw 2 (by omega) hl 871 (by decide) dL_law_871 dL_law_872 dL_law_873 dL_law_874 dL_law_875 ?_
  obtain ⟨ra, Z', V', h1, h2, h3⟩ := op_personOf h T3 O B M (xs (i + 1)) (xs (i + 2))
  refine rVWp (wq := wC g a Z' T1 T2 T3 G R P O B ++ wRf g b U V M R' kt t) (rs := wRf g b U V M R' kt t) (As := [.int (xs (i + 1)), .int (xs (i + 2))]) (rest := []) (q0 := 0) hS (c_X6_personOf l g (a 0) (a 1) (a 2) (a 3) (a 4) (a 5) (a 6) (a 7) (a 8) Z T1 T2 T3 G R P O B (xs (i + 1)) (xs (i + 2)) h1) gL_law_X6_personOf rfl hd_X6_personOf ⟨Nat.le_of_ble_eq_true rfl, Nat.le_of_ble_eq_true rfl⟩ hK hw hA (List.Perm.refl _) rfl (List.Perm.refl _) rfl rfl rfl rfl hl.1 rfl (Nat.le_of_ble_eq_true rfl) dL_law_876 ⟨show cells ≤ 600000 by omega, show slots ≤ 7302249 by omega⟩ (fun H locs hw => ?_)
  refine W.eq (g2 := F0 m 879 ls [.int ra]) rfl ?_
  refine lv_aload_n hx hb dL_law_879 rfl (lv_at hl 3 rfl) ?_
  refine larg cx hw 1 (by omega) hl 880 (by decide) dL_law_880 dL_law_881 dL_law_882 dL_law_883 dL_law_884 ?_
  refine larg cx hw 2 (by omega) hl 885 (by decide) dL_law_885 dL_law_886 dL_law_887 dL_law_888 dL_law_889 ?_
  refine rVWp (wq := wC g a Z' T1 T2 T3 G R P O B ++ wRf g b U V' M R' kt t) (rs := wC g a Z' T1 T2 T3 G R P O B ++ (wOT g t ++ wOT g kt)) (As := [.int (xs (i + 1)), .int (xs (i + 2))]) (rest := [.int ra]) (q0 := 0) hS (c_X7_personOf l g b (tvOf kt) (tvOf t) U V M R' (xs (i + 1)) (xs (i + 2)) h2) gL_law_X7_personOf rfl hd_X7_personOf ⟨Nat.le_of_ble_eq_true rfl, Nat.le_of_ble_eq_true rfl⟩ hK hw hA (lpmC _ _ _ _) rfl (lpmC _ _ _ _) rfl rfl rfl rfl hl.1 rfl (Nat.le_of_ble_eq_true rfl) dL_law_890 ⟨show cells ≤ 600000 by omega, show slots ≤ 7302249 by omega⟩ (fun H locs hw => ?_)
  refine W.eq (g2 := F0 m 893 ls [.int ra, .int ra]) rfl ?_
  refine W.widen (k := cells + 28) (n := slots + 759) (by omega) (by omega) ?_
  refine lv_icmp_eq (tgt := 1909) hx hb dL_law_893 (by decide) (fun _ => ?_) (fun z => absurd rfl z)
  exact hgo Z' T1 T2 T3 G R P O B U V' M R' kt t H locs ls h3 hw hl
set_option maxRecDepth 20000 in
theorem law_may (cx : LC p s m c bS L xs g A k) (hi : i + 5 < L) (hcs : cells + 28 ≤ 600000 ∧ slots + 759 ≤ 7302249) (hgo : LGo p l e s m below meth c bS Q g A a b 1909 i (cells + 28) (slots + 759)) : LGo p l e s m below meth c bS Q g A a b 898 i cells slots := by
  intro Z T1 T2 T3 G R P O B U V M R' kt t H locs ls h hw hl
  obtain ⟨⟨hx, hb, hml, hown, hts⟩, ⟨hX, hbl, hbA, hL⟩, hK, hA, hSg⟩ := id cx
  have hS : CallFix p m c cL_law 4 s #[Value.ref bS] wsL_law RL := ⟨hx, hb, hml, hown, hts⟩
  refine lv_aload_n hx hb dL_law_898 rfl (lv_at hl 2 rfl) ?_
  refine larg cx hw 1 (by omega) hl 899 (by decide) dL_law_899 dL_law_900 dL_law_901 dL_law_902 dL_law_903 ?_
  refine larg cx hw 2 (by omega) hl 904 (by decide) dL_law_904 dL_law_905 dL_law_906 dL_law_907 dL_law_908 ?_
  obtain ⟨ra, Z', V', h1, h2, h3⟩ := op_may h T3 O B M (xs (i + 1)) (xs (i + 2))
  refine rVWp (wq := wC g a Z' T1 T2 T3 G R P O B ++ wRf g b U V M R' kt t) (rs := wRf g b U V M R' kt t) (As := [.int (xs (i + 1)), .int (xs (i + 2))]) (rest := []) (q0 := 0) hS (c_X6_may l g (a 0) (a 1) (a 2) (a 3) (a 4) (a 5) (a 6) (a 7) (a 8) Z T1 T2 T3 G R P O B (xs (i + 1)) (xs (i + 2)) h1) gL_law_X6_may rfl hd_X6_may ⟨Nat.le_of_ble_eq_true rfl, Nat.le_of_ble_eq_true rfl⟩ hK hw hA (List.Perm.refl _) rfl (List.Perm.refl _) rfl rfl rfl rfl hl.1 rfl (Nat.le_of_ble_eq_true rfl) dL_law_909 ⟨show cells ≤ 600000 by omega, show slots ≤ 7302249 by omega⟩ (fun H locs hw => ?_)
  refine W.eq (g2 := F0 m 912 ls [.int ra]) rfl ?_
  refine lv_aload_n hx hb dL_law_912 rfl (lv_at hl 3 rfl) ?_
  refine larg cx hw 1 (by omega) hl 913 (by decide) dL_law_913 dL_law_914 dL_law_915 dL_law_916 dL_law_917 ?_
  refine larg cx hw 2 (by omega) hl 918 (by decide) dL_law_918 dL_law_919 dL_law_920 dL_law_921 dL_law_922 ?_
  refine rVWp (wq := wC g a Z' T1 T2 T3 G R P O B ++ wRf g b U V' M R' kt t) (rs := wC g a Z' T1 T2 T3 G R P O B ++ (wOT g t ++ wOT g kt)) (As := [.int (xs (i + 1)), .int (xs (i + 2))]) (rest := [.int ra]) (q0 := 0) hS (c_X7_may l g b (tvOf kt) (tvOf t) U V M R' (xs (i + 1)) (xs (i + 2)) h2) gL_law_X7_may rfl hd_X7_may ⟨Nat.le_of_ble_eq_true rfl, Nat.le_of_ble_eq_true rfl⟩ hK hw hA (lpmC _ _ _ _) rfl (lpmC _ _ _ _) rfl rfl rfl rfl hl.1 rfl (Nat.le_of_ble_eq_true rfl) dL_law_923 ⟨show cells ≤ 600000 by omega, show slots ≤ 7302249 by omega⟩ (fun H locs hw => ?_)
  refine W.eq (g2 := F0 m 926 ls [.int ra, .int ra]) rfl ?_
  refine W.widen (k := cells + 28) (n := slots + 759) (by omega) (by omega) ?_
  refine lv_icmp_eq (tgt := 1909) hx hb dL_law_926 (by decide) (fun _ => ?_) (fun z => absurd rfl z)
  exact hgo Z' T1 T2 T3 G R P O B U V' M R' kt t H locs ls h3 hw hl
set_option maxRecDepth 20000 in
theorem law_mouths (cx : LC p s m c bS L xs g A k) (hi : i + 5 < L) (hcs : cells + 28 ≤ 600000 ∧ slots + 759 ≤ 7302249) (hgo : LGo p l e s m below meth c bS Q g A a b 1909 i (cells + 28) (slots + 759)) : LGo p l e s m below meth c bS Q g A a b 931 i cells slots := by
  intro Z T1 T2 T3 G R P O B U V M R' kt t H locs ls h hw hl
  obtain ⟨⟨hx, hb, hml, hown, hts⟩, ⟨hX, hbl, hbA, hL⟩, hK, hA, hSg⟩ := id cx
  have hS : CallFix p m c cL_law 4 s #[Value.ref bS] wsL_law RL := ⟨hx, hb, hml, hown, hts⟩
  refine lv_aload_n hx hb dL_law_931 rfl (lv_at hl 2 rfl) ?_
  refine larg cx hw 1 (by omega) hl 932 (by decide) dL_law_932 dL_law_933 dL_law_934 dL_law_935 dL_law_936 ?_
  obtain ⟨ra, Z', V', h1, h2, h3⟩ := op_mouths h T3 O B M (xs (i + 1))
  refine rVWp (wq := wC g a Z' T1 T2 T3 G R P O B ++ wRf g b U V M R' kt t) (rs := wRf g b U V M R' kt t) (As := [.int (xs (i + 1))]) (rest := []) (q0 := 0) hS (c_X6_mouths l g (a 0) (a 1) (a 2) (a 3) (a 4) (a 5) (a 6) (a 7) (a 8) Z T1 T2 T3 G R P O B (xs (i + 1)) h1) gL_law_X6_mouths rfl hd_X6_mouths ⟨Nat.le_of_ble_eq_true rfl, Nat.le_of_ble_eq_true rfl⟩ hK hw hA (List.Perm.refl _) rfl (List.Perm.refl _) rfl rfl rfl rfl hl.1 rfl (Nat.le_of_ble_eq_true rfl) dL_law_937 ⟨show cells ≤ 600000 by omega, show slots ≤ 7302249 by omega⟩ (fun H locs hw => ?_)
  refine W.eq (g2 := F0 m 940 ls [.int ra]) rfl ?_
  refine lv_aload_n hx hb dL_law_940 rfl (lv_at hl 3 rfl) ?_
  refine larg cx hw 1 (by omega) hl 941 (by decide) dL_law_941 dL_law_942 dL_law_943 dL_law_944 dL_law_945 ?_
  refine rVWp (wq := wC g a Z' T1 T2 T3 G R P O B ++ wRf g b U V' M R' kt t) (rs := wC g a Z' T1 T2 T3 G R P O B ++ (wOT g t ++ wOT g kt)) (As := [.int (xs (i + 1))]) (rest := [.int ra]) (q0 := 0) hS (c_X7_mouths l g b (tvOf kt) (tvOf t) U V M R' (xs (i + 1)) h2) gL_law_X7_mouths rfl hd_X7_mouths ⟨Nat.le_of_ble_eq_true rfl, Nat.le_of_ble_eq_true rfl⟩ hK hw hA (lpmC _ _ _ _) rfl (lpmC _ _ _ _) rfl rfl rfl rfl hl.1 rfl (Nat.le_of_ble_eq_true rfl) dL_law_946 ⟨show cells ≤ 600000 by omega, show slots ≤ 7302249 by omega⟩ (fun H locs hw => ?_)
  refine W.eq (g2 := F0 m 949 ls [.int ra, .int ra]) rfl ?_
  refine W.widen (k := cells + 28) (n := slots + 759) (by omega) (by omega) ?_
  refine lv_icmp_eq (tgt := 1909) hx hb dL_law_949 (by decide) (fun _ => ?_) (fun z => absurd rfl z)
  exact hgo Z' T1 T2 T3 G R P O B U V' M R' kt t H locs ls h3 hw hl
set_option maxRecDepth 20000 in
theorem law_say (cx : LC p s m c bS L xs g A k) (hi : i + 5 < L) (hcs : cells + 28 ≤ 600000 ∧ slots + 759 ≤ 7302249) (hgo : LGo p l e s m below meth c bS Q g A a b 1909 i (cells + 28) (slots + 759)) : LGo p l e s m below meth c bS Q g A a b 954 i cells slots := by
  intro Z T1 T2 T3 G R P O B U V M R' kt t H locs ls h hw hl
  obtain ⟨⟨hx, hb, hml, hown, hts⟩, ⟨hX, hbl, hbA, hL⟩, hK, hA, hSg⟩ := id cx
  have hS : CallFix p m c cL_law 4 s #[Value.ref bS] wsL_law RL := ⟨hx, hb, hml, hown, hts⟩
  refine lv_aload_n hx hb dL_law_954 rfl (lv_at hl 2 rfl) ?_
  refine larg cx hw 1 (by omega) hl 955 (by decide) dL_law_955 dL_law_956 dL_law_957 dL_law_958 dL_law_959 ?_
  refine larg cx hw 2 (by omega) hl 960 (by decide) dL_law_960 dL_law_961 dL_law_962 dL_law_963 dL_law_964 ?_
  obtain ⟨ra, Z', T1', U', V', h1, h2, h3⟩ := op_say h T3 O B M (xs (i + 1)) (xs (i + 2))
  refine rVWp (wq := wC g a Z' T1' T2 T3 G R P O B ++ wRf g b U V M R' kt t) (rs := wRf g b U V M R' kt t) (As := [.int (xs (i + 1)), .int (xs (i + 2))]) (rest := []) (q0 := 0) hS (c_X6_say l g (a 0) (a 1) (a 2) (a 3) (a 4) (a 5) (a 6) (a 7) (a 8) Z T1 T2 T3 G R P O B (xs (i + 1)) (xs (i + 2)) h1) gL_law_X6_say rfl hd_X6_say ⟨Nat.le_of_ble_eq_true rfl, Nat.le_of_ble_eq_true rfl⟩ hK hw hA (List.Perm.refl _) rfl (List.Perm.refl _) rfl rfl rfl rfl hl.1 rfl (Nat.le_of_ble_eq_true rfl) dL_law_965 ⟨show cells ≤ 600000 by omega, show slots ≤ 7302249 by omega⟩ (fun H locs hw => ?_)
  refine W.eq (g2 := F0 m 968 ls [.int ra]) rfl ?_
  refine lv_aload_n hx hb dL_law_968 rfl (lv_at hl 3 rfl) ?_
  refine larg cx hw 1 (by omega) hl 969 (by decide) dL_law_969 dL_law_970 dL_law_971 dL_law_972 dL_law_973 ?_
  refine larg cx hw 2 (by omega) hl 974 (by decide) dL_law_974 dL_law_975 dL_law_976 dL_law_977 dL_law_978 ?_
  refine rVWp (wq := wC g a Z' T1' T2 T3 G R P O B ++ wRf g b U' V' M R' kt t) (rs := wC g a Z' T1' T2 T3 G R P O B ++ (wOT g t ++ wOT g kt)) (As := [.int (xs (i + 1)), .int (xs (i + 2))]) (rest := [.int ra]) (q0 := 0) hS (c_X7_say l g b (tvOf kt) (tvOf t) U V M R' (xs (i + 1)) (xs (i + 2)) h2) gL_law_X7_say rfl hd_X7_say ⟨Nat.le_of_ble_eq_true rfl, Nat.le_of_ble_eq_true rfl⟩ hK hw hA (lpmC _ _ _ _) rfl (lpmC _ _ _ _) rfl rfl rfl rfl hl.1 rfl (Nat.le_of_ble_eq_true rfl) dL_law_979 ⟨show cells ≤ 600000 by omega, show slots ≤ 7302249 by omega⟩ (fun H locs hw => ?_)
  refine W.eq (g2 := F0 m 982 ls [.int ra, .int ra]) rfl ?_
  refine W.widen (k := cells + 28) (n := slots + 759) (by omega) (by omega) ?_
  refine lv_icmp_eq (tgt := 1909) hx hb dL_law_982 (by decide) (fun _ => ?_) (fun z => absurd rfl z)
  exact hgo Z' T1' T2 T3 G R P O B U' V' M R' kt t H locs ls h3 hw hl
set_option maxRecDepth 20000 in
theorem law_sign (cx : LC p s m c bS L xs g A k) (hi : i + 5 < L) (hcs : cells + 28 ≤ 600000 ∧ slots + 759 ≤ 7302249) (hgo : LGo p l e s m below meth c bS Q g A a b 1909 i (cells + 28) (slots + 759)) : LGo p l e s m below meth c bS Q g A a b 987 i cells slots := by
  intro Z T1 T2 T3 G R P O B U V M R' kt t H locs ls h hw hl
  obtain ⟨⟨hx, hb, hml, hown, hts⟩, ⟨hX, hbl, hbA, hL⟩, hK, hA, hSg⟩ := id cx
  have hS : CallFix p m c cL_law 4 s #[Value.ref bS] wsL_law RL := ⟨hx, hb, hml, hown, hts⟩
  refine lv_aload_n hx hb dL_law_987 rfl (lv_at hl 2 rfl) ?_
  refine larg cx hw 1 (by omega) hl 988 (by decide) dL_law_988 dL_law_989 dL_law_990 dL_law_991 dL_law_992 ?_
  refine larg cx hw 2 (by omega) hl 993 (by decide) dL_law_993 dL_law_994 dL_law_995 dL_law_996 dL_law_997 ?_
  refine larg cx hw 3 (by omega) hl 998 (by decide) dL_law_998 dL_law_999 dL_law_1000 dL_law_1001 dL_law_1002 ?_
  obtain ⟨ra, Z', T1', U', V', h1, h2, h3⟩ := op_sign h T3 O B M (xs (i + 1)) (xs (i + 2)) (xs (i + 3))
  refine rVWp (wq := wC g a Z' T1' T2 T3 G R P O B ++ wRf g b U V M R' kt t) (rs := wRf g b U V M R' kt t) (As := [.int (xs (i + 1)), .int (xs (i + 2)), .int (xs (i + 3))]) (rest := []) (q0 := 0) hS (c_X6_sign l g (a 0) (a 1) (a 2) (a 3) (a 4) (a 5) (a 6) (a 7) (a 8) Z T1 T2 T3 G R P O B (xs (i + 1)) (xs (i + 2)) (xs (i + 3)) h1) gL_law_X6_sign rfl hd_X6_sign ⟨Nat.le_of_ble_eq_true rfl, Nat.le_of_ble_eq_true rfl⟩ hK hw hA (List.Perm.refl _) rfl (List.Perm.refl _) rfl rfl rfl rfl hl.1 rfl (Nat.le_of_ble_eq_true rfl) dL_law_1003 ⟨show cells ≤ 600000 by omega, show slots ≤ 7302249 by omega⟩ (fun H locs hw => ?_)
  refine W.eq (g2 := F0 m 1006 ls [.int ra]) rfl ?_
  refine lv_aload_n hx hb dL_law_1006 rfl (lv_at hl 3 rfl) ?_
  refine larg cx hw 1 (by omega) hl 1007 (by decide) dL_law_1007 dL_law_1008 dL_law_1009 dL_law_1010 dL_law_1011 ?_
  refine larg cx hw 2 (by omega) hl 1012 (by decide) dL_law_1012 dL_law_1013 dL_law_1014 dL_law_1015 dL_law_1016 ?_
  refine larg cx hw 3 (by omega) hl 1017 (by decide) dL_law_1017 dL_law_1018 dL_law_1019 dL_law_1020 dL_law_1021 ?_
  refine rVWp (wq := wC g a Z' T1' T2 T3 G R P O B ++ wRf g b U' V' M R' kt t) (rs := wC g a Z' T1' T2 T3 G R P O B ++ (wOT g t ++ wOT g kt)) (As := [.int (xs (i + 1)), .int (xs (i + 2)), .int (xs (i + 3))]) (rest := [.int ra]) (q0 := 0) hS (c_X7_sign l g b (tvOf kt) (tvOf t) U V M R' (xs (i + 1)) (xs (i + 2)) (xs (i + 3)) h2) gL_law_X7_sign rfl hd_X7_sign ⟨Nat.le_of_ble_eq_true rfl, Nat.le_of_ble_eq_true rfl⟩ hK hw hA (lpmC _ _ _ _) rfl (lpmC _ _ _ _) rfl rfl rfl rfl hl.1 rfl (Nat.le_of_ble_eq_true rfl) dL_law_1022 ⟨show cells ≤ 600000 by omega, show slots ≤ 7302249 by omega⟩ (fun H locs hw => ?_)
  refine W.eq (g2 := F0 m 1025 ls [.int ra, .int ra]) rfl ?_
  refine W.widen (k := cells + 28) (n := slots + 759) (by omega) (by omega) ?_
  refine lv_icmp_eq (tgt := 1909) hx hb dL_law_1025 (by decide) (fun _ => ?_) (fun z => absurd rfl z)
  exact hgo Z' T1' T2 T3 G R P O B U' V' M R' kt t H locs ls h3 hw hl
set_option maxRecDepth 20000 in
theorem law_known (cx : LC p s m c bS L xs g A k) (hi : i + 5 < L) (hcs : cells + 28 ≤ 600000 ∧ slots + 759 ≤ 7302249) (hgo : LGo p l e s m below meth c bS Q g A a b 1909 i (cells + 28) (slots + 759)) : LGo p l e s m below meth c bS Q g A a b 1030 i cells slots := by
  intro Z T1 T2 T3 G R P O B U V M R' kt t H locs ls h hw hl
  obtain ⟨⟨hx, hb, hml, hown, hts⟩, ⟨hX, hbl, hbA, hL⟩, hK, hA, hSg⟩ := id cx
  have hS : CallFix p m c cL_law 4 s #[Value.ref bS] wsL_law RL := ⟨hx, hb, hml, hown, hts⟩
  refine lv_aload_n hx hb dL_law_1030 rfl (lv_at hl 2 rfl) ?_
  obtain ⟨ra, h1, h2, h3⟩ := op_known h T3 O B M
  refine rVR (wc := wC g a Z T1 T2 T3 G R P O B) (As := []) (rest := []) (q0 := 0) hS (c_X6_known l g (a 0) (a 1) (a 2) (a 3) (a 4) (a 5) (a 6) (a 7) (a 8) Z T1 T2 T3 G R P O B h1) gL_law_X6_known rfl hd_X6_known ⟨Nat.le_of_ble_eq_true rfl, Nat.le_of_ble_eq_true rfl⟩ hK (va_P.pm hw.1 (List.Perm.refl _)) rfl rfl rfl rfl hl.1 rfl (Nat.le_of_ble_eq_true rfl) dL_law_1031 ⟨show cells ≤ 600000 by omega, show slots ≤ 7302249 by omega⟩ ?_
  refine W.eq (g2 := F0 m 1034 ls [.int ra]) rfl ?_
  refine lv_aload_n hx hb dL_law_1034 rfl (lv_at hl 3 rfl) ?_
  refine rVR (wc := wXM g b U V M R' (tvOf kt) (tvOf t)) (As := []) (rest := [.int ra]) (q0 := 0) hS (c_X7_known l g b (tvOf kt) (tvOf t) U V M R' h2) gL_law_X7_known rfl hd_X7_known ⟨Nat.le_of_ble_eq_true rfl, Nat.le_of_ble_eq_true rfl⟩ hK (va_P.pm hw.1 (lpmC _ _ _ _)) rfl rfl rfl rfl hl.1 rfl (Nat.le_of_ble_eq_true rfl) dL_law_1035 ⟨show cells ≤ 600000 by omega, show slots ≤ 7302249 by omega⟩ ?_
  refine W.eq (g2 := F0 m 1038 ls [.int ra, .int ra]) rfl ?_
  refine W.widen (k := cells + 28) (n := slots + 759) (by omega) (by omega) ?_
  refine lv_icmp_eq (tgt := 1909) hx hb dL_law_1038 (by decide) (fun _ => ?_) (fun z => absurd rfl z)
  exact hgo Z T1 T2 T3 G R P O B U V M R' kt t H locs ls h3 hw hl
set_option maxRecDepth 20000 in
theorem law_spread (cx : LC p s m c bS L xs g A k) (hi : i + 5 < L) (hcs : cells + 28 ≤ 600000 ∧ slots + 759 ≤ 7302249) (hgo : LGo p l e s m below meth c bS Q g A a b 1909 i (cells + 28) (slots + 759)) : LGo p l e s m below meth c bS Q g A a b 1043 i cells slots := by
  intro Z T1 T2 T3 G R P O B U V M R' kt t H locs ls h hw hl
  obtain ⟨⟨hx, hb, hml, hown, hts⟩, ⟨hX, hbl, hbA, hL⟩, hK, hA, hSg⟩ := id cx
  have hS : CallFix p m c cL_law 4 s #[Value.ref bS] wsL_law RL := ⟨hx, hb, hml, hown, hts⟩
  refine lv_aload_n hx hb dL_law_1043 rfl (lv_at hl 2 rfl) ?_
  refine larg cx hw 1 (by omega) hl 1044 (by decide) dL_law_1044 dL_law_1045 dL_law_1046 dL_law_1047 dL_law_1048 ?_
  refine larg cx hw 2 (by omega) hl 1049 (by decide) dL_law_1049 dL_law_1050 dL_law_1051 dL_law_1052 dL_law_1053 ?_
  obtain ⟨ra, Z', T3', V', tp', h1, h2, h3⟩ := op_spread h T3 O B M (tpOf t) (xs (i + 1)) (xs (i + 2))
  refine rVWp (wq := wC g a Z' T1 T2 T3' G R P O B ++ wRf g b U V M R' kt t) (rs := wRf g b U V M R' kt t) (As := [.int (xs (i + 1)), .int (xs (i + 2))]) (rest := []) (q0 := 0) hS (c_X6_spread l g (a 0) (a 1) (a 2) (a 3) (a 4) (a 5) (a 6) (a 7) (a 8) Z T1 T2 T3 G R P O B (xs (i + 1)) (xs (i + 2)) h1) gL_law_X6_spread rfl hd_X6_spread ⟨Nat.le_of_ble_eq_true rfl, Nat.le_of_ble_eq_true rfl⟩ hK hw hA (List.Perm.refl _) rfl (List.Perm.refl _) rfl rfl rfl rfl hl.1 rfl (Nat.le_of_ble_eq_true rfl) dL_law_1054 ⟨show cells ≤ 600000 by omega, show slots ≤ 7302249 by omega⟩ (fun H locs hw => ?_)
  refine W.eq (g2 := F0 m 1057 ls [.int ra]) rfl ?_
  refine lv_aload_n hx hb dL_law_1057 rfl (lv_at hl 3 rfl) ?_
  refine larg cx hw 1 (by omega) hl 1058 (by decide) dL_law_1058 dL_law_1059 dL_law_1060 dL_law_1061 dL_law_1062 ?_
  refine larg cx hw 2 (by omega) hl 1063 (by decide) dL_law_1063 dL_law_1064 dL_law_1065 dL_law_1066 dL_law_1067 ?_
  refine rVBp (t := t) (wr := wC g a Z' T1 T2 T3' G R P O B ++ wOT g kt) (As := [.int (xs (i + 1)), .int (xs (i + 2))]) (rest := [.int ra]) hS (c_X7_spread l g b U V M R' (tvOf kt) t (tpOf t) rfl (xs (i + 1)) (xs (i + 2)) h2) gL_law_X7_spread rfl hd_X7_spread ⟨Nat.le_of_ble_eq_true rfl, Nat.le_of_ble_eq_true rfl⟩ hK hw hA (lpmA _ _ _ _) rfl rfl hl.1 rfl (Nat.le_of_ble_eq_true rfl) dL_law_1068 ⟨show cells + 28 * nlOf t ≤ 600000 by have := nl_le t; omega, show slots + 759 * nlOf t ≤ 7302249 by have := nl_le t; omega⟩ (fun t2 H locs ht2 hw => ?_)
  have hw : Wk g A s.heap H locs (wC g a Z' T1 T2 T3' G R P O B ++ wRf g b U V' M R' kt t2) := hw.perm (lpmA' _ _ _ _)
  refine W.eq (g2 := F0 m 1071 ls [.int ra, .int ra]) rfl ?_
  refine W.widen (k := cells + 28) (n := slots + 759) (by have := nl_le t; omega) (by have := nl_le t; omega) ?_
  refine lv_icmp_eq (tgt := 1909) hx hb dL_law_1071 (by decide) (fun _ => ?_) (fun z => absurd rfl z)
  exact hgo Z' T1 T2 T3' G R P O B U V' M R' kt t2 H locs ls h3 hw hl
set_option maxRecDepth 20000 in
theorem law_knownBy (cx : LC p s m c bS L xs g A k) (hi : i + 5 < L) (hcs : cells + 28 ≤ 600000 ∧ slots + 759 ≤ 7302249) (hgo : LGo p l e s m below meth c bS Q g A a b 1909 i (cells + 28) (slots + 759)) : LGo p l e s m below meth c bS Q g A a b 1076 i cells slots := by
  intro Z T1 T2 T3 G R P O B U V M R' kt t H locs ls h hw hl
  obtain ⟨⟨hx, hb, hml, hown, hts⟩, ⟨hX, hbl, hbA, hL⟩, hK, hA, hSg⟩ := id cx
  have hS : CallFix p m c cL_law 4 s #[Value.ref bS] wsL_law RL := ⟨hx, hb, hml, hown, hts⟩
  refine lv_aload_n hx hb dL_law_1076 rfl (lv_at hl 2 rfl) ?_
  refine larg cx hw 1 (by omega) hl 1077 (by decide) dL_law_1077 dL_law_1078 dL_law_1079 dL_law_1080 dL_law_1081 ?_
  obtain ⟨ra, Z', T3', V', tp', h1, h2, h3⟩ := op_knownBy h T3 O B M (tpOf t) (xs (i + 1))
  refine rVWp (wq := wC g a Z' T1 T2 T3' G R P O B ++ wRf g b U V M R' kt t) (rs := wRf g b U V M R' kt t) (As := [.int (xs (i + 1))]) (rest := []) (q0 := 0) hS (c_X6_knownBy l g (a 0) (a 1) (a 2) (a 3) (a 4) (a 5) (a 6) (a 7) (a 8) Z T1 T2 T3 G R P O B (xs (i + 1)) h1) gL_law_X6_knownBy rfl hd_X6_knownBy ⟨Nat.le_of_ble_eq_true rfl, Nat.le_of_ble_eq_true rfl⟩ hK hw hA (List.Perm.refl _) rfl (List.Perm.refl _) rfl rfl rfl rfl hl.1 rfl (Nat.le_of_ble_eq_true rfl) dL_law_1082 ⟨show cells ≤ 600000 by omega, show slots ≤ 7302249 by omega⟩ (fun H locs hw => ?_)
  refine W.eq (g2 := F0 m 1085 ls [.int ra]) rfl ?_
  refine lv_aload_n hx hb dL_law_1085 rfl (lv_at hl 3 rfl) ?_
  refine larg cx hw 1 (by omega) hl 1086 (by decide) dL_law_1086 dL_law_1087 dL_law_1088 dL_law_1089 dL_law_1090 ?_
  refine rVBp (t := t) (wr := wC g a Z' T1 T2 T3' G R P O B ++ wOT g kt) (As := [.int (xs (i + 1))]) (rest := [.int ra]) hS (c_X7_knownBy l g b U V M R' (tvOf kt) t (tpOf t) rfl (xs (i + 1)) h2) gL_law_X7_knownBy rfl hd_X7_knownBy ⟨Nat.le_of_ble_eq_true rfl, Nat.le_of_ble_eq_true rfl⟩ hK hw hA (lpmA _ _ _ _) rfl rfl hl.1 rfl (Nat.le_of_ble_eq_true rfl) dL_law_1091 ⟨show cells + 28 * nlOf t ≤ 600000 by have := nl_le t; omega, show slots + 759 * nlOf t ≤ 7302249 by have := nl_le t; omega⟩ (fun t2 H locs ht2 hw => ?_)
  have hw : Wk g A s.heap H locs (wC g a Z' T1 T2 T3' G R P O B ++ wRf g b U V' M R' kt t2) := hw.perm (lpmA' _ _ _ _)
  refine W.eq (g2 := F0 m 1094 ls [.int ra, .int ra]) rfl ?_
  refine W.widen (k := cells + 28) (n := slots + 759) (by have := nl_le t; omega) (by have := nl_le t; omega) ?_
  refine lv_icmp_eq (tgt := 1909) hx hb dL_law_1094 (by decide) (fun _ => ?_) (fun z => absurd rfl z)
  exact hgo Z' T1 T2 T3' G R P O B U V' M R' kt t2 H locs ls h3 hw hl
set_option maxRecDepth 20000 in
theorem law_rounds (cx : LC p s m c bS L xs g A k) (hi : i + 5 < L) (hcs : cells + 28 ≤ 600000 ∧ slots + 759 ≤ 7302249) (hgo : LGo p l e s m below meth c bS Q g A a b 1909 i (cells + 28) (slots + 759)) : LGo p l e s m below meth c bS Q g A a b 1099 i cells slots := by
  intro Z T1 T2 T3 G R P O B U V M R' kt t H locs ls h hw hl
  obtain ⟨⟨hx, hb, hml, hown, hts⟩, ⟨hX, hbl, hbA, hL⟩, hK, hA, hSg⟩ := id cx
  have hS : CallFix p m c cL_law 4 s #[Value.ref bS] wsL_law RL := ⟨hx, hb, hml, hown, hts⟩
  refine lv_aload_n hx hb dL_law_1099 rfl (lv_at hl 2 rfl) ?_
  obtain ⟨ra, T3', tp', h1, h2⟩ := op_rounds h T3 O B M (tpOf t)
  have h3 := h
  refine rVWp (wq := wC g a Z T1 T2 T3' G R P O B ++ wRf g b U V M R' kt t) (rs := wRf g b U V M R' kt t) (As := []) (rest := []) (q0 := 0) hS (c_X6_rounds l g (a 0) (a 1) (a 2) (a 3) (a 4) (a 5) (a 6) (a 7) (a 8) Z T1 T2 T3 G R P O B h1) gL_law_X6_rounds rfl hd_X6_rounds ⟨Nat.le_of_ble_eq_true rfl, Nat.le_of_ble_eq_true rfl⟩ hK hw hA (List.Perm.refl _) rfl (List.Perm.refl _) rfl rfl rfl rfl hl.1 rfl (Nat.le_of_ble_eq_true rfl) dL_law_1100 ⟨show cells ≤ 600000 by omega, show slots ≤ 7302249 by omega⟩ (fun H locs hw => ?_)
  refine W.eq (g2 := F0 m 1103 ls [.int ra]) rfl ?_
  refine lv_aload_n hx hb dL_law_1103 rfl (lv_at hl 3 rfl) ?_
  refine rVBp (t := t) (wr := wC g a Z T1 T2 T3' G R P O B ++ wOT g kt) (As := []) (rest := [.int ra]) hS (c_X7_rounds l g b U V M R' (tvOf kt) t (tpOf t) rfl h2) gL_law_X7_rounds rfl hd_X7_rounds ⟨Nat.le_of_ble_eq_true rfl, Nat.le_of_ble_eq_true rfl⟩ hK hw hA (lpmA _ _ _ _) rfl rfl hl.1 rfl (Nat.le_of_ble_eq_true rfl) dL_law_1104 ⟨show cells + 28 * nlOf t ≤ 600000 by have := nl_le t; omega, show slots + 759 * nlOf t ≤ 7302249 by have := nl_le t; omega⟩ (fun t2 H locs ht2 hw => ?_)
  have hw : Wk g A s.heap H locs (wC g a Z T1 T2 T3' G R P O B ++ wRf g b U V M R' kt t2) := hw.perm (lpmA' _ _ _ _)
  refine W.eq (g2 := F0 m 1107 ls [.int ra, .int ra]) rfl ?_
  refine W.widen (k := cells + 28) (n := slots + 759) (by have := nl_le t; omega) (by have := nl_le t; omega) ?_
  refine lv_icmp_eq (tgt := 1909) hx hb dL_law_1107 (by decide) (fun _ => ?_) (fun z => absurd rfl z)
  exact hgo Z T1 T2 T3' G R P O B U V M R' kt t2 H locs ls h3 hw hl
set_option maxRecDepth 20000 in
theorem law_never (cx : LC p s m c bS L xs g A k) (hi : i + 5 < L) (hcs : cells + 28 ≤ 600000 ∧ slots + 759 ≤ 7302249) (hgo : LGo p l e s m below meth c bS Q g A a b 1909 i (cells + 28) (slots + 759)) : LGo p l e s m below meth c bS Q g A a b 1112 i cells slots := by
  intro Z T1 T2 T3 G R P O B U V M R' kt t H locs ls h hw hl
  obtain ⟨⟨hx, hb, hml, hown, hts⟩, ⟨hX, hbl, hbA, hL⟩, hK, hA, hSg⟩ := id cx
  have hS : CallFix p m c cL_law 4 s #[Value.ref bS] wsL_law RL := ⟨hx, hb, hml, hown, hts⟩
  refine lv_aload_n hx hb dL_law_1112 rfl (lv_at hl 2 rfl) ?_
  refine larg cx hw 1 (by omega) hl 1113 (by decide) dL_law_1113 dL_law_1114 dL_law_1115 dL_law_1116 dL_law_1117 ?_
  obtain ⟨ra, Z', T3', V', tp', h1, h2, h3⟩ := op_never h T3 O B M (tpOf t) (xs (i + 1))
  refine rVWp (wq := wC g a Z' T1 T2 T3' G R P O B ++ wRf g b U V M R' kt t) (rs := wRf g b U V M R' kt t) (As := [.int (xs (i + 1))]) (rest := []) (q0 := 0) hS (c_X6_never l g (a 0) (a 1) (a 2) (a 3) (a 4) (a 5) (a 6) (a 7) (a 8) Z T1 T2 T3 G R P O B (xs (i + 1)) h1) gL_law_X6_never rfl hd_X6_never ⟨Nat.le_of_ble_eq_true rfl, Nat.le_of_ble_eq_true rfl⟩ hK hw hA (List.Perm.refl _) rfl (List.Perm.refl _) rfl rfl rfl rfl hl.1 rfl (Nat.le_of_ble_eq_true rfl) dL_law_1118 ⟨show cells ≤ 600000 by omega, show slots ≤ 7302249 by omega⟩ (fun H locs hw => ?_)
  refine W.eq (g2 := F0 m 1121 ls [.int ra]) rfl ?_
  refine lv_aload_n hx hb dL_law_1121 rfl (lv_at hl 3 rfl) ?_
  refine larg cx hw 1 (by omega) hl 1122 (by decide) dL_law_1122 dL_law_1123 dL_law_1124 dL_law_1125 dL_law_1126 ?_
  refine rVBp (t := t) (wr := wC g a Z' T1 T2 T3' G R P O B ++ wOT g kt) (As := [.int (xs (i + 1))]) (rest := [.int ra]) hS (c_X7_never l g b U V M R' (tvOf kt) t (tpOf t) rfl (xs (i + 1)) h2) gL_law_X7_never rfl hd_X7_never ⟨Nat.le_of_ble_eq_true rfl, Nat.le_of_ble_eq_true rfl⟩ hK hw hA (lpmA _ _ _ _) rfl rfl hl.1 rfl (Nat.le_of_ble_eq_true rfl) dL_law_1127 ⟨show cells + 28 * nlOf t ≤ 600000 by have := nl_le t; omega, show slots + 759 * nlOf t ≤ 7302249 by have := nl_le t; omega⟩ (fun t2 H locs ht2 hw => ?_)
  have hw : Wk g A s.heap H locs (wC g a Z' T1 T2 T3' G R P O B ++ wRf g b U V' M R' kt t2) := hw.perm (lpmA' _ _ _ _)
  refine W.eq (g2 := F0 m 1130 ls [.int ra, .int ra]) rfl ?_
  refine W.widen (k := cells + 28) (n := slots + 759) (by have := nl_le t; omega) (by have := nl_le t; omega) ?_
  refine lv_icmp_eq (tgt := 1909) hx hb dL_law_1130 (by decide) (fun _ => ?_) (fun z => absurd rfl z)
  exact hgo Z' T1 T2 T3' G R P O B U V' M R' kt t2 H locs ls h3 hw hl
set_option maxRecDepth 20000 in
theorem law_when (cx : LC p s m c bS L xs g A k) (hi : i + 5 < L) (hcs : cells + 28 ≤ 600000 ∧ slots + 759 ≤ 7302249) (hgo : LGo p l e s m below meth c bS Q g A a b 1909 i (cells + 28) (slots + 759)) : LGo p l e s m below meth c bS Q g A a b 1135 i cells slots := by
  intro Z T1 T2 T3 G R P O B U V M R' kt t H locs ls h hw hl
  obtain ⟨⟨hx, hb, hml, hown, hts⟩, ⟨hX, hbl, hbA, hL⟩, hK, hA, hSg⟩ := id cx
  have hS : CallFix p m c cL_law 4 s #[Value.ref bS] wsL_law RL := ⟨hx, hb, hml, hown, hts⟩
  refine lv_aload_n hx hb dL_law_1135 rfl (lv_at hl 2 rfl) ?_
  refine larg cx hw 1 (by omega) hl 1136 (by decide) dL_law_1136 dL_law_1137 dL_law_1138 dL_law_1139 dL_law_1140 ?_
  refine larg cx hw 2 (by omega) hl 1141 (by decide) dL_law_1141 dL_law_1142 dL_law_1143 dL_law_1144 dL_law_1145 ?_
  obtain ⟨ra, Z', T3', V', tp', h1, h2, h3⟩ := op_when h T3 O B M (tpOf t) (xs (i + 1)) (xs (i + 2))
  refine rVWp (wq := wC g a Z' T1 T2 T3' G R P O B ++ wRf g b U V M R' kt t) (rs := wRf g b U V M R' kt t) (As := [.int (xs (i + 1)), .int (xs (i + 2))]) (rest := []) (q0 := 0) hS (c_X6_when l g (a 0) (a 1) (a 2) (a 3) (a 4) (a 5) (a 6) (a 7) (a 8) Z T1 T2 T3 G R P O B (xs (i + 1)) (xs (i + 2)) h1) gL_law_X6_when rfl hd_X6_when ⟨Nat.le_of_ble_eq_true rfl, Nat.le_of_ble_eq_true rfl⟩ hK hw hA (List.Perm.refl _) rfl (List.Perm.refl _) rfl rfl rfl rfl hl.1 rfl (Nat.le_of_ble_eq_true rfl) dL_law_1146 ⟨show cells ≤ 600000 by omega, show slots ≤ 7302249 by omega⟩ (fun H locs hw => ?_)
  refine W.eq (g2 := F0 m 1149 ls [.int ra]) rfl ?_
  refine lv_aload_n hx hb dL_law_1149 rfl (lv_at hl 3 rfl) ?_
  refine larg cx hw 1 (by omega) hl 1150 (by decide) dL_law_1150 dL_law_1151 dL_law_1152 dL_law_1153 dL_law_1154 ?_
  refine larg cx hw 2 (by omega) hl 1155 (by decide) dL_law_1155 dL_law_1156 dL_law_1157 dL_law_1158 dL_law_1159 ?_
  refine rVBp (t := t) (wr := wC g a Z' T1 T2 T3' G R P O B ++ wOT g kt) (As := [.int (xs (i + 1)), .int (xs (i + 2))]) (rest := [.int ra]) hS (c_X7_when l g b U V M R' (tvOf kt) t (tpOf t) rfl (xs (i + 1)) (xs (i + 2)) h2) gL_law_X7_when rfl hd_X7_when ⟨Nat.le_of_ble_eq_true rfl, Nat.le_of_ble_eq_true rfl⟩ hK hw hA (lpmA _ _ _ _) rfl rfl hl.1 rfl (Nat.le_of_ble_eq_true rfl) dL_law_1160 ⟨show cells + 28 * nlOf t ≤ 600000 by have := nl_le t; omega, show slots + 759 * nlOf t ≤ 7302249 by have := nl_le t; omega⟩ (fun t2 H locs ht2 hw => ?_)
  have hw : Wk g A s.heap H locs (wC g a Z' T1 T2 T3' G R P O B ++ wRf g b U V' M R' kt t2) := hw.perm (lpmA' _ _ _ _)
  refine W.eq (g2 := F0 m 1163 ls [.int ra, .int ra]) rfl ?_
  refine W.widen (k := cells + 28) (n := slots + 759) (by have := nl_le t; omega) (by have := nl_le t; omega) ?_
  refine lv_icmp_eq (tgt := 1909) hx hb dL_law_1163 (by decide) (fun _ => ?_) (fun z => absurd rfl z)
  exact hgo Z' T1 T2 T3' G R P O B U V' M R' kt t2 H locs ls h3 hw hl
end LAW1
