section LAW2
variable {p : Program} {l : Launch} {e : Env} {s : State} {m : MethodId} {below : List Frame} {meth : Method} {c : Code} {cells slots : Nat} {Q : State → Prop} {bS L i : Nat} {xs : Nat → Int32} {g : Gm} {A : Nat → Prop} {k : SgT} {a : Nat → Nat → Nat} {b : Nat → Nat}
set_option maxRecDepth 20000 in
theorem law_stop (cx : LC p s m c bS L xs g A k) (hi : i + 5 < L) (hcs : cells + 28 ≤ 600000 ∧ slots + 759 ≤ 7302249) (hgo : LGo p l e s m below meth c bS Q g A a b 1909 i (cells + 28) (slots + 759)) : LGo p l e s m below meth c bS Q g A a b 1168 i cells slots := by
  intro Z T1 T2 T3 G R P O B U V M R' kt t H locs ls h hw hl
  obtain ⟨⟨hx, hb, hml, hown, hts⟩, ⟨hX, hbl, hbA, hL⟩, hK, hA, hSg⟩ := id cx
  have hS : CallFix p m c cL_law 4 s #[Value.ref bS] wsL_law RL := ⟨hx, hb, hml, hown, hts⟩
  refine lv_aload_n hx hb dL_law_1168 rfl (lv_at hl 2 rfl) ?_
  refine larg cx hw 1 (by omega) hl 1169 (by decide) dL_law_1169 dL_law_1170 dL_law_1171 dL_law_1172 dL_law_1173 ?_
  refine larg cx hw 2 (by omega) hl 1174 (by decide) dL_law_1174 dL_law_1175 dL_law_1176 dL_law_1177 dL_law_1178 ?_
  obtain ⟨ra, Z', T3', V', tp', h1, h2, h3⟩ := op_stop h T3 O B M (tpOf t) (xs (i + 1)) (xs (i + 2))
  refine rVWp (wq := wC g a Z' T1 T2 T3' G R P O B ++ wRf g b U V M R' kt t) (rs := wRf g b U V M R' kt t) (As := [.int (xs (i + 1)), .int (xs (i + 2))]) (rest := []) (q0 := 0) hS (c_X6_stop l g (a 0) (a 1) (a 2) (a 3) (a 4) (a 5) (a 6) (a 7) (a 8) Z T1 T2 T3 G R P O B (xs (i + 1)) (xs (i + 2)) h1) gL_law_X6_stop rfl hd_X6_stop ⟨Nat.le_of_ble_eq_true rfl, Nat.le_of_ble_eq_true rfl⟩ hK hw hA (List.Perm.refl _) rfl (List.Perm.refl _) rfl rfl rfl rfl hl.1 rfl (Nat.le_of_ble_eq_true rfl) dL_law_1179 ⟨show cells ≤ 600000 by omega, show slots ≤ 7302249 by omega⟩ (fun H locs hw => ?_)
  refine W.eq (g2 := F0 m 1182 ls [.int ra]) rfl ?_
  refine lv_aload_n hx hb dL_law_1182 rfl (lv_at hl 3 rfl) ?_
  refine larg cx hw 1 (by omega) hl 1183 (by decide) dL_law_1183 dL_law_1184 dL_law_1185 dL_law_1186 dL_law_1187 ?_
  refine larg cx hw 2 (by omega) hl 1188 (by decide) dL_law_1188 dL_law_1189 dL_law_1190 dL_law_1191 dL_law_1192 ?_
  refine rVBp (t := t) (wr := wC g a Z' T1 T2 T3' G R P O B ++ wOT g kt) (As := [.int (xs (i + 1)), .int (xs (i + 2))]) (rest := [.int ra]) hS (c_X7_stop l g b U V M R' (tvOf kt) t (tpOf t) rfl (xs (i + 1)) (xs (i + 2)) h2) gL_law_X7_stop rfl hd_X7_stop ⟨Nat.le_of_ble_eq_true rfl, Nat.le_of_ble_eq_true rfl⟩ hK hw hA (lpmA _ _ _ _) rfl rfl hl.1 rfl (Nat.le_of_ble_eq_true rfl) dL_law_1193 ⟨show cells + 28 * nlOf t ≤ 600000 by have := nl_le t; omega, show slots + 759 * nlOf t ≤ 7302249 by have := nl_le t; omega⟩ (fun t2 H locs ht2 hw => ?_)
  have hw : Wk g A s.heap H locs (wC g a Z' T1 T2 T3' G R P O B ++ wRf g b U V' M R' kt t2) := hw.perm (lpmA' _ _ _ _)
  refine W.eq (g2 := F0 m 1196 ls [.int ra, .int ra]) rfl ?_
  refine W.widen (k := cells + 28) (n := slots + 759) (by have := nl_le t; omega) (by have := nl_le t; omega) ?_
  refine lv_icmp_eq (tgt := 1909) hx hb dL_law_1196 (by decide) (fun _ => ?_) (fun z => absurd rfl z)
  exact hgo Z' T1 T2 T3' G R P O B U V' M R' kt t2 H locs ls h3 hw hl
set_option maxRecDepth 20000 in
theorem law_first (cx : LC p s m c bS L xs g A k) (hi : i + 5 < L) (hcs : cells + 28 ≤ 600000 ∧ slots + 759 ≤ 7302249) (hgo : LGo p l e s m below meth c bS Q g A a b 1909 i (cells + 28) (slots + 759)) : LGo p l e s m below meth c bS Q g A a b 1201 i cells slots := by
  intro Z T1 T2 T3 G R P O B U V M R' kt t H locs ls h hw hl
  obtain ⟨⟨hx, hb, hml, hown, hts⟩, ⟨hX, hbl, hbA, hL⟩, hK, hA, hSg⟩ := id cx
  have hS : CallFix p m c cL_law 4 s #[Value.ref bS] wsL_law RL := ⟨hx, hb, hml, hown, hts⟩
  refine lv_aload_n hx hb dL_law_1201 rfl (lv_at hl 2 rfl) ?_
  refine larg cx hw 1 (by omega) hl 1202 (by decide) dL_law_1202 dL_law_1203 dL_law_1204 dL_law_1205 dL_law_1206 ?_
  refine larg cx hw 2 (by omega) hl 1207 (by decide) dL_law_1207 dL_law_1208 dL_law_1209 dL_law_1210 dL_law_1211 ?_
  obtain ⟨ra, Z', T3', V', tp', h1, h2, h3⟩ := op_first h T3 O B M (tpOf t) (xs (i + 1)) (xs (i + 2))
  refine rVWp (wq := wC g a Z' T1 T2 T3' G R P O B ++ wRf g b U V M R' kt t) (rs := wRf g b U V M R' kt t) (As := [.int (xs (i + 1)), .int (xs (i + 2))]) (rest := []) (q0 := 0) hS (c_X6_first l g (a 0) (a 1) (a 2) (a 3) (a 4) (a 5) (a 6) (a 7) (a 8) Z T1 T2 T3 G R P O B (xs (i + 1)) (xs (i + 2)) h1) gL_law_X6_first rfl hd_X6_first ⟨Nat.le_of_ble_eq_true rfl, Nat.le_of_ble_eq_true rfl⟩ hK hw hA (List.Perm.refl _) rfl (List.Perm.refl _) rfl rfl rfl rfl hl.1 rfl (Nat.le_of_ble_eq_true rfl) dL_law_1212 ⟨show cells ≤ 600000 by omega, show slots ≤ 7302249 by omega⟩ (fun H locs hw => ?_)
  refine W.eq (g2 := F0 m 1215 ls [.int ra]) rfl ?_
  refine lv_aload_n hx hb dL_law_1215 rfl (lv_at hl 3 rfl) ?_
  refine larg cx hw 1 (by omega) hl 1216 (by decide) dL_law_1216 dL_law_1217 dL_law_1218 dL_law_1219 dL_law_1220 ?_
  refine larg cx hw 2 (by omega) hl 1221 (by decide) dL_law_1221 dL_law_1222 dL_law_1223 dL_law_1224 dL_law_1225 ?_
  refine rVBp (t := t) (wr := wC g a Z' T1 T2 T3' G R P O B ++ wOT g kt) (As := [.int (xs (i + 1)), .int (xs (i + 2))]) (rest := [.int ra]) hS (c_X7_first l g b U V M R' (tvOf kt) t (tpOf t) rfl (xs (i + 1)) (xs (i + 2)) h2) gL_law_X7_first rfl hd_X7_first ⟨Nat.le_of_ble_eq_true rfl, Nat.le_of_ble_eq_true rfl⟩ hK hw hA (lpmA _ _ _ _) rfl rfl hl.1 rfl (Nat.le_of_ble_eq_true rfl) dL_law_1226 ⟨show cells + 28 * nlOf t ≤ 600000 by have := nl_le t; omega, show slots + 759 * nlOf t ≤ 7302249 by have := nl_le t; omega⟩ (fun t2 H locs ht2 hw => ?_)
  have hw : Wk g A s.heap H locs (wC g a Z' T1 T2 T3' G R P O B ++ wRf g b U V' M R' kt t2) := hw.perm (lpmA' _ _ _ _)
  refine W.eq (g2 := F0 m 1229 ls [.int ra, .int ra]) rfl ?_
  refine W.widen (k := cells + 28) (n := slots + 759) (by have := nl_le t; omega) (by have := nl_le t; omega) ?_
  refine lv_icmp_eq (tgt := 1909) hx hb dL_law_1229 (by decide) (fun _ => ?_) (fun z => absurd rfl z)
  exact hgo Z' T1 T2 T3' G R P O B U V' M R' kt t2 H locs ls h3 hw hl
set_option maxRecDepth 20000 in
theorem law_order (cx : LC p s m c bS L xs g A k) (hi : i + 5 < L) (hcs : cells + 28 ≤ 600000 ∧ slots + 759 ≤ 7302249) (hgo : LGo p l e s m below meth c bS Q g A a b 1909 i (cells + 28) (slots + 759)) : LGo p l e s m below meth c bS Q g A a b 1234 i cells slots := by
  intro Z T1 T2 T3 G R P O B U V M R' kt t H locs ls h hw hl
  obtain ⟨⟨hx, hb, hml, hown, hts⟩, ⟨hX, hbl, hbA, hL⟩, hK, hA, hSg⟩ := id cx
  have hS : CallFix p m c cL_law 4 s #[Value.ref bS] wsL_law RL := ⟨hx, hb, hml, hown, hts⟩
  refine lv_aload_n hx hb dL_law_1234 rfl (lv_at hl 2 rfl) ?_
  refine larg cx hw 1 (by omega) hl 1235 (by decide) dL_law_1235 dL_law_1236 dL_law_1237 dL_law_1238 dL_law_1239 ?_
  obtain ⟨ra, Z', T3', O', B', V', tp', h1, h2, h3⟩ := op_order h T3 O B M (tpOf t) (xs (i + 1))
  refine rVWp (wq := wC g a Z' T1 T2 T3' G R P O' B' ++ wRf g b U V M R' kt t) (rs := wRf g b U V M R' kt t) (As := [.int (xs (i + 1))]) (rest := []) (q0 := 0) hS (c_X6_order l g (a 0) (a 1) (a 2) (a 3) (a 4) (a 5) (a 6) (a 7) (a 8) Z T1 T2 T3 G R P O B (xs (i + 1)) h1) gL_law_X6_order rfl hd_X6_order ⟨Nat.le_of_ble_eq_true rfl, Nat.le_of_ble_eq_true rfl⟩ hK hw hA (List.Perm.refl _) rfl (List.Perm.refl _) rfl rfl rfl rfl hl.1 rfl (Nat.le_of_ble_eq_true rfl) dL_law_1240 ⟨show cells ≤ 600000 by omega, show slots ≤ 7302249 by omega⟩ (fun H locs hw => ?_)
  refine W.eq (g2 := F0 m 1243 ls [.int ra]) rfl ?_
  refine lv_aload_n hx hb dL_law_1243 rfl (lv_at hl 3 rfl) ?_
  refine larg cx hw 1 (by omega) hl 1244 (by decide) dL_law_1244 dL_law_1245 dL_law_1246 dL_law_1247 dL_law_1248 ?_
  refine rVBp (t := t) (wr := wC g a Z' T1 T2 T3' G R P O' B' ++ wOT g kt) (As := [.int (xs (i + 1))]) (rest := [.int ra]) hS (c_X7_order l g b U V M R' (tvOf kt) t (tpOf t) rfl (xs (i + 1)) h2) gL_law_X7_order rfl hd_X7_order ⟨Nat.le_of_ble_eq_true rfl, Nat.le_of_ble_eq_true rfl⟩ hK hw hA (lpmA _ _ _ _) rfl rfl hl.1 rfl (Nat.le_of_ble_eq_true rfl) dL_law_1249 ⟨show cells + 28 * nlOf t ≤ 600000 by have := nl_le t; omega, show slots + 759 * nlOf t ≤ 7302249 by have := nl_le t; omega⟩ (fun t2 H locs ht2 hw => ?_)
  have hw : Wk g A s.heap H locs (wC g a Z' T1 T2 T3' G R P O' B' ++ wRf g b U V' M R' kt t2) := hw.perm (lpmA' _ _ _ _)
  refine W.eq (g2 := F0 m 1252 ls [.int ra, .int ra]) rfl ?_
  refine W.widen (k := cells + 28) (n := slots + 759) (by have := nl_le t; omega) (by have := nl_le t; omega) ?_
  refine lv_icmp_eq (tgt := 1909) hx hb dL_law_1252 (by decide) (fun _ => ?_) (fun z => absurd rfl z)
  exact hgo Z' T1 T2 T3' G R P O' B' U V' M R' kt t2 H locs ls h3 hw hl
set_option maxRecDepth 20000 in
theorem law_worth (cx : LC p s m c bS L xs g A k) (hi : i + 5 < L) (hcs : cells + 28 ≤ 600000 ∧ slots + 759 ≤ 7302249) (hgo : LGo p l e s m below meth c bS Q g A a b 1909 i (cells + 28) (slots + 759)) : LGo p l e s m below meth c bS Q g A a b 1257 i cells slots := by
  intro Z T1 T2 T3 G R P O B U V M R' kt t H locs ls h hw hl
  obtain ⟨⟨hx, hb, hml, hown, hts⟩, ⟨hX, hbl, hbA, hL⟩, hK, hA, hSg⟩ := id cx
  have hS : CallFix p m c cL_law 4 s #[Value.ref bS] wsL_law RL := ⟨hx, hb, hml, hown, hts⟩
  refine lv_aload_n hx hb dL_law_1257 rfl (lv_at hl 2 rfl) ?_
  refine larg cx hw 1 (by omega) hl 1258 (by decide) dL_law_1258 dL_law_1259 dL_law_1260 dL_law_1261 dL_law_1262 ?_
  refine larg cx hw 2 (by omega) hl 1263 (by decide) dL_law_1263 dL_law_1264 dL_law_1265 dL_law_1266 dL_law_1267 ?_
  obtain ⟨ra, Z', T3', V', tp', h1, h2, h3⟩ := op_worth h T3 O B M (tpOf t) (xs (i + 1)) (xs (i + 2))
  refine rVWp (wq := wC g a Z' T1 T2 T3' G R P O B ++ wRf g b U V M R' kt t) (rs := wRf g b U V M R' kt t) (As := [.int (xs (i + 1)), .int (xs (i + 2))]) (rest := []) (q0 := 0) hS (c_X6_worth l g (a 0) (a 1) (a 2) (a 3) (a 4) (a 5) (a 6) (a 7) (a 8) Z T1 T2 T3 G R P O B (xs (i + 1)) (xs (i + 2)) h1) gL_law_X6_worth rfl hd_X6_worth ⟨Nat.le_of_ble_eq_true rfl, Nat.le_of_ble_eq_true rfl⟩ hK hw hA (List.Perm.refl _) rfl (List.Perm.refl _) rfl rfl rfl rfl hl.1 rfl (Nat.le_of_ble_eq_true rfl) dL_law_1268 ⟨show cells ≤ 600000 by omega, show slots ≤ 7302249 by omega⟩ (fun H locs hw => ?_)
  refine W.eq (g2 := F0 m 1271 ls [.int ra]) rfl ?_
  refine lv_aload_n hx hb dL_law_1271 rfl (lv_at hl 3 rfl) ?_
  refine larg cx hw 1 (by omega) hl 1272 (by decide) dL_law_1272 dL_law_1273 dL_law_1274 dL_law_1275 dL_law_1276 ?_
  refine larg cx hw 2 (by omega) hl 1277 (by decide) dL_law_1277 dL_law_1278 dL_law_1279 dL_law_1280 dL_law_1281 ?_
  refine rVBp (t := t) (wr := wC g a Z' T1 T2 T3' G R P O B ++ wOT g kt) (As := [.int (xs (i + 1)), .int (xs (i + 2))]) (rest := [.int ra]) hS (c_X7_worth l g b U V M R' (tvOf kt) t (tpOf t) rfl (xs (i + 1)) (xs (i + 2)) h2) gL_law_X7_worth rfl hd_X7_worth ⟨Nat.le_of_ble_eq_true rfl, Nat.le_of_ble_eq_true rfl⟩ hK hw hA (lpmA _ _ _ _) rfl rfl hl.1 rfl (Nat.le_of_ble_eq_true rfl) dL_law_1282 ⟨show cells + 28 * nlOf t ≤ 600000 by have := nl_le t; omega, show slots + 759 * nlOf t ≤ 7302249 by have := nl_le t; omega⟩ (fun t2 H locs ht2 hw => ?_)
  have hw : Wk g A s.heap H locs (wC g a Z' T1 T2 T3' G R P O B ++ wRf g b U V' M R' kt t2) := hw.perm (lpmA' _ _ _ _)
  refine W.eq (g2 := F0 m 1285 ls [.int ra, .int ra]) rfl ?_
  refine W.widen (k := cells + 28) (n := slots + 759) (by have := nl_le t; omega) (by have := nl_le t; omega) ?_
  refine lv_icmp_eq (tgt := 1909) hx hb dL_law_1285 (by decide) (fun _ => ?_) (fun z => absurd rfl z)
  exact hgo Z' T1 T2 T3' G R P O B U V' M R' kt t2 H locs ls h3 hw hl
set_option maxRecDepth 20000 in
theorem law_chain (cx : LC p s m c bS L xs g A k) (hi : i + 5 < L) (hcs : cells + 28 ≤ 600000 ∧ slots + 759 ≤ 7302249) (hgo : LGo p l e s m below meth c bS Q g A a b 1909 i (cells + 28) (slots + 759)) : LGo p l e s m below meth c bS Q g A a b 1290 i cells slots := by
  intro Z T1 T2 T3 G R P O B U V M R' kt t H locs ls h hw hl
  obtain ⟨⟨hx, hb, hml, hown, hts⟩, ⟨hX, hbl, hbA, hL⟩, hK, hA, hSg⟩ := id cx
  have hS : CallFix p m c cL_law 4 s #[Value.ref bS] wsL_law RL := ⟨hx, hb, hml, hown, hts⟩
  refine lv_aload_n hx hb dL_law_1290 rfl (lv_at hl 2 rfl) ?_
  refine larg cx hw 1 (by omega) hl 1291 (by decide) dL_law_1291 dL_law_1292 dL_law_1293 dL_law_1294 dL_law_1295 ?_
  refine larg cx hw 2 (by omega) hl 1296 (by decide) dL_law_1296 dL_law_1297 dL_law_1298 dL_law_1299 dL_law_1300 ?_
  refine larg cx hw 3 (by omega) hl 1301 (by decide) dL_law_1301 dL_law_1302 dL_law_1303 dL_law_1304 dL_law_1305 ?_
  obtain ⟨ra, Z', V', h1, h2, h3⟩ := op_chain h T3 O B M (xs (i + 1)) (xs (i + 2)) (xs (i + 3))
  refine rVWp (wq := wC g a Z' T1 T2 T3 G R P O B ++ wRf g b U V M R' kt t) (rs := wRf g b U V M R' kt t) (As := [.int (xs (i + 1)), .int (xs (i + 2)), .int (xs (i + 3))]) (rest := []) (q0 := 0) hS (c_X6_chain l g (a 0) (a 1) (a 2) (a 3) (a 4) (a 5) (a 6) (a 7) (a 8) Z T1 T2 T3 G R P O B (xs (i + 1)) (xs (i + 2)) (xs (i + 3)) h1) gL_law_X6_chain rfl hd_X6_chain ⟨Nat.le_of_ble_eq_true rfl, Nat.le_of_ble_eq_true rfl⟩ hK hw hA (List.Perm.refl _) rfl (List.Perm.refl _) rfl rfl rfl rfl hl.1 rfl (Nat.le_of_ble_eq_true rfl) dL_law_1306 ⟨show cells ≤ 600000 by omega, show slots ≤ 7302249 by omega⟩ (fun H locs hw => ?_)
  refine W.eq (g2 := F0 m 1309 ls [.int ra]) rfl ?_
  refine lv_aload_n hx hb dL_law_1309 rfl (lv_at hl 3 rfl) ?_
  refine larg cx hw 1 (by omega) hl 1310 (by decide) dL_law_1310 dL_law_1311 dL_law_1312 dL_law_1313 dL_law_1314 ?_
  refine larg cx hw 2 (by omega) hl 1315 (by decide) dL_law_1315 dL_law_1316 dL_law_1317 dL_law_1318 dL_law_1319 ?_
  refine larg cx hw 3 (by omega) hl 1320 (by decide) dL_law_1320 dL_law_1321 dL_law_1322 dL_law_1323 dL_law_1324 ?_
  refine rVWp (wq := wC g a Z' T1 T2 T3 G R P O B ++ wRf g b U V' M R' kt t) (rs := wC g a Z' T1 T2 T3 G R P O B ++ (wOT g t ++ wOT g kt)) (As := [.int (xs (i + 1)), .int (xs (i + 2)), .int (xs (i + 3))]) (rest := [.int ra]) (q0 := 0) hS (c_X7_chain l g b (tvOf kt) (tvOf t) U V M R' (xs (i + 1)) (xs (i + 2)) (xs (i + 3)) h2) gL_law_X7_chain rfl hd_X7_chain ⟨Nat.le_of_ble_eq_true rfl, Nat.le_of_ble_eq_true rfl⟩ hK hw hA (lpmC _ _ _ _) rfl (lpmC _ _ _ _) rfl rfl rfl rfl hl.1 rfl (Nat.le_of_ble_eq_true rfl) dL_law_1325 ⟨show cells ≤ 600000 by omega, show slots ≤ 7302249 by omega⟩ (fun H locs hw => ?_)
  refine W.eq (g2 := F0 m 1328 ls [.int ra, .int ra]) rfl ?_
  refine W.widen (k := cells + 28) (n := slots + 759) (by omega) (by omega) ?_
  refine lv_icmp_eq (tgt := 1909) hx hb dL_law_1328 (by decide) (fun _ => ?_) (fun z => absurd rfl z)
  exact hgo Z' T1 T2 T3 G R P O B U V' M R' kt t H locs ls h3 hw hl
set_option maxRecDepth 20000 in
theorem law_pairs (cx : LC p s m c bS L xs g A k) (hi : i + 5 < L) (hcs : cells + 28 ≤ 600000 ∧ slots + 759 ≤ 7302249) (hgo : LGo p l e s m below meth c bS Q g A a b 1909 i (cells + 28) (slots + 759)) : LGo p l e s m below meth c bS Q g A a b 1333 i cells slots := by
  intro Z T1 T2 T3 G R P O B U V M R' kt t H locs ls h hw hl
  obtain ⟨⟨hx, hb, hml, hown, hts⟩, ⟨hX, hbl, hbA, hL⟩, hK, hA, hSg⟩ := id cx
  have hS : CallFix p m c cL_law 4 s #[Value.ref bS] wsL_law RL := ⟨hx, hb, hml, hown, hts⟩
  refine lv_aload_n hx hb dL_law_1333 rfl (lv_at hl 2 rfl) ?_
  obtain ⟨ra, h1, h2, h3⟩ := op_pairs h T3 O B M
  refine rVR (wc := wC g a Z T1 T2 T3 G R P O B) (As := []) (rest := []) (q0 := 0) hS (c_X6_pairs l g (a 0) (a 1) (a 2) (a 3) (a 4) (a 5) (a 6) (a 7) (a 8) Z T1 T2 T3 G R P O B h1) gL_law_X6_pairs rfl hd_X6_pairs ⟨Nat.le_of_ble_eq_true rfl, Nat.le_of_ble_eq_true rfl⟩ hK (va_P.pm hw.1 (List.Perm.refl _)) rfl rfl rfl rfl hl.1 rfl (Nat.le_of_ble_eq_true rfl) dL_law_1334 ⟨show cells ≤ 600000 by omega, show slots ≤ 7302249 by omega⟩ ?_
  refine W.eq (g2 := F0 m 1337 ls [.int ra]) rfl ?_
  refine lv_aload_n hx hb dL_law_1337 rfl (lv_at hl 3 rfl) ?_
  refine rVR (wc := wXM g b U V M R' (tvOf kt) (tvOf t)) (As := []) (rest := [.int ra]) (q0 := 0) hS (c_X7_pairs l g b (tvOf kt) (tvOf t) U V M R' h2) gL_law_X7_pairs rfl hd_X7_pairs ⟨Nat.le_of_ble_eq_true rfl, Nat.le_of_ble_eq_true rfl⟩ hK (va_P.pm hw.1 (lpmC _ _ _ _)) rfl rfl rfl rfl hl.1 rfl (Nat.le_of_ble_eq_true rfl) dL_law_1338 ⟨show cells ≤ 600000 by omega, show slots ≤ 7302249 by omega⟩ ?_
  refine W.eq (g2 := F0 m 1341 ls [.int ra, .int ra]) rfl ?_
  refine W.widen (k := cells + 28) (n := slots + 759) (by omega) (by omega) ?_
  refine lv_icmp_eq (tgt := 1909) hx hb dL_law_1341 (by decide) (fun _ => ?_) (fun z => absurd rfl z)
  exact hgo Z T1 T2 T3 G R P O B U V M R' kt t H locs ls h3 hw hl
set_option maxRecDepth 20000 in
theorem law_mouthsBy (cx : LC p s m c bS L xs g A k) (hi : i + 5 < L) (hcs : cells + 28 ≤ 600000 ∧ slots + 759 ≤ 7302249) (hgo : LGo p l e s m below meth c bS Q g A a b 1909 i (cells + 28) (slots + 759)) : LGo p l e s m below meth c bS Q g A a b 1346 i cells slots := by
  intro Z T1 T2 T3 G R P O B U V M R' kt t H locs ls h hw hl
  obtain ⟨⟨hx, hb, hml, hown, hts⟩, ⟨hX, hbl, hbA, hL⟩, hK, hA, hSg⟩ := id cx
  have hS : CallFix p m c cL_law 4 s #[Value.ref bS] wsL_law RL := ⟨hx, hb, hml, hown, hts⟩
  refine lv_aload_n hx hb dL_law_1346 rfl (lv_at hl 2 rfl) ?_
  refine larg cx hw 1 (by omega) hl 1347 (by decide) dL_law_1347 dL_law_1348 dL_law_1349 dL_law_1350 dL_law_1351 ?_
  refine larg cx hw 2 (by omega) hl 1352 (by decide) dL_law_1352 dL_law_1353 dL_law_1354 dL_law_1355 dL_law_1356 ?_
  obtain ⟨ra, Z', T3', V', tp', h1, h2, h3⟩ := op_mouthsBy h T3 O B M (tpOf t) (xs (i + 1)) (xs (i + 2))
  refine rVWp (wq := wC g a Z' T1 T2 T3' G R P O B ++ wRf g b U V M R' kt t) (rs := wRf g b U V M R' kt t) (As := [.int (xs (i + 1)), .int (xs (i + 2))]) (rest := []) (q0 := 0) hS (c_X6_mouthsBy l g (a 0) (a 1) (a 2) (a 3) (a 4) (a 5) (a 6) (a 7) (a 8) Z T1 T2 T3 G R P O B (xs (i + 1)) (xs (i + 2)) h1) gL_law_X6_mouthsBy rfl hd_X6_mouthsBy ⟨Nat.le_of_ble_eq_true rfl, Nat.le_of_ble_eq_true rfl⟩ hK hw hA (List.Perm.refl _) rfl (List.Perm.refl _) rfl rfl rfl rfl hl.1 rfl (Nat.le_of_ble_eq_true rfl) dL_law_1357 ⟨show cells ≤ 600000 by omega, show slots ≤ 7302249 by omega⟩ (fun H locs hw => ?_)
  refine W.eq (g2 := F0 m 1360 ls [.int ra]) rfl ?_
  refine lv_aload_n hx hb dL_law_1360 rfl (lv_at hl 3 rfl) ?_
  refine larg cx hw 1 (by omega) hl 1361 (by decide) dL_law_1361 dL_law_1362 dL_law_1363 dL_law_1364 dL_law_1365 ?_
  refine larg cx hw 2 (by omega) hl 1366 (by decide) dL_law_1366 dL_law_1367 dL_law_1368 dL_law_1369 dL_law_1370 ?_
  refine rVBp (t := t) (wr := wC g a Z' T1 T2 T3' G R P O B ++ wOT g kt) (As := [.int (xs (i + 1)), .int (xs (i + 2))]) (rest := [.int ra]) hS (c_X7_mouthsBy l g b U V M R' (tvOf kt) t (tpOf t) rfl (xs (i + 1)) (xs (i + 2)) h2) gL_law_X7_mouthsBy rfl hd_X7_mouthsBy ⟨Nat.le_of_ble_eq_true rfl, Nat.le_of_ble_eq_true rfl⟩ hK hw hA (lpmA _ _ _ _) rfl rfl hl.1 rfl (Nat.le_of_ble_eq_true rfl) dL_law_1371 ⟨show cells + 28 * nlOf t ≤ 600000 by have := nl_le t; omega, show slots + 759 * nlOf t ≤ 7302249 by have := nl_le t; omega⟩ (fun t2 H locs ht2 hw => ?_)
  have hw : Wk g A s.heap H locs (wC g a Z' T1 T2 T3' G R P O B ++ wRf g b U V' M R' kt t2) := hw.perm (lpmA' _ _ _ _)
  refine W.eq (g2 := F0 m 1374 ls [.int ra, .int ra]) rfl ?_
  refine W.widen (k := cells + 28) (n := slots + 759) (by have := nl_le t; omega) (by have := nl_le t; omega) ?_
  refine lv_icmp_eq (tgt := 1909) hx hb dL_law_1374 (by decide) (fun _ => ?_) (fun z => absurd rfl z)
  exact hgo Z' T1 T2 T3' G R P O B U V' M R' kt t2 H locs ls h3 hw hl
set_option maxRecDepth 20000 in
theorem law_alone (cx : LC p s m c bS L xs g A k) (hi : i + 5 < L) (hcs : cells + 28 ≤ 600000 ∧ slots + 759 ≤ 7302249) (hgo : LGo p l e s m below meth c bS Q g A a b 1909 i (cells + 28) (slots + 759)) : LGo p l e s m below meth c bS Q g A a b 1379 i cells slots := by
  intro Z T1 T2 T3 G R P O B U V M R' kt t H locs ls h hw hl
  obtain ⟨⟨hx, hb, hml, hown, hts⟩, ⟨hX, hbl, hbA, hL⟩, hK, hA, hSg⟩ := id cx
  have hS : CallFix p m c cL_law 4 s #[Value.ref bS] wsL_law RL := ⟨hx, hb, hml, hown, hts⟩
  refine lv_aload_n hx hb dL_law_1379 rfl (lv_at hl 2 rfl) ?_
  obtain ⟨ra, h1, h2, h3⟩ := op_alone h T3 O B M
  refine rVR (wc := wC g a Z T1 T2 T3 G R P O B) (As := []) (rest := []) (q0 := 0) hS (c_X6_alone l g (a 0) (a 1) (a 2) (a 3) (a 4) (a 5) (a 6) (a 7) (a 8) Z T1 T2 T3 G R P O B h1) gL_law_X6_alone rfl hd_X6_alone ⟨Nat.le_of_ble_eq_true rfl, Nat.le_of_ble_eq_true rfl⟩ hK (va_P.pm hw.1 (List.Perm.refl _)) rfl rfl rfl rfl hl.1 rfl (Nat.le_of_ble_eq_true rfl) dL_law_1380 ⟨show cells ≤ 600000 by omega, show slots ≤ 7302249 by omega⟩ ?_
  refine W.eq (g2 := F0 m 1383 ls [.int ra]) rfl ?_
  refine lv_aload_n hx hb dL_law_1383 rfl (lv_at hl 3 rfl) ?_
  refine rVR (wc := wXM g b U V M R' (tvOf kt) (tvOf t)) (As := []) (rest := [.int ra]) (q0 := 0) hS (c_X7_alone l g b (tvOf kt) (tvOf t) U V M R' h2) gL_law_X7_alone rfl hd_X7_alone ⟨Nat.le_of_ble_eq_true rfl, Nat.le_of_ble_eq_true rfl⟩ hK (va_P.pm hw.1 (lpmC _ _ _ _)) rfl rfl rfl rfl hl.1 rfl (Nat.le_of_ble_eq_true rfl) dL_law_1384 ⟨show cells ≤ 600000 by omega, show slots ≤ 7302249 by omega⟩ ?_
  refine W.eq (g2 := F0 m 1387 ls [.int ra, .int ra]) rfl ?_
  refine W.widen (k := cells + 28) (n := slots + 759) (by omega) (by omega) ?_
  refine lv_icmp_eq (tgt := 1909) hx hb dL_law_1387 (by decide) (fun _ => ?_) (fun z => absurd rfl z)
  exact hgo Z T1 T2 T3 G R P O B U V M R' kt t H locs ls h3 hw hl
set_option maxRecDepth 20000 in
theorem law_barred (cx : LC p s m c bS L xs g A k) (hi : i + 5 < L) (hcs : cells + 28 ≤ 600000 ∧ slots + 759 ≤ 7302249) (hgo : LGo p l e s m below meth c bS Q g A a b 1909 i (cells + 28) (slots + 759)) : LGo p l e s m below meth c bS Q g A a b 1392 i cells slots := by
  intro Z T1 T2 T3 G R P O B U V M R' kt t H locs ls h hw hl
  obtain ⟨⟨hx, hb, hml, hown, hts⟩, ⟨hX, hbl, hbA, hL⟩, hK, hA, hSg⟩ := id cx
  have hS : CallFix p m c cL_law 4 s #[Value.ref bS] wsL_law RL := ⟨hx, hb, hml, hown, hts⟩
  refine lv_aload_n hx hb dL_law_1392 rfl (lv_at hl 2 rfl) ?_
  refine larg cx hw 1 (by omega) hl 1393 (by decide) dL_law_1393 dL_law_1394 dL_law_1395 dL_law_1396 dL_law_1397 ?_
  obtain ⟨ra, Z', V', h1, h2, h3⟩ := op_barred h T3 O B M (xs (i + 1))
  refine rVWp (wq := wC g a Z' T1 T2 T3 G R P O B ++ wRf g b U V M R' kt t) (rs := wRf g b U V M R' kt t) (As := [.int (xs (i + 1))]) (rest := []) (q0 := 0) hS (c_X6_barred l g (a 0) (a 1) (a 2) (a 3) (a 4) (a 5) (a 6) (a 7) (a 8) Z T1 T2 T3 G R P O B (xs (i + 1)) h1) gL_law_X6_barred rfl hd_X6_barred ⟨Nat.le_of_ble_eq_true rfl, Nat.le_of_ble_eq_true rfl⟩ hK hw hA (List.Perm.refl _) rfl (List.Perm.refl _) rfl rfl rfl rfl hl.1 rfl (Nat.le_of_ble_eq_true rfl) dL_law_1398 ⟨show cells ≤ 600000 by omega, show slots ≤ 7302249 by omega⟩ (fun H locs hw => ?_)
  refine W.eq (g2 := F0 m 1401 ls [.int ra]) rfl ?_
  refine lv_aload_n hx hb dL_law_1401 rfl (lv_at hl 3 rfl) ?_
  refine larg cx hw 1 (by omega) hl 1402 (by decide) dL_law_1402 dL_law_1403 dL_law_1404 dL_law_1405 dL_law_1406 ?_
  refine rVWp (wq := wC g a Z' T1 T2 T3 G R P O B ++ wRf g b U V' M R' kt t) (rs := wC g a Z' T1 T2 T3 G R P O B ++ (wOT g t ++ wOT g kt)) (As := [.int (xs (i + 1))]) (rest := [.int ra]) (q0 := 0) hS (c_X7_barred l g b (tvOf kt) (tvOf t) U V M R' (xs (i + 1)) h2) gL_law_X7_barred rfl hd_X7_barred ⟨Nat.le_of_ble_eq_true rfl, Nat.le_of_ble_eq_true rfl⟩ hK hw hA (lpmC _ _ _ _) rfl (lpmC _ _ _ _) rfl rfl rfl rfl hl.1 rfl (Nat.le_of_ble_eq_true rfl) dL_law_1407 ⟨show cells ≤ 600000 by omega, show slots ≤ 7302249 by omega⟩ (fun H locs hw => ?_)
  refine W.eq (g2 := F0 m 1410 ls [.int ra, .int ra]) rfl ?_
  refine W.widen (k := cells + 28) (n := slots + 759) (by omega) (by omega) ?_
  refine lv_icmp_eq (tgt := 1909) hx hb dL_law_1410 (by decide) (fun _ => ?_) (fun z => absurd rfl z)
  exact hgo Z' T1 T2 T3 G R P O B U V' M R' kt t H locs ls h3 hw hl
set_option maxRecDepth 20000 in
theorem law_blind (cx : LC p s m c bS L xs g A k) (hi : i + 5 < L) (hcs : cells + 28 ≤ 600000 ∧ slots + 759 ≤ 7302249) (hgo : LGo p l e s m below meth c bS Q g A a b 1909 i (cells + 28) (slots + 759)) : LGo p l e s m below meth c bS Q g A a b 1415 i cells slots := by
  intro Z T1 T2 T3 G R P O B U V M R' kt t H locs ls h hw hl
  obtain ⟨⟨hx, hb, hml, hown, hts⟩, ⟨hX, hbl, hbA, hL⟩, hK, hA, hSg⟩ := id cx
  have hS : CallFix p m c cL_law 4 s #[Value.ref bS] wsL_law RL := ⟨hx, hb, hml, hown, hts⟩
  refine lv_aload_n hx hb dL_law_1415 rfl (lv_at hl 2 rfl) ?_
  refine larg cx hw 1 (by omega) hl 1416 (by decide) dL_law_1416 dL_law_1417 dL_law_1418 dL_law_1419 dL_law_1420 ?_
  refine larg cx hw 2 (by omega) hl 1421 (by decide) dL_law_1421 dL_law_1422 dL_law_1423 dL_law_1424 dL_law_1425 ?_
  obtain ⟨ra, Z', T3', V', tp', h1, h2, h3⟩ := op_blind h T3 O B M (tpOf t) (xs (i + 1)) (xs (i + 2))
  refine rVWp (wq := wC g a Z' T1 T2 T3' G R P O B ++ wRf g b U V M R' kt t) (rs := wRf g b U V M R' kt t) (As := [.int (xs (i + 1)), .int (xs (i + 2))]) (rest := []) (q0 := 0) hS (c_X6_blind l g (a 0) (a 1) (a 2) (a 3) (a 4) (a 5) (a 6) (a 7) (a 8) Z T1 T2 T3 G R P O B (xs (i + 1)) (xs (i + 2)) h1) gL_law_X6_blind rfl hd_X6_blind ⟨Nat.le_of_ble_eq_true rfl, Nat.le_of_ble_eq_true rfl⟩ hK hw hA (List.Perm.refl _) rfl (List.Perm.refl _) rfl rfl rfl rfl hl.1 rfl (Nat.le_of_ble_eq_true rfl) dL_law_1426 ⟨show cells ≤ 600000 by omega, show slots ≤ 7302249 by omega⟩ (fun H locs hw => ?_)
  refine W.eq (g2 := F0 m 1429 ls [.int ra]) rfl ?_
  refine lv_aload_n hx hb dL_law_1429 rfl (lv_at hl 3 rfl) ?_
  refine larg cx hw 1 (by omega) hl 1430 (by decide) dL_law_1430 dL_law_1431 dL_law_1432 dL_law_1433 dL_law_1434 ?_
  refine larg cx hw 2 (by omega) hl 1435 (by decide) dL_law_1435 dL_law_1436 dL_law_1437 dL_law_1438 dL_law_1439 ?_
  refine rVBp (t := t) (wr := wC g a Z' T1 T2 T3' G R P O B ++ wOT g kt) (As := [.int (xs (i + 1)), .int (xs (i + 2))]) (rest := [.int ra]) hS (c_X7_blind l g b U V M R' (tvOf kt) t (tpOf t) rfl (xs (i + 1)) (xs (i + 2)) h2) gL_law_X7_blind rfl hd_X7_blind ⟨Nat.le_of_ble_eq_true rfl, Nat.le_of_ble_eq_true rfl⟩ hK hw hA (lpmA _ _ _ _) rfl rfl hl.1 rfl (Nat.le_of_ble_eq_true rfl) dL_law_1440 ⟨show cells + 28 * nlOf t ≤ 600000 by have := nl_le t; omega, show slots + 759 * nlOf t ≤ 7302249 by have := nl_le t; omega⟩ (fun t2 H locs ht2 hw => ?_)
  have hw : Wk g A s.heap H locs (wC g a Z' T1 T2 T3' G R P O B ++ wRf g b U V' M R' kt t2) := hw.perm (lpmA' _ _ _ _)
  refine W.eq (g2 := F0 m 1443 ls [.int ra, .int ra]) rfl ?_
  refine W.widen (k := cells + 28) (n := slots + 759) (by have := nl_le t; omega) (by have := nl_le t; omega) ?_
  refine lv_icmp_eq (tgt := 1909) hx hb dL_law_1443 (by decide) (fun _ => ?_) (fun z => absurd rfl z)
  exact hgo Z' T1 T2 T3' G R P O B U V' M R' kt t2 H locs ls h3 hw hl
set_option maxRecDepth 20000 in
theorem law_dusk (cx : LC p s m c bS L xs g A k) (hi : i + 5 < L) (hcs : cells + 28 ≤ 600000 ∧ slots + 759 ≤ 7302249) (hgo : LGo p l e s m below meth c bS Q g A a b 1909 i (cells + 28) (slots + 759)) : LGo p l e s m below meth c bS Q g A a b 1448 i cells slots := by
  intro Z T1 T2 T3 G R P O B U V M R' kt t H locs ls h hw hl
  obtain ⟨⟨hx, hb, hml, hown, hts⟩, ⟨hX, hbl, hbA, hL⟩, hK, hA, hSg⟩ := id cx
  have hS : CallFix p m c cL_law 4 s #[Value.ref bS] wsL_law RL := ⟨hx, hb, hml, hown, hts⟩
  refine lv_aload_n hx hb dL_law_1448 rfl (lv_at hl 2 rfl) ?_
  refine larg cx hw 1 (by omega) hl 1449 (by decide) dL_law_1449 dL_law_1450 dL_law_1451 dL_law_1452 dL_law_1453 ?_
  obtain ⟨ra, Z', T3', V', tp', h1, h2, h3⟩ := op_dusk h T3 O B M (tpOf t) (xs (i + 1))
  refine rVWp (wq := wC g a Z' T1 T2 T3' G R P O B ++ wRf g b U V M R' kt t) (rs := wRf g b U V M R' kt t) (As := [.int (xs (i + 1))]) (rest := []) (q0 := 0) hS (c_X6_dusk l g (a 0) (a 1) (a 2) (a 3) (a 4) (a 5) (a 6) (a 7) (a 8) Z T1 T2 T3 G R P O B (xs (i + 1)) h1) gL_law_X6_dusk rfl hd_X6_dusk ⟨Nat.le_of_ble_eq_true rfl, Nat.le_of_ble_eq_true rfl⟩ hK hw hA (List.Perm.refl _) rfl (List.Perm.refl _) rfl rfl rfl rfl hl.1 rfl (Nat.le_of_ble_eq_true rfl) dL_law_1454 ⟨show cells ≤ 600000 by omega, show slots ≤ 7302249 by omega⟩ (fun H locs hw => ?_)
  refine W.eq (g2 := F0 m 1457 ls [.int ra]) rfl ?_
  refine lv_aload_n hx hb dL_law_1457 rfl (lv_at hl 3 rfl) ?_
  refine larg cx hw 1 (by omega) hl 1458 (by decide) dL_law_1458 dL_law_1459 dL_law_1460 dL_law_1461 dL_law_1462 ?_
  refine rVBp (t := t) (wr := wC g a Z' T1 T2 T3' G R P O B ++ wOT g kt) (As := [.int (xs (i + 1))]) (rest := [.int ra]) hS (c_X7_dusk l g b U V M R' (tvOf kt) t (tpOf t) rfl (xs (i + 1)) h2) gL_law_X7_dusk rfl hd_X7_dusk ⟨Nat.le_of_ble_eq_true rfl, Nat.le_of_ble_eq_true rfl⟩ hK hw hA (lpmA _ _ _ _) rfl rfl hl.1 rfl (Nat.le_of_ble_eq_true rfl) dL_law_1463 ⟨show cells + 28 * nlOf t ≤ 600000 by have := nl_le t; omega, show slots + 759 * nlOf t ≤ 7302249 by have := nl_le t; omega⟩ (fun t2 H locs ht2 hw => ?_)
  have hw : Wk g A s.heap H locs (wC g a Z' T1 T2 T3' G R P O B ++ wRf g b U V' M R' kt t2) := hw.perm (lpmA' _ _ _ _)
  refine W.eq (g2 := F0 m 1466 ls [.int ra, .int ra]) rfl ?_
  refine W.widen (k := cells + 28) (n := slots + 759) (by have := nl_le t; omega) (by have := nl_le t; omega) ?_
  refine lv_icmp_eq (tgt := 1909) hx hb dL_law_1466 (by decide) (fun _ => ?_) (fun z => absurd rfl z)
  exact hgo Z' T1 T2 T3' G R P O B U V' M R' kt t2 H locs ls h3 hw hl
set_option maxRecDepth 20000 in
theorem law_loudest (cx : LC p s m c bS L xs g A k) (hi : i + 5 < L) (hcs : cells + 28 ≤ 600000 ∧ slots + 759 ≤ 7302249) (hgo : LGo p l e s m below meth c bS Q g A a b 1909 i (cells + 28) (slots + 759)) : LGo p l e s m below meth c bS Q g A a b 1471 i cells slots := by
  intro Z T1 T2 T3 G R P O B U V M R' kt t H locs ls h hw hl
  obtain ⟨⟨hx, hb, hml, hown, hts⟩, ⟨hX, hbl, hbA, hL⟩, hK, hA, hSg⟩ := id cx
  have hS : CallFix p m c cL_law 4 s #[Value.ref bS] wsL_law RL := ⟨hx, hb, hml, hown, hts⟩
  refine lv_aload_n hx hb dL_law_1471 rfl (lv_at hl 2 rfl) ?_
  obtain ⟨ra, Z', V', h1, h2, h3⟩ := op_loudest h T3 O B M
  refine rVWp (wq := wC g a Z' T1 T2 T3 G R P O B ++ wRf g b U V M R' kt t) (rs := wRf g b U V M R' kt t) (As := []) (rest := []) (q0 := 0) hS (c_X6_loudest l g (a 0) (a 1) (a 2) (a 3) (a 4) (a 5) (a 6) (a 7) (a 8) Z T1 T2 T3 G R P O B h1) gL_law_X6_loudest rfl hd_X6_loudest ⟨Nat.le_of_ble_eq_true rfl, Nat.le_of_ble_eq_true rfl⟩ hK hw hA (List.Perm.refl _) rfl (List.Perm.refl _) rfl rfl rfl rfl hl.1 rfl (Nat.le_of_ble_eq_true rfl) dL_law_1472 ⟨show cells ≤ 600000 by omega, show slots ≤ 7302249 by omega⟩ (fun H locs hw => ?_)
  refine W.eq (g2 := F0 m 1475 ls [.int ra]) rfl ?_
  refine lv_aload_n hx hb dL_law_1475 rfl (lv_at hl 3 rfl) ?_
  refine rVWp (wq := wC g a Z' T1 T2 T3 G R P O B ++ wRf g b U V' M R' kt t) (rs := wC g a Z' T1 T2 T3 G R P O B ++ (wOT g t ++ wOT g kt)) (As := []) (rest := [.int ra]) (q0 := 0) hS (c_X7_loudest l g b (tvOf kt) (tvOf t) U V M R' h2) gL_law_X7_loudest rfl hd_X7_loudest ⟨Nat.le_of_ble_eq_true rfl, Nat.le_of_ble_eq_true rfl⟩ hK hw hA (lpmC _ _ _ _) rfl (lpmC _ _ _ _) rfl rfl rfl rfl hl.1 rfl (Nat.le_of_ble_eq_true rfl) dL_law_1476 ⟨show cells ≤ 600000 by omega, show slots ≤ 7302249 by omega⟩ (fun H locs hw => ?_)
  refine W.eq (g2 := F0 m 1479 ls [.int ra, .int ra]) rfl ?_
  refine W.widen (k := cells + 28) (n := slots + 759) (by omega) (by omega) ?_
  refine lv_icmp_eq (tgt := 1909) hx hb dL_law_1479 (by decide) (fun _ => ?_) (fun z => absurd rfl z)
  exact hgo Z' T1 T2 T3 G R P O B U V' M R' kt t H locs ls h3 hw hl
set_option maxRecDepth 20000 in
theorem law_whom (cx : LC p s m c bS L xs g A k) (hi : i + 5 < L) (hcs : cells + 28 ≤ 600000 ∧ slots + 759 ≤ 7302249) (hgo : LGo p l e s m below meth c bS Q g A a b 1909 i (cells + 28) (slots + 759)) : LGo p l e s m below meth c bS Q g A a b 1484 i cells slots := by
  intro Z T1 T2 T3 G R P O B U V M R' kt t H locs ls h hw hl
  obtain ⟨⟨hx, hb, hml, hown, hts⟩, ⟨hX, hbl, hbA, hL⟩, hK, hA, hSg⟩ := id cx
  have hS : CallFix p m c cL_law 4 s #[Value.ref bS] wsL_law RL := ⟨hx, hb, hml, hown, hts⟩
  refine lv_aload_n hx hb dL_law_1484 rfl (lv_at hl 2 rfl) ?_
  refine larg cx hw 1 (by omega) hl 1485 (by decide) dL_law_1485 dL_law_1486 dL_law_1487 dL_law_1488 dL_law_1489 ?_
  refine larg cx hw 2 (by omega) hl 1490 (by decide) dL_law_1490 dL_law_1491 dL_law_1492 dL_law_1493 dL_law_1494 ?_
  obtain ⟨ra, Z', V', h1, h2, h3⟩ := op_whom h T3 O B M (xs (i + 1)) (xs (i + 2))
  refine rVWp (wq := wC g a Z' T1 T2 T3 G R P O B ++ wRf g b U V M R' kt t) (rs := wRf g b U V M R' kt t) (As := [.int (xs (i + 1)), .int (xs (i + 2))]) (rest := []) (q0 := 0) hS (c_X6_whom l g (a 0) (a 1) (a 2) (a 3) (a 4) (a 5) (a 6) (a 7) (a 8) Z T1 T2 T3 G R P O B (xs (i + 1)) (xs (i + 2)) h1) gL_law_X6_whom rfl hd_X6_whom ⟨Nat.le_of_ble_eq_true rfl, Nat.le_of_ble_eq_true rfl⟩ hK hw hA (List.Perm.refl _) rfl (List.Perm.refl _) rfl rfl rfl rfl hl.1 rfl (Nat.le_of_ble_eq_true rfl) dL_law_1495 ⟨show cells ≤ 600000 by omega, show slots ≤ 7302249 by omega⟩ (fun H locs hw => ?_)
  refine W.eq (g2 := F0 m 1498 ls [.int ra]) rfl ?_
  refine lv_aload_n hx hb dL_law_1498 rfl (lv_at hl 3 rfl) ?_
  refine larg cx hw 1 (by omega) hl 1499 (by decide) dL_law_1499 dL_law_1500 dL_law_1501 dL_law_1502 dL_law_1503 ?_
  refine larg cx hw 2 (by omega) hl 1504 (by decide) dL_law_1504 dL_law_1505 dL_law_1506 dL_law_1507 dL_law_1508 ?_
  refine rVWp (wq := wC g a Z' T1 T2 T3 G R P O B ++ wRf g b U V' M R' kt t) (rs := wC g a Z' T1 T2 T3 G R P O B ++ (wOT g t ++ wOT g kt)) (As := [.int (xs (i + 1)), .int (xs (i + 2))]) (rest := [.int ra]) (q0 := 0) hS (c_X7_whom l g b (tvOf kt) (tvOf t) U V M R' (xs (i + 1)) (xs (i + 2)) h2) gL_law_X7_whom rfl hd_X7_whom ⟨Nat.le_of_ble_eq_true rfl, Nat.le_of_ble_eq_true rfl⟩ hK hw hA (lpmC _ _ _ _) rfl (lpmC _ _ _ _) rfl rfl rfl rfl hl.1 rfl (Nat.le_of_ble_eq_true rfl) dL_law_1509 ⟨show cells ≤ 600000 by omega, show slots ≤ 7302249 by omega⟩ (fun H locs hw => ?_)
  refine W.eq (g2 := F0 m 1512 ls [.int ra, .int ra]) rfl ?_
  refine W.widen (k := cells + 28) (n := slots + 759) (by omega) (by omega) ?_
  refine lv_icmp_eq (tgt := 1909) hx hb dL_law_1512 (by decide) (fun _ => ?_) (fun z => absurd rfl z)
  exact hgo Z' T1 T2 T3 G R P O B U V' M R' kt t H locs ls h3 hw hl
end LAW2
