section LAW
variable {G : Gx} {σ : State} {p : Program} {l : Launch} {e : Env} {R0 : Room} {s : State} {m : MethodId} {args : Array Value} {below : List Frame} {meth : Method} {c : Code} {Q : Option Value → Mm → Prop} {M M1 M2 : Mm} {k n a N i : Nat} {S : Nat → Int} {x : Int}
theorem wl_stroke : MlW RL 140 yL_stroke cL_stroke 5 (some .int) [(0, 10, 13, 13)] 4 := ⟨⟨by decide +kernel, by decide +kernel, by decide +kernel⟩, by decide, (gt_5 (i := 221) (by decide +kernel) (by decide +kernel)), gt_1 (i := 0) (by decide +kernel) (by decide +kernel), (gt_5 (i := 220) (by decide +kernel) (by decide +kernel)), (gt_5 (i := 219) (by decide +kernel) (by decide +kernel))⟩
theorem lw_stroke_r (hC : Cy G σ) (hT : Zt G σ) (htr : ∀ e : Env, l.admits e → e.platform.stackTraces = false) (C : BxL G σ p R0 s m args meth c) (hS : Scr G σ a N S) (hi : i + 6 ≤ N) (k1 : Kd M 0 9) (ka : Ka M.1 80 13 1) (k2 : Kd (M.1, M.2.1, wj M.2.2 80 0 x) 57 10) (k3 : Kd M2 57 10) (hk : k + 25 ≤ 601024) (hn : n + 9146 ≤ 7293034) (h1 : eX9_stroke 0 (S (i + 1)) (S (i + 2)) M = some (.inl x)) (h2 : uX10_stroke 57 (S (i + 1)) (S (i + 2)) (M.1, M.2.1, wj M.2.2 80 0 x) = some (x, M2)) (h3 : uX10_thrown 57 M2 = some 0) (h4 : rg x → aJ M2 80 0 = some x) (kk : Jz G σ p l e R0 s m args below meth c 7 601024 7293034 Q M2 (k + 25) (n + 9146) 1584 (LV G a i) []) : Jz G σ p l e R0 s m args below meth c 7 601024 7293034 Q M k n 1217 (LV G a i) [] := by
  have KK : rg x → Jz G σ p l e R0 s m args below meth c 7 601024 7293034 Q (M.1, M.2.1, wj M.2.2 80 0 x) (k + 1) (n + 6) 1234 (LV G a i) [.int (iv 0)] := by
    intro gx
    refine z_istore (lv' := LW G a i 0) C dL_law_1234 (by decide) [1, 2, 3, 4, 5, 0] rfl ?_
    refine z_aload_n C dL_law_1236 2 rfl ?_
    refine x_arg C dL_law_1237 dL_law_1238 dL_law_1240 dL_law_1241 dL_law_1242 rfl rfl hS hi (j := 1) rfl (by decide) ?_
    refine x_arg C dL_law_1243 dL_law_1244 dL_law_1246 dL_law_1247 dL_law_1248 rfl rfl hS hi (j := 2) rfl (by decide) ?_
    refine y_cVi (st := []) (As := [.int (iv (S (i + 1))), .int (iv (S (i + 2)))]) (M1 := M2) (r := x) C dL_law_1249 mL_142 k2 (tX10_stroke hC 57 (S (i + 1)) (S (i + 2)) (hS.2.1 _) (hS.2.1 _) h2) rfl rfl (Nat.le_of_ble_eq_true rfl) (by decide) (fun g2 => ?_)
    refine z_istore (lv' := LX G a i 0 x) C dL_law_1252 (by decide) [1, 2, 3, 4, 5, 6, 0] rfl ?_
    refine z_aload_n C dL_law_1254 2 rfl ?_
    refine y_cVi (st := []) (As := []) (M1 := M2) (r := 0) C dL_law_1255 mL_56 k3 (tX10_thrown hC 57 h3) rfl rfl (Nat.le_of_ble_eq_true rfl) (by decide) (fun g3 => ?_)
    refine z_iload C dL_law_1258 5 rfl ?_
    refine z_icmp_eq 1265 C dL_law_1260 (by decide) (by decide) (by decide) (fun _ => ?_) (fun h => absurd rfl h)
    refine z_iload C dL_law_1265 5 rfl ?_
    refine z_if_ne 1282 C dL_law_1267 (by decide) (by decide) (fun h => absurd rfl h) (fun _ => ?_)
    refine z_aload_n C dL_law_1270 3 rfl ?_
    refine z_iconst C dL_law_1271 ?_
    refine y_lald (id := 80) (x := 0) (v := x) C dL_law_1272 (h4 gx) (fun gl => ?_)
    refine z_iload C dL_law_1273 6 rfl ?_
    refine z_i2l x C dL_law_1275 (i2l_iv gx) ?_
    refine z_lcmp 0 C dL_law_1276 ((lcmp_jv gl gl).trans (by rw [if_pos rfl])) ?_
    refine z_if_eq 1282 C dL_law_1277 (by decide) (by decide) (fun _ => ?_) (fun h => absurd rfl h)
    refine z_goto 1584 C dL_law_1282 (by decide) ?_
    refine z_drop (lv' := LV G a i) [0, 1, 2, 3, 4] rfl ?_
    exact y_widen (by omega) (by omega) kk
  refine z_aload_n C dL_law_1217 1 rfl ?_
  refine x_arg C dL_law_1218 dL_law_1219 dL_law_1221 dL_law_1222 dL_law_1223 rfl rfl hS hi (j := 1) rfl (by decide) ?_
  refine x_arg C dL_law_1224 dL_law_1225 dL_law_1227 dL_law_1228 dL_law_1229 rfl rfl hS hi (j := 2) rfl (by decide) ?_
  refine z_aload_n C dL_law_1230 3 rfl ?_
  refine z_callSW (st := []) (As := [.ref (G.2.2 + 0), .int (iv (S (i + 1))), .int (iv (S (i + 2))), .ref (G.2.2 + 80)]) (Q2 := Qw (.inl x) M 80) C htr dL_law_1231 wl_stroke (wL_stroke hC hT (hS.2.1 _) (hS.2.1 _) k1 ka h1) rfl rfl (Nat.le_of_ble_eq_true rfl) (by decide) (by omega) (by omega) (fun v M' hq => by obtain ⟨rfl, rfl, gx⟩ := hq; exact KK gx)
theorem lw_stroke_t (hC : Cy G σ) (hT : Zt G σ) (htr : ∀ e : Env, l.admits e → e.platform.stackTraces = false) (C : BxL G σ p R0 s m args meth c) (hS : Scr G σ a N S) (hi : i + 6 ≤ N) (k1 : Kd M 0 9) (ka : Ka M.1 80 13 1) (k2 : Kd (nC M 11 0) 57 10) (k3 : Kd M2 57 10) (hk : k + 25 ≤ 601024) (hn : n + 9146 ≤ 7293034) (h1 : eX9_stroke 0 (S (i + 1)) (S (i + 2)) M = some (.inr ())) (h2 : uX10_stroke 57 (S (i + 1)) (S (i + 2)) (nC M 11 0) = some (x, M2)) (h3 : uX10_thrown 57 M2 = some 1) (kk : Jz G σ p l e R0 s m args below meth c 7 601024 7293034 Q M2 (k + 25) (n + 9146) 1584 (LV G a i) []) : Jz G σ p l e R0 s m args below meth c 7 601024 7293034 Q M k n 1217 (LV G a i) [] := by
  have KK : Jz G σ p l e R0 s m args below meth c 7 601024 7293034 Q (nC M 11 0) (k + 1) (n + 6) 1234 (LV G a i) [.int (iv 1)] := by
    refine z_istore (lv' := LW G a i 1) C dL_law_1234 (by decide) [1, 2, 3, 4, 5, 0] rfl ?_
    refine z_aload_n C dL_law_1236 2 rfl ?_
    refine x_arg C dL_law_1237 dL_law_1238 dL_law_1240 dL_law_1241 dL_law_1242 rfl rfl hS hi (j := 1) rfl (by decide) ?_
    refine x_arg C dL_law_1243 dL_law_1244 dL_law_1246 dL_law_1247 dL_law_1248 rfl rfl hS hi (j := 2) rfl (by decide) ?_
    refine y_cVi (st := []) (As := [.int (iv (S (i + 1))), .int (iv (S (i + 2)))]) (M1 := M2) (r := x) C dL_law_1249 mL_142 k2 (tX10_stroke hC 57 (S (i + 1)) (S (i + 2)) (hS.2.1 _) (hS.2.1 _) h2) rfl rfl (Nat.le_of_ble_eq_true rfl) (by decide) (fun g2 => ?_)
    refine z_istore (lv' := LX G a i 1 x) C dL_law_1252 (by decide) [1, 2, 3, 4, 5, 6, 0] rfl ?_
    refine z_aload_n C dL_law_1254 2 rfl ?_
    refine y_cVi (st := []) (As := []) (M1 := M2) (r := 1) C dL_law_1255 mL_56 k3 (tX10_thrown hC 57 h3) rfl rfl (Nat.le_of_ble_eq_true rfl) (by decide) (fun g3 => ?_)
    refine z_iload C dL_law_1258 5 rfl ?_
    refine z_icmp_eq 1265 C dL_law_1260 (by decide) (by decide) (by decide) (fun _ => ?_) (fun h => absurd rfl h)
    refine z_iload C dL_law_1265 5 rfl ?_
    refine z_if_ne 1282 C dL_law_1267 (by decide) (by decide) (fun _ => ?_) (fun h => absurd h (by decide))
    refine z_goto 1584 C dL_law_1282 (by decide) ?_
    refine z_drop (lv' := LV G a i) [0, 1, 2, 3, 4] rfl ?_
    exact y_widen (by omega) (by omega) kk
  refine z_aload_n C dL_law_1217 1 rfl ?_
  refine x_arg C dL_law_1218 dL_law_1219 dL_law_1221 dL_law_1222 dL_law_1223 rfl rfl hS hi (j := 1) rfl (by decide) ?_
  refine x_arg C dL_law_1224 dL_law_1225 dL_law_1227 dL_law_1228 dL_law_1229 rfl rfl hS hi (j := 2) rfl (by decide) ?_
  refine z_aload_n C dL_law_1230 3 rfl ?_
  refine z_callSW (st := []) (As := [.ref (G.2.2 + 0), .int (iv (S (i + 1))), .int (iv (S (i + 2))), .ref (G.2.2 + 80)]) (Q2 := Qw (.inr ()) M 80) C htr dL_law_1231 wl_stroke (wL_stroke hC hT (hS.2.1 _) (hS.2.1 _) k1 ka h1) rfl rfl (Nat.le_of_ble_eq_true rfl) (by decide) (by omega) (by omega) (fun v M' hq => by obtain ⟨rfl, rfl⟩ := hq; exact KK)
theorem lw_foreign (hC : Cy G σ) (C : BxL G σ p R0 s m args meth c) (hS : Scr G σ a N S) (hi : i + 6 ≤ N) (k1 : Kd M 0 9) (k2 : Kd M 57 10) (hk : k + 25 ≤ 601024) (hn : n + 9146 ≤ 7293034) (h1 : uX9_foreign 0 (S (i + 1)) M = some x) (h2 : uX10_foreign 57 (S (i + 1)) M = some (x, M2)) (kk : Jz G σ p l e R0 s m args below meth c 7 601024 7293034 Q M2 (k + 25) (n + 9146) 1584 (LV G a i) []) : Jz G σ p l e R0 s m args below meth c 7 601024 7293034 Q M k n 1285 (LV G a i) [] := by
  refine z_aload_n C dL_law_1285 1 rfl ?_
  refine x_arg C dL_law_1286 dL_law_1287 dL_law_1289 dL_law_1290 dL_law_1291 rfl rfl hS hi (j := 1) rfl (by decide) ?_
  refine y_cVi (st := []) (As := [.int (iv (S (i + 1)))]) (M1 := M) (r := x) C dL_law_1292 mL_143 k1 (tX9_foreign hC 0 (S (i + 1)) (hS.2.1 _) h1) rfl rfl (Nat.le_of_ble_eq_true rfl) (by decide) (fun g1 => ?_)
  refine z_aload_n C dL_law_1295 2 rfl ?_
  refine x_arg C dL_law_1296 dL_law_1297 dL_law_1299 dL_law_1300 dL_law_1301 rfl rfl hS hi (j := 1) rfl (by decide) ?_
  refine y_cVi (st := [.int (iv x)]) (As := [.int (iv (S (i + 1)))]) (M1 := M2) (r := x) C dL_law_1302 mL_146 k2 (tX10_foreign hC 57 (S (i + 1)) (hS.2.1 _) h2) rfl rfl (Nat.le_of_ble_eq_true rfl) (by decide) (fun g2 => ?_)
  refine z_icmp_eq 1584 C dL_law_1305 (by decide) g1 g2 (fun _ => ?_) (fun h => absurd rfl h)
  exact y_widen (by omega) (by omega) kk
theorem lw_silver (hC : Cy G σ) (C : BxL G σ p R0 s m args meth c) (hS : Scr G σ a N S) (hi : i + 6 ≤ N) (k1 : Kd M 0 9) (k2 : Kd M 57 10) (hk : k + 25 ≤ 601024) (hn : n + 9146 ≤ 7293034) (h1 : uX9_silver 0 (S (i + 1)) M = some x) (h2 : uX10_silver 57 (S (i + 1)) M = some (x, M2)) (kk : Jz G σ p l e R0 s m args below meth c 7 601024 7293034 Q M2 (k + 25) (n + 9146) 1584 (LV G a i) []) : Jz G σ p l e R0 s m args below meth c 7 601024 7293034 Q M k n 1310 (LV G a i) [] := by
  refine z_aload_n C dL_law_1310 1 rfl ?_
  refine x_arg C dL_law_1311 dL_law_1312 dL_law_1314 dL_law_1315 dL_law_1316 rfl rfl hS hi (j := 1) rfl (by decide) ?_
  refine y_cVi (st := []) (As := [.int (iv (S (i + 1)))]) (M1 := M) (r := x) C dL_law_1317 mL_147 k1 (tX9_silver hC 0 (S (i + 1)) (hS.2.1 _) h1) rfl rfl (Nat.le_of_ble_eq_true rfl) (by decide) (fun g1 => ?_)
  refine z_aload_n C dL_law_1320 2 rfl ?_
  refine x_arg C dL_law_1321 dL_law_1322 dL_law_1324 dL_law_1325 dL_law_1326 rfl rfl hS hi (j := 1) rfl (by decide) ?_
  refine y_cVi (st := [.int (iv x)]) (As := [.int (iv (S (i + 1)))]) (M1 := M2) (r := x) C dL_law_1327 mL_150 k2 (tX10_silver hC 57 (S (i + 1)) (hS.2.1 _) h2) rfl rfl (Nat.le_of_ble_eq_true rfl) (by decide) (fun g2 => ?_)
  refine z_icmp_eq 1584 C dL_law_1330 (by decide) g1 g2 (fun _ => ?_) (fun h => absurd rfl h)
  exact y_widen (by omega) (by omega) kk
theorem lw_rows (hC : Cy G σ) (C : BxL G σ p R0 s m args meth c) (hS : Scr G σ a N S) (hi : i + 6 ≤ N) (k1 : Kd M 0 9) (k2 : Kd M1 57 10) (hk : k + 25 ≤ 601024) (hn : n + 9146 ≤ 7293034) (h1 : uX9_rows 0 (S (i + 1)) (S (i + 2)) (S (i + 3)) M = some (x, M1)) (h2 : uX10_rows 57 (S (i + 1)) (S (i + 2)) (S (i + 3)) M1 = some (x, M2)) (kk : Jz G σ p l e R0 s m args below meth c 7 601024 7293034 Q M2 (k + 25) (n + 9146) 1584 (LV G a i) []) : Jz G σ p l e R0 s m args below meth c 7 601024 7293034 Q M k n 1335 (LV G a i) [] := by
  refine z_aload_n C dL_law_1335 1 rfl ?_
  refine x_arg C dL_law_1336 dL_law_1337 dL_law_1339 dL_law_1340 dL_law_1341 rfl rfl hS hi (j := 1) rfl (by decide) ?_
  refine x_arg C dL_law_1342 dL_law_1343 dL_law_1345 dL_law_1346 dL_law_1347 rfl rfl hS hi (j := 2) rfl (by decide) ?_
  refine x_arg C dL_law_1348 dL_law_1349 dL_law_1351 dL_law_1352 dL_law_1353 rfl rfl hS hi (j := 3) rfl (by decide) ?_
  refine y_cVi (st := []) (As := [.int (iv (S (i + 1))), .int (iv (S (i + 2))), .int (iv (S (i + 3)))]) (M1 := M1) (r := x) C dL_law_1354 mL_151 k1 (tX9_rows hC 0 (S (i + 1)) (S (i + 2)) (S (i + 3)) (hS.2.1 _) (hS.2.1 _) (hS.2.1 _) h1) rfl rfl (Nat.le_of_ble_eq_true rfl) (by decide) (fun g1 => ?_)
  refine z_aload_n C dL_law_1357 2 rfl ?_
  refine x_arg C dL_law_1358 dL_law_1359 dL_law_1361 dL_law_1362 dL_law_1363 rfl rfl hS hi (j := 1) rfl (by decide) ?_
  refine x_arg C dL_law_1364 dL_law_1365 dL_law_1367 dL_law_1368 dL_law_1369 rfl rfl hS hi (j := 2) rfl (by decide) ?_
  refine x_arg C dL_law_1370 dL_law_1371 dL_law_1373 dL_law_1374 dL_law_1375 rfl rfl hS hi (j := 3) rfl (by decide) ?_
  refine y_cVi (st := [.int (iv x)]) (As := [.int (iv (S (i + 1))), .int (iv (S (i + 2))), .int (iv (S (i + 3)))]) (M1 := M2) (r := x) C dL_law_1376 mL_154 k2 (tX10_rows hC 57 (S (i + 1)) (S (i + 2)) (S (i + 3)) (hS.2.1 _) (hS.2.1 _) (hS.2.1 _) h2) rfl rfl (Nat.le_of_ble_eq_true rfl) (by decide) (fun g2 => ?_)
  refine z_icmp_eq 1584 C dL_law_1379 (by decide) g1 g2 (fun _ => ?_) (fun h => absurd rfl h)
  exact y_widen (by omega) (by omega) kk
theorem lw_could (hC : Cy G σ) (C : BxL G σ p R0 s m args meth c) (hS : Scr G σ a N S) (hi : i + 6 ≤ N) (k1 : Kd M 0 9) (k2 : Kd M 57 10) (hk : k + 25 ≤ 601024) (hn : n + 9146 ≤ 7293034) (h1 : uX9_could 0 (S (i + 1)) (S (i + 2)) M = some x) (h2 : uX10_could 57 (S (i + 1)) (S (i + 2)) M = some (x, M2)) (kk : Jz G σ p l e R0 s m args below meth c 7 601024 7293034 Q M2 (k + 25) (n + 9146) 1584 (LV G a i) []) : Jz G σ p l e R0 s m args below meth c 7 601024 7293034 Q M k n 1384 (LV G a i) [] := by
  refine z_aload_n C dL_law_1384 1 rfl ?_
  refine x_arg C dL_law_1385 dL_law_1386 dL_law_1388 dL_law_1389 dL_law_1390 rfl rfl hS hi (j := 1) rfl (by decide) ?_
  refine x_arg C dL_law_1391 dL_law_1392 dL_law_1394 dL_law_1395 dL_law_1396 rfl rfl hS hi (j := 2) rfl (by decide) ?_
  refine y_cVi (st := []) (As := [.int (iv (S (i + 1))), .int (iv (S (i + 2)))]) (M1 := M) (r := x) C dL_law_1397 mL_155 k1 (tX9_could hC 0 (S (i + 1)) (S (i + 2)) (hS.2.1 _) (hS.2.1 _) h1) rfl rfl (Nat.le_of_ble_eq_true rfl) (by decide) (fun g1 => ?_)
  refine z_aload_n C dL_law_1400 2 rfl ?_
  refine x_arg C dL_law_1401 dL_law_1402 dL_law_1404 dL_law_1405 dL_law_1406 rfl rfl hS hi (j := 1) rfl (by decide) ?_
  refine x_arg C dL_law_1407 dL_law_1408 dL_law_1410 dL_law_1411 dL_law_1412 rfl rfl hS hi (j := 2) rfl (by decide) ?_
  refine y_cVi (st := [.int (iv x)]) (As := [.int (iv (S (i + 1))), .int (iv (S (i + 2)))]) (M1 := M2) (r := x) C dL_law_1413 mL_158 k2 (tX10_could hC 57 (S (i + 1)) (S (i + 2)) (hS.2.1 _) (hS.2.1 _) h2) rfl rfl (Nat.le_of_ble_eq_true rfl) (by decide) (fun g2 => ?_)
  refine z_icmp_eq 1584 C dL_law_1416 (by decide) g1 g2 (fun _ => ?_) (fun h => absurd rfl h)
  exact y_widen (by omega) (by omega) kk
theorem lw_market (hC : Cy G σ) (C : BxL G σ p R0 s m args meth c) (hS : Scr G σ a N S) (hi : i + 6 ≤ N) (k1 : Kd M 0 9) (k2 : Kd M1 57 10) (hk : k + 25 ≤ 601024) (hn : n + 9146 ≤ 7293034) (h1 : uX9_market 0 (S (i + 1)) (S (i + 2)) M = some (x, M1)) (h2 : uX10_market 57 (S (i + 1)) (S (i + 2)) M1 = some (x, M2)) (kk : Jz G σ p l e R0 s m args below meth c 7 601024 7293034 Q M2 (k + 25) (n + 9146) 1584 (LV G a i) []) : Jz G σ p l e R0 s m args below meth c 7 601024 7293034 Q M k n 1421 (LV G a i) [] := by
  refine z_aload_n C dL_law_1421 1 rfl ?_
  refine x_arg C dL_law_1422 dL_law_1423 dL_law_1425 dL_law_1426 dL_law_1427 rfl rfl hS hi (j := 1) rfl (by decide) ?_
  refine x_arg C dL_law_1428 dL_law_1429 dL_law_1431 dL_law_1432 dL_law_1433 rfl rfl hS hi (j := 2) rfl (by decide) ?_
  refine y_cVia (st := []) (As := [.int (iv (S (i + 1))), .int (iv (S (i + 2)))]) (M1 := M1) (r := x) C dL_law_1434 mL_159 k1 (tX9_market hC 0 (S (i + 1)) (S (i + 2)) (hS.2.1 _) (hS.2.1 _) h1) rfl rfl (Nat.le_of_ble_eq_true rfl) (by decide) (fun g1 => ?_)
  refine z_aload_n C dL_law_1437 2 rfl ?_
  refine x_arg C dL_law_1438 dL_law_1439 dL_law_1441 dL_law_1442 dL_law_1443 rfl rfl hS hi (j := 1) rfl (by decide) ?_
  refine x_arg C dL_law_1444 dL_law_1445 dL_law_1447 dL_law_1448 dL_law_1449 rfl rfl hS hi (j := 2) rfl (by decide) ?_
  refine y_cVi (st := [.int (iv x)]) (As := [.int (iv (S (i + 1))), .int (iv (S (i + 2)))]) (M1 := M2) (r := x) C dL_law_1450 mL_162 k2 (tX10_market hC 57 (S (i + 1)) (S (i + 2)) (hS.2.1 _) (hS.2.1 _) h2) rfl rfl (Nat.le_of_ble_eq_true rfl) (by decide) (fun g2 => ?_)
  refine z_icmp_eq 1584 C dL_law_1453 (by decide) g1 g2 (fun _ => ?_) (fun h => absurd rfl h)
  exact y_widen (by omega) (by omega) kk
theorem lw_undo (hC : Cy G σ) (C : BxL G σ p R0 s m args meth c) (hS : Scr G σ a N S) (hi : i + 6 ≤ N) (k1 : Kd M 0 9) (k2 : Kd M1 57 10) (hk : k + 25 ≤ 601024) (hn : n + 9146 ≤ 7293034) (h1 : uX9_undo 0  M = some (x, M1)) (h2 : uX10_undo 57  M1 = some (x, M2)) (kk : Jz G σ p l e R0 s m args below meth c 7 601024 7293034 Q M2 (k + 25) (n + 9146) 1584 (LV G a i) []) : Jz G σ p l e R0 s m args below meth c 7 601024 7293034 Q M k n 1458 (LV G a i) [] := by
  refine z_aload_n C dL_law_1458 1 rfl ?_
  refine y_cVi (st := []) (As := []) (M1 := M1) (r := x) C dL_law_1459 mL_163 k1 (tX9_undo hC 0   h1) rfl rfl (Nat.le_of_ble_eq_true rfl) (by decide) (fun g1 => ?_)
  refine z_aload_n C dL_law_1462 2 rfl ?_
  refine y_cVi (st := [.int (iv x)]) (As := []) (M1 := M2) (r := x) C dL_law_1463 mL_166 k2 (tX10_undo hC 57   h2) rfl rfl (Nat.le_of_ble_eq_true rfl) (by decide) (fun g2 => ?_)
  refine z_icmp_eq 1584 C dL_law_1466 (by decide) g1 g2 (fun _ => ?_) (fun h => absurd rfl h)
  exact y_widen (by omega) (by omega) kk
theorem lw_sentence (hC : Cy G σ) (C : BxL G σ p R0 s m args meth c) (hS : Scr G σ a N S) (hi : i + 6 ≤ N) (k1 : Kd M 0 9) (k2 : Kd M1 57 10) (hk : k + 25 ≤ 601024) (hn : n + 9146 ≤ 7293034) (h1 : uX9_sentence 0  M = some (x, M1)) (h2 : uX10_sentence 57  M1 = some (x, M2)) (kk : Jz G σ p l e R0 s m args below meth c 7 601024 7293034 Q M2 (k + 25) (n + 9146) 1584 (LV G a i) []) : Jz G σ p l e R0 s m args below meth c 7 601024 7293034 Q M k n 1471 (LV G a i) [] := by
  refine z_aload_n C dL_law_1471 1 rfl ?_
  refine y_cVi (st := []) (As := []) (M1 := M1) (r := x) C dL_law_1472 mL_167 k1 (tX9_sentence hC 0   h1) rfl rfl (Nat.le_of_ble_eq_true rfl) (by decide) (fun g1 => ?_)
  refine z_aload_n C dL_law_1475 2 rfl ?_
  refine y_cVi (st := [.int (iv x)]) (As := []) (M1 := M2) (r := x) C dL_law_1476 mL_170 k2 (tX10_sentence hC 57   h2) rfl rfl (Nat.le_of_ble_eq_true rfl) (by decide) (fun g2 => ?_)
  refine z_icmp_eq 1584 C dL_law_1479 (by decide) g1 g2 (fun _ => ?_) (fun h => absurd rfl h)
  exact y_widen (by omega) (by omega) kk
theorem lw_said (hC : Cy G σ) (C : BxL G σ p R0 s m args meth c) (hS : Scr G σ a N S) (hi : i + 6 ≤ N) (k1 : Kd M 0 9) (k2 : Kd M 57 10) (hk : k + 25 ≤ 601024) (hn : n + 9146 ≤ 7293034) (h1 : uX9_said 0 (S (i + 1)) M = some x) (h2 : uX10_said 57 (S (i + 1)) M = some (x, M2)) (kk : Jz G σ p l e R0 s m args below meth c 7 601024 7293034 Q M2 (k + 25) (n + 9146) 1584 (LV G a i) []) : Jz G σ p l e R0 s m args below meth c 7 601024 7293034 Q M k n 1484 (LV G a i) [] := by
  refine z_aload_n C dL_law_1484 1 rfl ?_
  refine x_arg C dL_law_1485 dL_law_1486 dL_law_1488 dL_law_1489 dL_law_1490 rfl rfl hS hi (j := 1) rfl (by decide) ?_
  refine y_cVi (st := []) (As := [.int (iv (S (i + 1)))]) (M1 := M) (r := x) C dL_law_1491 mL_171 k1 (tX9_said hC 0 (S (i + 1)) (hS.2.1 _) h1) rfl rfl (Nat.le_of_ble_eq_true rfl) (by decide) (fun g1 => ?_)
  refine z_aload_n C dL_law_1494 2 rfl ?_
  refine x_arg C dL_law_1495 dL_law_1496 dL_law_1498 dL_law_1499 dL_law_1500 rfl rfl hS hi (j := 1) rfl (by decide) ?_
  refine y_cVi (st := [.int (iv x)]) (As := [.int (iv (S (i + 1)))]) (M1 := M2) (r := x) C dL_law_1501 mL_174 k2 (tX10_said hC 57 (S (i + 1)) (hS.2.1 _) h2) rfl rfl (Nat.le_of_ble_eq_true rfl) (by decide) (fun g2 => ?_)
  refine z_icmp_eq 1584 C dL_law_1504 (by decide) g1 g2 (fun _ => ?_) (fun h => absurd rfl h)
  exact y_widen (by omega) (by omega) kk
theorem lw_image (hC : Cy G σ) (C : BxL G σ p R0 s m args meth c) (hS : Scr G σ a N S) (hi : i + 6 ≤ N) (k1 : Kd M 0 9) (k2 : Kd M1 57 10) (hk : k + 25 ≤ 601024) (hn : n + 9146 ≤ 7293034) (h1 : uX9_image 0 (S (i + 1)) M = some (x, M1)) (h2 : uX10_image 57 (S (i + 1)) M1 = some (x, M2)) (kk : Jz G σ p l e R0 s m args below meth c 7 601024 7293034 Q M2 (k + 25) (n + 9146) 1584 (LV G a i) []) : Jz G σ p l e R0 s m args below meth c 7 601024 7293034 Q M k n 1509 (LV G a i) [] := by
  refine z_aload_n C dL_law_1509 1 rfl ?_
  refine x_arg C dL_law_1510 dL_law_1511 dL_law_1513 dL_law_1514 dL_law_1515 rfl rfl hS hi (j := 1) rfl (by decide) ?_
  refine y_cVba (st := []) (As := [.int (iv (S (i + 1)))]) (M1 := M1) (r := x) C dL_law_1516 mL_175 k1 (tX9_image hC 0 (S (i + 1)) (hS.2.1 _) h1) rfl rfl (Nat.le_of_ble_eq_true rfl) (by decide) (fun g1 => ?_)
  refine z_aload_n C dL_law_1519 2 rfl ?_
  refine x_arg C dL_law_1520 dL_law_1521 dL_law_1523 dL_law_1524 dL_law_1525 rfl rfl hS hi (j := 1) rfl (by decide) ?_
  refine y_cVb (st := [.int (iv x)]) (As := [.int (iv (S (i + 1)))]) (M1 := M2) (r := x) C dL_law_1526 mL_178 k2 (tX10_image hC 57 (S (i + 1)) (hS.2.1 _) h2) rfl rfl (Nat.le_of_ble_eq_true rfl) (by decide) (fun g2 => ?_)
  refine z_icmp_eq 1584 C dL_law_1529 (by decide) (rg01 g1) (rg01 g2) (fun _ => ?_) (fun h => absurd rfl h)
  exact y_widen (by omega) (by omega) kk
theorem lw_restore (hC : Cy G σ) (C : BxL G σ p R0 s m args meth c) (hS : Scr G σ a N S) (hi : i + 6 ≤ N) (k1 : Kd M 0 9) (k2 : Kd M1 57 10) (hk : k + 25 ≤ 601024) (hn : n + 9146 ≤ 7293034) (h1 : uX9_restore 0 (S (i + 1)) M = some (x, M1)) (h2 : uX10_restore 57 (S (i + 1)) M1 = some (x, M2)) (kk : Jz G σ p l e R0 s m args below meth c 7 601024 7293034 Q M2 (k + 25) (n + 9146) 1584 (LV G a i) []) : Jz G σ p l e R0 s m args below meth c 7 601024 7293034 Q M k n 1534 (LV G a i) [] := by
  refine z_aload_n C dL_law_1534 1 rfl ?_
  refine x_arg C dL_law_1535 dL_law_1536 dL_law_1538 dL_law_1539 dL_law_1540 rfl rfl hS hi (j := 1) rfl (by decide) ?_
  refine y_cVb (st := []) (As := [.int (iv (S (i + 1)))]) (M1 := M1) (r := x) C dL_law_1541 mL_179 k1 (tX9_restore hC 0 (S (i + 1)) (hS.2.1 _) h1) rfl rfl (Nat.le_of_ble_eq_true rfl) (by decide) (fun g1 => ?_)
  refine z_aload_n C dL_law_1544 2 rfl ?_
  refine x_arg C dL_law_1545 dL_law_1546 dL_law_1548 dL_law_1549 dL_law_1550 rfl rfl hS hi (j := 1) rfl (by decide) ?_
  refine y_cVb (st := [.int (iv x)]) (As := [.int (iv (S (i + 1)))]) (M1 := M2) (r := x) C dL_law_1551 mL_182 k2 (tX10_restore hC 57 (S (i + 1)) (hS.2.1 _) h2) rfl rfl (Nat.le_of_ble_eq_true rfl) (by decide) (fun g2 => ?_)
  refine z_icmp_eq 1584 C dL_law_1554 (by decide) (rg01 g1) (rg01 g2) (fun _ => ?_) (fun h => absurd rfl h)
  exact y_widen (by omega) (by omega) kk
theorem lw_count (hC : Cy G σ) (C : BxL G σ p R0 s m args meth c) (hS : Scr G σ a N S) (hi : i + 6 ≤ N) (k1 : Kd M 0 9) (k2 : Kd M 57 10) (hk : k + 25 ≤ 601024) (hn : n + 9146 ≤ 7293034) (h1 : uX9_count 0 (S (i + 1)) M = some x) (h2 : uX10_count 57 (S (i + 1)) M = some (x, M2)) (kk : Jz G σ p l e R0 s m args below meth c 7 601024 7293034 Q M2 (k + 25) (n + 9146) 1584 (LV G a i) []) : Jz G σ p l e R0 s m args below meth c 7 601024 7293034 Q M k n 1559 (LV G a i) [] := by
  refine z_aload_n C dL_law_1559 1 rfl ?_
  refine x_arg C dL_law_1560 dL_law_1561 dL_law_1563 dL_law_1564 dL_law_1565 rfl rfl hS hi (j := 1) rfl (by decide) ?_
  refine y_cVi (st := []) (As := [.int (iv (S (i + 1)))]) (M1 := M) (r := x) C dL_law_1566 mL_183 k1 (tX9_count hC 0 (S (i + 1)) (hS.2.1 _) h1) rfl rfl (Nat.le_of_ble_eq_true rfl) (by decide) (fun g1 => ?_)
  refine z_aload_n C dL_law_1569 2 rfl ?_
  refine x_arg C dL_law_1570 dL_law_1571 dL_law_1573 dL_law_1574 dL_law_1575 rfl rfl hS hi (j := 1) rfl (by decide) ?_
  refine y_cVi (st := [.int (iv x)]) (As := [.int (iv (S (i + 1)))]) (M1 := M2) (r := x) C dL_law_1576 mL_186 k2 (tX10_count hC 57 (S (i + 1)) (hS.2.1 _) h2) rfl rfl (Nat.le_of_ble_eq_true rfl) (by decide) (fun g2 => ?_)
  refine z_icmp_eq 1584 C dL_law_1579 (by decide) g1 g2 (fun _ => ?_) (fun h => absurd rfl h)
  exact y_widen (by omega) (by omega) kk
end LAW
