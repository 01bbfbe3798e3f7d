def T_law18 (KN : Nat → aS → Prop) (N : Nat) (xs : Nat → Int32) : List aI := [I_aload 1 1, I_aload 0 1, I_iload 4 2, I_bot, I_const 1 1, I_bin fun x y => x + y, I_sld N xs, I_aload 0 1, I_iload 4 2, I_bot, I_const 2 1, I_bin fun x y => x + y, I_sld N xs, I_aload 0 1, I_iload 4 2, I_bot, I_const 3 1, I_bin fun x y => x + y, I_sld N xs, I_aload 3 1, I_callW 5 F_L_borrow (KN 10), I_bot, I_bot, I_istore 5 2, I_bot, I_aload 2 1, I_aload 0 1, I_iload 4 2, I_bot, I_const 1 1, I_bin fun x y => x + y, I_sld N xs, I_aload 0 1, I_iload 4 2, I_bot, I_const 2 1, I_bin fun x y => x + y, I_sld N xs, I_aload 0 1, I_iload 4 2, I_bot, I_const 3 1, I_bin fun x y => x + y, I_sld N xs, I_callV 6 3 F_X6_borrow, I_bot, I_bot, I_istore 6 2, I_bot, I_aload 2 1, I_callV 6 0 F_X6_thrown, I_bot, I_bot, I_iload 5 2, I_bot, I_icmp (fun x y => x = y) 1363, I_bot, I_bot, I_const 0 1, I_lret, I_iload 5 2, I_bot, I_if (fun x => ¬ x = 0) 1380, I_bot, I_bot, I_aload 3 1, I_const 0 1, I_lald, I_iload 6 2, I_bot, I_i2l, I_lcmp, I_if (fun x => x = 0) 1380, I_bot, I_bot, I_const 0 1, I_lret, I_goto 2234, I_bot, I_bot]
set_option maxHeartbeats 8000000 in
set_option maxRecDepth 100000 in
theorem r_law18 {p : Program} {l : Launch} {e : Env} {s : State} {m : MethodId} {below : List Frame} {meth : Method} {c : Code} {D : va_G} {cI cZ cA cL : ClassId} {ad sa : Nat → Nat} {b N : Nat} {xs : Nat → Int32} (Z : LCX p l e s m meth c b N xs D cI cZ cA cL ad sa) (cells slots : Nat) (hcell : cells + 20 ≤ 601024) (hslot : slots + 120 ≤ 7293034) :
    ruL (Ru p l e room_1 s m #[Value.ref b] below meth c cells slots (lw_Z below #[Value.ref b] s) 7 D cI cZ cA cL ad (AA ad s.heap.size) s.heap) 1303 (T_law18 (fun d => WS p l e room_1 s m #[Value.ref b] below meth c (cells + d) (slots + 6 * d) (lw_Z below #[Value.ref b] s) 7 D cI cZ cA cL ad (AA ad s.heap.size) s.heap) N xs) := by
  obtain ⟨hx, hb, hml, hown, hts, hr, hlocks, hK, hN, hX, hC, hXs, hbl, hbA, had, hi, hlt, hA9⟩ := Z
  refine ruL_c (n := 1303) (n2 := 1304) rfl (ru_aload_n (k := 1) hx hb dL_law_1303) ?_
  refine ruL_c (n := 1304) (n2 := 1305) rfl (ru_aload_n (k := 0) hx hb dL_law_1304) ?_
  refine ruL_c (n := 1305) (n2 := 1306) rfl (ru_iload hx hb dL_law_1305) ?_
  refine ruL_c (n := 1306) (n2 := 1307) rfl (ru_bot) ?_
  refine ruL_c (n := 1307) (n2 := 1308) rfl (ru_iconst hx hb dL_law_1307 rfl) ?_
  refine ruL_c (n := 1308) (n2 := 1309) rfl (ru_iadd hx hb dL_law_1308) ?_
  refine ruL_c (n := 1309) (n2 := 1310) rfl (ru_sld hx hb hXs hbl hbA had dL_law_1309) ?_
  refine ruL_c (n := 1310) (n2 := 1311) rfl (ru_aload_n (k := 0) hx hb dL_law_1310) ?_
  refine ruL_c (n := 1311) (n2 := 1312) rfl (ru_iload hx hb dL_law_1311) ?_
  refine ruL_c (n := 1312) (n2 := 1313) rfl (ru_bot) ?_
  refine ruL_c (n := 1313) (n2 := 1314) rfl (ru_iconst hx hb dL_law_1313 rfl) ?_
  refine ruL_c (n := 1314) (n2 := 1315) rfl (ru_iadd hx hb dL_law_1314) ?_
  refine ruL_c (n := 1315) (n2 := 1316) rfl (ru_sld hx hb hXs hbl hbA had dL_law_1315) ?_
  refine ruL_c (n := 1316) (n2 := 1317) rfl (ru_aload_n (k := 0) hx hb dL_law_1316) ?_
  refine ruL_c (n := 1317) (n2 := 1318) rfl (ru_iload hx hb dL_law_1317) ?_
  refine ruL_c (n := 1318) (n2 := 1319) rfl (ru_bot) ?_
  refine ruL_c (n := 1319) (n2 := 1320) rfl (ru_iconst hx hb dL_law_1319 rfl) ?_
  refine ruL_c (n := 1320) (n2 := 1321) rfl (ru_iadd hx hb dL_law_1320) ?_
  refine ruL_c (n := 1321) (n2 := 1322) rfl (ru_sld hx hb hXs hbl hbA had dL_law_1321) ?_
  refine ruL_c (n := 1322) (n2 := 1323) rfl (ru_aload_n (k := 3) hx hb dL_law_1322) ?_
  refine ruL_c (n := 1323) (n2 := 1324) rfl (ru_callW (own := RL) hx hb hml hown hts hK hN hX hC (c_L_borrow l hlt D cI cZ cA cL ad sa hi) (vx_cwSW 5 hts gL_law_L_borrow rfl rfl rfl (by decide +kernel) ⟨Nat.le_of_ble_eq_true rfl, Nat.le_of_ble_eq_true rfl⟩) dL_law_1323 ⟨Nat.le_trans (Nat.add_le_add_left (by decide) _) hcell, Nat.le_trans (Nat.add_le_add_left (by decide) _) hslot⟩) ?_
  refine ruL_c (n := 1324) (n2 := 1325) rfl (ru_bot) ?_
  refine ruL_c (n := 1325) (n2 := 1326) rfl (ru_bot) ?_
  refine ruL_c (n := 1326) (n2 := 1327) rfl (ru_istore hx hb dL_law_1326) ?_
  refine ruL_c (n := 1327) (n2 := 1328) rfl (ru_bot) ?_
  refine ruL_c (n := 1328) (n2 := 1329) rfl (ru_aload_n (k := 2) hx hb dL_law_1328) ?_
  refine ruL_c (n := 1329) (n2 := 1330) rfl (ru_aload_n (k := 0) hx hb dL_law_1329) ?_
  refine ruL_c (n := 1330) (n2 := 1331) rfl (ru_iload hx hb dL_law_1330) ?_
  refine ruL_c (n := 1331) (n2 := 1332) rfl (ru_bot) ?_
  refine ruL_c (n := 1332) (n2 := 1333) rfl (ru_iconst hx hb dL_law_1332 rfl) ?_
  refine ruL_c (n := 1333) (n2 := 1334) rfl (ru_iadd hx hb dL_law_1333) ?_
  refine ruL_c (n := 1334) (n2 := 1335) rfl (ru_sld hx hb hXs hbl hbA had dL_law_1334) ?_
  refine ruL_c (n := 1335) (n2 := 1336) rfl (ru_aload_n (k := 0) hx hb dL_law_1335) ?_
  refine ruL_c (n := 1336) (n2 := 1337) rfl (ru_iload hx hb dL_law_1336) ?_
  refine ruL_c (n := 1337) (n2 := 1338) rfl (ru_bot) ?_
  refine ruL_c (n := 1338) (n2 := 1339) rfl (ru_iconst hx hb dL_law_1338 rfl) ?_
  refine ruL_c (n := 1339) (n2 := 1340) rfl (ru_iadd hx hb dL_law_1339) ?_
  refine ruL_c (n := 1340) (n2 := 1341) rfl (ru_sld hx hb hXs hbl hbA had dL_law_1340) ?_
  refine ruL_c (n := 1341) (n2 := 1342) rfl (ru_aload_n (k := 0) hx hb dL_law_1341) ?_
  refine ruL_c (n := 1342) (n2 := 1343) rfl (ru_iload hx hb dL_law_1342) ?_
  refine ruL_c (n := 1343) (n2 := 1344) rfl (ru_bot) ?_
  refine ruL_c (n := 1344) (n2 := 1345) rfl (ru_iconst hx hb dL_law_1344 rfl) ?_
  refine ruL_c (n := 1345) (n2 := 1346) rfl (ru_iadd hx hb dL_law_1345) ?_
  refine ruL_c (n := 1346) (n2 := 1347) rfl (ru_sld hx hb hXs hbl hbA had dL_law_1346) ?_
  refine ruL_c (n := 1347) (n2 := 1348) rfl (ru_callV (own := RL) hx hb hml hown hts hK hN (by decide) rfl (c_X6_borrow l D cI cZ cA cL ad hi) (cwV 3 hts gL_law_X6_borrow rfl rfl rfl (by decide +kernel) ⟨Nat.le_of_ble_eq_true rfl, Nat.le_of_ble_eq_true rfl⟩) dL_law_1347 ⟨Nat.le_trans (Nat.le_add_right _ 20) hcell, Nat.le_trans (Nat.le_add_right _ 120) hslot⟩) ?_
  refine ruL_c (n := 1348) (n2 := 1349) rfl (ru_bot) ?_
  refine ruL_c (n := 1349) (n2 := 1350) rfl (ru_bot) ?_
  refine ruL_c (n := 1350) (n2 := 1351) rfl (ru_istore hx hb dL_law_1350) ?_
  refine ruL_c (n := 1351) (n2 := 1352) rfl (ru_bot) ?_
  refine ruL_c (n := 1352) (n2 := 1353) rfl (ru_aload_n (k := 2) hx hb dL_law_1352) ?_
  refine ruL_c (n := 1353) (n2 := 1354) rfl (ru_callV (own := RL) hx hb hml hown hts hK hN (by decide) rfl (c_X6_thrown l D cI cZ cA cL ad hi) (cwV 0 hts gL_law_X6_thrown rfl rfl rfl (by decide +kernel) ⟨Nat.le_of_ble_eq_true rfl, Nat.le_of_ble_eq_true rfl⟩) dL_law_1353 ⟨Nat.le_trans (Nat.le_add_right _ 20) hcell, Nat.le_trans (Nat.le_add_right _ 120) hslot⟩) ?_
  refine ruL_c (n := 1354) (n2 := 1355) rfl (ru_bot) ?_
  refine ruL_c (n := 1355) (n2 := 1356) rfl (ru_bot) ?_
  refine ruL_c (n := 1356) (n2 := 1357) rfl (ru_iload hx hb dL_law_1356) ?_
  refine ruL_c (n := 1357) (n2 := 1358) rfl (ru_bot) ?_
  refine ruL_c (n := 1358) (n2 := 1359) rfl (ru_icmpeq hx hb dL_law_1358 (by decide)) ?_
  refine ruL_c (n := 1359) (n2 := 1360) rfl (ru_bot) ?_
  refine ruL_c (n := 1360) (n2 := 1361) rfl (ru_bot) ?_
  refine ruL_c (n := 1361) (n2 := 1362) rfl (ru_iconst hx hb dL_law_1361 rfl) ?_
  refine ruL_c (n := 1362) (n2 := 1363) rfl (ru_lret hx hb hr hlocks hA9 dL_law_1362 hcell hslot) ?_
  refine ruL_c (n := 1363) (n2 := 1364) rfl (ru_iload hx hb dL_law_1363) ?_
  refine ruL_c (n := 1364) (n2 := 1365) rfl (ru_bot) ?_
  refine ruL_c (n := 1365) (n2 := 1366) rfl (ru_ifne hx hb dL_law_1365 (by decide)) ?_
  refine ruL_c (n := 1366) (n2 := 1367) rfl (ru_bot) ?_
  refine ruL_c (n := 1367) (n2 := 1368) rfl (ru_bot) ?_
  refine ruL_c (n := 1368) (n2 := 1369) rfl (ru_aload_n (k := 3) hx hb dL_law_1368) ?_
  refine ruL_c (n := 1369) (n2 := 1370) rfl (ru_iconst hx hb dL_law_1369 rfl) ?_
  refine ruL_c (n := 1370) (n2 := 1371) rfl (ru_lald hx hb hK dL_law_1370) ?_
  refine ruL_c (n := 1371) (n2 := 1372) rfl (ru_iload hx hb dL_law_1371) ?_
  refine ruL_c (n := 1372) (n2 := 1373) rfl (ru_bot) ?_
  refine ruL_c (n := 1373) (n2 := 1374) rfl (ru_i2l hx hb dL_law_1373) ?_
  refine ruL_c (n := 1374) (n2 := 1375) rfl (ru_lcmp hx hb dL_law_1374) ?_
  refine ruL_c (n := 1375) (n2 := 1376) rfl (ru_ifeq hx hb dL_law_1375 (by decide)) ?_
  refine ruL_c (n := 1376) (n2 := 1377) rfl (ru_bot) ?_
  refine ruL_c (n := 1377) (n2 := 1378) rfl (ru_bot) ?_
  refine ruL_c (n := 1378) (n2 := 1379) rfl (ru_iconst hx hb dL_law_1378 rfl) ?_
  refine ruL_c (n := 1379) (n2 := 1380) rfl (ru_lret hx hb hr hlocks hA9 dL_law_1379 hcell hslot) ?_
  refine ruL_c (n := 1380) (n2 := 1381) rfl (ru_goto hx hb dL_law_1380 (by decide)) ?_
  refine ruL_c (n := 1381) (n2 := 1382) rfl (ru_bot) ?_
  refine ruL_c (n := 1382) (n2 := 1383) rfl (ru_bot) ?_
  exact trivial
set_option maxHeartbeats 8000000 in
set_option maxRecDepth 100000 in
theorem k_law18 {CP : aM → Prop} {N : Nat} {xs : Nat → Int32} {K : Nat → aS → Prop} (hw : ∀ c, c ≤ 8000 → ∀ n x, wpB 1303 (T_law18 (fun d => K (c + d)) N xs) n (K c) x → K c x) (hf : ∀ c pc L i st σ, K c (pc, L.set i .null, st, σ) → K c (pc, L, st, σ)) (ag : ∀ p0 p1 p2 : Int32, agW CP (f_L_borrow p0 p1 p2) (f_X6_borrow p0 p1 p2)) (c i : Nat) (hc : c ≤ 7900) (g1 : inb (nI i + 1) N = true) (g2 : inb (nI i + 2) N = true) (g3 : inb (nI i + 3) N = true) (g4 : inb (nI i + 4) N = true) (σ : aM) (hCP : CP σ)
    (hback : ∀ c2 σ2, c2 ≤ c + 12 → CP σ2 → K c2 (2234, [.ref 200, .ref 0, .ref 6, .ref 178, .int (nI i), .null, .null], [], σ2)) : K c (1303, [.ref 200, .ref 0, .ref 6, .ref 178, .int (nI i), .null, .null], [], σ) := by
  obtain ⟨k1, σ1, b1, σ2, e1, e2, e3, e4, hcp⟩ := ag (xs (ix (nI i + 1))) (xs (ix (nI i + 2))) (xs (ix (nI i + 3))) σ hCP
  refine hw c (by omega) 18 _ ?_
  show inb (nI i + 1) N = true ∧ (inb (nI i + 2) N = true ∧ (inb (nI i + 3) N = true ∧ (∃ k1 σ1, f_L_borrow (xs (ix (nI i + 1))) (xs (ix (nI i + 2))) (xs (ix (nI i + 3))) σ = some (k1, σ1) ∧ K (c + 10) (1326, [.ref 200, .ref 0, .ref 6, .ref 178, .int (nI i), .null, .null], [.int k1], σ1))))
  refine ⟨g1, g2, g3, ⟨k1, σ1, e1, ?_⟩⟩
  refine hw (c + 10) (by omega) 18 _ ?_
  show inb (nI i + 1) N = true ∧ (inb (nI i + 2) N = true ∧ (inb (nI i + 3) N = true ∧ (∃ b1 σ2, f_X6_borrow (xs (ix (nI i + 1))) (xs (ix (nI i + 2))) (xs (ix (nI i + 3))) σ1 = some (b1, σ2) ∧ K (c + 10) (1350, [.ref 200, .ref 0, .ref 6, .ref 178, .int (nI i), .int k1, .null], [.int b1], σ2))))
  refine ⟨g1, g2, g3, ⟨b1, σ2, e2, ?_⟩⟩
  refine hw (c + 10) (by omega) 3 _ ?_
  show ∃ r3 σ3, f_X6_thrown σ2 = some (r3, σ3) ∧ K (c + 10) (1356, [.ref 200, .ref 0, .ref 6, .ref 178, .int (nI i), .int k1, .int b1], [.int r3], σ3)
  refine ⟨σ2 6 0, σ2, rfl, ?_⟩
  refine hw (c + 10) (by omega) 2 _ ?_
  show (((σ2 6 0) = k1) → K (c + 10) (1363, [.ref 200, .ref 0, .ref 6, .ref 178, .int (nI i), .int k1, .int b1], [], σ2)) ∧ (¬ ((σ2 6 0) = k1) → K (c + 10) (1361, [.ref 200, .ref 0, .ref 6, .ref 178, .int (nI i), .int k1, .int b1], [], σ2))
  refine ⟨fun _ => ?_, fun q => absurd e3 q⟩
  by_cases hk : k1 = 0
  · have hz : σ2 178 (ix 0) = b1 := e4 hk
    refine hw (c + 10) (by omega) 2 _ ?_
    show ((¬ k1 = 0) → K (c + 10) (1380, [.ref 200, .ref 0, .ref 6, .ref 178, .int (nI i), .int k1, .int b1], [], σ2)) ∧ (¬ (¬ k1 = 0) → K (c + 10) (1368, [.ref 200, .ref 0, .ref 6, .ref 178, .int (nI i), .int k1, .int b1], [], σ2))
    refine ⟨fun q => absurd hk q, fun _ => ?_⟩
    refine hw (c + 10) (by omega) 7 _ ?_
    show kd 178 = 4 ∧ (inb 0 1 = true ∧ ((((lg_cmp (σ2 178 (ix 0)).toInt64 b1.toInt64) = 0) → K (c + 10) (1380, [.ref 200, .ref 0, .ref 6, .ref 178, .int (nI i), .int k1, .int b1], [], σ2)) ∧ (¬ ((lg_cmp (σ2 178 (ix 0)).toInt64 b1.toInt64) = 0) → K (c + 10) (1378, [.ref 200, .ref 0, .ref 6, .ref 178, .int (nI i), .int k1, .int b1], [], σ2))))
    refine ⟨rfl, by decide, ⟨fun _ => ?_, fun q => absurd (by rw [hz]; exact lcmp_eq _) q⟩⟩
    refine hw (c + 10) (by omega) 1 _ ?_
    show K (c + 10) (2234, [.ref 200, .ref 0, .ref 6, .ref 178, .int (nI i), .int k1, .int b1], [], σ2)
    refine hf _ _ _ 5 _ _ ?_
    show K (c + 10) (2234, [.ref 200, .ref 0, .ref 6, .ref 178, .int (nI i), .null, .int b1], [], σ2)
    refine hf _ _ _ 6 _ _ ?_
    show K (c + 10) (2234, [.ref 200, .ref 0, .ref 6, .ref 178, .int (nI i), .null, .null], [], σ2)
    exact hback _ _ (by omega) hcp
  · refine hw (c + 10) (by omega) 2 _ ?_
    show ((¬ k1 = 0) → K (c + 10) (1380, [.ref 200, .ref 0, .ref 6, .ref 178, .int (nI i), .int k1, .int b1], [], σ2)) ∧ (¬ (¬ k1 = 0) → K (c + 10) (1368, [.ref 200, .ref 0, .ref 6, .ref 178, .int (nI i), .int k1, .int b1], [], σ2))
    refine ⟨fun _ => ?_, fun q => absurd hk q⟩
    refine hw (c + 10) (by omega) 1 _ ?_
    show K (c + 10) (2234, [.ref 200, .ref 0, .ref 6, .ref 178, .int (nI i), .int k1, .int b1], [], σ2)
    refine hf _ _ _ 5 _ _ ?_
    show K (c + 10) (2234, [.ref 200, .ref 0, .ref 6, .ref 178, .int (nI i), .null, .int b1], [], σ2)
    refine hf _ _ _ 6 _ _ ?_
    show K (c + 10) (2234, [.ref 200, .ref 0, .ref 6, .ref 178, .int (nI i), .null, .null], [], σ2)
    exact hback _ _ (by omega) hcp
def T_law19 (KN : Nat → aS → Prop) (N : Nat) (xs : Nat → Int32) : List aI := [I_aload 1 1, I_aload 0 1, I_iload 4 2, I_bot, I_const 1 1, I_bin fun x y => x + y, I_sld N xs, I_aload 3 1, I_callW 3 F_L_bringBack (KN 6), I_bot, I_bot, I_istore 5 2, I_bot, I_aload 2 1, I_aload 0 1, I_iload 4 2, I_bot, I_const 1 1, I_bin fun x y => x + y, I_sld N xs, I_callV 6 1 F_X6_bringBack, I_bot, I_bot, I_istore 6 2, I_bot, I_aload 2 1, I_callV 6 0 F_X6_thrown, I_bot, I_bot, I_iload 5 2, I_bot, I_icmp (fun x y => x = y) 1419, I_bot, I_bot, I_const 0 1, I_lret, I_iload 5 2, I_bot, I_if (fun x => ¬ x = 0) 1436, I_bot, I_bot, I_aload 3 1, I_const 0 1, I_lald, I_iload 6 2, I_bot, I_i2l, I_lcmp, I_if (fun x => x = 0) 1436, I_bot, I_bot, I_const 0 1, I_lret, I_goto 2234, I_bot, I_bot]
set_option maxHeartbeats 8000000 in
set_option maxRecDepth 100000 in
theorem r_law19 {p : Program} {l : Launch} {e : Env} {s : State} {m : MethodId} {below : List Frame} {meth : Method} {c : Code} {D : va_G} {cI cZ cA cL : ClassId} {ad sa : Nat → Nat} {b N : Nat} {xs : Nat → Int32} (Z : LCX p l e s m meth c b N xs D cI cZ cA cL ad sa) (cells slots : Nat) (hcell : cells + 20 ≤ 601024) (hslot : slots + 120 ≤ 7293034) :
    ruL (Ru p l e room_1 s m #[Value.ref b] below meth c cells slots (lw_Z below #[Value.ref b] s) 7 D cI cZ cA cL ad (AA ad s.heap.size) s.heap) 1383 (T_law19 (fun d => WS p l e room_1 s m #[Value.ref b] below meth c (cells + d) (slots + 6 * d) (lw_Z below #[Value.ref b] s) 7 D cI cZ cA cL ad (AA ad s.heap.size) s.heap) N xs) := by
  obtain ⟨hx, hb, hml, hown, hts, hr, hlocks, hK, hN, hX, hC, hXs, hbl, hbA, had, hi, hlt, hA9⟩ := Z
  refine ruL_c (n := 1383) (n2 := 1384) rfl (ru_aload_n (k := 1) hx hb dL_law_1383) ?_
  refine ruL_c (n := 1384) (n2 := 1385) rfl (ru_aload_n (k := 0) hx hb dL_law_1384) ?_
  refine ruL_c (n := 1385) (n2 := 1386) rfl (ru_iload hx hb dL_law_1385) ?_
  refine ruL_c (n := 1386) (n2 := 1387) rfl (ru_bot) ?_
  refine ruL_c (n := 1387) (n2 := 1388) rfl (ru_iconst hx hb dL_law_1387 rfl) ?_
  refine ruL_c (n := 1388) (n2 := 1389) rfl (ru_iadd hx hb dL_law_1388) ?_
  refine ruL_c (n := 1389) (n2 := 1390) rfl (ru_sld hx hb hXs hbl hbA had dL_law_1389) ?_
  refine ruL_c (n := 1390) (n2 := 1391) rfl (ru_aload_n (k := 3) hx hb dL_law_1390) ?_
  refine ruL_c (n := 1391) (n2 := 1392) rfl (ru_callW (own := RL) hx hb hml hown hts hK hN hX hC (c_L_bringBack l hlt D cI cZ cA cL ad sa hi) (vx_cwSW 3 hts gL_law_L_bringBack rfl rfl rfl (by decide +kernel) ⟨Nat.le_of_ble_eq_true rfl, Nat.le_of_ble_eq_true rfl⟩) dL_law_1391 ⟨Nat.le_trans (Nat.add_le_add_left (by decide) _) hcell, Nat.le_trans (Nat.add_le_add_left (by decide) _) hslot⟩) ?_
  refine ruL_c (n := 1392) (n2 := 1393) rfl (ru_bot) ?_
  refine ruL_c (n := 1393) (n2 := 1394) rfl (ru_bot) ?_
  refine ruL_c (n := 1394) (n2 := 1395) rfl (ru_istore hx hb dL_law_1394) ?_
  refine ruL_c (n := 1395) (n2 := 1396) rfl (ru_bot) ?_
  refine ruL_c (n := 1396) (n2 := 1397) rfl (ru_aload_n (k := 2) hx hb dL_law_1396) ?_
  refine ruL_c (n := 1397) (n2 := 1398) rfl (ru_aload_n (k := 0) hx hb dL_law_1397) ?_
  refine ruL_c (n := 1398) (n2 := 1399) rfl (ru_iload hx hb dL_law_1398) ?_
  refine ruL_c (n := 1399) (n2 := 1400) rfl (ru_bot) ?_
  refine ruL_c (n := 1400) (n2 := 1401) rfl (ru_iconst hx hb dL_law_1400 rfl) ?_
  refine ruL_c (n := 1401) (n2 := 1402) rfl (ru_iadd hx hb dL_law_1401) ?_
  refine ruL_c (n := 1402) (n2 := 1403) rfl (ru_sld hx hb hXs hbl hbA had dL_law_1402) ?_
  refine ruL_c (n := 1403) (n2 := 1404) rfl (ru_callV (own := RL) hx hb hml hown hts hK hN (by decide) rfl (c_X6_bringBack l D cI cZ cA cL ad hi) (cwV 1 hts gL_law_X6_bringBack rfl rfl rfl (by decide +kernel) ⟨Nat.le_of_ble_eq_true rfl, Nat.le_of_ble_eq_true rfl⟩) dL_law_1403 ⟨Nat.le_trans (Nat.le_add_right _ 20) hcell, Nat.le_trans (Nat.le_add_right _ 120) hslot⟩) ?_
  refine ruL_c (n := 1404) (n2 := 1405) rfl (ru_bot) ?_
  refine ruL_c (n := 1405) (n2 := 1406) rfl (ru_bot) ?_
  refine ruL_c (n := 1406) (n2 := 1407) rfl (ru_istore hx hb dL_law_1406) ?_
  refine ruL_c (n := 1407) (n2 := 1408) rfl (ru_bot) ?_
  refine ruL_c (n := 1408) (n2 := 1409) rfl (ru_aload_n (k := 2) hx hb dL_law_1408) ?_
  refine ruL_c (n := 1409) (n2 := 1410) rfl (ru_callV (own := RL) hx hb hml hown hts hK hN (by decide) rfl (c_X6_thrown l D cI cZ cA cL ad hi) (cwV 0 hts gL_law_X6_thrown rfl rfl rfl (by decide +kernel) ⟨Nat.le_of_ble_eq_true rfl, Nat.le_of_ble_eq_true rfl⟩) dL_law_1409 ⟨Nat.le_trans (Nat.le_add_right _ 20) hcell, Nat.le_trans (Nat.le_add_right _ 120) hslot⟩) ?_
  refine ruL_c (n := 1410) (n2 := 1411) rfl (ru_bot) ?_
  refine ruL_c (n := 1411) (n2 := 1412) rfl (ru_bot) ?_
  refine ruL_c (n := 1412) (n2 := 1413) rfl (ru_iload hx hb dL_law_1412) ?_
  refine ruL_c (n := 1413) (n2 := 1414) rfl (ru_bot) ?_
  refine ruL_c (n := 1414) (n2 := 1415) rfl (ru_icmpeq hx hb dL_law_1414 (by decide)) ?_
  refine ruL_c (n := 1415) (n2 := 1416) rfl (ru_bot) ?_
  refine ruL_c (n := 1416) (n2 := 1417) rfl (ru_bot) ?_
  refine ruL_c (n := 1417) (n2 := 1418) rfl (ru_iconst hx hb dL_law_1417 rfl) ?_
  refine ruL_c (n := 1418) (n2 := 1419) rfl (ru_lret hx hb hr hlocks hA9 dL_law_1418 hcell hslot) ?_
  refine ruL_c (n := 1419) (n2 := 1420) rfl (ru_iload hx hb dL_law_1419) ?_
  refine ruL_c (n := 1420) (n2 := 1421) rfl (ru_bot) ?_
  refine ruL_c (n := 1421) (n2 := 1422) rfl (ru_ifne hx hb dL_law_1421 (by decide)) ?_
  refine ruL_c (n := 1422) (n2 := 1423) rfl (ru_bot) ?_
  refine ruL_c (n := 1423) (n2 := 1424) rfl (ru_bot) ?_
  refine ruL_c (n := 1424) (n2 := 1425) rfl (ru_aload_n (k := 3) hx hb dL_law_1424) ?_
  refine ruL_c (n := 1425) (n2 := 1426) rfl (ru_iconst hx hb dL_law_1425 rfl) ?_
  refine ruL_c (n := 1426) (n2 := 1427) rfl (ru_lald hx hb hK dL_law_1426) ?_
  refine ruL_c (n := 1427) (n2 := 1428) rfl (ru_iload hx hb dL_law_1427) ?_
  refine ruL_c (n := 1428) (n2 := 1429) rfl (ru_bot) ?_
  refine ruL_c (n := 1429) (n2 := 1430) rfl (ru_i2l hx hb dL_law_1429) ?_
  refine ruL_c (n := 1430) (n2 := 1431) rfl (ru_lcmp hx hb dL_law_1430) ?_
  refine ruL_c (n := 1431) (n2 := 1432) rfl (ru_ifeq hx hb dL_law_1431 (by decide)) ?_
  refine ruL_c (n := 1432) (n2 := 1433) rfl (ru_bot) ?_
  refine ruL_c (n := 1433) (n2 := 1434) rfl (ru_bot) ?_
  refine ruL_c (n := 1434) (n2 := 1435) rfl (ru_iconst hx hb dL_law_1434 rfl) ?_
  refine ruL_c (n := 1435) (n2 := 1436) rfl (ru_lret hx hb hr hlocks hA9 dL_law_1435 hcell hslot) ?_
  refine ruL_c (n := 1436) (n2 := 1437) rfl (ru_goto hx hb dL_law_1436 (by decide)) ?_
  refine ruL_c (n := 1437) (n2 := 1438) rfl (ru_bot) ?_
  refine ruL_c (n := 1438) (n2 := 1439) rfl (ru_bot) ?_
  exact trivial
set_option maxHeartbeats 8000000 in
set_option maxRecDepth 100000 in
theorem k_law19 {CP : aM → Prop} {N : Nat} {xs : Nat → Int32} {K : Nat → aS → Prop} (hw : ∀ c, c ≤ 8000 → ∀ n x, wpB 1383 (T_law19 (fun d => K (c + d)) N xs) n (K c) x → K c x) (hf : ∀ c pc L i st σ, K c (pc, L.set i .null, st, σ) → K c (pc, L, st, σ)) (ag : ∀ p0 : Int32, agW CP (f_L_bringBack p0) (f_X6_bringBack p0)) (c i : Nat) (hc : c ≤ 7900) (g1 : inb (nI i + 1) N = true) (g2 : inb (nI i + 2) N = true) (g3 : inb (nI i + 3) N = true) (g4 : inb (nI i + 4) N = true) (σ : aM) (hCP : CP σ)
    (hback : ∀ c2 σ2, c2 ≤ c + 12 → CP σ2 → K c2 (2234, [.ref 200, .ref 0, .ref 6, .ref 178, .int (nI i), .null, .null], [], σ2)) : K c (1383, [.ref 200, .ref 0, .ref 6, .ref 178, .int (nI i), .null, .null], [], σ) := by
  obtain ⟨k1, σ1, b1, σ2, e1, e2, e3, e4, hcp⟩ := ag (xs (ix (nI i + 1))) σ hCP
  refine hw c (by omega) 8 _ ?_
  show inb (nI i + 1) N = true ∧ (∃ k1 σ1, f_L_bringBack (xs (ix (nI i + 1))) σ = some (k1, σ1) ∧ K (c + 6) (1394, [.ref 200, .ref 0, .ref 6, .ref 178, .int (nI i), .null, .null], [.int k1], σ1))
  refine ⟨g1, ⟨k1, σ1, e1, ?_⟩⟩
  refine hw (c + 6) (by omega) 8 _ ?_
  show inb (nI i + 1) N = true ∧ (∃ b1 σ2, f_X6_bringBack (xs (ix (nI i + 1))) σ1 = some (b1, σ2) ∧ K (c + 6) (1406, [.ref 200, .ref 0, .ref 6, .ref 178, .int (nI i), .int k1, .null], [.int b1], σ2))
  refine ⟨g1, ⟨b1, σ2, e2, ?_⟩⟩
  refine hw (c + 6) (by omega) 3 _ ?_
  show ∃ r3 σ3, f_X6_thrown σ2 = some (r3, σ3) ∧ K (c + 6) (1412, [.ref 200, .ref 0, .ref 6, .ref 178, .int (nI i), .int k1, .int b1], [.int r3], σ3)
  refine ⟨σ2 6 0, σ2, rfl, ?_⟩
  refine hw (c + 6) (by omega) 2 _ ?_
  show (((σ2 6 0) = k1) → K (c + 6) (1419, [.ref 200, .ref 0, .ref 6, .ref 178, .int (nI i), .int k1, .int b1], [], σ2)) ∧ (¬ ((σ2 6 0) = k1) → K (c + 6) (1417, [.ref 200, .ref 0, .ref 6, .ref 178, .int (nI i), .int k1, .int b1], [], σ2))
  refine ⟨fun _ => ?_, fun q => absurd e3 q⟩
  by_cases hk : k1 = 0
  · have hz : σ2 178 (ix 0) = b1 := e4 hk
    refine hw (c + 6) (by omega) 2 _ ?_
    show ((¬ k1 = 0) → K (c + 6) (1436, [.ref 200, .ref 0, .ref 6, .ref 178, .int (nI i), .int k1, .int b1], [], σ2)) ∧ (¬ (¬ k1 = 0) → K (c + 6) (1424, [.ref 200, .ref 0, .ref 6, .ref 178, .int (nI i), .int k1, .int b1], [], σ2))
    refine ⟨fun q => absurd hk q, fun _ => ?_⟩
    refine hw (c + 6) (by omega) 7 _ ?_
    show kd 178 = 4 ∧ (inb 0 1 = true ∧ ((((lg_cmp (σ2 178 (ix 0)).toInt64 b1.toInt64) = 0) → K (c + 6) (1436, [.ref 200, .ref 0, .ref 6, .ref 178, .int (nI i), .int k1, .int b1], [], σ2)) ∧ (¬ ((lg_cmp (σ2 178 (ix 0)).toInt64 b1.toInt64) = 0) → K (c + 6) (1434, [.ref 200, .ref 0, .ref 6, .ref 178, .int (nI i), .int k1, .int b1], [], σ2))))
    refine ⟨rfl, by decide, ⟨fun _ => ?_, fun q => absurd (by rw [hz]; exact lcmp_eq _) q⟩⟩
    refine hw (c + 6) (by omega) 1 _ ?_
    show K (c + 6) (2234, [.ref 200, .ref 0, .ref 6, .ref 178, .int (nI i), .int k1, .int b1], [], σ2)
    refine hf _ _ _ 5 _ _ ?_
    show K (c + 6) (2234, [.ref 200, .ref 0, .ref 6, .ref 178, .int (nI i), .null, .int b1], [], σ2)
    refine hf _ _ _ 6 _ _ ?_
    show K (c + 6) (2234, [.ref 200, .ref 0, .ref 6, .ref 178, .int (nI i), .null, .null], [], σ2)
    exact hback _ _ (by omega) hcp
  · refine hw (c + 6) (by omega) 2 _ ?_
    show ((¬ k1 = 0) → K (c + 6) (1436, [.ref 200, .ref 0, .ref 6, .ref 178, .int (nI i), .int k1, .int b1], [], σ2)) ∧ (¬ (¬ k1 = 0) → K (c + 6) (1424, [.ref 200, .ref 0, .ref 6, .ref 178, .int (nI i), .int k1, .int b1], [], σ2))
    refine ⟨fun _ => ?_, fun q => absurd hk q⟩
    refine hw (c + 6) (by omega) 1 _ ?_
    show K (c + 6) (2234, [.ref 200, .ref 0, .ref 6, .ref 178, .int (nI i), .int k1, .int b1], [], σ2)
    refine hf _ _ _ 5 _ _ ?_
    show K (c + 6) (2234, [.ref 200, .ref 0, .ref 6, .ref 178, .int (nI i), .null, .int b1], [], σ2)
    refine hf _ _ _ 6 _ _ ?_
    show K (c + 6) (2234, [.ref 200, .ref 0, .ref 6, .ref 178, .int (nI i), .null, .null], [], σ2)
    exact hback _ _ (by omega) hcp
def T_law20 (KN : Nat → aS → Prop) (N : Nat) (xs : Nat → Int32) : List aI := [I_aload 1 1, I_aload 0 1, I_iload 4 2, I_bot, I_const 1 1, I_bin fun x y => x + y, I_sld N xs, I_aload 3 1, I_callW 3 F_L_replace (KN 4), I_bot, I_bot, I_istore 5 2, I_bot, I_aload 2 1, I_aload 0 1, I_iload 4 2, I_bot, I_const 1 1, I_bin fun x y => x + y, I_sld N xs, I_callV 6 1 F_X6_replace, I_bot, I_bot, I_istore 6 2, I_bot, I_aload 2 1, I_callV 6 0 F_X6_thrown, I_bot, I_bot, I_iload 5 2, I_bot, I_icmp (fun x y => x = y) 1475, I_bot, I_bot, I_const 0 1, I_lret, I_iload 5 2, I_bot, I_if (fun x => ¬ x = 0) 1492, I_bot, I_bot, I_aload 3 1, I_const 0 1, I_lald, I_iload 6 2, I_bot, I_i2l, I_lcmp, I_if (fun x => x = 0) 1492, I_bot, I_bot, I_const 0 1, I_lret, I_goto 2234, I_bot, I_bot]
set_option maxHeartbeats 8000000 in
set_option maxRecDepth 100000 in
theorem r_law20 {p : Program} {l : Launch} {e : Env} {s : State} {m : MethodId} {below : List Frame} {meth : Method} {c : Code} {D : va_G} {cI cZ cA cL : ClassId} {ad sa : Nat → Nat} {b N : Nat} {xs : Nat → Int32} (Z : LCX p l e s m meth c b N xs D cI cZ cA cL ad sa) (cells slots : Nat) (hcell : cells + 20 ≤ 601024) (hslot : slots + 120 ≤ 7293034) :
    ruL (Ru p l e room_1 s m #[Value.ref b] below meth c cells slots (lw_Z below #[Value.ref b] s) 7 D cI cZ cA cL ad (AA ad s.heap.size) s.heap) 1439 (T_law20 (fun d => WS p l e room_1 s m #[Value.ref b] below meth c (cells + d) (slots + 6 * d) (lw_Z below #[Value.ref b] s) 7 D cI cZ cA cL ad (AA ad s.heap.size) s.heap) N xs) := by
  obtain ⟨hx, hb, hml, hown, hts, hr, hlocks, hK, hN, hX, hC, hXs, hbl, hbA, had, hi, hlt, hA9⟩ := Z
  refine ruL_c (n := 1439) (n2 := 1440) rfl (ru_aload_n (k := 1) hx hb dL_law_1439) ?_
  refine ruL_c (n := 1440) (n2 := 1441) rfl (ru_aload_n (k := 0) hx hb dL_law_1440) ?_
  refine ruL_c (n := 1441) (n2 := 1442) rfl (ru_iload hx hb dL_law_1441) ?_
  refine ruL_c (n := 1442) (n2 := 1443) rfl (ru_bot) ?_
  refine ruL_c (n := 1443) (n2 := 1444) rfl (ru_iconst hx hb dL_law_1443 rfl) ?_
  refine ruL_c (n := 1444) (n2 := 1445) rfl (ru_iadd hx hb dL_law_1444) ?_
  refine ruL_c (n := 1445) (n2 := 1446) rfl (ru_sld hx hb hXs hbl hbA had dL_law_1445) ?_
  refine ruL_c (n := 1446) (n2 := 1447) rfl (ru_aload_n (k := 3) hx hb dL_law_1446) ?_
  refine ruL_c (n := 1447) (n2 := 1448) rfl (ru_callW (own := RL) hx hb hml hown hts hK hN hX hC (c_L_replace l hlt D cI cZ cA cL ad sa hi) (vx_cwSW 3 hts gL_law_L_replace rfl rfl rfl (by decide +kernel) ⟨Nat.le_of_ble_eq_true rfl, Nat.le_of_ble_eq_true rfl⟩) dL_law_1447 ⟨Nat.le_trans (Nat.add_le_add_left (by decide) _) hcell, Nat.le_trans (Nat.add_le_add_left (by decide) _) hslot⟩) ?_
  refine ruL_c (n := 1448) (n2 := 1449) rfl (ru_bot) ?_
  refine ruL_c (n := 1449) (n2 := 1450) rfl (ru_bot) ?_
  refine ruL_c (n := 1450) (n2 := 1451) rfl (ru_istore hx hb dL_law_1450) ?_
  refine ruL_c (n := 1451) (n2 := 1452) rfl (ru_bot) ?_
  refine ruL_c (n := 1452) (n2 := 1453) rfl (ru_aload_n (k := 2) hx hb dL_law_1452) ?_
  refine ruL_c (n := 1453) (n2 := 1454) rfl (ru_aload_n (k := 0) hx hb dL_law_1453) ?_
  refine ruL_c (n := 1454) (n2 := 1455) rfl (ru_iload hx hb dL_law_1454) ?_
  refine ruL_c (n := 1455) (n2 := 1456) rfl (ru_bot) ?_
  refine ruL_c (n := 1456) (n2 := 1457) rfl (ru_iconst hx hb dL_law_1456 rfl) ?_
  refine ruL_c (n := 1457) (n2 := 1458) rfl (ru_iadd hx hb dL_law_1457) ?_
  refine ruL_c (n := 1458) (n2 := 1459) rfl (ru_sld hx hb hXs hbl hbA had dL_law_1458) ?_
  refine ruL_c (n := 1459) (n2 := 1460) rfl (ru_callV (own := RL) hx hb hml hown hts hK hN (by decide) rfl (c_X6_replace l D cI cZ cA cL ad hi) (cwV 1 hts gL_law_X6_replace rfl rfl rfl (by decide +kernel) ⟨Nat.le_of_ble_eq_true rfl, Nat.le_of_ble_eq_true rfl⟩) dL_law_1459 ⟨Nat.le_trans (Nat.le_add_right _ 20) hcell, Nat.le_trans (Nat.le_add_right _ 120) hslot⟩) ?_
  refine ruL_c (n := 1460) (n2 := 1461) rfl (ru_bot) ?_
  refine ruL_c (n := 1461) (n2 := 1462) rfl (ru_bot) ?_
  refine ruL_c (n := 1462) (n2 := 1463) rfl (ru_istore hx hb dL_law_1462) ?_
  refine ruL_c (n := 1463) (n2 := 1464) rfl (ru_bot) ?_
  refine ruL_c (n := 1464) (n2 := 1465) rfl (ru_aload_n (k := 2) hx hb dL_law_1464) ?_
  refine ruL_c (n := 1465) (n2 := 1466) rfl (ru_callV (own := RL) hx hb hml hown hts hK hN (by decide) rfl (c_X6_thrown l D cI cZ cA cL ad hi) (cwV 0 hts gL_law_X6_thrown rfl rfl rfl (by decide +kernel) ⟨Nat.le_of_ble_eq_true rfl, Nat.le_of_ble_eq_true rfl⟩) dL_law_1465 ⟨Nat.le_trans (Nat.le_add_right _ 20) hcell, Nat.le_trans (Nat.le_add_right _ 120) hslot⟩) ?_
  refine ruL_c (n := 1466) (n2 := 1467) rfl (ru_bot) ?_
  refine ruL_c (n := 1467) (n2 := 1468) rfl (ru_bot) ?_
  refine ruL_c (n := 1468) (n2 := 1469) rfl (ru_iload hx hb dL_law_1468) ?_
  refine ruL_c (n := 1469) (n2 := 1470) rfl (ru_bot) ?_
  refine ruL_c (n := 1470) (n2 := 1471) rfl (ru_icmpeq hx hb dL_law_1470 (by decide)) ?_
  refine ruL_c (n := 1471) (n2 := 1472) rfl (ru_bot) ?_
  refine ruL_c (n := 1472) (n2 := 1473) rfl (ru_bot) ?_
  refine ruL_c (n := 1473) (n2 := 1474) rfl (ru_iconst hx hb dL_law_1473 rfl) ?_
  refine ruL_c (n := 1474) (n2 := 1475) rfl (ru_lret hx hb hr hlocks hA9 dL_law_1474 hcell hslot) ?_
  refine ruL_c (n := 1475) (n2 := 1476) rfl (ru_iload hx hb dL_law_1475) ?_
  refine ruL_c (n := 1476) (n2 := 1477) rfl (ru_bot) ?_
  refine ruL_c (n := 1477) (n2 := 1478) rfl (ru_ifne hx hb dL_law_1477 (by decide)) ?_
  refine ruL_c (n := 1478) (n2 := 1479) rfl (ru_bot) ?_
  refine ruL_c (n := 1479) (n2 := 1480) rfl (ru_bot) ?_
  refine ruL_c (n := 1480) (n2 := 1481) rfl (ru_aload_n (k := 3) hx hb dL_law_1480) ?_
  refine ruL_c (n := 1481) (n2 := 1482) rfl (ru_iconst hx hb dL_law_1481 rfl) ?_
  refine ruL_c (n := 1482) (n2 := 1483) rfl (ru_lald hx hb hK dL_law_1482) ?_
  refine ruL_c (n := 1483) (n2 := 1484) rfl (ru_iload hx hb dL_law_1483) ?_
  refine ruL_c (n := 1484) (n2 := 1485) rfl (ru_bot) ?_
  refine ruL_c (n := 1485) (n2 := 1486) rfl (ru_i2l hx hb dL_law_1485) ?_
  refine ruL_c (n := 1486) (n2 := 1487) rfl (ru_lcmp hx hb dL_law_1486) ?_
  refine ruL_c (n := 1487) (n2 := 1488) rfl (ru_ifeq hx hb dL_law_1487 (by decide)) ?_
  refine ruL_c (n := 1488) (n2 := 1489) rfl (ru_bot) ?_
  refine ruL_c (n := 1489) (n2 := 1490) rfl (ru_bot) ?_
  refine ruL_c (n := 1490) (n2 := 1491) rfl (ru_iconst hx hb dL_law_1490 rfl) ?_
  refine ruL_c (n := 1491) (n2 := 1492) rfl (ru_lret hx hb hr hlocks hA9 dL_law_1491 hcell hslot) ?_
  refine ruL_c (n := 1492) (n2 := 1493) rfl (ru_goto hx hb dL_law_1492 (by decide)) ?_
  refine ruL_c (n := 1493) (n2 := 1494) rfl (ru_bot) ?_
  refine ruL_c (n := 1494) (n2 := 1495) rfl (ru_bot) ?_
  exact trivial
set_option maxHeartbeats 8000000 in
set_option maxRecDepth 100000 in
theorem k_law20 {CP : aM → Prop} {N : Nat} {xs : Nat → Int32} {K : Nat → aS → Prop} (hw : ∀ c, c ≤ 8000 → ∀ n x, wpB 1439 (T_law20 (fun d => K (c + d)) N xs) n (K c) x → K c x) (hf : ∀ c pc L i st σ, K c (pc, L.set i .null, st, σ) → K c (pc, L, st, σ)) (ag : ∀ p0 : Int32, agW CP (f_L_replace p0) (f_X6_replace p0)) (c i : Nat) (hc : c ≤ 7900) (g1 : inb (nI i + 1) N = true) (g2 : inb (nI i + 2) N = true) (g3 : inb (nI i + 3) N = true) (g4 : inb (nI i + 4) N = true) (σ : aM) (hCP : CP σ)
    (hback : ∀ c2 σ2, c2 ≤ c + 12 → CP σ2 → K c2 (2234, [.ref 200, .ref 0, .ref 6, .ref 178, .int (nI i), .null, .null], [], σ2)) : K c (1439, [.ref 200, .ref 0, .ref 6, .ref 178, .int (nI i), .null, .null], [], σ) := by
  obtain ⟨k1, σ1, b1, σ2, e1, e2, e3, e4, hcp⟩ := ag (xs (ix (nI i + 1))) σ hCP
  refine hw c (by omega) 8 _ ?_
  show inb (nI i + 1) N = true ∧ (∃ k1 σ1, f_L_replace (xs (ix (nI i + 1))) σ = some (k1, σ1) ∧ K (c + 4) (1450, [.ref 200, .ref 0, .ref 6, .ref 178, .int (nI i), .null, .null], [.int k1], σ1))
  refine ⟨g1, ⟨k1, σ1, e1, ?_⟩⟩
  refine hw (c + 4) (by omega) 8 _ ?_
  show inb (nI i + 1) N = true ∧ (∃ b1 σ2, f_X6_replace (xs (ix (nI i + 1))) σ1 = some (b1, σ2) ∧ K (c + 4) (1462, [.ref 200, .ref 0, .ref 6, .ref 178, .int (nI i), .int k1, .null], [.int b1], σ2))
  refine ⟨g1, ⟨b1, σ2, e2, ?_⟩⟩
  refine hw (c + 4) (by omega) 3 _ ?_
  show ∃ r3 σ3, f_X6_thrown σ2 = some (r3, σ3) ∧ K (c + 4) (1468, [.ref 200, .ref 0, .ref 6, .ref 178, .int (nI i), .int k1, .int b1], [.int r3], σ3)
  refine ⟨σ2 6 0, σ2, rfl, ?_⟩
  refine hw (c + 4) (by omega) 2 _ ?_
  show (((σ2 6 0) = k1) → K (c + 4) (1475, [.ref 200, .ref 0, .ref 6, .ref 178, .int (nI i), .int k1, .int b1], [], σ2)) ∧ (¬ ((σ2 6 0) = k1) → K (c + 4) (1473, [.ref 200, .ref 0, .ref 6, .ref 178, .int (nI i), .int k1, .int b1], [], σ2))
  refine ⟨fun _ => ?_, fun q => absurd e3 q⟩
  by_cases hk : k1 = 0
  · have hz : σ2 178 (ix 0) = b1 := e4 hk
    refine hw (c + 4) (by omega) 2 _ ?_
    show ((¬ k1 = 0) → K (c + 4) (1492, [.ref 200, .ref 0, .ref 6, .ref 178, .int (nI i), .int k1, .int b1], [], σ2)) ∧ (¬ (¬ k1 = 0) → K (c + 4) (1480, [.ref 200, .ref 0, .ref 6, .ref 178, .int (nI i), .int k1, .int b1], [], σ2))
    refine ⟨fun q => absurd hk q, fun _ => ?_⟩
    refine hw (c + 4) (by omega) 7 _ ?_
    show kd 178 = 4 ∧ (inb 0 1 = true ∧ ((((lg_cmp (σ2 178 (ix 0)).toInt64 b1.toInt64) = 0) → K (c + 4) (1492, [.ref 200, .ref 0, .ref 6, .ref 178, .int (nI i), .int k1, .int b1], [], σ2)) ∧ (¬ ((lg_cmp (σ2 178 (ix 0)).toInt64 b1.toInt64) = 0) → K (c + 4) (1490, [.ref 200, .ref 0, .ref 6, .ref 178, .int (nI i), .int k1, .int b1], [], σ2))))
    refine ⟨rfl, by decide, ⟨fun _ => ?_, fun q => absurd (by rw [hz]; exact lcmp_eq _) q⟩⟩
    refine hw (c + 4) (by omega) 1 _ ?_
    show K (c + 4) (2234, [.ref 200, .ref 0, .ref 6, .ref 178, .int (nI i), .int k1, .int b1], [], σ2)
    refine hf _ _ _ 5 _ _ ?_
    show K (c + 4) (2234, [.ref 200, .ref 0, .ref 6, .ref 178, .int (nI i), .null, .int b1], [], σ2)
    refine hf _ _ _ 6 _ _ ?_
    show K (c + 4) (2234, [.ref 200, .ref 0, .ref 6, .ref 178, .int (nI i), .null, .null], [], σ2)
    exact hback _ _ (by omega) hcp
  · refine hw (c + 4) (by omega) 2 _ ?_
    show ((¬ k1 = 0) → K (c + 4) (1492, [.ref 200, .ref 0, .ref 6, .ref 178, .int (nI i), .int k1, .int b1], [], σ2)) ∧ (¬ (¬ k1 = 0) → K (c + 4) (1480, [.ref 200, .ref 0, .ref 6, .ref 178, .int (nI i), .int k1, .int b1], [], σ2))
    refine ⟨fun _ => ?_, fun q => absurd hk q⟩
    refine hw (c + 4) (by omega) 1 _ ?_
    show K (c + 4) (2234, [.ref 200, .ref 0, .ref 6, .ref 178, .int (nI i), .int k1, .int b1], [], σ2)
    refine hf _ _ _ 5 _ _ ?_
    show K (c + 4) (2234, [.ref 200, .ref 0, .ref 6, .ref 178, .int (nI i), .null, .int b1], [], σ2)
    refine hf _ _ _ 6 _ _ ?_
    show K (c + 4) (2234, [.ref 200, .ref 0, .ref 6, .ref 178, .int (nI i), .null, .null], [], σ2)
    exact hback _ _ (by omega) hcp
def T_law21 (KN : Nat → aS → Prop) (N : Nat) (xs : Nat → Int32) : List aI := [I_aload 1 1, I_callV 0 0 F_X5_lamps, I_bot, I_bot, I_aload 2 1, I_callV 6 0 F_X6_lamps, I_bot, I_bot, I_icmp (fun x y => x = y) 2234, I_bot, I_bot, I_const 0 1, I_lret]
set_option maxHeartbeats 8000000 in
set_option maxRecDepth 100000 in
theorem r_law21 {p : Program} {l : Launch} {e : Env} {s : State} {m : MethodId} {below : List Frame} {meth : Method} {c : Code} {D : va_G} {cI cZ cA cL : ClassId} {ad sa : Nat → Nat} {b N : Nat} {xs : Nat → Int32} (Z : LCX p l e s m meth c b N xs D cI cZ cA cL ad sa) (cells slots : Nat) (hcell : cells + 20 ≤ 601024) (hslot : slots + 120 ≤ 7293034) :
    ruL (Ru p l e room_1 s m #[Value.ref b] below meth c cells slots (lw_Z below #[Value.ref b] s) 7 D cI cZ cA cL ad (AA ad s.heap.size) s.heap) 1495 (T_law21 (fun d => WS p l e room_1 s m #[Value.ref b] below meth c (cells + d) (slots + 6 * d) (lw_Z below #[Value.ref b] s) 7 D cI cZ cA cL ad (AA ad s.heap.size) s.heap) N xs) := by
  obtain ⟨hx, hb, hml, hown, hts, hr, hlocks, hK, hN, hX, hC, hXs, hbl, hbA, had, hi, hlt, hA9⟩ := Z
  refine ruL_c (n := 1495) (n2 := 1496) rfl (ru_aload_n (k := 1) hx hb dL_law_1495) ?_
  refine ruL_c (n := 1496) (n2 := 1497) rfl (ru_callV (own := RL) hx hb hml hown hts hK hN (by decide) rfl (c_X5_lamps l D cI cZ cA cL ad hi) (cwV 0 hts gL_law_X5_lamps rfl rfl rfl (by decide +kernel) ⟨Nat.le_of_ble_eq_true rfl, Nat.le_of_ble_eq_true rfl⟩) dL_law_1496 ⟨Nat.le_trans (Nat.le_add_right _ 20) hcell, Nat.le_trans (Nat.le_add_right _ 120) hslot⟩) ?_
  refine ruL_c (n := 1497) (n2 := 1498) rfl (ru_bot) ?_
  refine ruL_c (n := 1498) (n2 := 1499) rfl (ru_bot) ?_
  refine ruL_c (n := 1499) (n2 := 1500) rfl (ru_aload_n (k := 2) hx hb dL_law_1499) ?_
  refine ruL_c (n := 1500) (n2 := 1501) rfl (ru_callV (own := RL) hx hb hml hown hts hK hN (by decide) rfl (c_X6_lamps l D cI cZ cA cL ad hi) (cwV 0 hts gL_law_X6_lamps rfl rfl rfl (by decide +kernel) ⟨Nat.le_of_ble_eq_true rfl, Nat.le_of_ble_eq_true rfl⟩) dL_law_1500 ⟨Nat.le_trans (Nat.le_add_right _ 20) hcell, Nat.le_trans (Nat.le_add_right _ 120) hslot⟩) ?_
  refine ruL_c (n := 1501) (n2 := 1502) rfl (ru_bot) ?_
  refine ruL_c (n := 1502) (n2 := 1503) rfl (ru_bot) ?_
  refine ruL_c (n := 1503) (n2 := 1504) rfl (ru_icmpeq hx hb dL_law_1503 (by decide)) ?_
  refine ruL_c (n := 1504) (n2 := 1505) rfl (ru_bot) ?_
  refine ruL_c (n := 1505) (n2 := 1506) rfl (ru_bot) ?_
  refine ruL_c (n := 1506) (n2 := 1507) rfl (ru_iconst hx hb dL_law_1506 rfl) ?_
  refine ruL_c (n := 1507) (n2 := 1508) rfl (ru_lret hx hb hr hlocks hA9 dL_law_1507 hcell hslot) ?_
  exact trivial
set_option maxHeartbeats 8000000 in
set_option maxRecDepth 100000 in
theorem k_law21 {CP : aM → Prop} {N : Nat} {xs : Nat → Int32} {K : Nat → aS → Prop} (hw : ∀ c, c ≤ 8000 → ∀ n x, wpB 1495 (T_law21 (fun d => K (c + d)) N xs) n (K c) x → K c x) (hf : ∀ c pc L i st σ, K c (pc, L.set i .null, st, σ) → K c (pc, L, st, σ)) (ag : agD CP f_X5_lamps f_X6_lamps) (c i : Nat) (hc : c ≤ 7900) (g1 : inb (nI i + 1) N = true) (g2 : inb (nI i + 2) N = true) (g3 : inb (nI i + 3) N = true) (g4 : inb (nI i + 4) N = true) (σ : aM) (hCP : CP σ)
    (hback : ∀ c2 σ2, c2 ≤ c + 12 → CP σ2 → K c2 (2234, [.ref 200, .ref 0, .ref 6, .ref 178, .int (nI i), .null, .null], [], σ2)) : K c (1495, [.ref 200, .ref 0, .ref 6, .ref 178, .int (nI i), .null, .null], [], σ) := by
  obtain ⟨k1, σ1, σ2, e1, e2, hcp⟩ := ag σ hCP
  refine hw c (by omega) 2 _ ?_
  show ∃ k1 σ1, f_X5_lamps σ = some (k1, σ1) ∧ K c (1499, [.ref 200, .ref 0, .ref 6, .ref 178, .int (nI i), .null, .null], [.int k1], σ1)
  refine ⟨k1, σ1, e1, ?_⟩
  refine hw c (by omega) 2 _ ?_
  show ∃ b1 σ2, f_X6_lamps σ1 = some (b1, σ2) ∧ K c (1503, [.ref 200, .ref 0, .ref 6, .ref 178, .int (nI i), .null, .null], [.int b1, .int k1], σ2)
  refine ⟨k1, σ2, e2, ?_⟩
  refine hw c (by omega) 1 _ ?_
  show ((k1 = k1) → K c (2234, [.ref 200, .ref 0, .ref 6, .ref 178, .int (nI i), .null, .null], [], σ2)) ∧ (¬ (k1 = k1) → K c (1506, [.ref 200, .ref 0, .ref 6, .ref 178, .int (nI i), .null, .null], [], σ2))
  refine ⟨fun _ => ?_, fun q => absurd rfl q⟩
  exact hback _ _ (by omega) hcp
def T_law22 (KN : Nat → aS → Prop) (N : Nat) (xs : Nat → Int32) : List aI := [I_aload 1 1, I_aload 0 1, I_iload 4 2, I_bot, I_const 1 1, I_bin fun x y => x + y, I_sld N xs, I_aload 3 1, I_callW 3 F_L_whereIs (KN 4), I_bot, I_bot, I_istore 5 2, I_bot, I_aload 2 1, I_aload 0 1, I_iload 4 2, I_bot, I_const 1 1, I_bin fun x y => x + y, I_sld N xs, I_callV 6 1 F_X6_whereIs, I_bot, I_bot, I_istore 6 2, I_bot, I_aload 2 1, I_callV 6 0 F_X6_thrown, I_bot, I_bot, I_iload 5 2, I_bot, I_icmp (fun x y => x = y) 1544, I_bot, I_bot, I_const 0 1, I_lret, I_iload 5 2, I_bot, I_if (fun x => ¬ x = 0) 1561, I_bot, I_bot, I_aload 3 1, I_const 0 1, I_lald, I_iload 6 2, I_bot, I_i2l, I_lcmp, I_if (fun x => x = 0) 1561, I_bot, I_bot, I_const 0 1, I_lret, I_goto 2234, I_bot, I_bot]
set_option maxHeartbeats 8000000 in
set_option maxRecDepth 100000 in
theorem r_law22 {p : Program} {l : Launch} {e : Env} {s : State} {m : MethodId} {below : List Frame} {meth : Method} {c : Code} {D : va_G} {cI cZ cA cL : ClassId} {ad sa : Nat → Nat} {b N : Nat} {xs : Nat → Int32} (Z : LCX p l e s m meth c b N xs D cI cZ cA cL ad sa) (cells slots : Nat) (hcell : cells + 20 ≤ 601024) (hslot : slots + 120 ≤ 7293034) :
    ruL (Ru p l e room_1 s m #[Value.ref b] below meth c cells slots (lw_Z below #[Value.ref b] s) 7 D cI cZ cA cL ad (AA ad s.heap.size) s.heap) 1508 (T_law22 (fun d => WS p l e room_1 s m #[Value.ref b] below meth c (cells + d) (slots + 6 * d) (lw_Z below #[Value.ref b] s) 7 D cI cZ cA cL ad (AA ad s.heap.size) s.heap) N xs) := by
  obtain ⟨hx, hb, hml, hown, hts, hr, hlocks, hK, hN, hX, hC, hXs, hbl, hbA, had, hi, hlt, hA9⟩ := Z
  refine ruL_c (n := 1508) (n2 := 1509) rfl (ru_aload_n (k := 1) hx hb dL_law_1508) ?_
  refine ruL_c (n := 1509) (n2 := 1510) rfl (ru_aload_n (k := 0) hx hb dL_law_1509) ?_
  refine ruL_c (n := 1510) (n2 := 1511) rfl (ru_iload hx hb dL_law_1510) ?_
  refine ruL_c (n := 1511) (n2 := 1512) rfl (ru_bot) ?_
  refine ruL_c (n := 1512) (n2 := 1513) rfl (ru_iconst hx hb dL_law_1512 rfl) ?_
  refine ruL_c (n := 1513) (n2 := 1514) rfl (ru_iadd hx hb dL_law_1513) ?_
  refine ruL_c (n := 1514) (n2 := 1515) rfl (ru_sld hx hb hXs hbl hbA had dL_law_1514) ?_
  refine ruL_c (n := 1515) (n2 := 1516) rfl (ru_aload_n (k := 3) hx hb dL_law_1515) ?_
  refine ruL_c (n := 1516) (n2 := 1517) rfl (ru_callW (own := RL) hx hb hml hown hts hK hN hX hC (c_L_whereIs l hlt D cI cZ cA cL ad sa hi) (vx_cwSW 3 hts gL_law_L_whereIs rfl rfl rfl (by decide +kernel) ⟨Nat.le_of_ble_eq_true rfl, Nat.le_of_ble_eq_true rfl⟩) dL_law_1516 ⟨Nat.le_trans (Nat.add_le_add_left (by decide) _) hcell, Nat.le_trans (Nat.add_le_add_left (by decide) _) hslot⟩) ?_
  refine ruL_c (n := 1517) (n2 := 1518) rfl (ru_bot) ?_
  refine ruL_c (n := 1518) (n2 := 1519) rfl (ru_bot) ?_
  refine ruL_c (n := 1519) (n2 := 1520) rfl (ru_istore hx hb dL_law_1519) ?_
  refine ruL_c (n := 1520) (n2 := 1521) rfl (ru_bot) ?_
  refine ruL_c (n := 1521) (n2 := 1522) rfl (ru_aload_n (k := 2) hx hb dL_law_1521) ?_
  refine ruL_c (n := 1522) (n2 := 1523) rfl (ru_aload_n (k := 0) hx hb dL_law_1522) ?_
  refine ruL_c (n := 1523) (n2 := 1524) rfl (ru_iload hx hb dL_law_1523) ?_
  refine ruL_c (n := 1524) (n2 := 1525) rfl (ru_bot) ?_
  refine ruL_c (n := 1525) (n2 := 1526) rfl (ru_iconst hx hb dL_law_1525 rfl) ?_
  refine ruL_c (n := 1526) (n2 := 1527) rfl (ru_iadd hx hb dL_law_1526) ?_
  refine ruL_c (n := 1527) (n2 := 1528) rfl (ru_sld hx hb hXs hbl hbA had dL_law_1527) ?_
  refine ruL_c (n := 1528) (n2 := 1529) rfl (ru_callV (own := RL) hx hb hml hown hts hK hN (by decide) rfl (c_X6_whereIs l D cI cZ cA cL ad hi) (cwV 1 hts gL_law_X6_whereIs rfl rfl rfl (by decide +kernel) ⟨Nat.le_of_ble_eq_true rfl, Nat.le_of_ble_eq_true rfl⟩) dL_law_1528 ⟨Nat.le_trans (Nat.le_add_right _ 20) hcell, Nat.le_trans (Nat.le_add_right _ 120) hslot⟩) ?_
  refine ruL_c (n := 1529) (n2 := 1530) rfl (ru_bot) ?_
  refine ruL_c (n := 1530) (n2 := 1531) rfl (ru_bot) ?_
  refine ruL_c (n := 1531) (n2 := 1532) rfl (ru_istore hx hb dL_law_1531) ?_
  refine ruL_c (n := 1532) (n2 := 1533) rfl (ru_bot) ?_
  refine ruL_c (n := 1533) (n2 := 1534) rfl (ru_aload_n (k := 2) hx hb dL_law_1533) ?_
  refine ruL_c (n := 1534) (n2 := 1535) rfl (ru_callV (own := RL) hx hb hml hown hts hK hN (by decide) rfl (c_X6_thrown l D cI cZ cA cL ad hi) (cwV 0 hts gL_law_X6_thrown rfl rfl rfl (by decide +kernel) ⟨Nat.le_of_ble_eq_true rfl, Nat.le_of_ble_eq_true rfl⟩) dL_law_1534 ⟨Nat.le_trans (Nat.le_add_right _ 20) hcell, Nat.le_trans (Nat.le_add_right _ 120) hslot⟩) ?_
  refine ruL_c (n := 1535) (n2 := 1536) rfl (ru_bot) ?_
  refine ruL_c (n := 1536) (n2 := 1537) rfl (ru_bot) ?_
  refine ruL_c (n := 1537) (n2 := 1538) rfl (ru_iload hx hb dL_law_1537) ?_
  refine ruL_c (n := 1538) (n2 := 1539) rfl (ru_bot) ?_
  refine ruL_c (n := 1539) (n2 := 1540) rfl (ru_icmpeq hx hb dL_law_1539 (by decide)) ?_
  refine ruL_c (n := 1540) (n2 := 1541) rfl (ru_bot) ?_
  refine ruL_c (n := 1541) (n2 := 1542) rfl (ru_bot) ?_
  refine ruL_c (n := 1542) (n2 := 1543) rfl (ru_iconst hx hb dL_law_1542 rfl) ?_
  refine ruL_c (n := 1543) (n2 := 1544) rfl (ru_lret hx hb hr hlocks hA9 dL_law_1543 hcell hslot) ?_
  refine ruL_c (n := 1544) (n2 := 1545) rfl (ru_iload hx hb dL_law_1544) ?_
  refine ruL_c (n := 1545) (n2 := 1546) rfl (ru_bot) ?_
  refine ruL_c (n := 1546) (n2 := 1547) rfl (ru_ifne hx hb dL_law_1546 (by decide)) ?_
  refine ruL_c (n := 1547) (n2 := 1548) rfl (ru_bot) ?_
  refine ruL_c (n := 1548) (n2 := 1549) rfl (ru_bot) ?_
  refine ruL_c (n := 1549) (n2 := 1550) rfl (ru_aload_n (k := 3) hx hb dL_law_1549) ?_
  refine ruL_c (n := 1550) (n2 := 1551) rfl (ru_iconst hx hb dL_law_1550 rfl) ?_
  refine ruL_c (n := 1551) (n2 := 1552) rfl (ru_lald hx hb hK dL_law_1551) ?_
  refine ruL_c (n := 1552) (n2 := 1553) rfl (ru_iload hx hb dL_law_1552) ?_
  refine ruL_c (n := 1553) (n2 := 1554) rfl (ru_bot) ?_
  refine ruL_c (n := 1554) (n2 := 1555) rfl (ru_i2l hx hb dL_law_1554) ?_
  refine ruL_c (n := 1555) (n2 := 1556) rfl (ru_lcmp hx hb dL_law_1555) ?_
  refine ruL_c (n := 1556) (n2 := 1557) rfl (ru_ifeq hx hb dL_law_1556 (by decide)) ?_
  refine ruL_c (n := 1557) (n2 := 1558) rfl (ru_bot) ?_
  refine ruL_c (n := 1558) (n2 := 1559) rfl (ru_bot) ?_
  refine ruL_c (n := 1559) (n2 := 1560) rfl (ru_iconst hx hb dL_law_1559 rfl) ?_
  refine ruL_c (n := 1560) (n2 := 1561) rfl (ru_lret hx hb hr hlocks hA9 dL_law_1560 hcell hslot) ?_
  refine ruL_c (n := 1561) (n2 := 1562) rfl (ru_goto hx hb dL_law_1561 (by decide)) ?_
  refine ruL_c (n := 1562) (n2 := 1563) rfl (ru_bot) ?_
  refine ruL_c (n := 1563) (n2 := 1564) rfl (ru_bot) ?_
  exact trivial
set_option maxHeartbeats 8000000 in
set_option maxRecDepth 100000 in
theorem k_law22 {CP : aM → Prop} {N : Nat} {xs : Nat → Int32} {K : Nat → aS → Prop} (hw : ∀ c, c ≤ 8000 → ∀ n x, wpB 1508 (T_law22 (fun d => K (c + d)) N xs) n (K c) x → K c x) (hf : ∀ c pc L i st σ, K c (pc, L.set i .null, st, σ) → K c (pc, L, st, σ)) (ag : ∀ p0 : Int32, agW CP (f_L_whereIs p0) (f_X6_whereIs p0)) (c i : Nat) (hc : c ≤ 7900) (g1 : inb (nI i + 1) N = true) (g2 : inb (nI i + 2) N = true) (g3 : inb (nI i + 3) N = true) (g4 : inb (nI i + 4) N = true) (σ : aM) (hCP : CP σ)
    (hback : ∀ c2 σ2, c2 ≤ c + 12 → CP σ2 → K c2 (2234, [.ref 200, .ref 0, .ref 6, .ref 178, .int (nI i), .null, .null], [], σ2)) : K c (1508, [.ref 200, .ref 0, .ref 6, .ref 178, .int (nI i), .null, .null], [], σ) := by
  obtain ⟨k1, σ1, b1, σ2, e1, e2, e3, e4, hcp⟩ := ag (xs (ix (nI i + 1))) σ hCP
  refine hw c (by omega) 8 _ ?_
  show inb (nI i + 1) N = true ∧ (∃ k1 σ1, f_L_whereIs (xs (ix (nI i + 1))) σ = some (k1, σ1) ∧ K (c + 4) (1519, [.ref 200, .ref 0, .ref 6, .ref 178, .int (nI i), .null, .null], [.int k1], σ1))
  refine ⟨g1, ⟨k1, σ1, e1, ?_⟩⟩
  refine hw (c + 4) (by omega) 8 _ ?_
  show inb (nI i + 1) N = true ∧ (∃ b1 σ2, f_X6_whereIs (xs (ix (nI i + 1))) σ1 = some (b1, σ2) ∧ K (c + 4) (1531, [.ref 200, .ref 0, .ref 6, .ref 178, .int (nI i), .int k1, .null], [.int b1], σ2))
  refine ⟨g1, ⟨b1, σ2, e2, ?_⟩⟩
  refine hw (c + 4) (by omega) 3 _ ?_
  show ∃ r3 σ3, f_X6_thrown σ2 = some (r3, σ3) ∧ K (c + 4) (1537, [.ref 200, .ref 0, .ref 6, .ref 178, .int (nI i), .int k1, .int b1], [.int r3], σ3)
  refine ⟨σ2 6 0, σ2, rfl, ?_⟩
  refine hw (c + 4) (by omega) 2 _ ?_
  show (((σ2 6 0) = k1) → K (c + 4) (1544, [.ref 200, .ref 0, .ref 6, .ref 178, .int (nI i), .int k1, .int b1], [], σ2)) ∧ (¬ ((σ2 6 0) = k1) → K (c + 4) (1542, [.ref 200, .ref 0, .ref 6, .ref 178, .int (nI i), .int k1, .int b1], [], σ2))
  refine ⟨fun _ => ?_, fun q => absurd e3 q⟩
  by_cases hk : k1 = 0
  · have hz : σ2 178 (ix 0) = b1 := e4 hk
    refine hw (c + 4) (by omega) 2 _ ?_
    show ((¬ k1 = 0) → K (c + 4) (1561, [.ref 200, .ref 0, .ref 6, .ref 178, .int (nI i), .int k1, .int b1], [], σ2)) ∧ (¬ (¬ k1 = 0) → K (c + 4) (1549, [.ref 200, .ref 0, .ref 6, .ref 178, .int (nI i), .int k1, .int b1], [], σ2))
    refine ⟨fun q => absurd hk q, fun _ => ?_⟩
    refine hw (c + 4) (by omega) 7 _ ?_
    show kd 178 = 4 ∧ (inb 0 1 = true ∧ ((((lg_cmp (σ2 178 (ix 0)).toInt64 b1.toInt64) = 0) → K (c + 4) (1561, [.ref 200, .ref 0, .ref 6, .ref 178, .int (nI i), .int k1, .int b1], [], σ2)) ∧ (¬ ((lg_cmp (σ2 178 (ix 0)).toInt64 b1.toInt64) = 0) → K (c + 4) (1559, [.ref 200, .ref 0, .ref 6, .ref 178, .int (nI i), .int k1, .int b1], [], σ2))))
    refine ⟨rfl, by decide, ⟨fun _ => ?_, fun q => absurd (by rw [hz]; exact lcmp_eq _) q⟩⟩
    refine hw (c + 4) (by omega) 1 _ ?_
    show K (c + 4) (2234, [.ref 200, .ref 0, .ref 6, .ref 178, .int (nI i), .int k1, .int b1], [], σ2)
    refine hf _ _ _ 5 _ _ ?_
    show K (c + 4) (2234, [.ref 200, .ref 0, .ref 6, .ref 178, .int (nI i), .null, .int b1], [], σ2)
    refine hf _ _ _ 6 _ _ ?_
    show K (c + 4) (2234, [.ref 200, .ref 0, .ref 6, .ref 178, .int (nI i), .null, .null], [], σ2)
    exact hback _ _ (by omega) hcp
  · refine hw (c + 4) (by omega) 2 _ ?_
    show ((¬ k1 = 0) → K (c + 4) (1561, [.ref 200, .ref 0, .ref 6, .ref 178, .int (nI i), .int k1, .int b1], [], σ2)) ∧ (¬ (¬ k1 = 0) → K (c + 4) (1549, [.ref 200, .ref 0, .ref 6, .ref 178, .int (nI i), .int k1, .int b1], [], σ2))
    refine ⟨fun _ => ?_, fun q => absurd hk q⟩
    refine hw (c + 4) (by omega) 1 _ ?_
    show K (c + 4) (2234, [.ref 200, .ref 0, .ref 6, .ref 178, .int (nI i), .int k1, .int b1], [], σ2)
    refine hf _ _ _ 5 _ _ ?_
    show K (c + 4) (2234, [.ref 200, .ref 0, .ref 6, .ref 178, .int (nI i), .null, .int b1], [], σ2)
    refine hf _ _ _ 6 _ _ ?_
    show K (c + 4) (2234, [.ref 200, .ref 0, .ref 6, .ref 178, .int (nI i), .null, .null], [], σ2)
    exact hback _ _ (by omega) hcp
def T_law23 (KN : Nat → aS → Prop) (N : Nat) (xs : Nat → Int32) : List aI := [I_aload 1 1, I_aload 0 1, I_iload 4 2, I_bot, I_const 1 1, I_bin fun x y => x + y, I_sld N xs, I_aload 3 1, I_callW 3 F_L_wear (KN 4), I_bot, I_bot, I_istore 5 2, I_bot, I_aload 2 1, I_aload 0 1, I_iload 4 2, I_bot, I_const 1 1, I_bin fun x y => x + y, I_sld N xs, I_callV 6 1 F_X6_wear, I_bot, I_bot, I_istore 6 2, I_bot, I_aload 2 1, I_callV 6 0 F_X6_thrown, I_bot, I_bot, I_iload 5 2, I_bot, I_icmp (fun x y => x = y) 1600, I_bot, I_bot, I_const 0 1, I_lret, I_iload 5 2, I_bot, I_if (fun x => ¬ x = 0) 1617, I_bot, I_bot, I_aload 3 1, I_const 0 1, I_lald, I_iload 6 2, I_bot, I_i2l, I_lcmp, I_if (fun x => x = 0) 1617, I_bot, I_bot, I_const 0 1, I_lret, I_goto 2234, I_bot, I_bot]
set_option maxHeartbeats 8000000 in
set_option maxRecDepth 100000 in
theorem r_law23 {p : Program} {l : Launch} {e : Env} {s : State} {m : MethodId} {below : List Frame} {meth : Method} {c : Code} {D : va_G} {cI cZ cA cL : ClassId} {ad sa : Nat → Nat} {b N : Nat} {xs : Nat → Int32} (Z : LCX p l e s m meth c b N xs D cI cZ cA cL ad sa) (cells slots : Nat) (hcell : cells + 20 ≤ 601024) (hslot : slots + 120 ≤ 7293034) :
    ruL (Ru p l e room_1 s m #[Value.ref b] below meth c cells slots (lw_Z below #[Value.ref b] s) 7 D cI cZ cA cL ad (AA ad s.heap.size) s.heap) 1564 (T_law23 (fun d => WS p l e room_1 s m #[Value.ref b] below meth c (cells + d) (slots + 6 * d) (lw_Z below #[Value.ref b] s) 7 D cI cZ cA cL ad (AA ad s.heap.size) s.heap) N xs) := by
  obtain ⟨hx, hb, hml, hown, hts, hr, hlocks, hK, hN, hX, hC, hXs, hbl, hbA, had, hi, hlt, hA9⟩ := Z
  refine ruL_c (n := 1564) (n2 := 1565) rfl (ru_aload_n (k := 1) hx hb dL_law_1564) ?_
  refine ruL_c (n := 1565) (n2 := 1566) rfl (ru_aload_n (k := 0) hx hb dL_law_1565) ?_
  refine ruL_c (n := 1566) (n2 := 1567) rfl (ru_iload hx hb dL_law_1566) ?_
  refine ruL_c (n := 1567) (n2 := 1568) rfl (ru_bot) ?_
  refine ruL_c (n := 1568) (n2 := 1569) rfl (ru_iconst hx hb dL_law_1568 rfl) ?_
  refine ruL_c (n := 1569) (n2 := 1570) rfl (ru_iadd hx hb dL_law_1569) ?_
  refine ruL_c (n := 1570) (n2 := 1571) rfl (ru_sld hx hb hXs hbl hbA had dL_law_1570) ?_
  refine ruL_c (n := 1571) (n2 := 1572) rfl (ru_aload_n (k := 3) hx hb dL_law_1571) ?_
  refine ruL_c (n := 1572) (n2 := 1573) rfl (ru_callW (own := RL) hx hb hml hown hts hK hN hX hC (c_L_wear l hlt D cI cZ cA cL ad sa hi) (vx_cwSW 3 hts gL_law_L_wear rfl rfl rfl (by decide +kernel) ⟨Nat.le_of_ble_eq_true rfl, Nat.le_of_ble_eq_true rfl⟩) dL_law_1572 ⟨Nat.le_trans (Nat.add_le_add_left (by decide) _) hcell, Nat.le_trans (Nat.add_le_add_left (by decide) _) hslot⟩) ?_
  refine ruL_c (n := 1573) (n2 := 1574) rfl (ru_bot) ?_
  refine ruL_c (n := 1574) (n2 := 1575) rfl (ru_bot) ?_
  refine ruL_c (n := 1575) (n2 := 1576) rfl (ru_istore hx hb dL_law_1575) ?_
  refine ruL_c (n := 1576) (n2 := 1577) rfl (ru_bot) ?_
  refine ruL_c (n := 1577) (n2 := 1578) rfl (ru_aload_n (k := 2) hx hb dL_law_1577) ?_
  refine ruL_c (n := 1578) (n2 := 1579) rfl (ru_aload_n (k := 0) hx hb dL_law_1578) ?_
  refine ruL_c (n := 1579) (n2 := 1580) rfl (ru_iload hx hb dL_law_1579) ?_
  refine ruL_c (n := 1580) (n2 := 1581) rfl (ru_bot) ?_
  refine ruL_c (n := 1581) (n2 := 1582) rfl (ru_iconst hx hb dL_law_1581 rfl) ?_
  refine ruL_c (n := 1582) (n2 := 1583) rfl (ru_iadd hx hb dL_law_1582) ?_
  refine ruL_c (n := 1583) (n2 := 1584) rfl (ru_sld hx hb hXs hbl hbA had dL_law_1583) ?_
  refine ruL_c (n := 1584) (n2 := 1585) rfl (ru_callV (own := RL) hx hb hml hown hts hK hN (by decide) rfl (c_X6_wear l D cI cZ cA cL ad hi) (cwV 1 hts gL_law_X6_wear rfl rfl rfl (by decide +kernel) ⟨Nat.le_of_ble_eq_true rfl, Nat.le_of_ble_eq_true rfl⟩) dL_law_1584 ⟨Nat.le_trans (Nat.le_add_right _ 20) hcell, Nat.le_trans (Nat.le_add_right _ 120) hslot⟩) ?_
  refine ruL_c (n := 1585) (n2 := 1586) rfl (ru_bot) ?_
  refine ruL_c (n := 1586) (n2 := 1587) rfl (ru_bot) ?_
  refine ruL_c (n := 1587) (n2 := 1588) rfl (ru_istore hx hb dL_law_1587) ?_
  refine ruL_c (n := 1588) (n2 := 1589) rfl (ru_bot) ?_
  refine ruL_c (n := 1589) (n2 := 1590) rfl (ru_aload_n (k := 2) hx hb dL_law_1589) ?_
  refine ruL_c (n := 1590) (n2 := 1591) rfl (ru_callV (own := RL) hx hb hml hown hts hK hN (by decide) rfl (c_X6_thrown l D cI cZ cA cL ad hi) (cwV 0 hts gL_law_X6_thrown rfl rfl rfl (by decide +kernel) ⟨Nat.le_of_ble_eq_true rfl, Nat.le_of_ble_eq_true rfl⟩) dL_law_1590 ⟨Nat.le_trans (Nat.le_add_right _ 20) hcell, Nat.le_trans (Nat.le_add_right _ 120) hslot⟩) ?_
  refine ruL_c (n := 1591) (n2 := 1592) rfl (ru_bot) ?_
  refine ruL_c (n := 1592) (n2 := 1593) rfl (ru_bot) ?_
  refine ruL_c (n := 1593) (n2 := 1594) rfl (ru_iload hx hb dL_law_1593) ?_
  refine ruL_c (n := 1594) (n2 := 1595) rfl (ru_bot) ?_
  refine ruL_c (n := 1595) (n2 := 1596) rfl (ru_icmpeq hx hb dL_law_1595 (by decide)) ?_
  refine ruL_c (n := 1596) (n2 := 1597) rfl (ru_bot) ?_
  refine ruL_c (n := 1597) (n2 := 1598) rfl (ru_bot) ?_
  refine ruL_c (n := 1598) (n2 := 1599) rfl (ru_iconst hx hb dL_law_1598 rfl) ?_
  refine ruL_c (n := 1599) (n2 := 1600) rfl (ru_lret hx hb hr hlocks hA9 dL_law_1599 hcell hslot) ?_
  refine ruL_c (n := 1600) (n2 := 1601) rfl (ru_iload hx hb dL_law_1600) ?_
  refine ruL_c (n := 1601) (n2 := 1602) rfl (ru_bot) ?_
  refine ruL_c (n := 1602) (n2 := 1603) rfl (ru_ifne hx hb dL_law_1602 (by decide)) ?_
  refine ruL_c (n := 1603) (n2 := 1604) rfl (ru_bot) ?_
  refine ruL_c (n := 1604) (n2 := 1605) rfl (ru_bot) ?_
  refine ruL_c (n := 1605) (n2 := 1606) rfl (ru_aload_n (k := 3) hx hb dL_law_1605) ?_
  refine ruL_c (n := 1606) (n2 := 1607) rfl (ru_iconst hx hb dL_law_1606 rfl) ?_
  refine ruL_c (n := 1607) (n2 := 1608) rfl (ru_lald hx hb hK dL_law_1607) ?_
  refine ruL_c (n := 1608) (n2 := 1609) rfl (ru_iload hx hb dL_law_1608) ?_
  refine ruL_c (n := 1609) (n2 := 1610) rfl (ru_bot) ?_
  refine ruL_c (n := 1610) (n2 := 1611) rfl (ru_i2l hx hb dL_law_1610) ?_
  refine ruL_c (n := 1611) (n2 := 1612) rfl (ru_lcmp hx hb dL_law_1611) ?_
  refine ruL_c (n := 1612) (n2 := 1613) rfl (ru_ifeq hx hb dL_law_1612 (by decide)) ?_
  refine ruL_c (n := 1613) (n2 := 1614) rfl (ru_bot) ?_
  refine ruL_c (n := 1614) (n2 := 1615) rfl (ru_bot) ?_
  refine ruL_c (n := 1615) (n2 := 1616) rfl (ru_iconst hx hb dL_law_1615 rfl) ?_
  refine ruL_c (n := 1616) (n2 := 1617) rfl (ru_lret hx hb hr hlocks hA9 dL_law_1616 hcell hslot) ?_
  refine ruL_c (n := 1617) (n2 := 1618) rfl (ru_goto hx hb dL_law_1617 (by decide)) ?_
  refine ruL_c (n := 1618) (n2 := 1619) rfl (ru_bot) ?_
  refine ruL_c (n := 1619) (n2 := 1620) rfl (ru_bot) ?_
  exact trivial
set_option maxHeartbeats 8000000 in
set_option maxRecDepth 100000 in
theorem k_law23 {CP : aM → Prop} {N : Nat} {xs : Nat → Int32} {K : Nat → aS → Prop} (hw : ∀ c, c ≤ 8000 → ∀ n x, wpB 1564 (T_law23 (fun d => K (c + d)) N xs) n (K c) x → K c x) (hf : ∀ c pc L i st σ, K c (pc, L.set i .null, st, σ) → K c (pc, L, st, σ)) (ag : ∀ p0 : Int32, agW CP (f_L_wear p0) (f_X6_wear p0)) (c i : Nat) (hc : c ≤ 7900) (g1 : inb (nI i + 1) N = true) (g2 : inb (nI i + 2) N = true) (g3 : inb (nI i + 3) N = true) (g4 : inb (nI i + 4) N = true) (σ : aM) (hCP : CP σ)
    (hback : ∀ c2 σ2, c2 ≤ c + 12 → CP σ2 → K c2 (2234, [.ref 200, .ref 0, .ref 6, .ref 178, .int (nI i), .null, .null], [], σ2)) : K c (1564, [.ref 200, .ref 0, .ref 6, .ref 178, .int (nI i), .null, .null], [], σ) := by
  obtain ⟨k1, σ1, b1, σ2, e1, e2, e3, e4, hcp⟩ := ag (xs (ix (nI i + 1))) σ hCP
  refine hw c (by omega) 8 _ ?_
  show inb (nI i + 1) N = true ∧ (∃ k1 σ1, f_L_wear (xs (ix (nI i + 1))) σ = some (k1, σ1) ∧ K (c + 4) (1575, [.ref 200, .ref 0, .ref 6, .ref 178, .int (nI i), .null, .null], [.int k1], σ1))
  refine ⟨g1, ⟨k1, σ1, e1, ?_⟩⟩
  refine hw (c + 4) (by omega) 8 _ ?_
  show inb (nI i + 1) N = true ∧ (∃ b1 σ2, f_X6_wear (xs (ix (nI i + 1))) σ1 = some (b1, σ2) ∧ K (c + 4) (1587, [.ref 200, .ref 0, .ref 6, .ref 178, .int (nI i), .int k1, .null], [.int b1], σ2))
  refine ⟨g1, ⟨b1, σ2, e2, ?_⟩⟩
  refine hw (c + 4) (by omega) 3 _ ?_
  show ∃ r3 σ3, f_X6_thrown σ2 = some (r3, σ3) ∧ K (c + 4) (1593, [.ref 200, .ref 0, .ref 6, .ref 178, .int (nI i), .int k1, .int b1], [.int r3], σ3)
  refine ⟨σ2 6 0, σ2, rfl, ?_⟩
  refine hw (c + 4) (by omega) 2 _ ?_
  show (((σ2 6 0) = k1) → K (c + 4) (1600, [.ref 200, .ref 0, .ref 6, .ref 178, .int (nI i), .int k1, .int b1], [], σ2)) ∧ (¬ ((σ2 6 0) = k1) → K (c + 4) (1598, [.ref 200, .ref 0, .ref 6, .ref 178, .int (nI i), .int k1, .int b1], [], σ2))
  refine ⟨fun _ => ?_, fun q => absurd e3 q⟩
  by_cases hk : k1 = 0
  · have hz : σ2 178 (ix 0) = b1 := e4 hk
    refine hw (c + 4) (by omega) 2 _ ?_
    show ((¬ k1 = 0) → K (c + 4) (1617, [.ref 200, .ref 0, .ref 6, .ref 178, .int (nI i), .int k1, .int b1], [], σ2)) ∧ (¬ (¬ k1 = 0) → K (c + 4) (1605, [.ref 200, .ref 0, .ref 6, .ref 178, .int (nI i), .int k1, .int b1], [], σ2))
    refine ⟨fun q => absurd hk q, fun _ => ?_⟩
    refine hw (c + 4) (by omega) 7 _ ?_
    show kd 178 = 4 ∧ (inb 0 1 = true ∧ ((((lg_cmp (σ2 178 (ix 0)).toInt64 b1.toInt64) = 0) → K (c + 4) (1617, [.ref 200, .ref 0, .ref 6, .ref 178, .int (nI i), .int k1, .int b1], [], σ2)) ∧ (¬ ((lg_cmp (σ2 178 (ix 0)).toInt64 b1.toInt64) = 0) → K (c + 4) (1615, [.ref 200, .ref 0, .ref 6, .ref 178, .int (nI i), .int k1, .int b1], [], σ2))))
    refine ⟨rfl, by decide, ⟨fun _ => ?_, fun q => absurd (by rw [hz]; exact lcmp_eq _) q⟩⟩
    refine hw (c + 4) (by omega) 1 _ ?_
    show K (c + 4) (2234, [.ref 200, .ref 0, .ref 6, .ref 178, .int (nI i), .int k1, .int b1], [], σ2)
    refine hf _ _ _ 5 _ _ ?_
    show K (c + 4) (2234, [.ref 200, .ref 0, .ref 6, .ref 178, .int (nI i), .null, .int b1], [], σ2)
    refine hf _ _ _ 6 _ _ ?_
    show K (c + 4) (2234, [.ref 200, .ref 0, .ref 6, .ref 178, .int (nI i), .null, .null], [], σ2)
    exact hback _ _ (by omega) hcp
  · refine hw (c + 4) (by omega) 2 _ ?_
    show ((¬ k1 = 0) → K (c + 4) (1617, [.ref 200, .ref 0, .ref 6, .ref 178, .int (nI i), .int k1, .int b1], [], σ2)) ∧ (¬ (¬ k1 = 0) → K (c + 4) (1605, [.ref 200, .ref 0, .ref 6, .ref 178, .int (nI i), .int k1, .int b1], [], σ2))
    refine ⟨fun _ => ?_, fun q => absurd hk q⟩
    refine hw (c + 4) (by omega) 1 _ ?_
    show K (c + 4) (2234, [.ref 200, .ref 0, .ref 6, .ref 178, .int (nI i), .int k1, .int b1], [], σ2)
    refine hf _ _ _ 5 _ _ ?_
    show K (c + 4) (2234, [.ref 200, .ref 0, .ref 6, .ref 178, .int (nI i), .null, .int b1], [], σ2)
    refine hf _ _ _ 6 _ _ ?_
    show K (c + 4) (2234, [.ref 200, .ref 0, .ref 6, .ref 178, .int (nI i), .null, .null], [], σ2)
    exact hback _ _ (by omega) hcp
def T_law24 (KN : Nat → aS → Prop) (N : Nat) (xs : Nat → Int32) : List aI := [I_aload 1 1, I_aload 0 1, I_iload 4 2, I_bot, I_const 1 1, I_bin fun x y => x + y, I_sld N xs, I_aload 0 1, I_iload 4 2, I_bot, I_const 2 1, I_bin fun x y => x + y, I_sld N xs, I_aload 3 1, I_callW 4 F_L_laidOn (KN 6), I_bot, I_bot, I_istore 5 2, I_bot, I_aload 2 1, I_aload 0 1, I_iload 4 2, I_bot, I_const 1 1, I_bin fun x y => x + y, I_sld N xs, I_aload 0 1, I_iload 4 2, I_bot, I_const 2 1, I_bin fun x y => x + y, I_sld N xs, I_callV 6 2 F_X6_laidOn, I_bot, I_bot, I_istore 6 2, I_bot, I_aload 2 1, I_callV 6 0 F_X6_thrown, I_bot, I_bot, I_iload 5 2, I_bot, I_icmp (fun x y => x = y) 1668, I_bot, I_bot, I_const 0 1, I_lret, I_iload 5 2, I_bot, I_if (fun x => ¬ x = 0) 1685, I_bot, I_bot, I_aload 3 1, I_const 0 1, I_lald, I_iload 6 2, I_bot, I_i2l, I_lcmp, I_if (fun x => x = 0) 1685, I_bot, I_bot, I_const 0 1, I_lret, I_goto 2234, I_bot, I_bot]
set_option maxHeartbeats 8000000 in
set_option maxRecDepth 100000 in
theorem r_law24 {p : Program} {l : Launch} {e : Env} {s : State} {m : MethodId} {below : List Frame} {meth : Method} {c : Code} {D : va_G} {cI cZ cA cL : ClassId} {ad sa : Nat → Nat} {b N : Nat} {xs : Nat → Int32} (Z : LCX p l e s m meth c b N xs D cI cZ cA cL ad sa) (cells slots : Nat) (hcell : cells + 20 ≤ 601024) (hslot : slots + 120 ≤ 7293034) :
    ruL (Ru p l e room_1 s m #[Value.ref b] below meth c cells slots (lw_Z below #[Value.ref b] s) 7 D cI cZ cA cL ad (AA ad s.heap.size) s.heap) 1620 (T_law24 (fun d => WS p l e room_1 s m #[Value.ref b] below meth c (cells + d) (slots + 6 * d) (lw_Z below #[Value.ref b] s) 7 D cI cZ cA cL ad (AA ad s.heap.size) s.heap) N xs) := by
  obtain ⟨hx, hb, hml, hown, hts, hr, hlocks, hK, hN, hX, hC, hXs, hbl, hbA, had, hi, hlt, hA9⟩ := Z
  refine ruL_c (n := 1620) (n2 := 1621) rfl (ru_aload_n (k := 1) hx hb dL_law_1620) ?_
  refine ruL_c (n := 1621) (n2 := 1622) rfl (ru_aload_n (k := 0) hx hb dL_law_1621) ?_
  refine ruL_c (n := 1622) (n2 := 1623) rfl (ru_iload hx hb dL_law_1622) ?_
  refine ruL_c (n := 1623) (n2 := 1624) rfl (ru_bot) ?_
  refine ruL_c (n := 1624) (n2 := 1625) rfl (ru_iconst hx hb dL_law_1624 rfl) ?_
  refine ruL_c (n := 1625) (n2 := 1626) rfl (ru_iadd hx hb dL_law_1625) ?_
  refine ruL_c (n := 1626) (n2 := 1627) rfl (ru_sld hx hb hXs hbl hbA had dL_law_1626) ?_
  refine ruL_c (n := 1627) (n2 := 1628) rfl (ru_aload_n (k := 0) hx hb dL_law_1627) ?_
  refine ruL_c (n := 1628) (n2 := 1629) rfl (ru_iload hx hb dL_law_1628) ?_
  refine ruL_c (n := 1629) (n2 := 1630) rfl (ru_bot) ?_
  refine ruL_c (n := 1630) (n2 := 1631) rfl (ru_iconst hx hb dL_law_1630 rfl) ?_
  refine ruL_c (n := 1631) (n2 := 1632) rfl (ru_iadd hx hb dL_law_1631) ?_
  refine ruL_c (n := 1632) (n2 := 1633) rfl (ru_sld hx hb hXs hbl hbA had dL_law_1632) ?_
  refine ruL_c (n := 1633) (n2 := 1634) rfl (ru_aload_n (k := 3) hx hb dL_law_1633) ?_
  refine ruL_c (n := 1634) (n2 := 1635) rfl (ru_callW (own := RL) hx hb hml hown hts hK hN hX hC (c_L_laidOn l hlt D cI cZ cA cL ad sa hi) (vx_cwSW 4 hts gL_law_L_laidOn rfl rfl rfl (by decide +kernel) ⟨Nat.le_of_ble_eq_true rfl, Nat.le_of_ble_eq_true rfl⟩) dL_law_1634 ⟨Nat.le_trans (Nat.add_le_add_left (by decide) _) hcell, Nat.le_trans (Nat.add_le_add_left (by decide) _) hslot⟩) ?_
  refine ruL_c (n := 1635) (n2 := 1636) rfl (ru_bot) ?_
  refine ruL_c (n := 1636) (n2 := 1637) rfl (ru_bot) ?_
  refine ruL_c (n := 1637) (n2 := 1638) rfl (ru_istore hx hb dL_law_1637) ?_
  refine ruL_c (n := 1638) (n2 := 1639) rfl (ru_bot) ?_
  refine ruL_c (n := 1639) (n2 := 1640) rfl (ru_aload_n (k := 2) hx hb dL_law_1639) ?_
  refine ruL_c (n := 1640) (n2 := 1641) rfl (ru_aload_n (k := 0) hx hb dL_law_1640) ?_
  refine ruL_c (n := 1641) (n2 := 1642) rfl (ru_iload hx hb dL_law_1641) ?_
  refine ruL_c (n := 1642) (n2 := 1643) rfl (ru_bot) ?_
  refine ruL_c (n := 1643) (n2 := 1644) rfl (ru_iconst hx hb dL_law_1643 rfl) ?_
  refine ruL_c (n := 1644) (n2 := 1645) rfl (ru_iadd hx hb dL_law_1644) ?_
  refine ruL_c (n := 1645) (n2 := 1646) rfl (ru_sld hx hb hXs hbl hbA had dL_law_1645) ?_
  refine ruL_c (n := 1646) (n2 := 1647) rfl (ru_aload_n (k := 0) hx hb dL_law_1646) ?_
  refine ruL_c (n := 1647) (n2 := 1648) rfl (ru_iload hx hb dL_law_1647) ?_
  refine ruL_c (n := 1648) (n2 := 1649) rfl (ru_bot) ?_
  refine ruL_c (n := 1649) (n2 := 1650) rfl (ru_iconst hx hb dL_law_1649 rfl) ?_
  refine ruL_c (n := 1650) (n2 := 1651) rfl (ru_iadd hx hb dL_law_1650) ?_
  refine ruL_c (n := 1651) (n2 := 1652) rfl (ru_sld hx hb hXs hbl hbA had dL_law_1651) ?_
  refine ruL_c (n := 1652) (n2 := 1653) rfl (ru_callV (own := RL) hx hb hml hown hts hK hN (by decide) rfl (c_X6_laidOn l D cI cZ cA cL ad hi) (cwV 2 hts gL_law_X6_laidOn rfl rfl rfl (by decide +kernel) ⟨Nat.le_of_ble_eq_true rfl, Nat.le_of_ble_eq_true rfl⟩) dL_law_1652 ⟨Nat.le_trans (Nat.le_add_right _ 20) hcell, Nat.le_trans (Nat.le_add_right _ 120) hslot⟩) ?_
  refine ruL_c (n := 1653) (n2 := 1654) rfl (ru_bot) ?_
  refine ruL_c (n := 1654) (n2 := 1655) rfl (ru_bot) ?_
  refine ruL_c (n := 1655) (n2 := 1656) rfl (ru_istore hx hb dL_law_1655) ?_
  refine ruL_c (n := 1656) (n2 := 1657) rfl (ru_bot) ?_
  refine ruL_c (n := 1657) (n2 := 1658) rfl (ru_aload_n (k := 2) hx hb dL_law_1657) ?_
  refine ruL_c (n := 1658) (n2 := 1659) rfl (ru_callV (own := RL) hx hb hml hown hts hK hN (by decide) rfl (c_X6_thrown l D cI cZ cA cL ad hi) (cwV 0 hts gL_law_X6_thrown rfl rfl rfl (by decide +kernel) ⟨Nat.le_of_ble_eq_true rfl, Nat.le_of_ble_eq_true rfl⟩) dL_law_1658 ⟨Nat.le_trans (Nat.le_add_right _ 20) hcell, Nat.le_trans (Nat.le_add_right _ 120) hslot⟩) ?_
  refine ruL_c (n := 1659) (n2 := 1660) rfl (ru_bot) ?_
  refine ruL_c (n := 1660) (n2 := 1661) rfl (ru_bot) ?_
  refine ruL_c (n := 1661) (n2 := 1662) rfl (ru_iload hx hb dL_law_1661) ?_
  refine ruL_c (n := 1662) (n2 := 1663) rfl (ru_bot) ?_
  refine ruL_c (n := 1663) (n2 := 1664) rfl (ru_icmpeq hx hb dL_law_1663 (by decide)) ?_
  refine ruL_c (n := 1664) (n2 := 1665) rfl (ru_bot) ?_
  refine ruL_c (n := 1665) (n2 := 1666) rfl (ru_bot) ?_
  refine ruL_c (n := 1666) (n2 := 1667) rfl (ru_iconst hx hb dL_law_1666 rfl) ?_
  refine ruL_c (n := 1667) (n2 := 1668) rfl (ru_lret hx hb hr hlocks hA9 dL_law_1667 hcell hslot) ?_
  refine ruL_c (n := 1668) (n2 := 1669) rfl (ru_iload hx hb dL_law_1668) ?_
  refine ruL_c (n := 1669) (n2 := 1670) rfl (ru_bot) ?_
  refine ruL_c (n := 1670) (n2 := 1671) rfl (ru_ifne hx hb dL_law_1670 (by decide)) ?_
  refine ruL_c (n := 1671) (n2 := 1672) rfl (ru_bot) ?_
  refine ruL_c (n := 1672) (n2 := 1673) rfl (ru_bot) ?_
  refine ruL_c (n := 1673) (n2 := 1674) rfl (ru_aload_n (k := 3) hx hb dL_law_1673) ?_
  refine ruL_c (n := 1674) (n2 := 1675) rfl (ru_iconst hx hb dL_law_1674 rfl) ?_
  refine ruL_c (n := 1675) (n2 := 1676) rfl (ru_lald hx hb hK dL_law_1675) ?_
  refine ruL_c (n := 1676) (n2 := 1677) rfl (ru_iload hx hb dL_law_1676) ?_
  refine ruL_c (n := 1677) (n2 := 1678) rfl (ru_bot) ?_
  refine ruL_c (n := 1678) (n2 := 1679) rfl (ru_i2l hx hb dL_law_1678) ?_
  refine ruL_c (n := 1679) (n2 := 1680) rfl (ru_lcmp hx hb dL_law_1679) ?_
  refine ruL_c (n := 1680) (n2 := 1681) rfl (ru_ifeq hx hb dL_law_1680 (by decide)) ?_
  refine ruL_c (n := 1681) (n2 := 1682) rfl (ru_bot) ?_
  refine ruL_c (n := 1682) (n2 := 1683) rfl (ru_bot) ?_
  refine ruL_c (n := 1683) (n2 := 1684) rfl (ru_iconst hx hb dL_law_1683 rfl) ?_
  refine ruL_c (n := 1684) (n2 := 1685) rfl (ru_lret hx hb hr hlocks hA9 dL_law_1684 hcell hslot) ?_
  refine ruL_c (n := 1685) (n2 := 1686) rfl (ru_goto hx hb dL_law_1685 (by decide)) ?_
  refine ruL_c (n := 1686) (n2 := 1687) rfl (ru_bot) ?_
  refine ruL_c (n := 1687) (n2 := 1688) rfl (ru_bot) ?_
  exact trivial
set_option maxHeartbeats 8000000 in
set_option maxRecDepth 100000 in
theorem k_law24 {CP : aM → Prop} {N : Nat} {xs : Nat → Int32} {K : Nat → aS → Prop} (hw : ∀ c, c ≤ 8000 → ∀ n x, wpB 1620 (T_law24 (fun d => K (c + d)) N xs) n (K c) x → K c x) (hf : ∀ c pc L i st σ, K c (pc, L.set i .null, st, σ) → K c (pc, L, st, σ)) (ag : ∀ p0 p1 : Int32, agW CP (f_L_laidOn p0 p1) (f_X6_laidOn p0 p1)) (c i : Nat) (hc : c ≤ 7900) (g1 : inb (nI i + 1) N = true) (g2 : inb (nI i + 2) N = true) (g3 : inb (nI i + 3) N = true) (g4 : inb (nI i + 4) N = true) (σ : aM) (hCP : CP σ)
    (hback : ∀ c2 σ2, c2 ≤ c + 12 → CP σ2 → K c2 (2234, [.ref 200, .ref 0, .ref 6, .ref 178, .int (nI i), .null, .null], [], σ2)) : K c (1620, [.ref 200, .ref 0, .ref 6, .ref 178, .int (nI i), .null, .null], [], σ) := by
  obtain ⟨k1, σ1, b1, σ2, e1, e2, e3, e4, hcp⟩ := ag (xs (ix (nI i + 1))) (xs (ix (nI i + 2))) σ hCP
  refine hw c (by omega) 13 _ ?_
  show inb (nI i + 1) N = true ∧ (inb (nI i + 2) N = true ∧ (∃ k1 σ1, f_L_laidOn (xs (ix (nI i + 1))) (xs (ix (nI i + 2))) σ = some (k1, σ1) ∧ K (c + 6) (1637, [.ref 200, .ref 0, .ref 6, .ref 178, .int (nI i), .null, .null], [.int k1], σ1)))
  refine ⟨g1, g2, ⟨k1, σ1, e1, ?_⟩⟩
  refine hw (c + 6) (by omega) 13 _ ?_
  show inb (nI i + 1) N = true ∧ (inb (nI i + 2) N = true ∧ (∃ b1 σ2, f_X6_laidOn (xs (ix (nI i + 1))) (xs (ix (nI i + 2))) σ1 = some (b1, σ2) ∧ K (c + 6) (1655, [.ref 200, .ref 0, .ref 6, .ref 178, .int (nI i), .int k1, .null], [.int b1], σ2)))
  refine ⟨g1, g2, ⟨b1, σ2, e2, ?_⟩⟩
  refine hw (c + 6) (by omega) 3 _ ?_
  show ∃ r3 σ3, f_X6_thrown σ2 = some (r3, σ3) ∧ K (c + 6) (1661, [.ref 200, .ref 0, .ref 6, .ref 178, .int (nI i), .int k1, .int b1], [.int r3], σ3)
  refine ⟨σ2 6 0, σ2, rfl, ?_⟩
  refine hw (c + 6) (by omega) 2 _ ?_
  show (((σ2 6 0) = k1) → K (c + 6) (1668, [.ref 200, .ref 0, .ref 6, .ref 178, .int (nI i), .int k1, .int b1], [], σ2)) ∧ (¬ ((σ2 6 0) = k1) → K (c + 6) (1666, [.ref 200, .ref 0, .ref 6, .ref 178, .int (nI i), .int k1, .int b1], [], σ2))
  refine ⟨fun _ => ?_, fun q => absurd e3 q⟩
  by_cases hk : k1 = 0
  · have hz : σ2 178 (ix 0) = b1 := e4 hk
    refine hw (c + 6) (by omega) 2 _ ?_
    show ((¬ k1 = 0) → K (c + 6) (1685, [.ref 200, .ref 0, .ref 6, .ref 178, .int (nI i), .int k1, .int b1], [], σ2)) ∧ (¬ (¬ k1 = 0) → K (c + 6) (1673, [.ref 200, .ref 0, .ref 6, .ref 178, .int (nI i), .int k1, .int b1], [], σ2))
    refine ⟨fun q => absurd hk q, fun _ => ?_⟩
    refine hw (c + 6) (by omega) 7 _ ?_
    show kd 178 = 4 ∧ (inb 0 1 = true ∧ ((((lg_cmp (σ2 178 (ix 0)).toInt64 b1.toInt64) = 0) → K (c + 6) (1685, [.ref 200, .ref 0, .ref 6, .ref 178, .int (nI i), .int k1, .int b1], [], σ2)) ∧ (¬ ((lg_cmp (σ2 178 (ix 0)).toInt64 b1.toInt64) = 0) → K (c + 6) (1683, [.ref 200, .ref 0, .ref 6, .ref 178, .int (nI i), .int k1, .int b1], [], σ2))))
    refine ⟨rfl, by decide, ⟨fun _ => ?_, fun q => absurd (by rw [hz]; exact lcmp_eq _) q⟩⟩
    refine hw (c + 6) (by omega) 1 _ ?_
    show K (c + 6) (2234, [.ref 200, .ref 0, .ref 6, .ref 178, .int (nI i), .int k1, .int b1], [], σ2)
    refine hf _ _ _ 5 _ _ ?_
    show K (c + 6) (2234, [.ref 200, .ref 0, .ref 6, .ref 178, .int (nI i), .null, .int b1], [], σ2)
    refine hf _ _ _ 6 _ _ ?_
    show K (c + 6) (2234, [.ref 200, .ref 0, .ref 6, .ref 178, .int (nI i), .null, .null], [], σ2)
    exact hback _ _ (by omega) hcp
  · refine hw (c + 6) (by omega) 2 _ ?_
    show ((¬ k1 = 0) → K (c + 6) (1685, [.ref 200, .ref 0, .ref 6, .ref 178, .int (nI i), .int k1, .int b1], [], σ2)) ∧ (¬ (¬ k1 = 0) → K (c + 6) (1673, [.ref 200, .ref 0, .ref 6, .ref 178, .int (nI i), .int k1, .int b1], [], σ2))
    refine ⟨fun _ => ?_, fun q => absurd hk q⟩
    refine hw (c + 6) (by omega) 1 _ ?_
    show K (c + 6) (2234, [.ref 200, .ref 0, .ref 6, .ref 178, .int (nI i), .int k1, .int b1], [], σ2)
    refine hf _ _ _ 5 _ _ ?_
    show K (c + 6) (2234, [.ref 200, .ref 0, .ref 6, .ref 178, .int (nI i), .null, .int b1], [], σ2)
    refine hf _ _ _ 6 _ _ ?_
    show K (c + 6) (2234, [.ref 200, .ref 0, .ref 6, .ref 178, .int (nI i), .null, .null], [], σ2)
    exact hback _ _ (by omega) hcp
def T_law25 (KN : Nat → aS → Prop) (N : Nat) (xs : Nat → Int32) : List aI := [I_aload 1 1, I_aload 0 1, I_iload 4 2, I_bot, I_const 1 1, I_bin fun x y => x + y, I_sld N xs, I_aload 0 1, I_iload 4 2, I_bot, I_const 2 1, I_bin fun x y => x + y, I_sld N xs, I_aload 3 1, I_callW 4 F_L_lampLevel (KN 6), I_bot, I_bot, I_istore 5 2, I_bot, I_aload 2 1, I_aload 0 1, I_iload 4 2, I_bot, I_const 1 1, I_bin fun x y => x + y, I_sld N xs, I_aload 0 1, I_iload 4 2, I_bot, I_const 2 1, I_bin fun x y => x + y, I_sld N xs, I_callV 6 2 F_X6_lampLevel, I_bot, I_bot, I_istore 6 2, I_bot, I_aload 2 1, I_callV 6 0 F_X6_thrown, I_bot, I_bot, I_iload 5 2, I_bot, I_icmp (fun x y => x = y) 1736, I_bot, I_bot, I_const 0 1, I_lret, I_iload 5 2, I_bot, I_if (fun x => ¬ x = 0) 1753, I_bot, I_bot, I_aload 3 1, I_const 0 1, I_lald, I_iload 6 2, I_bot, I_i2l, I_lcmp, I_if (fun x => x = 0) 1753, I_bot, I_bot, I_const 0 1, I_lret, I_goto 2234, I_bot, I_bot]
set_option maxHeartbeats 8000000 in
set_option maxRecDepth 100000 in
theorem r_law25 {p : Program} {l : Launch} {e : Env} {s : State} {m : MethodId} {below : List Frame} {meth : Method} {c : Code} {D : va_G} {cI cZ cA cL : ClassId} {ad sa : Nat → Nat} {b N : Nat} {xs : Nat → Int32} (Z : LCX p l e s m meth c b N xs D cI cZ cA cL ad sa) (cells slots : Nat) (hcell : cells + 20 ≤ 601024) (hslot : slots + 120 ≤ 7293034) :
    ruL (Ru p l e room_1 s m #[Value.ref b] below meth c cells slots (lw_Z below #[Value.ref b] s) 7 D cI cZ cA cL ad (AA ad s.heap.size) s.heap) 1688 (T_law25 (fun d => WS p l e room_1 s m #[Value.ref b] below meth c (cells + d) (slots + 6 * d) (lw_Z below #[Value.ref b] s) 7 D cI cZ cA cL ad (AA ad s.heap.size) s.heap) N xs) := by
  obtain ⟨hx, hb, hml, hown, hts, hr, hlocks, hK, hN, hX, hC, hXs, hbl, hbA, had, hi, hlt, hA9⟩ := Z
  refine ruL_c (n := 1688) (n2 := 1689) rfl (ru_aload_n (k := 1) hx hb dL_law_1688) ?_
  refine ruL_c (n := 1689) (n2 := 1690) rfl (ru_aload_n (k := 0) hx hb dL_law_1689) ?_
  refine ruL_c (n := 1690) (n2 := 1691) rfl (ru_iload hx hb dL_law_1690) ?_
  refine ruL_c (n := 1691) (n2 := 1692) rfl (ru_bot) ?_
  refine ruL_c (n := 1692) (n2 := 1693) rfl (ru_iconst hx hb dL_law_1692 rfl) ?_
  refine ruL_c (n := 1693) (n2 := 1694) rfl (ru_iadd hx hb dL_law_1693) ?_
  refine ruL_c (n := 1694) (n2 := 1695) rfl (ru_sld hx hb hXs hbl hbA had dL_law_1694) ?_
  refine ruL_c (n := 1695) (n2 := 1696) rfl (ru_aload_n (k := 0) hx hb dL_law_1695) ?_
  refine ruL_c (n := 1696) (n2 := 1697) rfl (ru_iload hx hb dL_law_1696) ?_
  refine ruL_c (n := 1697) (n2 := 1698) rfl (ru_bot) ?_
  refine ruL_c (n := 1698) (n2 := 1699) rfl (ru_iconst hx hb dL_law_1698 rfl) ?_
  refine ruL_c (n := 1699) (n2 := 1700) rfl (ru_iadd hx hb dL_law_1699) ?_
  refine ruL_c (n := 1700) (n2 := 1701) rfl (ru_sld hx hb hXs hbl hbA had dL_law_1700) ?_
  refine ruL_c (n := 1701) (n2 := 1702) rfl (ru_aload_n (k := 3) hx hb dL_law_1701) ?_
  refine ruL_c (n := 1702) (n2 := 1703) rfl (ru_callW (own := RL) hx hb hml hown hts hK hN hX hC (c_L_lampLevel l hlt D cI cZ cA cL ad sa hi) (vx_cwSW 4 hts gL_law_L_lampLevel rfl rfl rfl (by decide +kernel) ⟨Nat.le_of_ble_eq_true rfl, Nat.le_of_ble_eq_true rfl⟩) dL_law_1702 ⟨Nat.le_trans (Nat.add_le_add_left (by decide) _) hcell, Nat.le_trans (Nat.add_le_add_left (by decide) _) hslot⟩) ?_
  refine ruL_c (n := 1703) (n2 := 1704) rfl (ru_bot) ?_
  refine ruL_c (n := 1704) (n2 := 1705) rfl (ru_bot) ?_
  refine ruL_c (n := 1705) (n2 := 1706) rfl (ru_istore hx hb dL_law_1705) ?_
  refine ruL_c (n := 1706) (n2 := 1707) rfl (ru_bot) ?_
  refine ruL_c (n := 1707) (n2 := 1708) rfl (ru_aload_n (k := 2) hx hb dL_law_1707) ?_
  refine ruL_c (n := 1708) (n2 := 1709) rfl (ru_aload_n (k := 0) hx hb dL_law_1708) ?_
  refine ruL_c (n := 1709) (n2 := 1710) rfl (ru_iload hx hb dL_law_1709) ?_
  refine ruL_c (n := 1710) (n2 := 1711) rfl (ru_bot) ?_
  refine ruL_c (n := 1711) (n2 := 1712) rfl (ru_iconst hx hb dL_law_1711 rfl) ?_
  refine ruL_c (n := 1712) (n2 := 1713) rfl (ru_iadd hx hb dL_law_1712) ?_
  refine ruL_c (n := 1713) (n2 := 1714) rfl (ru_sld hx hb hXs hbl hbA had dL_law_1713) ?_
  refine ruL_c (n := 1714) (n2 := 1715) rfl (ru_aload_n (k := 0) hx hb dL_law_1714) ?_
  refine ruL_c (n := 1715) (n2 := 1716) rfl (ru_iload hx hb dL_law_1715) ?_
  refine ruL_c (n := 1716) (n2 := 1717) rfl (ru_bot) ?_
  refine ruL_c (n := 1717) (n2 := 1718) rfl (ru_iconst hx hb dL_law_1717 rfl) ?_
  refine ruL_c (n := 1718) (n2 := 1719) rfl (ru_iadd hx hb dL_law_1718) ?_
  refine ruL_c (n := 1719) (n2 := 1720) rfl (ru_sld hx hb hXs hbl hbA had dL_law_1719) ?_
  refine ruL_c (n := 1720) (n2 := 1721) rfl (ru_callV (own := RL) hx hb hml hown hts hK hN (by decide) rfl (c_X6_lampLevel l D cI cZ cA cL ad hi) (cwV 2 hts gL_law_X6_lampLevel rfl rfl rfl (by decide +kernel) ⟨Nat.le_of_ble_eq_true rfl, Nat.le_of_ble_eq_true rfl⟩) dL_law_1720 ⟨Nat.le_trans (Nat.le_add_right _ 20) hcell, Nat.le_trans (Nat.le_add_right _ 120) hslot⟩) ?_
  refine ruL_c (n := 1721) (n2 := 1722) rfl (ru_bot) ?_
  refine ruL_c (n := 1722) (n2 := 1723) rfl (ru_bot) ?_
  refine ruL_c (n := 1723) (n2 := 1724) rfl (ru_istore hx hb dL_law_1723) ?_
  refine ruL_c (n := 1724) (n2 := 1725) rfl (ru_bot) ?_
  refine ruL_c (n := 1725) (n2 := 1726) rfl (ru_aload_n (k := 2) hx hb dL_law_1725) ?_
  refine ruL_c (n := 1726) (n2 := 1727) rfl (ru_callV (own := RL) hx hb hml hown hts hK hN (by decide) rfl (c_X6_thrown l D cI cZ cA cL ad hi) (cwV 0 hts gL_law_X6_thrown rfl rfl rfl (by decide +kernel) ⟨Nat.le_of_ble_eq_true rfl, Nat.le_of_ble_eq_true rfl⟩) dL_law_1726 ⟨Nat.le_trans (Nat.le_add_right _ 20) hcell, Nat.le_trans (Nat.le_add_right _ 120) hslot⟩) ?_
  refine ruL_c (n := 1727) (n2 := 1728) rfl (ru_bot) ?_
  refine ruL_c (n := 1728) (n2 := 1729) rfl (ru_bot) ?_
  refine ruL_c (n := 1729) (n2 := 1730) rfl (ru_iload hx hb dL_law_1729) ?_
  refine ruL_c (n := 1730) (n2 := 1731) rfl (ru_bot) ?_
  refine ruL_c (n := 1731) (n2 := 1732) rfl (ru_icmpeq hx hb dL_law_1731 (by decide)) ?_
  refine ruL_c (n := 1732) (n2 := 1733) rfl (ru_bot) ?_
  refine ruL_c (n := 1733) (n2 := 1734) rfl (ru_bot) ?_
  refine ruL_c (n := 1734) (n2 := 1735) rfl (ru_iconst hx hb dL_law_1734 rfl) ?_
  refine ruL_c (n := 1735) (n2 := 1736) rfl (ru_lret hx hb hr hlocks hA9 dL_law_1735 hcell hslot) ?_
  refine ruL_c (n := 1736) (n2 := 1737) rfl (ru_iload hx hb dL_law_1736) ?_
  refine ruL_c (n := 1737) (n2 := 1738) rfl (ru_bot) ?_
  refine ruL_c (n := 1738) (n2 := 1739) rfl (ru_ifne hx hb dL_law_1738 (by decide)) ?_
  refine ruL_c (n := 1739) (n2 := 1740) rfl (ru_bot) ?_
  refine ruL_c (n := 1740) (n2 := 1741) rfl (ru_bot) ?_
  refine ruL_c (n := 1741) (n2 := 1742) rfl (ru_aload_n (k := 3) hx hb dL_law_1741) ?_
  refine ruL_c (n := 1742) (n2 := 1743) rfl (ru_iconst hx hb dL_law_1742 rfl) ?_
  refine ruL_c (n := 1743) (n2 := 1744) rfl (ru_lald hx hb hK dL_law_1743) ?_
  refine ruL_c (n := 1744) (n2 := 1745) rfl (ru_iload hx hb dL_law_1744) ?_
  refine ruL_c (n := 1745) (n2 := 1746) rfl (ru_bot) ?_
  refine ruL_c (n := 1746) (n2 := 1747) rfl (ru_i2l hx hb dL_law_1746) ?_
  refine ruL_c (n := 1747) (n2 := 1748) rfl (ru_lcmp hx hb dL_law_1747) ?_
  refine ruL_c (n := 1748) (n2 := 1749) rfl (ru_ifeq hx hb dL_law_1748 (by decide)) ?_
  refine ruL_c (n := 1749) (n2 := 1750) rfl (ru_bot) ?_
  refine ruL_c (n := 1750) (n2 := 1751) rfl (ru_bot) ?_
  refine ruL_c (n := 1751) (n2 := 1752) rfl (ru_iconst hx hb dL_law_1751 rfl) ?_
  refine ruL_c (n := 1752) (n2 := 1753) rfl (ru_lret hx hb hr hlocks hA9 dL_law_1752 hcell hslot) ?_
  refine ruL_c (n := 1753) (n2 := 1754) rfl (ru_goto hx hb dL_law_1753 (by decide)) ?_
  refine ruL_c (n := 1754) (n2 := 1755) rfl (ru_bot) ?_
  refine ruL_c (n := 1755) (n2 := 1756) rfl (ru_bot) ?_
  exact trivial
set_option maxHeartbeats 8000000 in
set_option maxRecDepth 100000 in
theorem k_law25 {CP : aM → Prop} {N : Nat} {xs : Nat → Int32} {K : Nat → aS → Prop} (hw : ∀ c, c ≤ 8000 → ∀ n x, wpB 1688 (T_law25 (fun d => K (c + d)) N xs) n (K c) x → K c x) (hf : ∀ c pc L i st σ, K c (pc, L.set i .null, st, σ) → K c (pc, L, st, σ)) (ag : ∀ p0 p1 : Int32, agW CP (f_L_lampLevel p0 p1) (f_X6_lampLevel p0 p1)) (c i : Nat) (hc : c ≤ 7900) (g1 : inb (nI i + 1) N = true) (g2 : inb (nI i + 2) N = true) (g3 : inb (nI i + 3) N = true) (g4 : inb (nI i + 4) N = true) (σ : aM) (hCP : CP σ)
    (hback : ∀ c2 σ2, c2 ≤ c + 12 → CP σ2 → K c2 (2234, [.ref 200, .ref 0, .ref 6, .ref 178, .int (nI i), .null, .null], [], σ2)) : K c (1688, [.ref 200, .ref 0, .ref 6, .ref 178, .int (nI i), .null, .null], [], σ) := by
  obtain ⟨k1, σ1, b1, σ2, e1, e2, e3, e4, hcp⟩ := ag (xs (ix (nI i + 1))) (xs (ix (nI i + 2))) σ hCP
  refine hw c (by omega) 13 _ ?_
  show inb (nI i + 1) N = true ∧ (inb (nI i + 2) N = true ∧ (∃ k1 σ1, f_L_lampLevel (xs (ix (nI i + 1))) (xs (ix (nI i + 2))) σ = some (k1, σ1) ∧ K (c + 6) (1705, [.ref 200, .ref 0, .ref 6, .ref 178, .int (nI i), .null, .null], [.int k1], σ1)))
  refine ⟨g1, g2, ⟨k1, σ1, e1, ?_⟩⟩
  refine hw (c + 6) (by omega) 13 _ ?_
  show inb (nI i + 1) N = true ∧ (inb (nI i + 2) N = true ∧ (∃ b1 σ2, f_X6_lampLevel (xs (ix (nI i + 1))) (xs (ix (nI i + 2))) σ1 = some (b1, σ2) ∧ K (c + 6) (1723, [.ref 200, .ref 0, .ref 6, .ref 178, .int (nI i), .int k1, .null], [.int b1], σ2)))
  refine ⟨g1, g2, ⟨b1, σ2, e2, ?_⟩⟩
  refine hw (c + 6) (by omega) 3 _ ?_
  show ∃ r3 σ3, f_X6_thrown σ2 = some (r3, σ3) ∧ K (c + 6) (1729, [.ref 200, .ref 0, .ref 6, .ref 178, .int (nI i), .int k1, .int b1], [.int r3], σ3)
  refine ⟨σ2 6 0, σ2, rfl, ?_⟩
  refine hw (c + 6) (by omega) 2 _ ?_
  show (((σ2 6 0) = k1) → K (c + 6) (1736, [.ref 200, .ref 0, .ref 6, .ref 178, .int (nI i), .int k1, .int b1], [], σ2)) ∧ (¬ ((σ2 6 0) = k1) → K (c + 6) (1734, [.ref 200, .ref 0, .ref 6, .ref 178, .int (nI i), .int k1, .int b1], [], σ2))
  refine ⟨fun _ => ?_, fun q => absurd e3 q⟩
  by_cases hk : k1 = 0
  · have hz : σ2 178 (ix 0) = b1 := e4 hk
    refine hw (c + 6) (by omega) 2 _ ?_
    show ((¬ k1 = 0) → K (c + 6) (1753, [.ref 200, .ref 0, .ref 6, .ref 178, .int (nI i), .int k1, .int b1], [], σ2)) ∧ (¬ (¬ k1 = 0) → K (c + 6) (1741, [.ref 200, .ref 0, .ref 6, .ref 178, .int (nI i), .int k1, .int b1], [], σ2))
    refine ⟨fun q => absurd hk q, fun _ => ?_⟩
    refine hw (c + 6) (by omega) 7 _ ?_
    show kd 178 = 4 ∧ (inb 0 1 = true ∧ ((((lg_cmp (σ2 178 (ix 0)).toInt64 b1.toInt64) = 0) → K (c + 6) (1753, [.ref 200, .ref 0, .ref 6, .ref 178, .int (nI i), .int k1, .int b1], [], σ2)) ∧ (¬ ((lg_cmp (σ2 178 (ix 0)).toInt64 b1.toInt64) = 0) → K (c + 6) (1751, [.ref 200, .ref 0, .ref 6, .ref 178, .int (nI i), .int k1, .int b1], [], σ2))))
    refine ⟨rfl, by decide, ⟨fun _ => ?_, fun q => absurd (by rw [hz]; exact lcmp_eq _) q⟩⟩
    refine hw (c + 6) (by omega) 1 _ ?_
    show K (c + 6) (2234, [.ref 200, .ref 0, .ref 6, .ref 178, .int (nI i), .int k1, .int b1], [], σ2)
    refine hf _ _ _ 5 _ _ ?_
    show K (c + 6) (2234, [.ref 200, .ref 0, .ref 6, .ref 178, .int (nI i), .null, .int b1], [], σ2)
    refine hf _ _ _ 6 _ _ ?_
    show K (c + 6) (2234, [.ref 200, .ref 0, .ref 6, .ref 178, .int (nI i), .null, .null], [], σ2)
    exact hback _ _ (by omega) hcp
  · refine hw (c + 6) (by omega) 2 _ ?_
    show ((¬ k1 = 0) → K (c + 6) (1753, [.ref 200, .ref 0, .ref 6, .ref 178, .int (nI i), .int k1, .int b1], [], σ2)) ∧ (¬ (¬ k1 = 0) → K (c + 6) (1741, [.ref 200, .ref 0, .ref 6, .ref 178, .int (nI i), .int k1, .int b1], [], σ2))
    refine ⟨fun _ => ?_, fun q => absurd hk q⟩
    refine hw (c + 6) (by omega) 1 _ ?_
    show K (c + 6) (2234, [.ref 200, .ref 0, .ref 6, .ref 178, .int (nI i), .int k1, .int b1], [], σ2)
    refine hf _ _ _ 5 _ _ ?_
    show K (c + 6) (2234, [.ref 200, .ref 0, .ref 6, .ref 178, .int (nI i), .null, .int b1], [], σ2)
    refine hf _ _ _ 6 _ _ ?_
    show K (c + 6) (2234, [.ref 200, .ref 0, .ref 6, .ref 178, .int (nI i), .null, .null], [], σ2)
    exact hback _ _ (by omega) hcp
def T_law26 (KN : Nat → aS → Prop) (N : Nat) (xs : Nat → Int32) : List aI := [I_aload 1 1, I_aload 0 1, I_iload 4 2, I_bot, I_const 1 1, I_bin fun x y => x + y, I_sld N xs, I_aload 0 1, I_iload 4 2, I_bot, I_const 2 1, I_bin fun x y => x + y, I_sld N xs, I_aload 0 1, I_iload 4 2, I_bot, I_const 3 1, I_bin fun x y => x + y, I_sld N xs, I_aload 3 1, I_callW 5 F_L_light (KN 8), I_bot, I_bot, I_istore 5 2, I_bot, I_aload 2 1, I_aload 0 1, I_iload 4 2, I_bot, I_const 1 1, I_bin fun x y => x + y, I_sld N xs, I_aload 0 1, I_iload 4 2, I_bot, I_const 2 1, I_bin fun x y => x + y, I_sld N xs, I_aload 0 1, I_iload 4 2, I_bot, I_const 3 1, I_bin fun x y => x + y, I_sld N xs, I_callV 6 3 F_X6_light, I_bot, I_bot, I_istore 6 2, I_bot, I_aload 2 1, I_callV 6 0 F_X6_thrown, I_bot, I_bot, I_iload 5 2, I_bot, I_icmp (fun x y => x = y) 1816, I_bot, I_bot, I_const 0 1, I_lret, I_iload 5 2, I_bot, I_if (fun x => ¬ x = 0) 1833, I_bot, I_bot, I_aload 3 1, I_const 0 1, I_lald, I_iload 6 2, I_bot, I_i2l, I_lcmp, I_if (fun x => x = 0) 1833, I_bot, I_bot, I_const 0 1, I_lret, I_goto 2234, I_bot, I_bot]
set_option maxHeartbeats 8000000 in
set_option maxRecDepth 100000 in
theorem r_law26 {p : Program} {l : Launch} {e : Env} {s : State} {m : MethodId} {below : List Frame} {meth : Method} {c : Code} {D : va_G} {cI cZ cA cL : ClassId} {ad sa : Nat → Nat} {b N : Nat} {xs : Nat → Int32} (Z : LCX p l e s m meth c b N xs D cI cZ cA cL ad sa) (cells slots : Nat) (hcell : cells + 20 ≤ 601024) (hslot : slots + 120 ≤ 7293034) :
    ruL (Ru p l e room_1 s m #[Value.ref b] below meth c cells slots (lw_Z below #[Value.ref b] s) 7 D cI cZ cA cL ad (AA ad s.heap.size) s.heap) 1756 (T_law26 (fun d => WS p l e room_1 s m #[Value.ref b] below meth c (cells + d) (slots + 6 * d) (lw_Z below #[Value.ref b] s) 7 D cI cZ cA cL ad (AA ad s.heap.size) s.heap) N xs) := by
  obtain ⟨hx, hb, hml, hown, hts, hr, hlocks, hK, hN, hX, hC, hXs, hbl, hbA, had, hi, hlt, hA9⟩ := Z
  refine ruL_c (n := 1756) (n2 := 1757) rfl (ru_aload_n (k := 1) hx hb dL_law_1756) ?_
  refine ruL_c (n := 1757) (n2 := 1758) rfl (ru_aload_n (k := 0) hx hb dL_law_1757) ?_
  refine ruL_c (n := 1758) (n2 := 1759) rfl (ru_iload hx hb dL_law_1758) ?_
  refine ruL_c (n := 1759) (n2 := 1760) rfl (ru_bot) ?_
  refine ruL_c (n := 1760) (n2 := 1761) rfl (ru_iconst hx hb dL_law_1760 rfl) ?_
  refine ruL_c (n := 1761) (n2 := 1762) rfl (ru_iadd hx hb dL_law_1761) ?_
  refine ruL_c (n := 1762) (n2 := 1763) rfl (ru_sld hx hb hXs hbl hbA had dL_law_1762) ?_
  refine ruL_c (n := 1763) (n2 := 1764) rfl (ru_aload_n (k := 0) hx hb dL_law_1763) ?_
  refine ruL_c (n := 1764) (n2 := 1765) rfl (ru_iload hx hb dL_law_1764) ?_
  refine ruL_c (n := 1765) (n2 := 1766) rfl (ru_bot) ?_
  refine ruL_c (n := 1766) (n2 := 1767) rfl (ru_iconst hx hb dL_law_1766 rfl) ?_
  refine ruL_c (n := 1767) (n2 := 1768) rfl (ru_iadd hx hb dL_law_1767) ?_
  refine ruL_c (n := 1768) (n2 := 1769) rfl (ru_sld hx hb hXs hbl hbA had dL_law_1768) ?_
  refine ruL_c (n := 1769) (n2 := 1770) rfl (ru_aload_n (k := 0) hx hb dL_law_1769) ?_
  refine ruL_c (n := 1770) (n2 := 1771) rfl (ru_iload hx hb dL_law_1770) ?_
  refine ruL_c (n := 1771) (n2 := 1772) rfl (ru_bot) ?_
  refine ruL_c (n := 1772) (n2 := 1773) rfl (ru_iconst hx hb dL_law_1772 rfl) ?_
  refine ruL_c (n := 1773) (n2 := 1774) rfl (ru_iadd hx hb dL_law_1773) ?_
  refine ruL_c (n := 1774) (n2 := 1775) rfl (ru_sld hx hb hXs hbl hbA had dL_law_1774) ?_
  refine ruL_c (n := 1775) (n2 := 1776) rfl (ru_aload_n (k := 3) hx hb dL_law_1775) ?_
  refine ruL_c (n := 1776) (n2 := 1777) rfl (ru_callW (own := RL) hx hb hml hown hts hK hN hX hC (c_L_light l hlt D cI cZ cA cL ad sa hi) (vx_cwSW 5 hts gL_law_L_light rfl rfl rfl (by decide +kernel) ⟨Nat.le_of_ble_eq_true rfl, Nat.le_of_ble_eq_true rfl⟩) dL_law_1776 ⟨Nat.le_trans (Nat.add_le_add_left (by decide) _) hcell, Nat.le_trans (Nat.add_le_add_left (by decide) _) hslot⟩) ?_
  refine ruL_c (n := 1777) (n2 := 1778) rfl (ru_bot) ?_
  refine ruL_c (n := 1778) (n2 := 1779) rfl (ru_bot) ?_
  refine ruL_c (n := 1779) (n2 := 1780) rfl (ru_istore hx hb dL_law_1779) ?_
  refine ruL_c (n := 1780) (n2 := 1781) rfl (ru_bot) ?_
  refine ruL_c (n := 1781) (n2 := 1782) rfl (ru_aload_n (k := 2) hx hb dL_law_1781) ?_
  refine ruL_c (n := 1782) (n2 := 1783) rfl (ru_aload_n (k := 0) hx hb dL_law_1782) ?_
  refine ruL_c (n := 1783) (n2 := 1784) rfl (ru_iload hx hb dL_law_1783) ?_
  refine ruL_c (n := 1784) (n2 := 1785) rfl (ru_bot) ?_
  refine ruL_c (n := 1785) (n2 := 1786) rfl (ru_iconst hx hb dL_law_1785 rfl) ?_
  refine ruL_c (n := 1786) (n2 := 1787) rfl (ru_iadd hx hb dL_law_1786) ?_
  refine ruL_c (n := 1787) (n2 := 1788) rfl (ru_sld hx hb hXs hbl hbA had dL_law_1787) ?_
  refine ruL_c (n := 1788) (n2 := 1789) rfl (ru_aload_n (k := 0) hx hb dL_law_1788) ?_
  refine ruL_c (n := 1789) (n2 := 1790) rfl (ru_iload hx hb dL_law_1789) ?_
  refine ruL_c (n := 1790) (n2 := 1791) rfl (ru_bot) ?_
  refine ruL_c (n := 1791) (n2 := 1792) rfl (ru_iconst hx hb dL_law_1791 rfl) ?_
  refine ruL_c (n := 1792) (n2 := 1793) rfl (ru_iadd hx hb dL_law_1792) ?_
  refine ruL_c (n := 1793) (n2 := 1794) rfl (ru_sld hx hb hXs hbl hbA had dL_law_1793) ?_
  refine ruL_c (n := 1794) (n2 := 1795) rfl (ru_aload_n (k := 0) hx hb dL_law_1794) ?_
  refine ruL_c (n := 1795) (n2 := 1796) rfl (ru_iload hx hb dL_law_1795) ?_
  refine ruL_c (n := 1796) (n2 := 1797) rfl (ru_bot) ?_
  refine ruL_c (n := 1797) (n2 := 1798) rfl (ru_iconst hx hb dL_law_1797 rfl) ?_
  refine ruL_c (n := 1798) (n2 := 1799) rfl (ru_iadd hx hb dL_law_1798) ?_
  refine ruL_c (n := 1799) (n2 := 1800) rfl (ru_sld hx hb hXs hbl hbA had dL_law_1799) ?_
  refine ruL_c (n := 1800) (n2 := 1801) rfl (ru_callV (own := RL) hx hb hml hown hts hK hN (by decide) rfl (c_X6_light l D cI cZ cA cL ad hi) (cwV 3 hts gL_law_X6_light rfl rfl rfl (by decide +kernel) ⟨Nat.le_of_ble_eq_true rfl, Nat.le_of_ble_eq_true rfl⟩) dL_law_1800 ⟨Nat.le_trans (Nat.le_add_right _ 20) hcell, Nat.le_trans (Nat.le_add_right _ 120) hslot⟩) ?_
  refine ruL_c (n := 1801) (n2 := 1802) rfl (ru_bot) ?_
  refine ruL_c (n := 1802) (n2 := 1803) rfl (ru_bot) ?_
  refine ruL_c (n := 1803) (n2 := 1804) rfl (ru_istore hx hb dL_law_1803) ?_
  refine ruL_c (n := 1804) (n2 := 1805) rfl (ru_bot) ?_
  refine ruL_c (n := 1805) (n2 := 1806) rfl (ru_aload_n (k := 2) hx hb dL_law_1805) ?_
  refine ruL_c (n := 1806) (n2 := 1807) rfl (ru_callV (own := RL) hx hb hml hown hts hK hN (by decide) rfl (c_X6_thrown l D cI cZ cA cL ad hi) (cwV 0 hts gL_law_X6_thrown rfl rfl rfl (by decide +kernel) ⟨Nat.le_of_ble_eq_true rfl, Nat.le_of_ble_eq_true rfl⟩) dL_law_1806 ⟨Nat.le_trans (Nat.le_add_right _ 20) hcell, Nat.le_trans (Nat.le_add_right _ 120) hslot⟩) ?_
  refine ruL_c (n := 1807) (n2 := 1808) rfl (ru_bot) ?_
  refine ruL_c (n := 1808) (n2 := 1809) rfl (ru_bot) ?_
  refine ruL_c (n := 1809) (n2 := 1810) rfl (ru_iload hx hb dL_law_1809) ?_
  refine ruL_c (n := 1810) (n2 := 1811) rfl (ru_bot) ?_
  refine ruL_c (n := 1811) (n2 := 1812) rfl (ru_icmpeq hx hb dL_law_1811 (by decide)) ?_
  refine ruL_c (n := 1812) (n2 := 1813) rfl (ru_bot) ?_
  refine ruL_c (n := 1813) (n2 := 1814) rfl (ru_bot) ?_
  refine ruL_c (n := 1814) (n2 := 1815) rfl (ru_iconst hx hb dL_law_1814 rfl) ?_
  refine ruL_c (n := 1815) (n2 := 1816) rfl (ru_lret hx hb hr hlocks hA9 dL_law_1815 hcell hslot) ?_
  refine ruL_c (n := 1816) (n2 := 1817) rfl (ru_iload hx hb dL_law_1816) ?_
  refine ruL_c (n := 1817) (n2 := 1818) rfl (ru_bot) ?_
  refine ruL_c (n := 1818) (n2 := 1819) rfl (ru_ifne hx hb dL_law_1818 (by decide)) ?_
  refine ruL_c (n := 1819) (n2 := 1820) rfl (ru_bot) ?_
  refine ruL_c (n := 1820) (n2 := 1821) rfl (ru_bot) ?_
  refine ruL_c (n := 1821) (n2 := 1822) rfl (ru_aload_n (k := 3) hx hb dL_law_1821) ?_
  refine ruL_c (n := 1822) (n2 := 1823) rfl (ru_iconst hx hb dL_law_1822 rfl) ?_
  refine ruL_c (n := 1823) (n2 := 1824) rfl (ru_lald hx hb hK dL_law_1823) ?_
  refine ruL_c (n := 1824) (n2 := 1825) rfl (ru_iload hx hb dL_law_1824) ?_
  refine ruL_c (n := 1825) (n2 := 1826) rfl (ru_bot) ?_
  refine ruL_c (n := 1826) (n2 := 1827) rfl (ru_i2l hx hb dL_law_1826) ?_
  refine ruL_c (n := 1827) (n2 := 1828) rfl (ru_lcmp hx hb dL_law_1827) ?_
  refine ruL_c (n := 1828) (n2 := 1829) rfl (ru_ifeq hx hb dL_law_1828 (by decide)) ?_
  refine ruL_c (n := 1829) (n2 := 1830) rfl (ru_bot) ?_
  refine ruL_c (n := 1830) (n2 := 1831) rfl (ru_bot) ?_
  refine ruL_c (n := 1831) (n2 := 1832) rfl (ru_iconst hx hb dL_law_1831 rfl) ?_
  refine ruL_c (n := 1832) (n2 := 1833) rfl (ru_lret hx hb hr hlocks hA9 dL_law_1832 hcell hslot) ?_
  refine ruL_c (n := 1833) (n2 := 1834) rfl (ru_goto hx hb dL_law_1833 (by decide)) ?_
  refine ruL_c (n := 1834) (n2 := 1835) rfl (ru_bot) ?_
  refine ruL_c (n := 1835) (n2 := 1836) rfl (ru_bot) ?_
  exact trivial
set_option maxHeartbeats 8000000 in
set_option maxRecDepth 100000 in
theorem k_law26 {CP : aM → Prop} {N : Nat} {xs : Nat → Int32} {K : Nat → aS → Prop} (hw : ∀ c, c ≤ 8000 → ∀ n x, wpB 1756 (T_law26 (fun d => K (c + d)) N xs) n (K c) x → K c x) (hf : ∀ c pc L i st σ, K c (pc, L.set i .null, st, σ) → K c (pc, L, st, σ)) (ag : ∀ p0 p1 p2 : Int32, agW CP (f_L_light p0 p1 p2) (f_X6_light p0 p1 p2)) (c i : Nat) (hc : c ≤ 7900) (g1 : inb (nI i + 1) N = true) (g2 : inb (nI i + 2) N = true) (g3 : inb (nI i + 3) N = true) (g4 : inb (nI i + 4) N = true) (σ : aM) (hCP : CP σ)
    (hback : ∀ c2 σ2, c2 ≤ c + 12 → CP σ2 → K c2 (2234, [.ref 200, .ref 0, .ref 6, .ref 178, .int (nI i), .null, .null], [], σ2)) : K c (1756, [.ref 200, .ref 0, .ref 6, .ref 178, .int (nI i), .null, .null], [], σ) := by
  obtain ⟨k1, σ1, b1, σ2, e1, e2, e3, e4, hcp⟩ := ag (xs (ix (nI i + 1))) (xs (ix (nI i + 2))) (xs (ix (nI i + 3))) σ hCP
  refine hw c (by omega) 18 _ ?_
  show inb (nI i + 1) N = true ∧ (inb (nI i + 2) N = true ∧ (inb (nI i + 3) N = true ∧ (∃ k1 σ1, f_L_light (xs (ix (nI i + 1))) (xs (ix (nI i + 2))) (xs (ix (nI i + 3))) σ = some (k1, σ1) ∧ K (c + 8) (1779, [.ref 200, .ref 0, .ref 6, .ref 178, .int (nI i), .null, .null], [.int k1], σ1))))
  refine ⟨g1, g2, g3, ⟨k1, σ1, e1, ?_⟩⟩
  refine hw (c + 8) (by omega) 18 _ ?_
  show inb (nI i + 1) N = true ∧ (inb (nI i + 2) N = true ∧ (inb (nI i + 3) N = true ∧ (∃ b1 σ2, f_X6_light (xs (ix (nI i + 1))) (xs (ix (nI i + 2))) (xs (ix (nI i + 3))) σ1 = some (b1, σ2) ∧ K (c + 8) (1803, [.ref 200, .ref 0, .ref 6, .ref 178, .int (nI i), .int k1, .null], [.int b1], σ2))))
  refine ⟨g1, g2, g3, ⟨b1, σ2, e2, ?_⟩⟩
  refine hw (c + 8) (by omega) 3 _ ?_
  show ∃ r3 σ3, f_X6_thrown σ2 = some (r3, σ3) ∧ K (c + 8) (1809, [.ref 200, .ref 0, .ref 6, .ref 178, .int (nI i), .int k1, .int b1], [.int r3], σ3)
  refine ⟨σ2 6 0, σ2, rfl, ?_⟩
  refine hw (c + 8) (by omega) 2 _ ?_
  show (((σ2 6 0) = k1) → K (c + 8) (1816, [.ref 200, .ref 0, .ref 6, .ref 178, .int (nI i), .int k1, .int b1], [], σ2)) ∧ (¬ ((σ2 6 0) = k1) → K (c + 8) (1814, [.ref 200, .ref 0, .ref 6, .ref 178, .int (nI i), .int k1, .int b1], [], σ2))
  refine ⟨fun _ => ?_, fun q => absurd e3 q⟩
  by_cases hk : k1 = 0
  · have hz : σ2 178 (ix 0) = b1 := e4 hk
    refine hw (c + 8) (by omega) 2 _ ?_
    show ((¬ k1 = 0) → K (c + 8) (1833, [.ref 200, .ref 0, .ref 6, .ref 178, .int (nI i), .int k1, .int b1], [], σ2)) ∧ (¬ (¬ k1 = 0) → K (c + 8) (1821, [.ref 200, .ref 0, .ref 6, .ref 178, .int (nI i), .int k1, .int b1], [], σ2))
    refine ⟨fun q => absurd hk q, fun _ => ?_⟩
    refine hw (c + 8) (by omega) 7 _ ?_
    show kd 178 = 4 ∧ (inb 0 1 = true ∧ ((((lg_cmp (σ2 178 (ix 0)).toInt64 b1.toInt64) = 0) → K (c + 8) (1833, [.ref 200, .ref 0, .ref 6, .ref 178, .int (nI i), .int k1, .int b1], [], σ2)) ∧ (¬ ((lg_cmp (σ2 178 (ix 0)).toInt64 b1.toInt64) = 0) → K (c + 8) (1831, [.ref 200, .ref 0, .ref 6, .ref 178, .int (nI i), .int k1, .int b1], [], σ2))))
    refine ⟨rfl, by decide, ⟨fun _ => ?_, fun q => absurd (by rw [hz]; exact lcmp_eq _) q⟩⟩
    refine hw (c + 8) (by omega) 1 _ ?_
    show K (c + 8) (2234, [.ref 200, .ref 0, .ref 6, .ref 178, .int (nI i), .int k1, .int b1], [], σ2)
    refine hf _ _ _ 5 _ _ ?_
    show K (c + 8) (2234, [.ref 200, .ref 0, .ref 6, .ref 178, .int (nI i), .null, .int b1], [], σ2)
    refine hf _ _ _ 6 _ _ ?_
    show K (c + 8) (2234, [.ref 200, .ref 0, .ref 6, .ref 178, .int (nI i), .null, .null], [], σ2)
    exact hback _ _ (by omega) hcp
  · refine hw (c + 8) (by omega) 2 _ ?_
    show ((¬ k1 = 0) → K (c + 8) (1833, [.ref 200, .ref 0, .ref 6, .ref 178, .int (nI i), .int k1, .int b1], [], σ2)) ∧ (¬ (¬ k1 = 0) → K (c + 8) (1821, [.ref 200, .ref 0, .ref 6, .ref 178, .int (nI i), .int k1, .int b1], [], σ2))
    refine ⟨fun _ => ?_, fun q => absurd hk q⟩
    refine hw (c + 8) (by omega) 1 _ ?_
    show K (c + 8) (2234, [.ref 200, .ref 0, .ref 6, .ref 178, .int (nI i), .int k1, .int b1], [], σ2)
    refine hf _ _ _ 5 _ _ ?_
    show K (c + 8) (2234, [.ref 200, .ref 0, .ref 6, .ref 178, .int (nI i), .null, .int b1], [], σ2)
    refine hf _ _ _ 6 _ _ ?_
    show K (c + 8) (2234, [.ref 200, .ref 0, .ref 6, .ref 178, .int (nI i), .null, .null], [], σ2)
    exact hback _ _ (by omega) hcp
