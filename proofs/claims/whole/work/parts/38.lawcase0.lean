def T_law0 (KN : Nat → aS → Prop) (N : Nat) (xs : Nat → Int32) : List aI := [I_aload 1 1, I_aload 0 1, I_iload 4 2, I_bot, I_const 1 1, I_bin fun x y => x + y, I_sld N xs, I_aload 3 1, I_callW 3 F_L_addLine (KN 6), I_bot, I_bot, I_istore 5 2, I_bot, I_aload 2 1, I_aload 0 1, I_iload 4 2, I_bot, I_const 1 1, I_bin fun x y => x + y, I_sld N xs, I_callV 6 1 F_X6_addLine, I_bot, I_bot, I_istore 6 2, I_bot, I_aload 2 1, I_callV 6 0 F_X6_thrown, I_bot, I_bot, I_iload 5 2, I_bot, I_icmp (fun x y => x = y) 228, I_bot, I_bot, I_const 0 1, I_lret, I_iload 5 2, I_bot, I_if (fun x => ¬ x = 0) 245, I_bot, I_bot, I_aload 3 1, I_const 0 1, I_lald, I_iload 6 2, I_bot, I_i2l, I_lcmp, I_if (fun x => x = 0) 245, I_bot, I_bot, I_const 0 1, I_lret, I_goto 2234, I_bot, I_bot]
set_option maxHeartbeats 8000000 in
set_option maxRecDepth 100000 in
theorem r_law0 {p : Program} {l : Launch} {e : Env} {s : State} {m : MethodId} {below : List Frame} {meth : Method} {c : Code} {D : va_G} {cI cZ cA cL : ClassId} {ad sa : Nat → Nat} {b N : Nat} {xs : Nat → Int32} (Z : LCX p l e s m meth c b N xs D cI cZ cA cL ad sa) (cells slots : Nat) (hcell : cells + 20 ≤ 601024) (hslot : slots + 120 ≤ 7293034) :
    ruL (Ru p l e room_1 s m #[Value.ref b] below meth c cells slots (lw_Z below #[Value.ref b] s) 7 D cI cZ cA cL ad (AA ad s.heap.size) s.heap) 192 (T_law0 (fun d => WS p l e room_1 s m #[Value.ref b] below meth c (cells + d) (slots + 6 * d) (lw_Z below #[Value.ref b] s) 7 D cI cZ cA cL ad (AA ad s.heap.size) s.heap) N xs) := by
  obtain ⟨hx, hb, hml, hown, hts, hr, hlocks, hK, hN, hX, hC, hXs, hbl, hbA, had, hi, hlt, hA9⟩ := Z
  refine ruL_c (n := 192) (n2 := 193) rfl (ru_aload_n (k := 1) hx hb dL_law_192) ?_
  refine ruL_c (n := 193) (n2 := 194) rfl (ru_aload_n (k := 0) hx hb dL_law_193) ?_
  refine ruL_c (n := 194) (n2 := 195) rfl (ru_iload hx hb dL_law_194) ?_
  refine ruL_c (n := 195) (n2 := 196) rfl (ru_bot) ?_
  refine ruL_c (n := 196) (n2 := 197) rfl (ru_iconst hx hb dL_law_196 rfl) ?_
  refine ruL_c (n := 197) (n2 := 198) rfl (ru_iadd hx hb dL_law_197) ?_
  refine ruL_c (n := 198) (n2 := 199) rfl (ru_sld hx hb hXs hbl hbA had dL_law_198) ?_
  refine ruL_c (n := 199) (n2 := 200) rfl (ru_aload_n (k := 3) hx hb dL_law_199) ?_
  refine ruL_c (n := 200) (n2 := 201) rfl (ru_callW (own := RL) hx hb hml hown hts hK hN hX hC (c_L_addLine l hlt D cI cZ cA cL ad sa hi) (vx_cwSW 3 hts gL_law_L_addLine rfl rfl rfl (by decide +kernel) ⟨Nat.le_of_ble_eq_true rfl, Nat.le_of_ble_eq_true rfl⟩) dL_law_200 ⟨Nat.le_trans (Nat.add_le_add_left (by decide) _) hcell, Nat.le_trans (Nat.add_le_add_left (by decide) _) hslot⟩) ?_
  refine ruL_c (n := 201) (n2 := 202) rfl (ru_bot) ?_
  refine ruL_c (n := 202) (n2 := 203) rfl (ru_bot) ?_
  refine ruL_c (n := 203) (n2 := 204) rfl (ru_istore hx hb dL_law_203) ?_
  refine ruL_c (n := 204) (n2 := 205) rfl (ru_bot) ?_
  refine ruL_c (n := 205) (n2 := 206) rfl (ru_aload_n (k := 2) hx hb dL_law_205) ?_
  refine ruL_c (n := 206) (n2 := 207) rfl (ru_aload_n (k := 0) hx hb dL_law_206) ?_
  refine ruL_c (n := 207) (n2 := 208) rfl (ru_iload hx hb dL_law_207) ?_
  refine ruL_c (n := 208) (n2 := 209) rfl (ru_bot) ?_
  refine ruL_c (n := 209) (n2 := 210) rfl (ru_iconst hx hb dL_law_209 rfl) ?_
  refine ruL_c (n := 210) (n2 := 211) rfl (ru_iadd hx hb dL_law_210) ?_
  refine ruL_c (n := 211) (n2 := 212) rfl (ru_sld hx hb hXs hbl hbA had dL_law_211) ?_
  refine ruL_c (n := 212) (n2 := 213) rfl (ru_callV (own := RL) hx hb hml hown hts hK hN (by decide) rfl (c_X6_addLine l D cI cZ cA cL ad hi) (cwV 1 hts gL_law_X6_addLine rfl rfl rfl (by decide +kernel) ⟨Nat.le_of_ble_eq_true rfl, Nat.le_of_ble_eq_true rfl⟩) dL_law_212 ⟨Nat.le_trans (Nat.le_add_right _ 20) hcell, Nat.le_trans (Nat.le_add_right _ 120) hslot⟩) ?_
  refine ruL_c (n := 213) (n2 := 214) rfl (ru_bot) ?_
  refine ruL_c (n := 214) (n2 := 215) rfl (ru_bot) ?_
  refine ruL_c (n := 215) (n2 := 216) rfl (ru_istore hx hb dL_law_215) ?_
  refine ruL_c (n := 216) (n2 := 217) rfl (ru_bot) ?_
  refine ruL_c (n := 217) (n2 := 218) rfl (ru_aload_n (k := 2) hx hb dL_law_217) ?_
  refine ruL_c (n := 218) (n2 := 219) rfl (ru_callV (own := RL) hx hb hml hown hts hK hN (by decide) rfl (c_X6_thrown l D cI cZ cA cL ad hi) (cwV 0 hts gL_law_X6_thrown rfl rfl rfl (by decide +kernel) ⟨Nat.le_of_ble_eq_true rfl, Nat.le_of_ble_eq_true rfl⟩) dL_law_218 ⟨Nat.le_trans (Nat.le_add_right _ 20) hcell, Nat.le_trans (Nat.le_add_right _ 120) hslot⟩) ?_
  refine ruL_c (n := 219) (n2 := 220) rfl (ru_bot) ?_
  refine ruL_c (n := 220) (n2 := 221) rfl (ru_bot) ?_
  refine ruL_c (n := 221) (n2 := 222) rfl (ru_iload hx hb dL_law_221) ?_
  refine ruL_c (n := 222) (n2 := 223) rfl (ru_bot) ?_
  refine ruL_c (n := 223) (n2 := 224) rfl (ru_icmpeq hx hb dL_law_223 (by decide)) ?_
  refine ruL_c (n := 224) (n2 := 225) rfl (ru_bot) ?_
  refine ruL_c (n := 225) (n2 := 226) rfl (ru_bot) ?_
  refine ruL_c (n := 226) (n2 := 227) rfl (ru_iconst hx hb dL_law_226 rfl) ?_
  refine ruL_c (n := 227) (n2 := 228) rfl (ru_lret hx hb hr hlocks hA9 dL_law_227 hcell hslot) ?_
  refine ruL_c (n := 228) (n2 := 229) rfl (ru_iload hx hb dL_law_228) ?_
  refine ruL_c (n := 229) (n2 := 230) rfl (ru_bot) ?_
  refine ruL_c (n := 230) (n2 := 231) rfl (ru_ifne hx hb dL_law_230 (by decide)) ?_
  refine ruL_c (n := 231) (n2 := 232) rfl (ru_bot) ?_
  refine ruL_c (n := 232) (n2 := 233) rfl (ru_bot) ?_
  refine ruL_c (n := 233) (n2 := 234) rfl (ru_aload_n (k := 3) hx hb dL_law_233) ?_
  refine ruL_c (n := 234) (n2 := 235) rfl (ru_iconst hx hb dL_law_234 rfl) ?_
  refine ruL_c (n := 235) (n2 := 236) rfl (ru_lald hx hb hK dL_law_235) ?_
  refine ruL_c (n := 236) (n2 := 237) rfl (ru_iload hx hb dL_law_236) ?_
  refine ruL_c (n := 237) (n2 := 238) rfl (ru_bot) ?_
  refine ruL_c (n := 238) (n2 := 239) rfl (ru_i2l hx hb dL_law_238) ?_
  refine ruL_c (n := 239) (n2 := 240) rfl (ru_lcmp hx hb dL_law_239) ?_
  refine ruL_c (n := 240) (n2 := 241) rfl (ru_ifeq hx hb dL_law_240 (by decide)) ?_
  refine ruL_c (n := 241) (n2 := 242) rfl (ru_bot) ?_
  refine ruL_c (n := 242) (n2 := 243) rfl (ru_bot) ?_
  refine ruL_c (n := 243) (n2 := 244) rfl (ru_iconst hx hb dL_law_243 rfl) ?_
  refine ruL_c (n := 244) (n2 := 245) rfl (ru_lret hx hb hr hlocks hA9 dL_law_244 hcell hslot) ?_
  refine ruL_c (n := 245) (n2 := 246) rfl (ru_goto hx hb dL_law_245 (by decide)) ?_
  refine ruL_c (n := 246) (n2 := 247) rfl (ru_bot) ?_
  refine ruL_c (n := 247) (n2 := 248) rfl (ru_bot) ?_
  exact trivial
set_option maxHeartbeats 8000000 in
set_option maxRecDepth 100000 in
theorem k_law0 {CP : aM → Prop} {N : Nat} {xs : Nat → Int32} {K : Nat → aS → Prop} (hw : ∀ c, c ≤ 8000 → ∀ n x, wpB 192 (T_law0 (fun d => K (c + d)) N xs) n (K c) x → K c x) (hf : ∀ c pc L i st σ, K c (pc, L.set i .null, st, σ) → K c (pc, L, st, σ)) (ag : ∀ p0 : Int32, agW CP (f_L_addLine p0) (f_X6_addLine p0)) (c i : Nat) (hc : c ≤ 7900) (g1 : inb (nI i + 1) N = true) (g2 : inb (nI i + 2) N = true) (g3 : inb (nI i + 3) N = true) (g4 : inb (nI i + 4) N = true) (σ : aM) (hCP : CP σ)
    (hback : ∀ c2 σ2, c2 ≤ c + 12 → CP σ2 → K c2 (2234, [.ref 200, .ref 0, .ref 6, .ref 178, .int (nI i), .null, .null], [], σ2)) : K c (192, [.ref 200, .ref 0, .ref 6, .ref 178, .int (nI i), .null, .null], [], σ) := by
  obtain ⟨k1, σ1, b1, σ2, e1, e2, e3, e4, hcp⟩ := ag (xs (ix (nI i + 1))) σ hCP
  refine hw c (by omega) 8 _ ?_
  show inb (nI i + 1) N = true ∧ (∃ k1 σ1, f_L_addLine (xs (ix (nI i + 1))) σ = some (k1, σ1) ∧ K (c + 6) (203, [.ref 200, .ref 0, .ref 6, .ref 178, .int (nI i), .null, .null], [.int k1], σ1))
  refine ⟨g1, ⟨k1, σ1, e1, ?_⟩⟩
  refine hw (c + 6) (by omega) 8 _ ?_
  show inb (nI i + 1) N = true ∧ (∃ b1 σ2, f_X6_addLine (xs (ix (nI i + 1))) σ1 = some (b1, σ2) ∧ K (c + 6) (215, [.ref 200, .ref 0, .ref 6, .ref 178, .int (nI i), .int k1, .null], [.int b1], σ2))
  refine ⟨g1, ⟨b1, σ2, e2, ?_⟩⟩
  refine hw (c + 6) (by omega) 3 _ ?_
  show ∃ r3 σ3, f_X6_thrown σ2 = some (r3, σ3) ∧ K (c + 6) (221, [.ref 200, .ref 0, .ref 6, .ref 178, .int (nI i), .int k1, .int b1], [.int r3], σ3)
  refine ⟨σ2 6 0, σ2, rfl, ?_⟩
  refine hw (c + 6) (by omega) 2 _ ?_
  show (((σ2 6 0) = k1) → K (c + 6) (228, [.ref 200, .ref 0, .ref 6, .ref 178, .int (nI i), .int k1, .int b1], [], σ2)) ∧ (¬ ((σ2 6 0) = k1) → K (c + 6) (226, [.ref 200, .ref 0, .ref 6, .ref 178, .int (nI i), .int k1, .int b1], [], σ2))
  refine ⟨fun _ => ?_, fun q => absurd e3 q⟩
  by_cases hk : k1 = 0
  · have hz : σ2 178 (ix 0) = b1 := e4 hk
    refine hw (c + 6) (by omega) 2 _ ?_
    show ((¬ k1 = 0) → K (c + 6) (245, [.ref 200, .ref 0, .ref 6, .ref 178, .int (nI i), .int k1, .int b1], [], σ2)) ∧ (¬ (¬ k1 = 0) → K (c + 6) (233, [.ref 200, .ref 0, .ref 6, .ref 178, .int (nI i), .int k1, .int b1], [], σ2))
    refine ⟨fun q => absurd hk q, fun _ => ?_⟩
    refine hw (c + 6) (by omega) 7 _ ?_
    show kd 178 = 4 ∧ (inb 0 1 = true ∧ ((((lg_cmp (σ2 178 (ix 0)).toInt64 b1.toInt64) = 0) → K (c + 6) (245, [.ref 200, .ref 0, .ref 6, .ref 178, .int (nI i), .int k1, .int b1], [], σ2)) ∧ (¬ ((lg_cmp (σ2 178 (ix 0)).toInt64 b1.toInt64) = 0) → K (c + 6) (243, [.ref 200, .ref 0, .ref 6, .ref 178, .int (nI i), .int k1, .int b1], [], σ2))))
    refine ⟨rfl, by decide, ⟨fun _ => ?_, fun q => absurd (by rw [hz]; exact lcmp_eq _) q⟩⟩
    refine hw (c + 6) (by omega) 1 _ ?_
    show K (c + 6) (2234, [.ref 200, .ref 0, .ref 6, .ref 178, .int (nI i), .int k1, .int b1], [], σ2)
    refine hf _ _ _ 5 _ _ ?_
    show K (c + 6) (2234, [.ref 200, .ref 0, .ref 6, .ref 178, .int (nI i), .null, .int b1], [], σ2)
    refine hf _ _ _ 6 _ _ ?_
    show K (c + 6) (2234, [.ref 200, .ref 0, .ref 6, .ref 178, .int (nI i), .null, .null], [], σ2)
    exact hback _ _ (by omega) hcp
  · refine hw (c + 6) (by omega) 2 _ ?_
    show ((¬ k1 = 0) → K (c + 6) (245, [.ref 200, .ref 0, .ref 6, .ref 178, .int (nI i), .int k1, .int b1], [], σ2)) ∧ (¬ (¬ k1 = 0) → K (c + 6) (233, [.ref 200, .ref 0, .ref 6, .ref 178, .int (nI i), .int k1, .int b1], [], σ2))
    refine ⟨fun _ => ?_, fun q => absurd hk q⟩
    refine hw (c + 6) (by omega) 1 _ ?_
    show K (c + 6) (2234, [.ref 200, .ref 0, .ref 6, .ref 178, .int (nI i), .int k1, .int b1], [], σ2)
    refine hf _ _ _ 5 _ _ ?_
    show K (c + 6) (2234, [.ref 200, .ref 0, .ref 6, .ref 178, .int (nI i), .null, .int b1], [], σ2)
    refine hf _ _ _ 6 _ _ ?_
    show K (c + 6) (2234, [.ref 200, .ref 0, .ref 6, .ref 178, .int (nI i), .null, .null], [], σ2)
    exact hback _ _ (by omega) hcp
def T_law1 (KN : Nat → aS → Prop) (N : Nat) (xs : Nat → Int32) : List aI := [I_aload 1 1, I_aload 0 1, I_iload 4 2, I_bot, I_const 1 1, I_bin fun x y => x + y, I_sld N xs, I_aload 0 1, I_iload 4 2, I_bot, I_const 2 1, I_bin fun x y => x + y, I_sld N xs, I_aload 0 1, I_iload 4 2, I_bot, I_const 3 1, I_bin fun x y => x + y, I_sld N xs, I_aload 3 1, I_callW 5 F_L_need (KN 8), I_bot, I_bot, I_istore 5 2, I_bot, I_aload 2 1, I_aload 0 1, I_iload 4 2, I_bot, I_const 1 1, I_bin fun x y => x + y, I_sld N xs, I_aload 0 1, I_iload 4 2, I_bot, I_const 2 1, I_bin fun x y => x + y, I_sld N xs, I_aload 0 1, I_iload 4 2, I_bot, I_const 3 1, I_bin fun x y => x + y, I_sld N xs, I_callV 6 3 F_X6_need, I_bot, I_bot, I_istore 6 2, I_bot, I_aload 2 1, I_callV 6 0 F_X6_thrown, I_bot, I_bot, I_iload 5 2, I_bot, I_icmp (fun x y => x = y) 308, I_bot, I_bot, I_const 0 1, I_lret, I_iload 5 2, I_bot, I_if (fun x => ¬ x = 0) 325, I_bot, I_bot, I_aload 3 1, I_const 0 1, I_lald, I_iload 6 2, I_bot, I_i2l, I_lcmp, I_if (fun x => x = 0) 325, I_bot, I_bot, I_const 0 1, I_lret, I_goto 2234, I_bot, I_bot]
set_option maxHeartbeats 8000000 in
set_option maxRecDepth 100000 in
theorem r_law1 {p : Program} {l : Launch} {e : Env} {s : State} {m : MethodId} {below : List Frame} {meth : Method} {c : Code} {D : va_G} {cI cZ cA cL : ClassId} {ad sa : Nat → Nat} {b N : Nat} {xs : Nat → Int32} (Z : LCX p l e s m meth c b N xs D cI cZ cA cL ad sa) (cells slots : Nat) (hcell : cells + 20 ≤ 601024) (hslot : slots + 120 ≤ 7293034) :
    ruL (Ru p l e room_1 s m #[Value.ref b] below meth c cells slots (lw_Z below #[Value.ref b] s) 7 D cI cZ cA cL ad (AA ad s.heap.size) s.heap) 248 (T_law1 (fun d => WS p l e room_1 s m #[Value.ref b] below meth c (cells + d) (slots + 6 * d) (lw_Z below #[Value.ref b] s) 7 D cI cZ cA cL ad (AA ad s.heap.size) s.heap) N xs) := by
  obtain ⟨hx, hb, hml, hown, hts, hr, hlocks, hK, hN, hX, hC, hXs, hbl, hbA, had, hi, hlt, hA9⟩ := Z
  refine ruL_c (n := 248) (n2 := 249) rfl (ru_aload_n (k := 1) hx hb dL_law_248) ?_
  refine ruL_c (n := 249) (n2 := 250) rfl (ru_aload_n (k := 0) hx hb dL_law_249) ?_
  refine ruL_c (n := 250) (n2 := 251) rfl (ru_iload hx hb dL_law_250) ?_
  refine ruL_c (n := 251) (n2 := 252) rfl (ru_bot) ?_
  refine ruL_c (n := 252) (n2 := 253) rfl (ru_iconst hx hb dL_law_252 rfl) ?_
  refine ruL_c (n := 253) (n2 := 254) rfl (ru_iadd hx hb dL_law_253) ?_
  refine ruL_c (n := 254) (n2 := 255) rfl (ru_sld hx hb hXs hbl hbA had dL_law_254) ?_
  refine ruL_c (n := 255) (n2 := 256) rfl (ru_aload_n (k := 0) hx hb dL_law_255) ?_
  refine ruL_c (n := 256) (n2 := 257) rfl (ru_iload hx hb dL_law_256) ?_
  refine ruL_c (n := 257) (n2 := 258) rfl (ru_bot) ?_
  refine ruL_c (n := 258) (n2 := 259) rfl (ru_iconst hx hb dL_law_258 rfl) ?_
  refine ruL_c (n := 259) (n2 := 260) rfl (ru_iadd hx hb dL_law_259) ?_
  refine ruL_c (n := 260) (n2 := 261) rfl (ru_sld hx hb hXs hbl hbA had dL_law_260) ?_
  refine ruL_c (n := 261) (n2 := 262) rfl (ru_aload_n (k := 0) hx hb dL_law_261) ?_
  refine ruL_c (n := 262) (n2 := 263) rfl (ru_iload hx hb dL_law_262) ?_
  refine ruL_c (n := 263) (n2 := 264) rfl (ru_bot) ?_
  refine ruL_c (n := 264) (n2 := 265) rfl (ru_iconst hx hb dL_law_264 rfl) ?_
  refine ruL_c (n := 265) (n2 := 266) rfl (ru_iadd hx hb dL_law_265) ?_
  refine ruL_c (n := 266) (n2 := 267) rfl (ru_sld hx hb hXs hbl hbA had dL_law_266) ?_
  refine ruL_c (n := 267) (n2 := 268) rfl (ru_aload_n (k := 3) hx hb dL_law_267) ?_
  refine ruL_c (n := 268) (n2 := 269) rfl (ru_callW (own := RL) hx hb hml hown hts hK hN hX hC (c_L_need l hlt D cI cZ cA cL ad sa hi) (vx_cwSW 5 hts gL_law_L_need rfl rfl rfl (by decide +kernel) ⟨Nat.le_of_ble_eq_true rfl, Nat.le_of_ble_eq_true rfl⟩) dL_law_268 ⟨Nat.le_trans (Nat.add_le_add_left (by decide) _) hcell, Nat.le_trans (Nat.add_le_add_left (by decide) _) hslot⟩) ?_
  refine ruL_c (n := 269) (n2 := 270) rfl (ru_bot) ?_
  refine ruL_c (n := 270) (n2 := 271) rfl (ru_bot) ?_
  refine ruL_c (n := 271) (n2 := 272) rfl (ru_istore hx hb dL_law_271) ?_
  refine ruL_c (n := 272) (n2 := 273) rfl (ru_bot) ?_
  refine ruL_c (n := 273) (n2 := 274) rfl (ru_aload_n (k := 2) hx hb dL_law_273) ?_
  refine ruL_c (n := 274) (n2 := 275) rfl (ru_aload_n (k := 0) hx hb dL_law_274) ?_
  refine ruL_c (n := 275) (n2 := 276) rfl (ru_iload hx hb dL_law_275) ?_
  refine ruL_c (n := 276) (n2 := 277) rfl (ru_bot) ?_
  refine ruL_c (n := 277) (n2 := 278) rfl (ru_iconst hx hb dL_law_277 rfl) ?_
  refine ruL_c (n := 278) (n2 := 279) rfl (ru_iadd hx hb dL_law_278) ?_
  refine ruL_c (n := 279) (n2 := 280) rfl (ru_sld hx hb hXs hbl hbA had dL_law_279) ?_
  refine ruL_c (n := 280) (n2 := 281) rfl (ru_aload_n (k := 0) hx hb dL_law_280) ?_
  refine ruL_c (n := 281) (n2 := 282) rfl (ru_iload hx hb dL_law_281) ?_
  refine ruL_c (n := 282) (n2 := 283) rfl (ru_bot) ?_
  refine ruL_c (n := 283) (n2 := 284) rfl (ru_iconst hx hb dL_law_283 rfl) ?_
  refine ruL_c (n := 284) (n2 := 285) rfl (ru_iadd hx hb dL_law_284) ?_
  refine ruL_c (n := 285) (n2 := 286) rfl (ru_sld hx hb hXs hbl hbA had dL_law_285) ?_
  refine ruL_c (n := 286) (n2 := 287) rfl (ru_aload_n (k := 0) hx hb dL_law_286) ?_
  refine ruL_c (n := 287) (n2 := 288) rfl (ru_iload hx hb dL_law_287) ?_
  refine ruL_c (n := 288) (n2 := 289) rfl (ru_bot) ?_
  refine ruL_c (n := 289) (n2 := 290) rfl (ru_iconst hx hb dL_law_289 rfl) ?_
  refine ruL_c (n := 290) (n2 := 291) rfl (ru_iadd hx hb dL_law_290) ?_
  refine ruL_c (n := 291) (n2 := 292) rfl (ru_sld hx hb hXs hbl hbA had dL_law_291) ?_
  refine ruL_c (n := 292) (n2 := 293) rfl (ru_callV (own := RL) hx hb hml hown hts hK hN (by decide) rfl (c_X6_need l D cI cZ cA cL ad hi) (cwV 3 hts gL_law_X6_need rfl rfl rfl (by decide +kernel) ⟨Nat.le_of_ble_eq_true rfl, Nat.le_of_ble_eq_true rfl⟩) dL_law_292 ⟨Nat.le_trans (Nat.le_add_right _ 20) hcell, Nat.le_trans (Nat.le_add_right _ 120) hslot⟩) ?_
  refine ruL_c (n := 293) (n2 := 294) rfl (ru_bot) ?_
  refine ruL_c (n := 294) (n2 := 295) rfl (ru_bot) ?_
  refine ruL_c (n := 295) (n2 := 296) rfl (ru_istore hx hb dL_law_295) ?_
  refine ruL_c (n := 296) (n2 := 297) rfl (ru_bot) ?_
  refine ruL_c (n := 297) (n2 := 298) rfl (ru_aload_n (k := 2) hx hb dL_law_297) ?_
  refine ruL_c (n := 298) (n2 := 299) rfl (ru_callV (own := RL) hx hb hml hown hts hK hN (by decide) rfl (c_X6_thrown l D cI cZ cA cL ad hi) (cwV 0 hts gL_law_X6_thrown rfl rfl rfl (by decide +kernel) ⟨Nat.le_of_ble_eq_true rfl, Nat.le_of_ble_eq_true rfl⟩) dL_law_298 ⟨Nat.le_trans (Nat.le_add_right _ 20) hcell, Nat.le_trans (Nat.le_add_right _ 120) hslot⟩) ?_
  refine ruL_c (n := 299) (n2 := 300) rfl (ru_bot) ?_
  refine ruL_c (n := 300) (n2 := 301) rfl (ru_bot) ?_
  refine ruL_c (n := 301) (n2 := 302) rfl (ru_iload hx hb dL_law_301) ?_
  refine ruL_c (n := 302) (n2 := 303) rfl (ru_bot) ?_
  refine ruL_c (n := 303) (n2 := 304) rfl (ru_icmpeq hx hb dL_law_303 (by decide)) ?_
  refine ruL_c (n := 304) (n2 := 305) rfl (ru_bot) ?_
  refine ruL_c (n := 305) (n2 := 306) rfl (ru_bot) ?_
  refine ruL_c (n := 306) (n2 := 307) rfl (ru_iconst hx hb dL_law_306 rfl) ?_
  refine ruL_c (n := 307) (n2 := 308) rfl (ru_lret hx hb hr hlocks hA9 dL_law_307 hcell hslot) ?_
  refine ruL_c (n := 308) (n2 := 309) rfl (ru_iload hx hb dL_law_308) ?_
  refine ruL_c (n := 309) (n2 := 310) rfl (ru_bot) ?_
  refine ruL_c (n := 310) (n2 := 311) rfl (ru_ifne hx hb dL_law_310 (by decide)) ?_
  refine ruL_c (n := 311) (n2 := 312) rfl (ru_bot) ?_
  refine ruL_c (n := 312) (n2 := 313) rfl (ru_bot) ?_
  refine ruL_c (n := 313) (n2 := 314) rfl (ru_aload_n (k := 3) hx hb dL_law_313) ?_
  refine ruL_c (n := 314) (n2 := 315) rfl (ru_iconst hx hb dL_law_314 rfl) ?_
  refine ruL_c (n := 315) (n2 := 316) rfl (ru_lald hx hb hK dL_law_315) ?_
  refine ruL_c (n := 316) (n2 := 317) rfl (ru_iload hx hb dL_law_316) ?_
  refine ruL_c (n := 317) (n2 := 318) rfl (ru_bot) ?_
  refine ruL_c (n := 318) (n2 := 319) rfl (ru_i2l hx hb dL_law_318) ?_
  refine ruL_c (n := 319) (n2 := 320) rfl (ru_lcmp hx hb dL_law_319) ?_
  refine ruL_c (n := 320) (n2 := 321) rfl (ru_ifeq hx hb dL_law_320 (by decide)) ?_
  refine ruL_c (n := 321) (n2 := 322) rfl (ru_bot) ?_
  refine ruL_c (n := 322) (n2 := 323) rfl (ru_bot) ?_
  refine ruL_c (n := 323) (n2 := 324) rfl (ru_iconst hx hb dL_law_323 rfl) ?_
  refine ruL_c (n := 324) (n2 := 325) rfl (ru_lret hx hb hr hlocks hA9 dL_law_324 hcell hslot) ?_
  refine ruL_c (n := 325) (n2 := 326) rfl (ru_goto hx hb dL_law_325 (by decide)) ?_
  refine ruL_c (n := 326) (n2 := 327) rfl (ru_bot) ?_
  refine ruL_c (n := 327) (n2 := 328) rfl (ru_bot) ?_
  exact trivial
set_option maxHeartbeats 8000000 in
set_option maxRecDepth 100000 in
theorem k_law1 {CP : aM → Prop} {N : Nat} {xs : Nat → Int32} {K : Nat → aS → Prop} (hw : ∀ c, c ≤ 8000 → ∀ n x, wpB 248 (T_law1 (fun d => K (c + d)) N xs) n (K c) x → K c x) (hf : ∀ c pc L i st σ, K c (pc, L.set i .null, st, σ) → K c (pc, L, st, σ)) (ag : ∀ p0 p1 p2 : Int32, agW CP (f_L_need p0 p1 p2) (f_X6_need p0 p1 p2)) (c i : Nat) (hc : c ≤ 7900) (g1 : inb (nI i + 1) N = true) (g2 : inb (nI i + 2) N = true) (g3 : inb (nI i + 3) N = true) (g4 : inb (nI i + 4) N = true) (σ : aM) (hCP : CP σ)
    (hback : ∀ c2 σ2, c2 ≤ c + 12 → CP σ2 → K c2 (2234, [.ref 200, .ref 0, .ref 6, .ref 178, .int (nI i), .null, .null], [], σ2)) : K c (248, [.ref 200, .ref 0, .ref 6, .ref 178, .int (nI i), .null, .null], [], σ) := by
  obtain ⟨k1, σ1, b1, σ2, e1, e2, e3, e4, hcp⟩ := ag (xs (ix (nI i + 1))) (xs (ix (nI i + 2))) (xs (ix (nI i + 3))) σ hCP
  refine hw c (by omega) 18 _ ?_
  show inb (nI i + 1) N = true ∧ (inb (nI i + 2) N = true ∧ (inb (nI i + 3) N = true ∧ (∃ k1 σ1, f_L_need (xs (ix (nI i + 1))) (xs (ix (nI i + 2))) (xs (ix (nI i + 3))) σ = some (k1, σ1) ∧ K (c + 8) (271, [.ref 200, .ref 0, .ref 6, .ref 178, .int (nI i), .null, .null], [.int k1], σ1))))
  refine ⟨g1, g2, g3, ⟨k1, σ1, e1, ?_⟩⟩
  refine hw (c + 8) (by omega) 18 _ ?_
  show inb (nI i + 1) N = true ∧ (inb (nI i + 2) N = true ∧ (inb (nI i + 3) N = true ∧ (∃ b1 σ2, f_X6_need (xs (ix (nI i + 1))) (xs (ix (nI i + 2))) (xs (ix (nI i + 3))) σ1 = some (b1, σ2) ∧ K (c + 8) (295, [.ref 200, .ref 0, .ref 6, .ref 178, .int (nI i), .int k1, .null], [.int b1], σ2))))
  refine ⟨g1, g2, g3, ⟨b1, σ2, e2, ?_⟩⟩
  refine hw (c + 8) (by omega) 3 _ ?_
  show ∃ r3 σ3, f_X6_thrown σ2 = some (r3, σ3) ∧ K (c + 8) (301, [.ref 200, .ref 0, .ref 6, .ref 178, .int (nI i), .int k1, .int b1], [.int r3], σ3)
  refine ⟨σ2 6 0, σ2, rfl, ?_⟩
  refine hw (c + 8) (by omega) 2 _ ?_
  show (((σ2 6 0) = k1) → K (c + 8) (308, [.ref 200, .ref 0, .ref 6, .ref 178, .int (nI i), .int k1, .int b1], [], σ2)) ∧ (¬ ((σ2 6 0) = k1) → K (c + 8) (306, [.ref 200, .ref 0, .ref 6, .ref 178, .int (nI i), .int k1, .int b1], [], σ2))
  refine ⟨fun _ => ?_, fun q => absurd e3 q⟩
  by_cases hk : k1 = 0
  · have hz : σ2 178 (ix 0) = b1 := e4 hk
    refine hw (c + 8) (by omega) 2 _ ?_
    show ((¬ k1 = 0) → K (c + 8) (325, [.ref 200, .ref 0, .ref 6, .ref 178, .int (nI i), .int k1, .int b1], [], σ2)) ∧ (¬ (¬ k1 = 0) → K (c + 8) (313, [.ref 200, .ref 0, .ref 6, .ref 178, .int (nI i), .int k1, .int b1], [], σ2))
    refine ⟨fun q => absurd hk q, fun _ => ?_⟩
    refine hw (c + 8) (by omega) 7 _ ?_
    show kd 178 = 4 ∧ (inb 0 1 = true ∧ ((((lg_cmp (σ2 178 (ix 0)).toInt64 b1.toInt64) = 0) → K (c + 8) (325, [.ref 200, .ref 0, .ref 6, .ref 178, .int (nI i), .int k1, .int b1], [], σ2)) ∧ (¬ ((lg_cmp (σ2 178 (ix 0)).toInt64 b1.toInt64) = 0) → K (c + 8) (323, [.ref 200, .ref 0, .ref 6, .ref 178, .int (nI i), .int k1, .int b1], [], σ2))))
    refine ⟨rfl, by decide, ⟨fun _ => ?_, fun q => absurd (by rw [hz]; exact lcmp_eq _) q⟩⟩
    refine hw (c + 8) (by omega) 1 _ ?_
    show K (c + 8) (2234, [.ref 200, .ref 0, .ref 6, .ref 178, .int (nI i), .int k1, .int b1], [], σ2)
    refine hf _ _ _ 5 _ _ ?_
    show K (c + 8) (2234, [.ref 200, .ref 0, .ref 6, .ref 178, .int (nI i), .null, .int b1], [], σ2)
    refine hf _ _ _ 6 _ _ ?_
    show K (c + 8) (2234, [.ref 200, .ref 0, .ref 6, .ref 178, .int (nI i), .null, .null], [], σ2)
    exact hback _ _ (by omega) hcp
  · refine hw (c + 8) (by omega) 2 _ ?_
    show ((¬ k1 = 0) → K (c + 8) (325, [.ref 200, .ref 0, .ref 6, .ref 178, .int (nI i), .int k1, .int b1], [], σ2)) ∧ (¬ (¬ k1 = 0) → K (c + 8) (313, [.ref 200, .ref 0, .ref 6, .ref 178, .int (nI i), .int k1, .int b1], [], σ2))
    refine ⟨fun _ => ?_, fun q => absurd hk q⟩
    refine hw (c + 8) (by omega) 1 _ ?_
    show K (c + 8) (2234, [.ref 200, .ref 0, .ref 6, .ref 178, .int (nI i), .int k1, .int b1], [], σ2)
    refine hf _ _ _ 5 _ _ ?_
    show K (c + 8) (2234, [.ref 200, .ref 0, .ref 6, .ref 178, .int (nI i), .null, .int b1], [], σ2)
    refine hf _ _ _ 6 _ _ ?_
    show K (c + 8) (2234, [.ref 200, .ref 0, .ref 6, .ref 178, .int (nI i), .null, .null], [], σ2)
    exact hback _ _ (by omega) hcp
def T_law2 (KN : Nat → aS → Prop) (N : Nat) (xs : Nat → Int32) : List aI := [I_aload 1 1, I_aload 0 1, I_iload 4 2, I_bot, I_const 1 1, I_bin fun x y => x + y, I_sld N xs, I_aload 0 1, I_iload 4 2, I_bot, I_const 2 1, I_bin fun x y => x + y, I_sld N xs, I_if (fun x => x = 0) 348, I_bot, I_bot, I_const 1 1, I_goto 349, I_bot, I_bot, I_const 0 1, I_aload 3 1, I_callW 4 F_L_cut (KN 4), I_bot, I_bot, I_istore 5 2, I_bot, I_aload 2 1, I_aload 0 1, I_iload 4 2, I_bot, I_const 1 1, I_bin fun x y => x + y, I_sld N xs, I_aload 0 1, I_iload 4 2, I_bot, I_const 2 1, I_bin fun x y => x + y, I_sld N xs, I_if (fun x => x = 0) 375, I_bot, I_bot, I_const 1 1, I_goto 376, I_bot, I_bot, I_const 0 1, I_callV 6 2 F_X6_cut, I_bot, I_bot, I_istore 6 2, I_bot, I_aload 2 1, I_callV 6 0 F_X6_thrown, I_bot, I_bot, I_iload 5 2, I_bot, I_icmp (fun x y => x = y) 392, I_bot, I_bot, I_const 0 1, I_lret, I_iload 5 2, I_bot, I_if (fun x => ¬ x = 0) 409, I_bot, I_bot, I_aload 3 1, I_const 0 1, I_lald, I_iload 6 2, I_bot, I_i2l, I_lcmp, I_if (fun x => x = 0) 409, I_bot, I_bot, I_const 0 1, I_lret, I_goto 2234, I_bot, I_bot]
set_option maxHeartbeats 8000000 in
set_option maxRecDepth 100000 in
theorem r_law2 {p : Program} {l : Launch} {e : Env} {s : State} {m : MethodId} {below : List Frame} {meth : Method} {c : Code} {D : va_G} {cI cZ cA cL : ClassId} {ad sa : Nat → Nat} {b N : Nat} {xs : Nat → Int32} (Z : LCX p l e s m meth c b N xs D cI cZ cA cL ad sa) (cells slots : Nat) (hcell : cells + 20 ≤ 601024) (hslot : slots + 120 ≤ 7293034) :
    ruL (Ru p l e room_1 s m #[Value.ref b] below meth c cells slots (lw_Z below #[Value.ref b] s) 7 D cI cZ cA cL ad (AA ad s.heap.size) s.heap) 328 (T_law2 (fun d => WS p l e room_1 s m #[Value.ref b] below meth c (cells + d) (slots + 6 * d) (lw_Z below #[Value.ref b] s) 7 D cI cZ cA cL ad (AA ad s.heap.size) s.heap) N xs) := by
  obtain ⟨hx, hb, hml, hown, hts, hr, hlocks, hK, hN, hX, hC, hXs, hbl, hbA, had, hi, hlt, hA9⟩ := Z
  refine ruL_c (n := 328) (n2 := 329) rfl (ru_aload_n (k := 1) hx hb dL_law_328) ?_
  refine ruL_c (n := 329) (n2 := 330) rfl (ru_aload_n (k := 0) hx hb dL_law_329) ?_
  refine ruL_c (n := 330) (n2 := 331) rfl (ru_iload hx hb dL_law_330) ?_
  refine ruL_c (n := 331) (n2 := 332) rfl (ru_bot) ?_
  refine ruL_c (n := 332) (n2 := 333) rfl (ru_iconst hx hb dL_law_332 rfl) ?_
  refine ruL_c (n := 333) (n2 := 334) rfl (ru_iadd hx hb dL_law_333) ?_
  refine ruL_c (n := 334) (n2 := 335) rfl (ru_sld hx hb hXs hbl hbA had dL_law_334) ?_
  refine ruL_c (n := 335) (n2 := 336) rfl (ru_aload_n (k := 0) hx hb dL_law_335) ?_
  refine ruL_c (n := 336) (n2 := 337) rfl (ru_iload hx hb dL_law_336) ?_
  refine ruL_c (n := 337) (n2 := 338) rfl (ru_bot) ?_
  refine ruL_c (n := 338) (n2 := 339) rfl (ru_iconst hx hb dL_law_338 rfl) ?_
  refine ruL_c (n := 339) (n2 := 340) rfl (ru_iadd hx hb dL_law_339) ?_
  refine ruL_c (n := 340) (n2 := 341) rfl (ru_sld hx hb hXs hbl hbA had dL_law_340) ?_
  refine ruL_c (n := 341) (n2 := 342) rfl (ru_ifeq hx hb dL_law_341 (by decide)) ?_
  refine ruL_c (n := 342) (n2 := 343) rfl (ru_bot) ?_
  refine ruL_c (n := 343) (n2 := 344) rfl (ru_bot) ?_
  refine ruL_c (n := 344) (n2 := 345) rfl (ru_iconst hx hb dL_law_344 rfl) ?_
  refine ruL_c (n := 345) (n2 := 346) rfl (ru_goto hx hb dL_law_345 (by decide)) ?_
  refine ruL_c (n := 346) (n2 := 347) rfl (ru_bot) ?_
  refine ruL_c (n := 347) (n2 := 348) rfl (ru_bot) ?_
  refine ruL_c (n := 348) (n2 := 349) rfl (ru_iconst hx hb dL_law_348 rfl) ?_
  refine ruL_c (n := 349) (n2 := 350) rfl (ru_aload_n (k := 3) hx hb dL_law_349) ?_
  refine ruL_c (n := 350) (n2 := 351) rfl (ru_callW (own := RL) hx hb hml hown hts hK hN hX hC (c_L_cut l hlt D cI cZ cA cL ad sa hi) (vx_cwSW 4 hts gL_law_L_cut rfl rfl rfl (by decide +kernel) ⟨Nat.le_of_ble_eq_true rfl, Nat.le_of_ble_eq_true rfl⟩) dL_law_350 ⟨Nat.le_trans (Nat.add_le_add_left (by decide) _) hcell, Nat.le_trans (Nat.add_le_add_left (by decide) _) hslot⟩) ?_
  refine ruL_c (n := 351) (n2 := 352) rfl (ru_bot) ?_
  refine ruL_c (n := 352) (n2 := 353) rfl (ru_bot) ?_
  refine ruL_c (n := 353) (n2 := 354) rfl (ru_istore hx hb dL_law_353) ?_
  refine ruL_c (n := 354) (n2 := 355) rfl (ru_bot) ?_
  refine ruL_c (n := 355) (n2 := 356) rfl (ru_aload_n (k := 2) hx hb dL_law_355) ?_
  refine ruL_c (n := 356) (n2 := 357) rfl (ru_aload_n (k := 0) hx hb dL_law_356) ?_
  refine ruL_c (n := 357) (n2 := 358) rfl (ru_iload hx hb dL_law_357) ?_
  refine ruL_c (n := 358) (n2 := 359) rfl (ru_bot) ?_
  refine ruL_c (n := 359) (n2 := 360) rfl (ru_iconst hx hb dL_law_359 rfl) ?_
  refine ruL_c (n := 360) (n2 := 361) rfl (ru_iadd hx hb dL_law_360) ?_
  refine ruL_c (n := 361) (n2 := 362) rfl (ru_sld hx hb hXs hbl hbA had dL_law_361) ?_
  refine ruL_c (n := 362) (n2 := 363) rfl (ru_aload_n (k := 0) hx hb dL_law_362) ?_
  refine ruL_c (n := 363) (n2 := 364) rfl (ru_iload hx hb dL_law_363) ?_
  refine ruL_c (n := 364) (n2 := 365) rfl (ru_bot) ?_
  refine ruL_c (n := 365) (n2 := 366) rfl (ru_iconst hx hb dL_law_365 rfl) ?_
  refine ruL_c (n := 366) (n2 := 367) rfl (ru_iadd hx hb dL_law_366) ?_
  refine ruL_c (n := 367) (n2 := 368) rfl (ru_sld hx hb hXs hbl hbA had dL_law_367) ?_
  refine ruL_c (n := 368) (n2 := 369) rfl (ru_ifeq hx hb dL_law_368 (by decide)) ?_
  refine ruL_c (n := 369) (n2 := 370) rfl (ru_bot) ?_
  refine ruL_c (n := 370) (n2 := 371) rfl (ru_bot) ?_
  refine ruL_c (n := 371) (n2 := 372) rfl (ru_iconst hx hb dL_law_371 rfl) ?_
  refine ruL_c (n := 372) (n2 := 373) rfl (ru_goto hx hb dL_law_372 (by decide)) ?_
  refine ruL_c (n := 373) (n2 := 374) rfl (ru_bot) ?_
  refine ruL_c (n := 374) (n2 := 375) rfl (ru_bot) ?_
  refine ruL_c (n := 375) (n2 := 376) rfl (ru_iconst hx hb dL_law_375 rfl) ?_
  refine ruL_c (n := 376) (n2 := 377) rfl (ru_callV (own := RL) hx hb hml hown hts hK hN (by decide) rfl (c_X6_cut l D cI cZ cA cL ad hi) (cwV 2 hts gL_law_X6_cut rfl rfl rfl (by decide +kernel) ⟨Nat.le_of_ble_eq_true rfl, Nat.le_of_ble_eq_true rfl⟩) dL_law_376 ⟨Nat.le_trans (Nat.le_add_right _ 20) hcell, Nat.le_trans (Nat.le_add_right _ 120) hslot⟩) ?_
  refine ruL_c (n := 377) (n2 := 378) rfl (ru_bot) ?_
  refine ruL_c (n := 378) (n2 := 379) rfl (ru_bot) ?_
  refine ruL_c (n := 379) (n2 := 380) rfl (ru_istore hx hb dL_law_379) ?_
  refine ruL_c (n := 380) (n2 := 381) rfl (ru_bot) ?_
  refine ruL_c (n := 381) (n2 := 382) rfl (ru_aload_n (k := 2) hx hb dL_law_381) ?_
  refine ruL_c (n := 382) (n2 := 383) rfl (ru_callV (own := RL) hx hb hml hown hts hK hN (by decide) rfl (c_X6_thrown l D cI cZ cA cL ad hi) (cwV 0 hts gL_law_X6_thrown rfl rfl rfl (by decide +kernel) ⟨Nat.le_of_ble_eq_true rfl, Nat.le_of_ble_eq_true rfl⟩) dL_law_382 ⟨Nat.le_trans (Nat.le_add_right _ 20) hcell, Nat.le_trans (Nat.le_add_right _ 120) hslot⟩) ?_
  refine ruL_c (n := 383) (n2 := 384) rfl (ru_bot) ?_
  refine ruL_c (n := 384) (n2 := 385) rfl (ru_bot) ?_
  refine ruL_c (n := 385) (n2 := 386) rfl (ru_iload hx hb dL_law_385) ?_
  refine ruL_c (n := 386) (n2 := 387) rfl (ru_bot) ?_
  refine ruL_c (n := 387) (n2 := 388) rfl (ru_icmpeq hx hb dL_law_387 (by decide)) ?_
  refine ruL_c (n := 388) (n2 := 389) rfl (ru_bot) ?_
  refine ruL_c (n := 389) (n2 := 390) rfl (ru_bot) ?_
  refine ruL_c (n := 390) (n2 := 391) rfl (ru_iconst hx hb dL_law_390 rfl) ?_
  refine ruL_c (n := 391) (n2 := 392) rfl (ru_lret hx hb hr hlocks hA9 dL_law_391 hcell hslot) ?_
  refine ruL_c (n := 392) (n2 := 393) rfl (ru_iload hx hb dL_law_392) ?_
  refine ruL_c (n := 393) (n2 := 394) rfl (ru_bot) ?_
  refine ruL_c (n := 394) (n2 := 395) rfl (ru_ifne hx hb dL_law_394 (by decide)) ?_
  refine ruL_c (n := 395) (n2 := 396) rfl (ru_bot) ?_
  refine ruL_c (n := 396) (n2 := 397) rfl (ru_bot) ?_
  refine ruL_c (n := 397) (n2 := 398) rfl (ru_aload_n (k := 3) hx hb dL_law_397) ?_
  refine ruL_c (n := 398) (n2 := 399) rfl (ru_iconst hx hb dL_law_398 rfl) ?_
  refine ruL_c (n := 399) (n2 := 400) rfl (ru_lald hx hb hK dL_law_399) ?_
  refine ruL_c (n := 400) (n2 := 401) rfl (ru_iload hx hb dL_law_400) ?_
  refine ruL_c (n := 401) (n2 := 402) rfl (ru_bot) ?_
  refine ruL_c (n := 402) (n2 := 403) rfl (ru_i2l hx hb dL_law_402) ?_
  refine ruL_c (n := 403) (n2 := 404) rfl (ru_lcmp hx hb dL_law_403) ?_
  refine ruL_c (n := 404) (n2 := 405) rfl (ru_ifeq hx hb dL_law_404 (by decide)) ?_
  refine ruL_c (n := 405) (n2 := 406) rfl (ru_bot) ?_
  refine ruL_c (n := 406) (n2 := 407) rfl (ru_bot) ?_
  refine ruL_c (n := 407) (n2 := 408) rfl (ru_iconst hx hb dL_law_407 rfl) ?_
  refine ruL_c (n := 408) (n2 := 409) rfl (ru_lret hx hb hr hlocks hA9 dL_law_408 hcell hslot) ?_
  refine ruL_c (n := 409) (n2 := 410) rfl (ru_goto hx hb dL_law_409 (by decide)) ?_
  refine ruL_c (n := 410) (n2 := 411) rfl (ru_bot) ?_
  refine ruL_c (n := 411) (n2 := 412) rfl (ru_bot) ?_
  exact trivial
set_option maxHeartbeats 8000000 in
set_option maxRecDepth 100000 in
theorem k_law2 {CP : aM → Prop} {N : Nat} {xs : Nat → Int32} {K : Nat → aS → Prop} (hw : ∀ c, c ≤ 8000 → ∀ n x, wpB 328 (T_law2 (fun d => K (c + d)) N xs) n (K c) x → K c x) (hf : ∀ c pc L i st σ, K c (pc, L.set i .null, st, σ) → K c (pc, L, st, σ)) (ag : ∀ p0 p1 : Int32, (p1 = 0 ∨ p1 = 1) → agW CP (f_L_cut p0 p1) (f_X6_cut p0 p1)) (c i : Nat) (hc : c ≤ 7900) (g1 : inb (nI i + 1) N = true) (g2 : inb (nI i + 2) N = true) (g3 : inb (nI i + 3) N = true) (g4 : inb (nI i + 4) N = true) (σ : aM) (hCP : CP σ)
    (hback : ∀ c2 σ2, c2 ≤ c + 12 → CP σ2 → K c2 (2234, [.ref 200, .ref 0, .ref 6, .ref 178, .int (nI i), .null, .null], [], σ2)) : K c (328, [.ref 200, .ref 0, .ref 6, .ref 178, .int (nI i), .null, .null], [], σ) := by
  by_cases hz2 : (xs (ix (nI i + 2))) = 0
  · refine hw c (by omega) 12 _ ?_
    show inb (nI i + 1) N = true ∧ (inb (nI i + 2) N = true ∧ ((((xs (ix (nI i + 2))) = 0) → K c (348, [.ref 200, .ref 0, .ref 6, .ref 178, .int (nI i), .null, .null], [.int (xs (ix (nI i + 1))), .ref 0], σ)) ∧ (¬ ((xs (ix (nI i + 2))) = 0) → K c (344, [.ref 200, .ref 0, .ref 6, .ref 178, .int (nI i), .null, .null], [.int (xs (ix (nI i + 1))), .ref 0], σ))))
    refine ⟨g1, g2, ⟨fun _ => ?_, fun q => absurd hz2 q⟩⟩
    obtain ⟨k1, σ1, b1, σ2, e1, e2, e3, e4, hcp⟩ := ag (xs (ix (nI i + 1))) 0 (Or.inl rfl) σ hCP
    refine hw c (by omega) 3 _ ?_
    show ∃ k1 σ1, f_L_cut (xs (ix (nI i + 1))) 0 σ = some (k1, σ1) ∧ K (c + 4) (353, [.ref 200, .ref 0, .ref 6, .ref 178, .int (nI i), .null, .null], [.int k1], σ1)
    refine ⟨k1, σ1, e1, ?_⟩
    refine hw (c + 4) (by omega) 13 _ ?_
    show inb (nI i + 1) N = true ∧ (inb (nI i + 2) N = true ∧ ((((xs (ix (nI i + 2))) = 0) → K (c + 4) (375, [.ref 200, .ref 0, .ref 6, .ref 178, .int (nI i), .int k1, .null], [.int (xs (ix (nI i + 1))), .ref 6], σ1)) ∧ (¬ ((xs (ix (nI i + 2))) = 0) → K (c + 4) (371, [.ref 200, .ref 0, .ref 6, .ref 178, .int (nI i), .int k1, .null], [.int (xs (ix (nI i + 1))), .ref 6], σ1))))
    refine ⟨g1, g2, ⟨fun _ => ?_, fun q => absurd hz2 q⟩⟩
    refine hw (c + 4) (by omega) 2 _ ?_
    show ∃ b1 σ2, f_X6_cut (xs (ix (nI i + 1))) 0 σ1 = some (b1, σ2) ∧ K (c + 4) (379, [.ref 200, .ref 0, .ref 6, .ref 178, .int (nI i), .int k1, .null], [.int b1], σ2)
    refine ⟨b1, σ2, e2, ?_⟩
    refine hw (c + 4) (by omega) 3 _ ?_
    show ∃ r3 σ3, f_X6_thrown σ2 = some (r3, σ3) ∧ K (c + 4) (385, [.ref 200, .ref 0, .ref 6, .ref 178, .int (nI i), .int k1, .int b1], [.int r3], σ3)
    refine ⟨σ2 6 0, σ2, rfl, ?_⟩
    refine hw (c + 4) (by omega) 2 _ ?_
    show (((σ2 6 0) = k1) → K (c + 4) (392, [.ref 200, .ref 0, .ref 6, .ref 178, .int (nI i), .int k1, .int b1], [], σ2)) ∧ (¬ ((σ2 6 0) = k1) → K (c + 4) (390, [.ref 200, .ref 0, .ref 6, .ref 178, .int (nI i), .int k1, .int b1], [], σ2))
    refine ⟨fun _ => ?_, fun q => absurd e3 q⟩
    by_cases hk : k1 = 0
    · have hz : σ2 178 (ix 0) = b1 := e4 hk
      refine hw (c + 4) (by omega) 2 _ ?_
      show ((¬ k1 = 0) → K (c + 4) (409, [.ref 200, .ref 0, .ref 6, .ref 178, .int (nI i), .int k1, .int b1], [], σ2)) ∧ (¬ (¬ k1 = 0) → K (c + 4) (397, [.ref 200, .ref 0, .ref 6, .ref 178, .int (nI i), .int k1, .int b1], [], σ2))
      refine ⟨fun q => absurd hk q, fun _ => ?_⟩
      refine hw (c + 4) (by omega) 7 _ ?_
      show kd 178 = 4 ∧ (inb 0 1 = true ∧ ((((lg_cmp (σ2 178 (ix 0)).toInt64 b1.toInt64) = 0) → K (c + 4) (409, [.ref 200, .ref 0, .ref 6, .ref 178, .int (nI i), .int k1, .int b1], [], σ2)) ∧ (¬ ((lg_cmp (σ2 178 (ix 0)).toInt64 b1.toInt64) = 0) → K (c + 4) (407, [.ref 200, .ref 0, .ref 6, .ref 178, .int (nI i), .int k1, .int b1], [], σ2))))
      refine ⟨rfl, by decide, ⟨fun _ => ?_, fun q => absurd (by rw [hz]; exact lcmp_eq _) q⟩⟩
      refine hw (c + 4) (by omega) 1 _ ?_
      show K (c + 4) (2234, [.ref 200, .ref 0, .ref 6, .ref 178, .int (nI i), .int k1, .int b1], [], σ2)
      refine hf _ _ _ 5 _ _ ?_
      show K (c + 4) (2234, [.ref 200, .ref 0, .ref 6, .ref 178, .int (nI i), .null, .int b1], [], σ2)
      refine hf _ _ _ 6 _ _ ?_
      show K (c + 4) (2234, [.ref 200, .ref 0, .ref 6, .ref 178, .int (nI i), .null, .null], [], σ2)
      exact hback _ _ (by omega) hcp
    · refine hw (c + 4) (by omega) 2 _ ?_
      show ((¬ k1 = 0) → K (c + 4) (409, [.ref 200, .ref 0, .ref 6, .ref 178, .int (nI i), .int k1, .int b1], [], σ2)) ∧ (¬ (¬ k1 = 0) → K (c + 4) (397, [.ref 200, .ref 0, .ref 6, .ref 178, .int (nI i), .int k1, .int b1], [], σ2))
      refine ⟨fun _ => ?_, fun q => absurd hk q⟩
      refine hw (c + 4) (by omega) 1 _ ?_
      show K (c + 4) (2234, [.ref 200, .ref 0, .ref 6, .ref 178, .int (nI i), .int k1, .int b1], [], σ2)
      refine hf _ _ _ 5 _ _ ?_
      show K (c + 4) (2234, [.ref 200, .ref 0, .ref 6, .ref 178, .int (nI i), .null, .int b1], [], σ2)
      refine hf _ _ _ 6 _ _ ?_
      show K (c + 4) (2234, [.ref 200, .ref 0, .ref 6, .ref 178, .int (nI i), .null, .null], [], σ2)
      exact hback _ _ (by omega) hcp
  · refine hw c (by omega) 12 _ ?_
    show inb (nI i + 1) N = true ∧ (inb (nI i + 2) N = true ∧ ((((xs (ix (nI i + 2))) = 0) → K c (348, [.ref 200, .ref 0, .ref 6, .ref 178, .int (nI i), .null, .null], [.int (xs (ix (nI i + 1))), .ref 0], σ)) ∧ (¬ ((xs (ix (nI i + 2))) = 0) → K c (344, [.ref 200, .ref 0, .ref 6, .ref 178, .int (nI i), .null, .null], [.int (xs (ix (nI i + 1))), .ref 0], σ))))
    refine ⟨g1, g2, ⟨fun q => absurd q hz2, fun _ => ?_⟩⟩
    obtain ⟨k1, σ1, b1, σ2, e1, e2, e3, e4, hcp⟩ := ag (xs (ix (nI i + 1))) 1 (Or.inr rfl) σ hCP
    refine hw c (by omega) 4 _ ?_
    show ∃ k1 σ1, f_L_cut (xs (ix (nI i + 1))) 1 σ = some (k1, σ1) ∧ K (c + 4) (353, [.ref 200, .ref 0, .ref 6, .ref 178, .int (nI i), .null, .null], [.int k1], σ1)
    refine ⟨k1, σ1, e1, ?_⟩
    refine hw (c + 4) (by omega) 13 _ ?_
    show inb (nI i + 1) N = true ∧ (inb (nI i + 2) N = true ∧ ((((xs (ix (nI i + 2))) = 0) → K (c + 4) (375, [.ref 200, .ref 0, .ref 6, .ref 178, .int (nI i), .int k1, .null], [.int (xs (ix (nI i + 1))), .ref 6], σ1)) ∧ (¬ ((xs (ix (nI i + 2))) = 0) → K (c + 4) (371, [.ref 200, .ref 0, .ref 6, .ref 178, .int (nI i), .int k1, .null], [.int (xs (ix (nI i + 1))), .ref 6], σ1))))
    refine ⟨g1, g2, ⟨fun q => absurd q hz2, fun _ => ?_⟩⟩
    refine hw (c + 4) (by omega) 3 _ ?_
    show ∃ b1 σ2, f_X6_cut (xs (ix (nI i + 1))) 1 σ1 = some (b1, σ2) ∧ K (c + 4) (379, [.ref 200, .ref 0, .ref 6, .ref 178, .int (nI i), .int k1, .null], [.int b1], σ2)
    refine ⟨b1, σ2, e2, ?_⟩
    refine hw (c + 4) (by omega) 3 _ ?_
    show ∃ r3 σ3, f_X6_thrown σ2 = some (r3, σ3) ∧ K (c + 4) (385, [.ref 200, .ref 0, .ref 6, .ref 178, .int (nI i), .int k1, .int b1], [.int r3], σ3)
    refine ⟨σ2 6 0, σ2, rfl, ?_⟩
    refine hw (c + 4) (by omega) 2 _ ?_
    show (((σ2 6 0) = k1) → K (c + 4) (392, [.ref 200, .ref 0, .ref 6, .ref 178, .int (nI i), .int k1, .int b1], [], σ2)) ∧ (¬ ((σ2 6 0) = k1) → K (c + 4) (390, [.ref 200, .ref 0, .ref 6, .ref 178, .int (nI i), .int k1, .int b1], [], σ2))
    refine ⟨fun _ => ?_, fun q => absurd e3 q⟩
    by_cases hk : k1 = 0
    · have hz : σ2 178 (ix 0) = b1 := e4 hk
      refine hw (c + 4) (by omega) 2 _ ?_
      show ((¬ k1 = 0) → K (c + 4) (409, [.ref 200, .ref 0, .ref 6, .ref 178, .int (nI i), .int k1, .int b1], [], σ2)) ∧ (¬ (¬ k1 = 0) → K (c + 4) (397, [.ref 200, .ref 0, .ref 6, .ref 178, .int (nI i), .int k1, .int b1], [], σ2))
      refine ⟨fun q => absurd hk q, fun _ => ?_⟩
      refine hw (c + 4) (by omega) 7 _ ?_
      show kd 178 = 4 ∧ (inb 0 1 = true ∧ ((((lg_cmp (σ2 178 (ix 0)).toInt64 b1.toInt64) = 0) → K (c + 4) (409, [.ref 200, .ref 0, .ref 6, .ref 178, .int (nI i), .int k1, .int b1], [], σ2)) ∧ (¬ ((lg_cmp (σ2 178 (ix 0)).toInt64 b1.toInt64) = 0) → K (c + 4) (407, [.ref 200, .ref 0, .ref 6, .ref 178, .int (nI i), .int k1, .int b1], [], σ2))))
      refine ⟨rfl, by decide, ⟨fun _ => ?_, fun q => absurd (by rw [hz]; exact lcmp_eq _) q⟩⟩
      refine hw (c + 4) (by omega) 1 _ ?_
      show K (c + 4) (2234, [.ref 200, .ref 0, .ref 6, .ref 178, .int (nI i), .int k1, .int b1], [], σ2)
      refine hf _ _ _ 5 _ _ ?_
      show K (c + 4) (2234, [.ref 200, .ref 0, .ref 6, .ref 178, .int (nI i), .null, .int b1], [], σ2)
      refine hf _ _ _ 6 _ _ ?_
      show K (c + 4) (2234, [.ref 200, .ref 0, .ref 6, .ref 178, .int (nI i), .null, .null], [], σ2)
      exact hback _ _ (by omega) hcp
    · refine hw (c + 4) (by omega) 2 _ ?_
      show ((¬ k1 = 0) → K (c + 4) (409, [.ref 200, .ref 0, .ref 6, .ref 178, .int (nI i), .int k1, .int b1], [], σ2)) ∧ (¬ (¬ k1 = 0) → K (c + 4) (397, [.ref 200, .ref 0, .ref 6, .ref 178, .int (nI i), .int k1, .int b1], [], σ2))
      refine ⟨fun _ => ?_, fun q => absurd hk q⟩
      refine hw (c + 4) (by omega) 1 _ ?_
      show K (c + 4) (2234, [.ref 200, .ref 0, .ref 6, .ref 178, .int (nI i), .int k1, .int b1], [], σ2)
      refine hf _ _ _ 5 _ _ ?_
      show K (c + 4) (2234, [.ref 200, .ref 0, .ref 6, .ref 178, .int (nI i), .null, .int b1], [], σ2)
      refine hf _ _ _ 6 _ _ ?_
      show K (c + 4) (2234, [.ref 200, .ref 0, .ref 6, .ref 178, .int (nI i), .null, .null], [], σ2)
      exact hback _ _ (by omega) hcp
def T_law3 (KN : Nat → aS → Prop) (N : Nat) (xs : Nat → Int32) : List aI := [I_aload 1 1, I_callV 0 0 F_X5_lines, I_bot, I_bot, I_aload 2 1, I_callV 6 0 F_X6_lines, I_bot, I_bot, I_icmp (fun x y => x = y) 2234, I_bot, I_bot, I_const 0 1, I_lret]
set_option maxHeartbeats 8000000 in
set_option maxRecDepth 100000 in
theorem r_law3 {p : Program} {l : Launch} {e : Env} {s : State} {m : MethodId} {below : List Frame} {meth : Method} {c : Code} {D : va_G} {cI cZ cA cL : ClassId} {ad sa : Nat → Nat} {b N : Nat} {xs : Nat → Int32} (Z : LCX p l e s m meth c b N xs D cI cZ cA cL ad sa) (cells slots : Nat) (hcell : cells + 20 ≤ 601024) (hslot : slots + 120 ≤ 7293034) :
    ruL (Ru p l e room_1 s m #[Value.ref b] below meth c cells slots (lw_Z below #[Value.ref b] s) 7 D cI cZ cA cL ad (AA ad s.heap.size) s.heap) 412 (T_law3 (fun d => WS p l e room_1 s m #[Value.ref b] below meth c (cells + d) (slots + 6 * d) (lw_Z below #[Value.ref b] s) 7 D cI cZ cA cL ad (AA ad s.heap.size) s.heap) N xs) := by
  obtain ⟨hx, hb, hml, hown, hts, hr, hlocks, hK, hN, hX, hC, hXs, hbl, hbA, had, hi, hlt, hA9⟩ := Z
  refine ruL_c (n := 412) (n2 := 413) rfl (ru_aload_n (k := 1) hx hb dL_law_412) ?_
  refine ruL_c (n := 413) (n2 := 414) rfl (ru_callV (own := RL) hx hb hml hown hts hK hN (by decide) rfl (c_X5_lines l D cI cZ cA cL ad hi) (cwV 0 hts gL_law_X5_lines rfl rfl rfl (by decide +kernel) ⟨Nat.le_of_ble_eq_true rfl, Nat.le_of_ble_eq_true rfl⟩) dL_law_413 ⟨Nat.le_trans (Nat.le_add_right _ 20) hcell, Nat.le_trans (Nat.le_add_right _ 120) hslot⟩) ?_
  refine ruL_c (n := 414) (n2 := 415) rfl (ru_bot) ?_
  refine ruL_c (n := 415) (n2 := 416) rfl (ru_bot) ?_
  refine ruL_c (n := 416) (n2 := 417) rfl (ru_aload_n (k := 2) hx hb dL_law_416) ?_
  refine ruL_c (n := 417) (n2 := 418) rfl (ru_callV (own := RL) hx hb hml hown hts hK hN (by decide) rfl (c_X6_lines l D cI cZ cA cL ad hi) (cwV 0 hts gL_law_X6_lines rfl rfl rfl (by decide +kernel) ⟨Nat.le_of_ble_eq_true rfl, Nat.le_of_ble_eq_true rfl⟩) dL_law_417 ⟨Nat.le_trans (Nat.le_add_right _ 20) hcell, Nat.le_trans (Nat.le_add_right _ 120) hslot⟩) ?_
  refine ruL_c (n := 418) (n2 := 419) rfl (ru_bot) ?_
  refine ruL_c (n := 419) (n2 := 420) rfl (ru_bot) ?_
  refine ruL_c (n := 420) (n2 := 421) rfl (ru_icmpeq hx hb dL_law_420 (by decide)) ?_
  refine ruL_c (n := 421) (n2 := 422) rfl (ru_bot) ?_
  refine ruL_c (n := 422) (n2 := 423) rfl (ru_bot) ?_
  refine ruL_c (n := 423) (n2 := 424) rfl (ru_iconst hx hb dL_law_423 rfl) ?_
  refine ruL_c (n := 424) (n2 := 425) rfl (ru_lret hx hb hr hlocks hA9 dL_law_424 hcell hslot) ?_
  exact trivial
set_option maxHeartbeats 8000000 in
set_option maxRecDepth 100000 in
theorem k_law3 {CP : aM → Prop} {N : Nat} {xs : Nat → Int32} {K : Nat → aS → Prop} (hw : ∀ c, c ≤ 8000 → ∀ n x, wpB 412 (T_law3 (fun d => K (c + d)) N xs) n (K c) x → K c x) (hf : ∀ c pc L i st σ, K c (pc, L.set i .null, st, σ) → K c (pc, L, st, σ)) (ag : agD CP f_X5_lines f_X6_lines) (c i : Nat) (hc : c ≤ 7900) (g1 : inb (nI i + 1) N = true) (g2 : inb (nI i + 2) N = true) (g3 : inb (nI i + 3) N = true) (g4 : inb (nI i + 4) N = true) (σ : aM) (hCP : CP σ)
    (hback : ∀ c2 σ2, c2 ≤ c + 12 → CP σ2 → K c2 (2234, [.ref 200, .ref 0, .ref 6, .ref 178, .int (nI i), .null, .null], [], σ2)) : K c (412, [.ref 200, .ref 0, .ref 6, .ref 178, .int (nI i), .null, .null], [], σ) := by
  obtain ⟨k1, σ1, σ2, e1, e2, hcp⟩ := ag σ hCP
  refine hw c (by omega) 2 _ ?_
  show ∃ k1 σ1, f_X5_lines σ = some (k1, σ1) ∧ K c (416, [.ref 200, .ref 0, .ref 6, .ref 178, .int (nI i), .null, .null], [.int k1], σ1)
  refine ⟨k1, σ1, e1, ?_⟩
  refine hw c (by omega) 2 _ ?_
  show ∃ b1 σ2, f_X6_lines σ1 = some (b1, σ2) ∧ K c (420, [.ref 200, .ref 0, .ref 6, .ref 178, .int (nI i), .null, .null], [.int b1, .int k1], σ2)
  refine ⟨k1, σ2, e2, ?_⟩
  refine hw c (by omega) 1 _ ?_
  show ((k1 = k1) → K c (2234, [.ref 200, .ref 0, .ref 6, .ref 178, .int (nI i), .null, .null], [], σ2)) ∧ (¬ (k1 = k1) → K c (423, [.ref 200, .ref 0, .ref 6, .ref 178, .int (nI i), .null, .null], [], σ2))
  refine ⟨fun _ => ?_, fun q => absurd rfl q⟩
  exact hback _ _ (by omega) hcp
def T_law4 (KN : Nat → aS → Prop) (N : Nat) (xs : Nat → Int32) : List aI := [I_aload 1 1, I_aload 0 1, I_iload 4 2, I_bot, I_const 1 1, I_bin fun x y => x + y, I_sld N xs, I_aload 3 1, I_callW 3 F_L_startOf (KN 4), I_bot, I_bot, I_istore 5 2, I_bot, I_aload 2 1, I_aload 0 1, I_iload 4 2, I_bot, I_const 1 1, I_bin fun x y => x + y, I_sld N xs, I_callV 6 1 F_X6_startOf, I_bot, I_bot, I_istore 6 2, I_bot, I_aload 2 1, I_callV 6 0 F_X6_thrown, I_bot, I_bot, I_iload 5 2, I_bot, I_icmp (fun x y => x = y) 461, I_bot, I_bot, I_const 0 1, I_lret, I_iload 5 2, I_bot, I_if (fun x => ¬ x = 0) 478, I_bot, I_bot, I_aload 3 1, I_const 0 1, I_lald, I_iload 6 2, I_bot, I_i2l, I_lcmp, I_if (fun x => x = 0) 478, I_bot, I_bot, I_const 0 1, I_lret, I_goto 2234, I_bot, I_bot]
set_option maxHeartbeats 8000000 in
set_option maxRecDepth 100000 in
theorem r_law4 {p : Program} {l : Launch} {e : Env} {s : State} {m : MethodId} {below : List Frame} {meth : Method} {c : Code} {D : va_G} {cI cZ cA cL : ClassId} {ad sa : Nat → Nat} {b N : Nat} {xs : Nat → Int32} (Z : LCX p l e s m meth c b N xs D cI cZ cA cL ad sa) (cells slots : Nat) (hcell : cells + 20 ≤ 601024) (hslot : slots + 120 ≤ 7293034) :
    ruL (Ru p l e room_1 s m #[Value.ref b] below meth c cells slots (lw_Z below #[Value.ref b] s) 7 D cI cZ cA cL ad (AA ad s.heap.size) s.heap) 425 (T_law4 (fun d => WS p l e room_1 s m #[Value.ref b] below meth c (cells + d) (slots + 6 * d) (lw_Z below #[Value.ref b] s) 7 D cI cZ cA cL ad (AA ad s.heap.size) s.heap) N xs) := by
  obtain ⟨hx, hb, hml, hown, hts, hr, hlocks, hK, hN, hX, hC, hXs, hbl, hbA, had, hi, hlt, hA9⟩ := Z
  refine ruL_c (n := 425) (n2 := 426) rfl (ru_aload_n (k := 1) hx hb dL_law_425) ?_
  refine ruL_c (n := 426) (n2 := 427) rfl (ru_aload_n (k := 0) hx hb dL_law_426) ?_
  refine ruL_c (n := 427) (n2 := 428) rfl (ru_iload hx hb dL_law_427) ?_
  refine ruL_c (n := 428) (n2 := 429) rfl (ru_bot) ?_
  refine ruL_c (n := 429) (n2 := 430) rfl (ru_iconst hx hb dL_law_429 rfl) ?_
  refine ruL_c (n := 430) (n2 := 431) rfl (ru_iadd hx hb dL_law_430) ?_
  refine ruL_c (n := 431) (n2 := 432) rfl (ru_sld hx hb hXs hbl hbA had dL_law_431) ?_
  refine ruL_c (n := 432) (n2 := 433) rfl (ru_aload_n (k := 3) hx hb dL_law_432) ?_
  refine ruL_c (n := 433) (n2 := 434) rfl (ru_callW (own := RL) hx hb hml hown hts hK hN hX hC (c_L_startOf l hlt D cI cZ cA cL ad sa hi) (vx_cwSW 3 hts gL_law_L_startOf rfl rfl rfl (by decide +kernel) ⟨Nat.le_of_ble_eq_true rfl, Nat.le_of_ble_eq_true rfl⟩) dL_law_433 ⟨Nat.le_trans (Nat.add_le_add_left (by decide) _) hcell, Nat.le_trans (Nat.add_le_add_left (by decide) _) hslot⟩) ?_
  refine ruL_c (n := 434) (n2 := 435) rfl (ru_bot) ?_
  refine ruL_c (n := 435) (n2 := 436) rfl (ru_bot) ?_
  refine ruL_c (n := 436) (n2 := 437) rfl (ru_istore hx hb dL_law_436) ?_
  refine ruL_c (n := 437) (n2 := 438) rfl (ru_bot) ?_
  refine ruL_c (n := 438) (n2 := 439) rfl (ru_aload_n (k := 2) hx hb dL_law_438) ?_
  refine ruL_c (n := 439) (n2 := 440) rfl (ru_aload_n (k := 0) hx hb dL_law_439) ?_
  refine ruL_c (n := 440) (n2 := 441) rfl (ru_iload hx hb dL_law_440) ?_
  refine ruL_c (n := 441) (n2 := 442) rfl (ru_bot) ?_
  refine ruL_c (n := 442) (n2 := 443) rfl (ru_iconst hx hb dL_law_442 rfl) ?_
  refine ruL_c (n := 443) (n2 := 444) rfl (ru_iadd hx hb dL_law_443) ?_
  refine ruL_c (n := 444) (n2 := 445) rfl (ru_sld hx hb hXs hbl hbA had dL_law_444) ?_
  refine ruL_c (n := 445) (n2 := 446) rfl (ru_callV (own := RL) hx hb hml hown hts hK hN (by decide) rfl (c_X6_startOf l D cI cZ cA cL ad hi) (cwV 1 hts gL_law_X6_startOf rfl rfl rfl (by decide +kernel) ⟨Nat.le_of_ble_eq_true rfl, Nat.le_of_ble_eq_true rfl⟩) dL_law_445 ⟨Nat.le_trans (Nat.le_add_right _ 20) hcell, Nat.le_trans (Nat.le_add_right _ 120) hslot⟩) ?_
  refine ruL_c (n := 446) (n2 := 447) rfl (ru_bot) ?_
  refine ruL_c (n := 447) (n2 := 448) rfl (ru_bot) ?_
  refine ruL_c (n := 448) (n2 := 449) rfl (ru_istore hx hb dL_law_448) ?_
  refine ruL_c (n := 449) (n2 := 450) rfl (ru_bot) ?_
  refine ruL_c (n := 450) (n2 := 451) rfl (ru_aload_n (k := 2) hx hb dL_law_450) ?_
  refine ruL_c (n := 451) (n2 := 452) rfl (ru_callV (own := RL) hx hb hml hown hts hK hN (by decide) rfl (c_X6_thrown l D cI cZ cA cL ad hi) (cwV 0 hts gL_law_X6_thrown rfl rfl rfl (by decide +kernel) ⟨Nat.le_of_ble_eq_true rfl, Nat.le_of_ble_eq_true rfl⟩) dL_law_451 ⟨Nat.le_trans (Nat.le_add_right _ 20) hcell, Nat.le_trans (Nat.le_add_right _ 120) hslot⟩) ?_
  refine ruL_c (n := 452) (n2 := 453) rfl (ru_bot) ?_
  refine ruL_c (n := 453) (n2 := 454) rfl (ru_bot) ?_
  refine ruL_c (n := 454) (n2 := 455) rfl (ru_iload hx hb dL_law_454) ?_
  refine ruL_c (n := 455) (n2 := 456) rfl (ru_bot) ?_
  refine ruL_c (n := 456) (n2 := 457) rfl (ru_icmpeq hx hb dL_law_456 (by decide)) ?_
  refine ruL_c (n := 457) (n2 := 458) rfl (ru_bot) ?_
  refine ruL_c (n := 458) (n2 := 459) rfl (ru_bot) ?_
  refine ruL_c (n := 459) (n2 := 460) rfl (ru_iconst hx hb dL_law_459 rfl) ?_
  refine ruL_c (n := 460) (n2 := 461) rfl (ru_lret hx hb hr hlocks hA9 dL_law_460 hcell hslot) ?_
  refine ruL_c (n := 461) (n2 := 462) rfl (ru_iload hx hb dL_law_461) ?_
  refine ruL_c (n := 462) (n2 := 463) rfl (ru_bot) ?_
  refine ruL_c (n := 463) (n2 := 464) rfl (ru_ifne hx hb dL_law_463 (by decide)) ?_
  refine ruL_c (n := 464) (n2 := 465) rfl (ru_bot) ?_
  refine ruL_c (n := 465) (n2 := 466) rfl (ru_bot) ?_
  refine ruL_c (n := 466) (n2 := 467) rfl (ru_aload_n (k := 3) hx hb dL_law_466) ?_
  refine ruL_c (n := 467) (n2 := 468) rfl (ru_iconst hx hb dL_law_467 rfl) ?_
  refine ruL_c (n := 468) (n2 := 469) rfl (ru_lald hx hb hK dL_law_468) ?_
  refine ruL_c (n := 469) (n2 := 470) rfl (ru_iload hx hb dL_law_469) ?_
  refine ruL_c (n := 470) (n2 := 471) rfl (ru_bot) ?_
  refine ruL_c (n := 471) (n2 := 472) rfl (ru_i2l hx hb dL_law_471) ?_
  refine ruL_c (n := 472) (n2 := 473) rfl (ru_lcmp hx hb dL_law_472) ?_
  refine ruL_c (n := 473) (n2 := 474) rfl (ru_ifeq hx hb dL_law_473 (by decide)) ?_
  refine ruL_c (n := 474) (n2 := 475) rfl (ru_bot) ?_
  refine ruL_c (n := 475) (n2 := 476) rfl (ru_bot) ?_
  refine ruL_c (n := 476) (n2 := 477) rfl (ru_iconst hx hb dL_law_476 rfl) ?_
  refine ruL_c (n := 477) (n2 := 478) rfl (ru_lret hx hb hr hlocks hA9 dL_law_477 hcell hslot) ?_
  refine ruL_c (n := 478) (n2 := 479) rfl (ru_goto hx hb dL_law_478 (by decide)) ?_
  refine ruL_c (n := 479) (n2 := 480) rfl (ru_bot) ?_
  refine ruL_c (n := 480) (n2 := 481) rfl (ru_bot) ?_
  exact trivial
set_option maxHeartbeats 8000000 in
set_option maxRecDepth 100000 in
theorem k_law4 {CP : aM → Prop} {N : Nat} {xs : Nat → Int32} {K : Nat → aS → Prop} (hw : ∀ c, c ≤ 8000 → ∀ n x, wpB 425 (T_law4 (fun d => K (c + d)) N xs) n (K c) x → K c x) (hf : ∀ c pc L i st σ, K c (pc, L.set i .null, st, σ) → K c (pc, L, st, σ)) (ag : ∀ p0 : Int32, agW CP (f_L_startOf p0) (f_X6_startOf p0)) (c i : Nat) (hc : c ≤ 7900) (g1 : inb (nI i + 1) N = true) (g2 : inb (nI i + 2) N = true) (g3 : inb (nI i + 3) N = true) (g4 : inb (nI i + 4) N = true) (σ : aM) (hCP : CP σ)
    (hback : ∀ c2 σ2, c2 ≤ c + 12 → CP σ2 → K c2 (2234, [.ref 200, .ref 0, .ref 6, .ref 178, .int (nI i), .null, .null], [], σ2)) : K c (425, [.ref 200, .ref 0, .ref 6, .ref 178, .int (nI i), .null, .null], [], σ) := by
  obtain ⟨k1, σ1, b1, σ2, e1, e2, e3, e4, hcp⟩ := ag (xs (ix (nI i + 1))) σ hCP
  refine hw c (by omega) 8 _ ?_
  show inb (nI i + 1) N = true ∧ (∃ k1 σ1, f_L_startOf (xs (ix (nI i + 1))) σ = some (k1, σ1) ∧ K (c + 4) (436, [.ref 200, .ref 0, .ref 6, .ref 178, .int (nI i), .null, .null], [.int k1], σ1))
  refine ⟨g1, ⟨k1, σ1, e1, ?_⟩⟩
  refine hw (c + 4) (by omega) 8 _ ?_
  show inb (nI i + 1) N = true ∧ (∃ b1 σ2, f_X6_startOf (xs (ix (nI i + 1))) σ1 = some (b1, σ2) ∧ K (c + 4) (448, [.ref 200, .ref 0, .ref 6, .ref 178, .int (nI i), .int k1, .null], [.int b1], σ2))
  refine ⟨g1, ⟨b1, σ2, e2, ?_⟩⟩
  refine hw (c + 4) (by omega) 3 _ ?_
  show ∃ r3 σ3, f_X6_thrown σ2 = some (r3, σ3) ∧ K (c + 4) (454, [.ref 200, .ref 0, .ref 6, .ref 178, .int (nI i), .int k1, .int b1], [.int r3], σ3)
  refine ⟨σ2 6 0, σ2, rfl, ?_⟩
  refine hw (c + 4) (by omega) 2 _ ?_
  show (((σ2 6 0) = k1) → K (c + 4) (461, [.ref 200, .ref 0, .ref 6, .ref 178, .int (nI i), .int k1, .int b1], [], σ2)) ∧ (¬ ((σ2 6 0) = k1) → K (c + 4) (459, [.ref 200, .ref 0, .ref 6, .ref 178, .int (nI i), .int k1, .int b1], [], σ2))
  refine ⟨fun _ => ?_, fun q => absurd e3 q⟩
  by_cases hk : k1 = 0
  · have hz : σ2 178 (ix 0) = b1 := e4 hk
    refine hw (c + 4) (by omega) 2 _ ?_
    show ((¬ k1 = 0) → K (c + 4) (478, [.ref 200, .ref 0, .ref 6, .ref 178, .int (nI i), .int k1, .int b1], [], σ2)) ∧ (¬ (¬ k1 = 0) → K (c + 4) (466, [.ref 200, .ref 0, .ref 6, .ref 178, .int (nI i), .int k1, .int b1], [], σ2))
    refine ⟨fun q => absurd hk q, fun _ => ?_⟩
    refine hw (c + 4) (by omega) 7 _ ?_
    show kd 178 = 4 ∧ (inb 0 1 = true ∧ ((((lg_cmp (σ2 178 (ix 0)).toInt64 b1.toInt64) = 0) → K (c + 4) (478, [.ref 200, .ref 0, .ref 6, .ref 178, .int (nI i), .int k1, .int b1], [], σ2)) ∧ (¬ ((lg_cmp (σ2 178 (ix 0)).toInt64 b1.toInt64) = 0) → K (c + 4) (476, [.ref 200, .ref 0, .ref 6, .ref 178, .int (nI i), .int k1, .int b1], [], σ2))))
    refine ⟨rfl, by decide, ⟨fun _ => ?_, fun q => absurd (by rw [hz]; exact lcmp_eq _) q⟩⟩
    refine hw (c + 4) (by omega) 1 _ ?_
    show K (c + 4) (2234, [.ref 200, .ref 0, .ref 6, .ref 178, .int (nI i), .int k1, .int b1], [], σ2)
    refine hf _ _ _ 5 _ _ ?_
    show K (c + 4) (2234, [.ref 200, .ref 0, .ref 6, .ref 178, .int (nI i), .null, .int b1], [], σ2)
    refine hf _ _ _ 6 _ _ ?_
    show K (c + 4) (2234, [.ref 200, .ref 0, .ref 6, .ref 178, .int (nI i), .null, .null], [], σ2)
    exact hback _ _ (by omega) hcp
  · refine hw (c + 4) (by omega) 2 _ ?_
    show ((¬ k1 = 0) → K (c + 4) (478, [.ref 200, .ref 0, .ref 6, .ref 178, .int (nI i), .int k1, .int b1], [], σ2)) ∧ (¬ (¬ k1 = 0) → K (c + 4) (466, [.ref 200, .ref 0, .ref 6, .ref 178, .int (nI i), .int k1, .int b1], [], σ2))
    refine ⟨fun _ => ?_, fun q => absurd hk q⟩
    refine hw (c + 4) (by omega) 1 _ ?_
    show K (c + 4) (2234, [.ref 200, .ref 0, .ref 6, .ref 178, .int (nI i), .int k1, .int b1], [], σ2)
    refine hf _ _ _ 5 _ _ ?_
    show K (c + 4) (2234, [.ref 200, .ref 0, .ref 6, .ref 178, .int (nI i), .null, .int b1], [], σ2)
    refine hf _ _ _ 6 _ _ ?_
    show K (c + 4) (2234, [.ref 200, .ref 0, .ref 6, .ref 178, .int (nI i), .null, .null], [], σ2)
    exact hback _ _ (by omega) hcp
def T_law5 (KN : Nat → aS → Prop) (N : Nat) (xs : Nat → Int32) : List aI := [I_aload 1 1, I_callV 0 0 F_X5_length, I_bot, I_bot, I_aload 2 1, I_callV 6 0 F_X6_length, I_bot, I_bot, I_icmp (fun x y => x = y) 2234, I_bot, I_bot, I_const 0 1, I_lret]
set_option maxHeartbeats 8000000 in
set_option maxRecDepth 100000 in
theorem r_law5 {p : Program} {l : Launch} {e : Env} {s : State} {m : MethodId} {below : List Frame} {meth : Method} {c : Code} {D : va_G} {cI cZ cA cL : ClassId} {ad sa : Nat → Nat} {b N : Nat} {xs : Nat → Int32} (Z : LCX p l e s m meth c b N xs D cI cZ cA cL ad sa) (cells slots : Nat) (hcell : cells + 20 ≤ 601024) (hslot : slots + 120 ≤ 7293034) :
    ruL (Ru p l e room_1 s m #[Value.ref b] below meth c cells slots (lw_Z below #[Value.ref b] s) 7 D cI cZ cA cL ad (AA ad s.heap.size) s.heap) 481 (T_law5 (fun d => WS p l e room_1 s m #[Value.ref b] below meth c (cells + d) (slots + 6 * d) (lw_Z below #[Value.ref b] s) 7 D cI cZ cA cL ad (AA ad s.heap.size) s.heap) N xs) := by
  obtain ⟨hx, hb, hml, hown, hts, hr, hlocks, hK, hN, hX, hC, hXs, hbl, hbA, had, hi, hlt, hA9⟩ := Z
  refine ruL_c (n := 481) (n2 := 482) rfl (ru_aload_n (k := 1) hx hb dL_law_481) ?_
  refine ruL_c (n := 482) (n2 := 483) rfl (ru_callV (own := RL) hx hb hml hown hts hK hN (by decide) rfl (c_X5_length l D cI cZ cA cL ad hi) (cwV 0 hts gL_law_X5_length rfl rfl rfl (by decide +kernel) ⟨Nat.le_of_ble_eq_true rfl, Nat.le_of_ble_eq_true rfl⟩) dL_law_482 ⟨Nat.le_trans (Nat.le_add_right _ 20) hcell, Nat.le_trans (Nat.le_add_right _ 120) hslot⟩) ?_
  refine ruL_c (n := 483) (n2 := 484) rfl (ru_bot) ?_
  refine ruL_c (n := 484) (n2 := 485) rfl (ru_bot) ?_
  refine ruL_c (n := 485) (n2 := 486) rfl (ru_aload_n (k := 2) hx hb dL_law_485) ?_
  refine ruL_c (n := 486) (n2 := 487) rfl (ru_callV (own := RL) hx hb hml hown hts hK hN (by decide) rfl (c_X6_length l D cI cZ cA cL ad hi) (cwV 0 hts gL_law_X6_length rfl rfl rfl (by decide +kernel) ⟨Nat.le_of_ble_eq_true rfl, Nat.le_of_ble_eq_true rfl⟩) dL_law_486 ⟨Nat.le_trans (Nat.le_add_right _ 20) hcell, Nat.le_trans (Nat.le_add_right _ 120) hslot⟩) ?_
  refine ruL_c (n := 487) (n2 := 488) rfl (ru_bot) ?_
  refine ruL_c (n := 488) (n2 := 489) rfl (ru_bot) ?_
  refine ruL_c (n := 489) (n2 := 490) rfl (ru_icmpeq hx hb dL_law_489 (by decide)) ?_
  refine ruL_c (n := 490) (n2 := 491) rfl (ru_bot) ?_
  refine ruL_c (n := 491) (n2 := 492) rfl (ru_bot) ?_
  refine ruL_c (n := 492) (n2 := 493) rfl (ru_iconst hx hb dL_law_492 rfl) ?_
  refine ruL_c (n := 493) (n2 := 494) rfl (ru_lret hx hb hr hlocks hA9 dL_law_493 hcell hslot) ?_
  exact trivial
set_option maxHeartbeats 8000000 in
set_option maxRecDepth 100000 in
theorem k_law5 {CP : aM → Prop} {N : Nat} {xs : Nat → Int32} {K : Nat → aS → Prop} (hw : ∀ c, c ≤ 8000 → ∀ n x, wpB 481 (T_law5 (fun d => K (c + d)) N xs) n (K c) x → K c x) (hf : ∀ c pc L i st σ, K c (pc, L.set i .null, st, σ) → K c (pc, L, st, σ)) (ag : agD CP f_X5_length f_X6_length) (c i : Nat) (hc : c ≤ 7900) (g1 : inb (nI i + 1) N = true) (g2 : inb (nI i + 2) N = true) (g3 : inb (nI i + 3) N = true) (g4 : inb (nI i + 4) N = true) (σ : aM) (hCP : CP σ)
    (hback : ∀ c2 σ2, c2 ≤ c + 12 → CP σ2 → K c2 (2234, [.ref 200, .ref 0, .ref 6, .ref 178, .int (nI i), .null, .null], [], σ2)) : K c (481, [.ref 200, .ref 0, .ref 6, .ref 178, .int (nI i), .null, .null], [], σ) := by
  obtain ⟨k1, σ1, σ2, e1, e2, hcp⟩ := ag σ hCP
  refine hw c (by omega) 2 _ ?_
  show ∃ k1 σ1, f_X5_length σ = some (k1, σ1) ∧ K c (485, [.ref 200, .ref 0, .ref 6, .ref 178, .int (nI i), .null, .null], [.int k1], σ1)
  refine ⟨k1, σ1, e1, ?_⟩
  refine hw c (by omega) 2 _ ?_
  show ∃ b1 σ2, f_X6_length σ1 = some (b1, σ2) ∧ K c (489, [.ref 200, .ref 0, .ref 6, .ref 178, .int (nI i), .null, .null], [.int b1, .int k1], σ2)
  refine ⟨k1, σ2, e2, ?_⟩
  refine hw c (by omega) 1 _ ?_
  show ((k1 = k1) → K c (2234, [.ref 200, .ref 0, .ref 6, .ref 178, .int (nI i), .null, .null], [], σ2)) ∧ (¬ (k1 = k1) → K c (492, [.ref 200, .ref 0, .ref 6, .ref 178, .int (nI i), .null, .null], [], σ2))
  refine ⟨fun _ => ?_, fun q => absurd rfl q⟩
  exact hback _ _ (by omega) hcp
def T_law6 (KN : Nat → aS → Prop) (N : Nat) (xs : Nat → Int32) : List aI := [I_aload 1 1, I_aload 0 1, I_iload 4 2, I_bot, I_const 1 1, I_bin fun x y => x + y, I_sld N xs, I_aload 0 1, I_iload 4 2, I_bot, I_const 2 1, I_bin fun x y => x + y, I_sld N xs, I_aload 0 1, I_iload 4 2, I_bot, I_const 3 1, I_bin fun x y => x + y, I_sld N xs, I_aload 3 1, I_callW 5 F_L_setChannel (KN 8), I_bot, I_bot, I_istore 5 2, I_bot, I_aload 2 1, I_aload 0 1, I_iload 4 2, I_bot, I_const 1 1, I_bin fun x y => x + y, I_sld N xs, I_aload 0 1, I_iload 4 2, I_bot, I_const 2 1, I_bin fun x y => x + y, I_sld N xs, I_aload 0 1, I_iload 4 2, I_bot, I_const 3 1, I_bin fun x y => x + y, I_sld N xs, I_callV 6 3 F_X6_setChannel, I_bot, I_bot, I_istore 6 2, I_bot, I_aload 2 1, I_callV 6 0 F_X6_thrown, I_bot, I_bot, I_iload 5 2, I_bot, I_icmp (fun x y => x = y) 554, I_bot, I_bot, I_const 0 1, I_lret, I_iload 5 2, I_bot, I_if (fun x => ¬ x = 0) 571, I_bot, I_bot, I_aload 3 1, I_const 0 1, I_lald, I_iload 6 2, I_bot, I_i2l, I_lcmp, I_if (fun x => x = 0) 571, I_bot, I_bot, I_const 0 1, I_lret, I_goto 2234, I_bot, I_bot]
set_option maxHeartbeats 8000000 in
set_option maxRecDepth 100000 in
theorem r_law6 {p : Program} {l : Launch} {e : Env} {s : State} {m : MethodId} {below : List Frame} {meth : Method} {c : Code} {D : va_G} {cI cZ cA cL : ClassId} {ad sa : Nat → Nat} {b N : Nat} {xs : Nat → Int32} (Z : LCX p l e s m meth c b N xs D cI cZ cA cL ad sa) (cells slots : Nat) (hcell : cells + 20 ≤ 601024) (hslot : slots + 120 ≤ 7293034) :
    ruL (Ru p l e room_1 s m #[Value.ref b] below meth c cells slots (lw_Z below #[Value.ref b] s) 7 D cI cZ cA cL ad (AA ad s.heap.size) s.heap) 494 (T_law6 (fun d => WS p l e room_1 s m #[Value.ref b] below meth c (cells + d) (slots + 6 * d) (lw_Z below #[Value.ref b] s) 7 D cI cZ cA cL ad (AA ad s.heap.size) s.heap) N xs) := by
  obtain ⟨hx, hb, hml, hown, hts, hr, hlocks, hK, hN, hX, hC, hXs, hbl, hbA, had, hi, hlt, hA9⟩ := Z
  refine ruL_c (n := 494) (n2 := 495) rfl (ru_aload_n (k := 1) hx hb dL_law_494) ?_
  refine ruL_c (n := 495) (n2 := 496) rfl (ru_aload_n (k := 0) hx hb dL_law_495) ?_
  refine ruL_c (n := 496) (n2 := 497) rfl (ru_iload hx hb dL_law_496) ?_
  refine ruL_c (n := 497) (n2 := 498) rfl (ru_bot) ?_
  refine ruL_c (n := 498) (n2 := 499) rfl (ru_iconst hx hb dL_law_498 rfl) ?_
  refine ruL_c (n := 499) (n2 := 500) rfl (ru_iadd hx hb dL_law_499) ?_
  refine ruL_c (n := 500) (n2 := 501) rfl (ru_sld hx hb hXs hbl hbA had dL_law_500) ?_
  refine ruL_c (n := 501) (n2 := 502) rfl (ru_aload_n (k := 0) hx hb dL_law_501) ?_
  refine ruL_c (n := 502) (n2 := 503) rfl (ru_iload hx hb dL_law_502) ?_
  refine ruL_c (n := 503) (n2 := 504) rfl (ru_bot) ?_
  refine ruL_c (n := 504) (n2 := 505) rfl (ru_iconst hx hb dL_law_504 rfl) ?_
  refine ruL_c (n := 505) (n2 := 506) rfl (ru_iadd hx hb dL_law_505) ?_
  refine ruL_c (n := 506) (n2 := 507) rfl (ru_sld hx hb hXs hbl hbA had dL_law_506) ?_
  refine ruL_c (n := 507) (n2 := 508) rfl (ru_aload_n (k := 0) hx hb dL_law_507) ?_
  refine ruL_c (n := 508) (n2 := 509) rfl (ru_iload hx hb dL_law_508) ?_
  refine ruL_c (n := 509) (n2 := 510) rfl (ru_bot) ?_
  refine ruL_c (n := 510) (n2 := 511) rfl (ru_iconst hx hb dL_law_510 rfl) ?_
  refine ruL_c (n := 511) (n2 := 512) rfl (ru_iadd hx hb dL_law_511) ?_
  refine ruL_c (n := 512) (n2 := 513) rfl (ru_sld hx hb hXs hbl hbA had dL_law_512) ?_
  refine ruL_c (n := 513) (n2 := 514) rfl (ru_aload_n (k := 3) hx hb dL_law_513) ?_
  refine ruL_c (n := 514) (n2 := 515) rfl (ru_callW (own := RL) hx hb hml hown hts hK hN hX hC (c_L_setChannel l hlt D cI cZ cA cL ad sa hi) (vx_cwSW 5 hts gL_law_L_setChannel rfl rfl rfl (by decide +kernel) ⟨Nat.le_of_ble_eq_true rfl, Nat.le_of_ble_eq_true rfl⟩) dL_law_514 ⟨Nat.le_trans (Nat.add_le_add_left (by decide) _) hcell, Nat.le_trans (Nat.add_le_add_left (by decide) _) hslot⟩) ?_
  refine ruL_c (n := 515) (n2 := 516) rfl (ru_bot) ?_
  refine ruL_c (n := 516) (n2 := 517) rfl (ru_bot) ?_
  refine ruL_c (n := 517) (n2 := 518) rfl (ru_istore hx hb dL_law_517) ?_
  refine ruL_c (n := 518) (n2 := 519) rfl (ru_bot) ?_
  refine ruL_c (n := 519) (n2 := 520) rfl (ru_aload_n (k := 2) hx hb dL_law_519) ?_
  refine ruL_c (n := 520) (n2 := 521) rfl (ru_aload_n (k := 0) hx hb dL_law_520) ?_
  refine ruL_c (n := 521) (n2 := 522) rfl (ru_iload hx hb dL_law_521) ?_
  refine ruL_c (n := 522) (n2 := 523) rfl (ru_bot) ?_
  refine ruL_c (n := 523) (n2 := 524) rfl (ru_iconst hx hb dL_law_523 rfl) ?_
  refine ruL_c (n := 524) (n2 := 525) rfl (ru_iadd hx hb dL_law_524) ?_
  refine ruL_c (n := 525) (n2 := 526) rfl (ru_sld hx hb hXs hbl hbA had dL_law_525) ?_
  refine ruL_c (n := 526) (n2 := 527) rfl (ru_aload_n (k := 0) hx hb dL_law_526) ?_
  refine ruL_c (n := 527) (n2 := 528) rfl (ru_iload hx hb dL_law_527) ?_
  refine ruL_c (n := 528) (n2 := 529) rfl (ru_bot) ?_
  refine ruL_c (n := 529) (n2 := 530) rfl (ru_iconst hx hb dL_law_529 rfl) ?_
  refine ruL_c (n := 530) (n2 := 531) rfl (ru_iadd hx hb dL_law_530) ?_
  refine ruL_c (n := 531) (n2 := 532) rfl (ru_sld hx hb hXs hbl hbA had dL_law_531) ?_
  refine ruL_c (n := 532) (n2 := 533) rfl (ru_aload_n (k := 0) hx hb dL_law_532) ?_
  refine ruL_c (n := 533) (n2 := 534) rfl (ru_iload hx hb dL_law_533) ?_
  refine ruL_c (n := 534) (n2 := 535) rfl (ru_bot) ?_
  refine ruL_c (n := 535) (n2 := 536) rfl (ru_iconst hx hb dL_law_535 rfl) ?_
  refine ruL_c (n := 536) (n2 := 537) rfl (ru_iadd hx hb dL_law_536) ?_
  refine ruL_c (n := 537) (n2 := 538) rfl (ru_sld hx hb hXs hbl hbA had dL_law_537) ?_
  refine ruL_c (n := 538) (n2 := 539) rfl (ru_callV (own := RL) hx hb hml hown hts hK hN (by decide) rfl (c_X6_setChannel l D cI cZ cA cL ad hi) (cwV 3 hts gL_law_X6_setChannel rfl rfl rfl (by decide +kernel) ⟨Nat.le_of_ble_eq_true rfl, Nat.le_of_ble_eq_true rfl⟩) dL_law_538 ⟨Nat.le_trans (Nat.le_add_right _ 20) hcell, Nat.le_trans (Nat.le_add_right _ 120) hslot⟩) ?_
  refine ruL_c (n := 539) (n2 := 540) rfl (ru_bot) ?_
  refine ruL_c (n := 540) (n2 := 541) rfl (ru_bot) ?_
  refine ruL_c (n := 541) (n2 := 542) rfl (ru_istore hx hb dL_law_541) ?_
  refine ruL_c (n := 542) (n2 := 543) rfl (ru_bot) ?_
  refine ruL_c (n := 543) (n2 := 544) rfl (ru_aload_n (k := 2) hx hb dL_law_543) ?_
  refine ruL_c (n := 544) (n2 := 545) rfl (ru_callV (own := RL) hx hb hml hown hts hK hN (by decide) rfl (c_X6_thrown l D cI cZ cA cL ad hi) (cwV 0 hts gL_law_X6_thrown rfl rfl rfl (by decide +kernel) ⟨Nat.le_of_ble_eq_true rfl, Nat.le_of_ble_eq_true rfl⟩) dL_law_544 ⟨Nat.le_trans (Nat.le_add_right _ 20) hcell, Nat.le_trans (Nat.le_add_right _ 120) hslot⟩) ?_
  refine ruL_c (n := 545) (n2 := 546) rfl (ru_bot) ?_
  refine ruL_c (n := 546) (n2 := 547) rfl (ru_bot) ?_
  refine ruL_c (n := 547) (n2 := 548) rfl (ru_iload hx hb dL_law_547) ?_
  refine ruL_c (n := 548) (n2 := 549) rfl (ru_bot) ?_
  refine ruL_c (n := 549) (n2 := 550) rfl (ru_icmpeq hx hb dL_law_549 (by decide)) ?_
  refine ruL_c (n := 550) (n2 := 551) rfl (ru_bot) ?_
  refine ruL_c (n := 551) (n2 := 552) rfl (ru_bot) ?_
  refine ruL_c (n := 552) (n2 := 553) rfl (ru_iconst hx hb dL_law_552 rfl) ?_
  refine ruL_c (n := 553) (n2 := 554) rfl (ru_lret hx hb hr hlocks hA9 dL_law_553 hcell hslot) ?_
  refine ruL_c (n := 554) (n2 := 555) rfl (ru_iload hx hb dL_law_554) ?_
  refine ruL_c (n := 555) (n2 := 556) rfl (ru_bot) ?_
  refine ruL_c (n := 556) (n2 := 557) rfl (ru_ifne hx hb dL_law_556 (by decide)) ?_
  refine ruL_c (n := 557) (n2 := 558) rfl (ru_bot) ?_
  refine ruL_c (n := 558) (n2 := 559) rfl (ru_bot) ?_
  refine ruL_c (n := 559) (n2 := 560) rfl (ru_aload_n (k := 3) hx hb dL_law_559) ?_
  refine ruL_c (n := 560) (n2 := 561) rfl (ru_iconst hx hb dL_law_560 rfl) ?_
  refine ruL_c (n := 561) (n2 := 562) rfl (ru_lald hx hb hK dL_law_561) ?_
  refine ruL_c (n := 562) (n2 := 563) rfl (ru_iload hx hb dL_law_562) ?_
  refine ruL_c (n := 563) (n2 := 564) rfl (ru_bot) ?_
  refine ruL_c (n := 564) (n2 := 565) rfl (ru_i2l hx hb dL_law_564) ?_
  refine ruL_c (n := 565) (n2 := 566) rfl (ru_lcmp hx hb dL_law_565) ?_
  refine ruL_c (n := 566) (n2 := 567) rfl (ru_ifeq hx hb dL_law_566 (by decide)) ?_
  refine ruL_c (n := 567) (n2 := 568) rfl (ru_bot) ?_
  refine ruL_c (n := 568) (n2 := 569) rfl (ru_bot) ?_
  refine ruL_c (n := 569) (n2 := 570) rfl (ru_iconst hx hb dL_law_569 rfl) ?_
  refine ruL_c (n := 570) (n2 := 571) rfl (ru_lret hx hb hr hlocks hA9 dL_law_570 hcell hslot) ?_
  refine ruL_c (n := 571) (n2 := 572) rfl (ru_goto hx hb dL_law_571 (by decide)) ?_
  refine ruL_c (n := 572) (n2 := 573) rfl (ru_bot) ?_
  refine ruL_c (n := 573) (n2 := 574) rfl (ru_bot) ?_
  exact trivial
set_option maxHeartbeats 8000000 in
set_option maxRecDepth 100000 in
theorem k_law6 {CP : aM → Prop} {N : Nat} {xs : Nat → Int32} {K : Nat → aS → Prop} (hw : ∀ c, c ≤ 8000 → ∀ n x, wpB 494 (T_law6 (fun d => K (c + d)) N xs) n (K c) x → K c x) (hf : ∀ c pc L i st σ, K c (pc, L.set i .null, st, σ) → K c (pc, L, st, σ)) (ag : ∀ p0 p1 p2 : Int32, agW CP (f_L_setChannel p0 p1 p2) (f_X6_setChannel p0 p1 p2)) (c i : Nat) (hc : c ≤ 7900) (g1 : inb (nI i + 1) N = true) (g2 : inb (nI i + 2) N = true) (g3 : inb (nI i + 3) N = true) (g4 : inb (nI i + 4) N = true) (σ : aM) (hCP : CP σ)
    (hback : ∀ c2 σ2, c2 ≤ c + 12 → CP σ2 → K c2 (2234, [.ref 200, .ref 0, .ref 6, .ref 178, .int (nI i), .null, .null], [], σ2)) : K c (494, [.ref 200, .ref 0, .ref 6, .ref 178, .int (nI i), .null, .null], [], σ) := by
  obtain ⟨k1, σ1, b1, σ2, e1, e2, e3, e4, hcp⟩ := ag (xs (ix (nI i + 1))) (xs (ix (nI i + 2))) (xs (ix (nI i + 3))) σ hCP
  refine hw c (by omega) 18 _ ?_
  show inb (nI i + 1) N = true ∧ (inb (nI i + 2) N = true ∧ (inb (nI i + 3) N = true ∧ (∃ k1 σ1, f_L_setChannel (xs (ix (nI i + 1))) (xs (ix (nI i + 2))) (xs (ix (nI i + 3))) σ = some (k1, σ1) ∧ K (c + 8) (517, [.ref 200, .ref 0, .ref 6, .ref 178, .int (nI i), .null, .null], [.int k1], σ1))))
  refine ⟨g1, g2, g3, ⟨k1, σ1, e1, ?_⟩⟩
  refine hw (c + 8) (by omega) 18 _ ?_
  show inb (nI i + 1) N = true ∧ (inb (nI i + 2) N = true ∧ (inb (nI i + 3) N = true ∧ (∃ b1 σ2, f_X6_setChannel (xs (ix (nI i + 1))) (xs (ix (nI i + 2))) (xs (ix (nI i + 3))) σ1 = some (b1, σ2) ∧ K (c + 8) (541, [.ref 200, .ref 0, .ref 6, .ref 178, .int (nI i), .int k1, .null], [.int b1], σ2))))
  refine ⟨g1, g2, g3, ⟨b1, σ2, e2, ?_⟩⟩
  refine hw (c + 8) (by omega) 3 _ ?_
  show ∃ r3 σ3, f_X6_thrown σ2 = some (r3, σ3) ∧ K (c + 8) (547, [.ref 200, .ref 0, .ref 6, .ref 178, .int (nI i), .int k1, .int b1], [.int r3], σ3)
  refine ⟨σ2 6 0, σ2, rfl, ?_⟩
  refine hw (c + 8) (by omega) 2 _ ?_
  show (((σ2 6 0) = k1) → K (c + 8) (554, [.ref 200, .ref 0, .ref 6, .ref 178, .int (nI i), .int k1, .int b1], [], σ2)) ∧ (¬ ((σ2 6 0) = k1) → K (c + 8) (552, [.ref 200, .ref 0, .ref 6, .ref 178, .int (nI i), .int k1, .int b1], [], σ2))
  refine ⟨fun _ => ?_, fun q => absurd e3 q⟩
  by_cases hk : k1 = 0
  · have hz : σ2 178 (ix 0) = b1 := e4 hk
    refine hw (c + 8) (by omega) 2 _ ?_
    show ((¬ k1 = 0) → K (c + 8) (571, [.ref 200, .ref 0, .ref 6, .ref 178, .int (nI i), .int k1, .int b1], [], σ2)) ∧ (¬ (¬ k1 = 0) → K (c + 8) (559, [.ref 200, .ref 0, .ref 6, .ref 178, .int (nI i), .int k1, .int b1], [], σ2))
    refine ⟨fun q => absurd hk q, fun _ => ?_⟩
    refine hw (c + 8) (by omega) 7 _ ?_
    show kd 178 = 4 ∧ (inb 0 1 = true ∧ ((((lg_cmp (σ2 178 (ix 0)).toInt64 b1.toInt64) = 0) → K (c + 8) (571, [.ref 200, .ref 0, .ref 6, .ref 178, .int (nI i), .int k1, .int b1], [], σ2)) ∧ (¬ ((lg_cmp (σ2 178 (ix 0)).toInt64 b1.toInt64) = 0) → K (c + 8) (569, [.ref 200, .ref 0, .ref 6, .ref 178, .int (nI i), .int k1, .int b1], [], σ2))))
    refine ⟨rfl, by decide, ⟨fun _ => ?_, fun q => absurd (by rw [hz]; exact lcmp_eq _) q⟩⟩
    refine hw (c + 8) (by omega) 1 _ ?_
    show K (c + 8) (2234, [.ref 200, .ref 0, .ref 6, .ref 178, .int (nI i), .int k1, .int b1], [], σ2)
    refine hf _ _ _ 5 _ _ ?_
    show K (c + 8) (2234, [.ref 200, .ref 0, .ref 6, .ref 178, .int (nI i), .null, .int b1], [], σ2)
    refine hf _ _ _ 6 _ _ ?_
    show K (c + 8) (2234, [.ref 200, .ref 0, .ref 6, .ref 178, .int (nI i), .null, .null], [], σ2)
    exact hback _ _ (by omega) hcp
  · refine hw (c + 8) (by omega) 2 _ ?_
    show ((¬ k1 = 0) → K (c + 8) (571, [.ref 200, .ref 0, .ref 6, .ref 178, .int (nI i), .int k1, .int b1], [], σ2)) ∧ (¬ (¬ k1 = 0) → K (c + 8) (559, [.ref 200, .ref 0, .ref 6, .ref 178, .int (nI i), .int k1, .int b1], [], σ2))
    refine ⟨fun _ => ?_, fun q => absurd hk q⟩
    refine hw (c + 8) (by omega) 1 _ ?_
    show K (c + 8) (2234, [.ref 200, .ref 0, .ref 6, .ref 178, .int (nI i), .int k1, .int b1], [], σ2)
    refine hf _ _ _ 5 _ _ ?_
    show K (c + 8) (2234, [.ref 200, .ref 0, .ref 6, .ref 178, .int (nI i), .null, .int b1], [], σ2)
    refine hf _ _ _ 6 _ _ ?_
    show K (c + 8) (2234, [.ref 200, .ref 0, .ref 6, .ref 178, .int (nI i), .null, .null], [], σ2)
    exact hback _ _ (by omega) hcp
def T_law7 (KN : Nat → aS → Prop) (N : Nat) (xs : Nat → Int32) : List aI := [I_aload 1 1, I_aload 0 1, I_iload 4 2, I_bot, I_const 1 1, I_bin fun x y => x + y, I_sld N xs, I_aload 0 1, I_iload 4 2, I_bot, I_const 2 1, I_bin fun x y => x + y, I_sld N xs, I_aload 0 1, I_iload 4 2, I_bot, I_const 3 1, I_bin fun x y => x + y, I_sld N xs, I_aload 3 1, I_callW 5 F_L_addCue (KN 10), I_bot, I_bot, I_istore 5 2, I_bot, I_aload 2 1, I_aload 0 1, I_iload 4 2, I_bot, I_const 1 1, I_bin fun x y => x + y, I_sld N xs, I_aload 0 1, I_iload 4 2, I_bot, I_const 2 1, I_bin fun x y => x + y, I_sld N xs, I_aload 0 1, I_iload 4 2, I_bot, I_const 3 1, I_bin fun x y => x + y, I_sld N xs, I_callV 6 3 F_X6_addCue, I_bot, I_bot, I_istore 6 2, I_bot, I_aload 2 1, I_callV 6 0 F_X6_thrown, I_bot, I_bot, I_iload 5 2, I_bot, I_icmp (fun x y => x = y) 634, I_bot, I_bot, I_const 0 1, I_lret, I_iload 5 2, I_bot, I_if (fun x => ¬ x = 0) 651, I_bot, I_bot, I_aload 3 1, I_const 0 1, I_lald, I_iload 6 2, I_bot, I_i2l, I_lcmp, I_if (fun x => x = 0) 651, I_bot, I_bot, I_const 0 1, I_lret, I_goto 2234, I_bot, I_bot]
set_option maxHeartbeats 8000000 in
set_option maxRecDepth 100000 in
theorem r_law7 {p : Program} {l : Launch} {e : Env} {s : State} {m : MethodId} {below : List Frame} {meth : Method} {c : Code} {D : va_G} {cI cZ cA cL : ClassId} {ad sa : Nat → Nat} {b N : Nat} {xs : Nat → Int32} (Z : LCX p l e s m meth c b N xs D cI cZ cA cL ad sa) (cells slots : Nat) (hcell : cells + 20 ≤ 601024) (hslot : slots + 120 ≤ 7293034) :
    ruL (Ru p l e room_1 s m #[Value.ref b] below meth c cells slots (lw_Z below #[Value.ref b] s) 7 D cI cZ cA cL ad (AA ad s.heap.size) s.heap) 574 (T_law7 (fun d => WS p l e room_1 s m #[Value.ref b] below meth c (cells + d) (slots + 6 * d) (lw_Z below #[Value.ref b] s) 7 D cI cZ cA cL ad (AA ad s.heap.size) s.heap) N xs) := by
  obtain ⟨hx, hb, hml, hown, hts, hr, hlocks, hK, hN, hX, hC, hXs, hbl, hbA, had, hi, hlt, hA9⟩ := Z
  refine ruL_c (n := 574) (n2 := 575) rfl (ru_aload_n (k := 1) hx hb dL_law_574) ?_
  refine ruL_c (n := 575) (n2 := 576) rfl (ru_aload_n (k := 0) hx hb dL_law_575) ?_
  refine ruL_c (n := 576) (n2 := 577) rfl (ru_iload hx hb dL_law_576) ?_
  refine ruL_c (n := 577) (n2 := 578) rfl (ru_bot) ?_
  refine ruL_c (n := 578) (n2 := 579) rfl (ru_iconst hx hb dL_law_578 rfl) ?_
  refine ruL_c (n := 579) (n2 := 580) rfl (ru_iadd hx hb dL_law_579) ?_
  refine ruL_c (n := 580) (n2 := 581) rfl (ru_sld hx hb hXs hbl hbA had dL_law_580) ?_
  refine ruL_c (n := 581) (n2 := 582) rfl (ru_aload_n (k := 0) hx hb dL_law_581) ?_
  refine ruL_c (n := 582) (n2 := 583) rfl (ru_iload hx hb dL_law_582) ?_
  refine ruL_c (n := 583) (n2 := 584) rfl (ru_bot) ?_
  refine ruL_c (n := 584) (n2 := 585) rfl (ru_iconst hx hb dL_law_584 rfl) ?_
  refine ruL_c (n := 585) (n2 := 586) rfl (ru_iadd hx hb dL_law_585) ?_
  refine ruL_c (n := 586) (n2 := 587) rfl (ru_sld hx hb hXs hbl hbA had dL_law_586) ?_
  refine ruL_c (n := 587) (n2 := 588) rfl (ru_aload_n (k := 0) hx hb dL_law_587) ?_
  refine ruL_c (n := 588) (n2 := 589) rfl (ru_iload hx hb dL_law_588) ?_
  refine ruL_c (n := 589) (n2 := 590) rfl (ru_bot) ?_
  refine ruL_c (n := 590) (n2 := 591) rfl (ru_iconst hx hb dL_law_590 rfl) ?_
  refine ruL_c (n := 591) (n2 := 592) rfl (ru_iadd hx hb dL_law_591) ?_
  refine ruL_c (n := 592) (n2 := 593) rfl (ru_sld hx hb hXs hbl hbA had dL_law_592) ?_
  refine ruL_c (n := 593) (n2 := 594) rfl (ru_aload_n (k := 3) hx hb dL_law_593) ?_
  refine ruL_c (n := 594) (n2 := 595) rfl (ru_callW (own := RL) hx hb hml hown hts hK hN hX hC (c_L_addCue l hlt D cI cZ cA cL ad sa hi) (vx_cwSW 5 hts gL_law_L_addCue rfl rfl rfl (by decide +kernel) ⟨Nat.le_of_ble_eq_true rfl, Nat.le_of_ble_eq_true rfl⟩) dL_law_594 ⟨Nat.le_trans (Nat.add_le_add_left (by decide) _) hcell, Nat.le_trans (Nat.add_le_add_left (by decide) _) hslot⟩) ?_
  refine ruL_c (n := 595) (n2 := 596) rfl (ru_bot) ?_
  refine ruL_c (n := 596) (n2 := 597) rfl (ru_bot) ?_
  refine ruL_c (n := 597) (n2 := 598) rfl (ru_istore hx hb dL_law_597) ?_
  refine ruL_c (n := 598) (n2 := 599) rfl (ru_bot) ?_
  refine ruL_c (n := 599) (n2 := 600) rfl (ru_aload_n (k := 2) hx hb dL_law_599) ?_
  refine ruL_c (n := 600) (n2 := 601) rfl (ru_aload_n (k := 0) hx hb dL_law_600) ?_
  refine ruL_c (n := 601) (n2 := 602) rfl (ru_iload hx hb dL_law_601) ?_
  refine ruL_c (n := 602) (n2 := 603) rfl (ru_bot) ?_
  refine ruL_c (n := 603) (n2 := 604) rfl (ru_iconst hx hb dL_law_603 rfl) ?_
  refine ruL_c (n := 604) (n2 := 605) rfl (ru_iadd hx hb dL_law_604) ?_
  refine ruL_c (n := 605) (n2 := 606) rfl (ru_sld hx hb hXs hbl hbA had dL_law_605) ?_
  refine ruL_c (n := 606) (n2 := 607) rfl (ru_aload_n (k := 0) hx hb dL_law_606) ?_
  refine ruL_c (n := 607) (n2 := 608) rfl (ru_iload hx hb dL_law_607) ?_
  refine ruL_c (n := 608) (n2 := 609) rfl (ru_bot) ?_
  refine ruL_c (n := 609) (n2 := 610) rfl (ru_iconst hx hb dL_law_609 rfl) ?_
  refine ruL_c (n := 610) (n2 := 611) rfl (ru_iadd hx hb dL_law_610) ?_
  refine ruL_c (n := 611) (n2 := 612) rfl (ru_sld hx hb hXs hbl hbA had dL_law_611) ?_
  refine ruL_c (n := 612) (n2 := 613) rfl (ru_aload_n (k := 0) hx hb dL_law_612) ?_
  refine ruL_c (n := 613) (n2 := 614) rfl (ru_iload hx hb dL_law_613) ?_
  refine ruL_c (n := 614) (n2 := 615) rfl (ru_bot) ?_
  refine ruL_c (n := 615) (n2 := 616) rfl (ru_iconst hx hb dL_law_615 rfl) ?_
  refine ruL_c (n := 616) (n2 := 617) rfl (ru_iadd hx hb dL_law_616) ?_
  refine ruL_c (n := 617) (n2 := 618) rfl (ru_sld hx hb hXs hbl hbA had dL_law_617) ?_
  refine ruL_c (n := 618) (n2 := 619) rfl (ru_callV (own := RL) hx hb hml hown hts hK hN (by decide) rfl (c_X6_addCue l D cI cZ cA cL ad hi) (cwV 3 hts gL_law_X6_addCue rfl rfl rfl (by decide +kernel) ⟨Nat.le_of_ble_eq_true rfl, Nat.le_of_ble_eq_true rfl⟩) dL_law_618 ⟨Nat.le_trans (Nat.le_add_right _ 20) hcell, Nat.le_trans (Nat.le_add_right _ 120) hslot⟩) ?_
  refine ruL_c (n := 619) (n2 := 620) rfl (ru_bot) ?_
  refine ruL_c (n := 620) (n2 := 621) rfl (ru_bot) ?_
  refine ruL_c (n := 621) (n2 := 622) rfl (ru_istore hx hb dL_law_621) ?_
  refine ruL_c (n := 622) (n2 := 623) rfl (ru_bot) ?_
  refine ruL_c (n := 623) (n2 := 624) rfl (ru_aload_n (k := 2) hx hb dL_law_623) ?_
  refine ruL_c (n := 624) (n2 := 625) rfl (ru_callV (own := RL) hx hb hml hown hts hK hN (by decide) rfl (c_X6_thrown l D cI cZ cA cL ad hi) (cwV 0 hts gL_law_X6_thrown rfl rfl rfl (by decide +kernel) ⟨Nat.le_of_ble_eq_true rfl, Nat.le_of_ble_eq_true rfl⟩) dL_law_624 ⟨Nat.le_trans (Nat.le_add_right _ 20) hcell, Nat.le_trans (Nat.le_add_right _ 120) hslot⟩) ?_
  refine ruL_c (n := 625) (n2 := 626) rfl (ru_bot) ?_
  refine ruL_c (n := 626) (n2 := 627) rfl (ru_bot) ?_
  refine ruL_c (n := 627) (n2 := 628) rfl (ru_iload hx hb dL_law_627) ?_
  refine ruL_c (n := 628) (n2 := 629) rfl (ru_bot) ?_
  refine ruL_c (n := 629) (n2 := 630) rfl (ru_icmpeq hx hb dL_law_629 (by decide)) ?_
  refine ruL_c (n := 630) (n2 := 631) rfl (ru_bot) ?_
  refine ruL_c (n := 631) (n2 := 632) rfl (ru_bot) ?_
  refine ruL_c (n := 632) (n2 := 633) rfl (ru_iconst hx hb dL_law_632 rfl) ?_
  refine ruL_c (n := 633) (n2 := 634) rfl (ru_lret hx hb hr hlocks hA9 dL_law_633 hcell hslot) ?_
  refine ruL_c (n := 634) (n2 := 635) rfl (ru_iload hx hb dL_law_634) ?_
  refine ruL_c (n := 635) (n2 := 636) rfl (ru_bot) ?_
  refine ruL_c (n := 636) (n2 := 637) rfl (ru_ifne hx hb dL_law_636 (by decide)) ?_
  refine ruL_c (n := 637) (n2 := 638) rfl (ru_bot) ?_
  refine ruL_c (n := 638) (n2 := 639) rfl (ru_bot) ?_
  refine ruL_c (n := 639) (n2 := 640) rfl (ru_aload_n (k := 3) hx hb dL_law_639) ?_
  refine ruL_c (n := 640) (n2 := 641) rfl (ru_iconst hx hb dL_law_640 rfl) ?_
  refine ruL_c (n := 641) (n2 := 642) rfl (ru_lald hx hb hK dL_law_641) ?_
  refine ruL_c (n := 642) (n2 := 643) rfl (ru_iload hx hb dL_law_642) ?_
  refine ruL_c (n := 643) (n2 := 644) rfl (ru_bot) ?_
  refine ruL_c (n := 644) (n2 := 645) rfl (ru_i2l hx hb dL_law_644) ?_
  refine ruL_c (n := 645) (n2 := 646) rfl (ru_lcmp hx hb dL_law_645) ?_
  refine ruL_c (n := 646) (n2 := 647) rfl (ru_ifeq hx hb dL_law_646 (by decide)) ?_
  refine ruL_c (n := 647) (n2 := 648) rfl (ru_bot) ?_
  refine ruL_c (n := 648) (n2 := 649) rfl (ru_bot) ?_
  refine ruL_c (n := 649) (n2 := 650) rfl (ru_iconst hx hb dL_law_649 rfl) ?_
  refine ruL_c (n := 650) (n2 := 651) rfl (ru_lret hx hb hr hlocks hA9 dL_law_650 hcell hslot) ?_
  refine ruL_c (n := 651) (n2 := 652) rfl (ru_goto hx hb dL_law_651 (by decide)) ?_
  refine ruL_c (n := 652) (n2 := 653) rfl (ru_bot) ?_
  refine ruL_c (n := 653) (n2 := 654) rfl (ru_bot) ?_
  exact trivial
set_option maxHeartbeats 8000000 in
set_option maxRecDepth 100000 in
theorem k_law7 {CP : aM → Prop} {N : Nat} {xs : Nat → Int32} {K : Nat → aS → Prop} (hw : ∀ c, c ≤ 8000 → ∀ n x, wpB 574 (T_law7 (fun d => K (c + d)) N xs) n (K c) x → K c x) (hf : ∀ c pc L i st σ, K c (pc, L.set i .null, st, σ) → K c (pc, L, st, σ)) (ag : ∀ p0 p1 p2 : Int32, agW CP (f_L_addCue p0 p1 p2) (f_X6_addCue p0 p1 p2)) (c i : Nat) (hc : c ≤ 7900) (g1 : inb (nI i + 1) N = true) (g2 : inb (nI i + 2) N = true) (g3 : inb (nI i + 3) N = true) (g4 : inb (nI i + 4) N = true) (σ : aM) (hCP : CP σ)
    (hback : ∀ c2 σ2, c2 ≤ c + 12 → CP σ2 → K c2 (2234, [.ref 200, .ref 0, .ref 6, .ref 178, .int (nI i), .null, .null], [], σ2)) : K c (574, [.ref 200, .ref 0, .ref 6, .ref 178, .int (nI i), .null, .null], [], σ) := by
  obtain ⟨k1, σ1, b1, σ2, e1, e2, e3, e4, hcp⟩ := ag (xs (ix (nI i + 1))) (xs (ix (nI i + 2))) (xs (ix (nI i + 3))) σ hCP
  refine hw c (by omega) 18 _ ?_
  show inb (nI i + 1) N = true ∧ (inb (nI i + 2) N = true ∧ (inb (nI i + 3) N = true ∧ (∃ k1 σ1, f_L_addCue (xs (ix (nI i + 1))) (xs (ix (nI i + 2))) (xs (ix (nI i + 3))) σ = some (k1, σ1) ∧ K (c + 10) (597, [.ref 200, .ref 0, .ref 6, .ref 178, .int (nI i), .null, .null], [.int k1], σ1))))
  refine ⟨g1, g2, g3, ⟨k1, σ1, e1, ?_⟩⟩
  refine hw (c + 10) (by omega) 18 _ ?_
  show inb (nI i + 1) N = true ∧ (inb (nI i + 2) N = true ∧ (inb (nI i + 3) N = true ∧ (∃ b1 σ2, f_X6_addCue (xs (ix (nI i + 1))) (xs (ix (nI i + 2))) (xs (ix (nI i + 3))) σ1 = some (b1, σ2) ∧ K (c + 10) (621, [.ref 200, .ref 0, .ref 6, .ref 178, .int (nI i), .int k1, .null], [.int b1], σ2))))
  refine ⟨g1, g2, g3, ⟨b1, σ2, e2, ?_⟩⟩
  refine hw (c + 10) (by omega) 3 _ ?_
  show ∃ r3 σ3, f_X6_thrown σ2 = some (r3, σ3) ∧ K (c + 10) (627, [.ref 200, .ref 0, .ref 6, .ref 178, .int (nI i), .int k1, .int b1], [.int r3], σ3)
  refine ⟨σ2 6 0, σ2, rfl, ?_⟩
  refine hw (c + 10) (by omega) 2 _ ?_
  show (((σ2 6 0) = k1) → K (c + 10) (634, [.ref 200, .ref 0, .ref 6, .ref 178, .int (nI i), .int k1, .int b1], [], σ2)) ∧ (¬ ((σ2 6 0) = k1) → K (c + 10) (632, [.ref 200, .ref 0, .ref 6, .ref 178, .int (nI i), .int k1, .int b1], [], σ2))
  refine ⟨fun _ => ?_, fun q => absurd e3 q⟩
  by_cases hk : k1 = 0
  · have hz : σ2 178 (ix 0) = b1 := e4 hk
    refine hw (c + 10) (by omega) 2 _ ?_
    show ((¬ k1 = 0) → K (c + 10) (651, [.ref 200, .ref 0, .ref 6, .ref 178, .int (nI i), .int k1, .int b1], [], σ2)) ∧ (¬ (¬ k1 = 0) → K (c + 10) (639, [.ref 200, .ref 0, .ref 6, .ref 178, .int (nI i), .int k1, .int b1], [], σ2))
    refine ⟨fun q => absurd hk q, fun _ => ?_⟩
    refine hw (c + 10) (by omega) 7 _ ?_
    show kd 178 = 4 ∧ (inb 0 1 = true ∧ ((((lg_cmp (σ2 178 (ix 0)).toInt64 b1.toInt64) = 0) → K (c + 10) (651, [.ref 200, .ref 0, .ref 6, .ref 178, .int (nI i), .int k1, .int b1], [], σ2)) ∧ (¬ ((lg_cmp (σ2 178 (ix 0)).toInt64 b1.toInt64) = 0) → K (c + 10) (649, [.ref 200, .ref 0, .ref 6, .ref 178, .int (nI i), .int k1, .int b1], [], σ2))))
    refine ⟨rfl, by decide, ⟨fun _ => ?_, fun q => absurd (by rw [hz]; exact lcmp_eq _) q⟩⟩
    refine hw (c + 10) (by omega) 1 _ ?_
    show K (c + 10) (2234, [.ref 200, .ref 0, .ref 6, .ref 178, .int (nI i), .int k1, .int b1], [], σ2)
    refine hf _ _ _ 5 _ _ ?_
    show K (c + 10) (2234, [.ref 200, .ref 0, .ref 6, .ref 178, .int (nI i), .null, .int b1], [], σ2)
    refine hf _ _ _ 6 _ _ ?_
    show K (c + 10) (2234, [.ref 200, .ref 0, .ref 6, .ref 178, .int (nI i), .null, .null], [], σ2)
    exact hback _ _ (by omega) hcp
  · refine hw (c + 10) (by omega) 2 _ ?_
    show ((¬ k1 = 0) → K (c + 10) (651, [.ref 200, .ref 0, .ref 6, .ref 178, .int (nI i), .int k1, .int b1], [], σ2)) ∧ (¬ (¬ k1 = 0) → K (c + 10) (639, [.ref 200, .ref 0, .ref 6, .ref 178, .int (nI i), .int k1, .int b1], [], σ2))
    refine ⟨fun _ => ?_, fun q => absurd hk q⟩
    refine hw (c + 10) (by omega) 1 _ ?_
    show K (c + 10) (2234, [.ref 200, .ref 0, .ref 6, .ref 178, .int (nI i), .int k1, .int b1], [], σ2)
    refine hf _ _ _ 5 _ _ ?_
    show K (c + 10) (2234, [.ref 200, .ref 0, .ref 6, .ref 178, .int (nI i), .null, .int b1], [], σ2)
    refine hf _ _ _ 6 _ _ ?_
    show K (c + 10) (2234, [.ref 200, .ref 0, .ref 6, .ref 178, .int (nI i), .null, .null], [], σ2)
    exact hback _ _ (by omega) hcp
def T_law8 (KN : Nat → aS → Prop) (N : Nat) (xs : Nat → Int32) : List aI := [I_aload 1 1, I_aload 0 1, I_iload 4 2, I_bot, I_const 1 1, I_bin fun x y => x + y, I_sld N xs, I_aload 0 1, I_iload 4 2, I_bot, I_const 2 1, I_bin fun x y => x + y, I_sld N xs, I_aload 0 1, I_iload 4 2, I_bot, I_const 3 1, I_bin fun x y => x + y, I_sld N xs, I_aload 0 1, I_iload 4 2, I_bot, I_const 4 1, I_bin fun x y => x + y, I_sld N xs, I_aload 3 1, I_callW 6 F_L_move (KN 10), I_bot, I_bot, I_istore 5 2, I_bot, I_aload 2 1, I_aload 0 1, I_iload 4 2, I_bot, I_const 1 1, I_bin fun x y => x + y, I_sld N xs, I_aload 0 1, I_iload 4 2, I_bot, I_const 2 1, I_bin fun x y => x + y, I_sld N xs, I_aload 0 1, I_iload 4 2, I_bot, I_const 3 1, I_bin fun x y => x + y, I_sld N xs, I_aload 0 1, I_iload 4 2, I_bot, I_const 4 1, I_bin fun x y => x + y, I_sld N xs, I_callV 6 4 F_X6_move, I_bot, I_bot, I_istore 6 2, I_bot, I_aload 2 1, I_callV 6 0 F_X6_thrown, I_bot, I_bot, I_iload 5 2, I_bot, I_icmp (fun x y => x = y) 726, I_bot, I_bot, I_const 0 1, I_lret, I_iload 5 2, I_bot, I_if (fun x => ¬ x = 0) 743, I_bot, I_bot, I_aload 3 1, I_const 0 1, I_lald, I_iload 6 2, I_bot, I_i2l, I_lcmp, I_if (fun x => x = 0) 743, I_bot, I_bot, I_const 0 1, I_lret, I_goto 2234, I_bot, I_bot]
set_option maxHeartbeats 8000000 in
set_option maxRecDepth 100000 in
theorem r_law8 {p : Program} {l : Launch} {e : Env} {s : State} {m : MethodId} {below : List Frame} {meth : Method} {c : Code} {D : va_G} {cI cZ cA cL : ClassId} {ad sa : Nat → Nat} {b N : Nat} {xs : Nat → Int32} (Z : LCX p l e s m meth c b N xs D cI cZ cA cL ad sa) (cells slots : Nat) (hcell : cells + 20 ≤ 601024) (hslot : slots + 120 ≤ 7293034) :
    ruL (Ru p l e room_1 s m #[Value.ref b] below meth c cells slots (lw_Z below #[Value.ref b] s) 7 D cI cZ cA cL ad (AA ad s.heap.size) s.heap) 654 (T_law8 (fun d => WS p l e room_1 s m #[Value.ref b] below meth c (cells + d) (slots + 6 * d) (lw_Z below #[Value.ref b] s) 7 D cI cZ cA cL ad (AA ad s.heap.size) s.heap) N xs) := by
  obtain ⟨hx, hb, hml, hown, hts, hr, hlocks, hK, hN, hX, hC, hXs, hbl, hbA, had, hi, hlt, hA9⟩ := Z
  refine ruL_c (n := 654) (n2 := 655) rfl (ru_aload_n (k := 1) hx hb dL_law_654) ?_
  refine ruL_c (n := 655) (n2 := 656) rfl (ru_aload_n (k := 0) hx hb dL_law_655) ?_
  refine ruL_c (n := 656) (n2 := 657) rfl (ru_iload hx hb dL_law_656) ?_
  refine ruL_c (n := 657) (n2 := 658) rfl (ru_bot) ?_
  refine ruL_c (n := 658) (n2 := 659) rfl (ru_iconst hx hb dL_law_658 rfl) ?_
  refine ruL_c (n := 659) (n2 := 660) rfl (ru_iadd hx hb dL_law_659) ?_
  refine ruL_c (n := 660) (n2 := 661) rfl (ru_sld hx hb hXs hbl hbA had dL_law_660) ?_
  refine ruL_c (n := 661) (n2 := 662) rfl (ru_aload_n (k := 0) hx hb dL_law_661) ?_
  refine ruL_c (n := 662) (n2 := 663) rfl (ru_iload hx hb dL_law_662) ?_
  refine ruL_c (n := 663) (n2 := 664) rfl (ru_bot) ?_
  refine ruL_c (n := 664) (n2 := 665) rfl (ru_iconst hx hb dL_law_664 rfl) ?_
  refine ruL_c (n := 665) (n2 := 666) rfl (ru_iadd hx hb dL_law_665) ?_
  refine ruL_c (n := 666) (n2 := 667) rfl (ru_sld hx hb hXs hbl hbA had dL_law_666) ?_
  refine ruL_c (n := 667) (n2 := 668) rfl (ru_aload_n (k := 0) hx hb dL_law_667) ?_
  refine ruL_c (n := 668) (n2 := 669) rfl (ru_iload hx hb dL_law_668) ?_
  refine ruL_c (n := 669) (n2 := 670) rfl (ru_bot) ?_
  refine ruL_c (n := 670) (n2 := 671) rfl (ru_iconst hx hb dL_law_670 rfl) ?_
  refine ruL_c (n := 671) (n2 := 672) rfl (ru_iadd hx hb dL_law_671) ?_
  refine ruL_c (n := 672) (n2 := 673) rfl (ru_sld hx hb hXs hbl hbA had dL_law_672) ?_
  refine ruL_c (n := 673) (n2 := 674) rfl (ru_aload_n (k := 0) hx hb dL_law_673) ?_
  refine ruL_c (n := 674) (n2 := 675) rfl (ru_iload hx hb dL_law_674) ?_
  refine ruL_c (n := 675) (n2 := 676) rfl (ru_bot) ?_
  refine ruL_c (n := 676) (n2 := 677) rfl (ru_iconst hx hb dL_law_676 rfl) ?_
  refine ruL_c (n := 677) (n2 := 678) rfl (ru_iadd hx hb dL_law_677) ?_
  refine ruL_c (n := 678) (n2 := 679) rfl (ru_sld hx hb hXs hbl hbA had dL_law_678) ?_
  refine ruL_c (n := 679) (n2 := 680) rfl (ru_aload_n (k := 3) hx hb dL_law_679) ?_
  refine ruL_c (n := 680) (n2 := 681) rfl (ru_callW (own := RL) hx hb hml hown hts hK hN hX hC (c_L_move l hlt D cI cZ cA cL ad sa hi) (vx_cwSW 6 hts gL_law_L_move rfl rfl rfl (by decide +kernel) ⟨Nat.le_of_ble_eq_true rfl, Nat.le_of_ble_eq_true rfl⟩) dL_law_680 ⟨Nat.le_trans (Nat.add_le_add_left (by decide) _) hcell, Nat.le_trans (Nat.add_le_add_left (by decide) _) hslot⟩) ?_
  refine ruL_c (n := 681) (n2 := 682) rfl (ru_bot) ?_
  refine ruL_c (n := 682) (n2 := 683) rfl (ru_bot) ?_
  refine ruL_c (n := 683) (n2 := 684) rfl (ru_istore hx hb dL_law_683) ?_
  refine ruL_c (n := 684) (n2 := 685) rfl (ru_bot) ?_
  refine ruL_c (n := 685) (n2 := 686) rfl (ru_aload_n (k := 2) hx hb dL_law_685) ?_
  refine ruL_c (n := 686) (n2 := 687) rfl (ru_aload_n (k := 0) hx hb dL_law_686) ?_
  refine ruL_c (n := 687) (n2 := 688) rfl (ru_iload hx hb dL_law_687) ?_
  refine ruL_c (n := 688) (n2 := 689) rfl (ru_bot) ?_
  refine ruL_c (n := 689) (n2 := 690) rfl (ru_iconst hx hb dL_law_689 rfl) ?_
  refine ruL_c (n := 690) (n2 := 691) rfl (ru_iadd hx hb dL_law_690) ?_
  refine ruL_c (n := 691) (n2 := 692) rfl (ru_sld hx hb hXs hbl hbA had dL_law_691) ?_
  refine ruL_c (n := 692) (n2 := 693) rfl (ru_aload_n (k := 0) hx hb dL_law_692) ?_
  refine ruL_c (n := 693) (n2 := 694) rfl (ru_iload hx hb dL_law_693) ?_
  refine ruL_c (n := 694) (n2 := 695) rfl (ru_bot) ?_
  refine ruL_c (n := 695) (n2 := 696) rfl (ru_iconst hx hb dL_law_695 rfl) ?_
  refine ruL_c (n := 696) (n2 := 697) rfl (ru_iadd hx hb dL_law_696) ?_
  refine ruL_c (n := 697) (n2 := 698) rfl (ru_sld hx hb hXs hbl hbA had dL_law_697) ?_
  refine ruL_c (n := 698) (n2 := 699) rfl (ru_aload_n (k := 0) hx hb dL_law_698) ?_
  refine ruL_c (n := 699) (n2 := 700) rfl (ru_iload hx hb dL_law_699) ?_
  refine ruL_c (n := 700) (n2 := 701) rfl (ru_bot) ?_
  refine ruL_c (n := 701) (n2 := 702) rfl (ru_iconst hx hb dL_law_701 rfl) ?_
  refine ruL_c (n := 702) (n2 := 703) rfl (ru_iadd hx hb dL_law_702) ?_
  refine ruL_c (n := 703) (n2 := 704) rfl (ru_sld hx hb hXs hbl hbA had dL_law_703) ?_
  refine ruL_c (n := 704) (n2 := 705) rfl (ru_aload_n (k := 0) hx hb dL_law_704) ?_
  refine ruL_c (n := 705) (n2 := 706) rfl (ru_iload hx hb dL_law_705) ?_
  refine ruL_c (n := 706) (n2 := 707) rfl (ru_bot) ?_
  refine ruL_c (n := 707) (n2 := 708) rfl (ru_iconst hx hb dL_law_707 rfl) ?_
  refine ruL_c (n := 708) (n2 := 709) rfl (ru_iadd hx hb dL_law_708) ?_
  refine ruL_c (n := 709) (n2 := 710) rfl (ru_sld hx hb hXs hbl hbA had dL_law_709) ?_
  refine ruL_c (n := 710) (n2 := 711) rfl (ru_callV (own := RL) hx hb hml hown hts hK hN (by decide) rfl (c_X6_move l D cI cZ cA cL ad hi) (cwV 4 hts gL_law_X6_move rfl rfl rfl (by decide +kernel) ⟨Nat.le_of_ble_eq_true rfl, Nat.le_of_ble_eq_true rfl⟩) dL_law_710 ⟨Nat.le_trans (Nat.le_add_right _ 20) hcell, Nat.le_trans (Nat.le_add_right _ 120) hslot⟩) ?_
  refine ruL_c (n := 711) (n2 := 712) rfl (ru_bot) ?_
  refine ruL_c (n := 712) (n2 := 713) rfl (ru_bot) ?_
  refine ruL_c (n := 713) (n2 := 714) rfl (ru_istore hx hb dL_law_713) ?_
  refine ruL_c (n := 714) (n2 := 715) rfl (ru_bot) ?_
  refine ruL_c (n := 715) (n2 := 716) rfl (ru_aload_n (k := 2) hx hb dL_law_715) ?_
  refine ruL_c (n := 716) (n2 := 717) rfl (ru_callV (own := RL) hx hb hml hown hts hK hN (by decide) rfl (c_X6_thrown l D cI cZ cA cL ad hi) (cwV 0 hts gL_law_X6_thrown rfl rfl rfl (by decide +kernel) ⟨Nat.le_of_ble_eq_true rfl, Nat.le_of_ble_eq_true rfl⟩) dL_law_716 ⟨Nat.le_trans (Nat.le_add_right _ 20) hcell, Nat.le_trans (Nat.le_add_right _ 120) hslot⟩) ?_
  refine ruL_c (n := 717) (n2 := 718) rfl (ru_bot) ?_
  refine ruL_c (n := 718) (n2 := 719) rfl (ru_bot) ?_
  refine ruL_c (n := 719) (n2 := 720) rfl (ru_iload hx hb dL_law_719) ?_
  refine ruL_c (n := 720) (n2 := 721) rfl (ru_bot) ?_
  refine ruL_c (n := 721) (n2 := 722) rfl (ru_icmpeq hx hb dL_law_721 (by decide)) ?_
  refine ruL_c (n := 722) (n2 := 723) rfl (ru_bot) ?_
  refine ruL_c (n := 723) (n2 := 724) rfl (ru_bot) ?_
  refine ruL_c (n := 724) (n2 := 725) rfl (ru_iconst hx hb dL_law_724 rfl) ?_
  refine ruL_c (n := 725) (n2 := 726) rfl (ru_lret hx hb hr hlocks hA9 dL_law_725 hcell hslot) ?_
  refine ruL_c (n := 726) (n2 := 727) rfl (ru_iload hx hb dL_law_726) ?_
  refine ruL_c (n := 727) (n2 := 728) rfl (ru_bot) ?_
  refine ruL_c (n := 728) (n2 := 729) rfl (ru_ifne hx hb dL_law_728 (by decide)) ?_
  refine ruL_c (n := 729) (n2 := 730) rfl (ru_bot) ?_
  refine ruL_c (n := 730) (n2 := 731) rfl (ru_bot) ?_
  refine ruL_c (n := 731) (n2 := 732) rfl (ru_aload_n (k := 3) hx hb dL_law_731) ?_
  refine ruL_c (n := 732) (n2 := 733) rfl (ru_iconst hx hb dL_law_732 rfl) ?_
  refine ruL_c (n := 733) (n2 := 734) rfl (ru_lald hx hb hK dL_law_733) ?_
  refine ruL_c (n := 734) (n2 := 735) rfl (ru_iload hx hb dL_law_734) ?_
  refine ruL_c (n := 735) (n2 := 736) rfl (ru_bot) ?_
  refine ruL_c (n := 736) (n2 := 737) rfl (ru_i2l hx hb dL_law_736) ?_
  refine ruL_c (n := 737) (n2 := 738) rfl (ru_lcmp hx hb dL_law_737) ?_
  refine ruL_c (n := 738) (n2 := 739) rfl (ru_ifeq hx hb dL_law_738 (by decide)) ?_
  refine ruL_c (n := 739) (n2 := 740) rfl (ru_bot) ?_
  refine ruL_c (n := 740) (n2 := 741) rfl (ru_bot) ?_
  refine ruL_c (n := 741) (n2 := 742) rfl (ru_iconst hx hb dL_law_741 rfl) ?_
  refine ruL_c (n := 742) (n2 := 743) rfl (ru_lret hx hb hr hlocks hA9 dL_law_742 hcell hslot) ?_
  refine ruL_c (n := 743) (n2 := 744) rfl (ru_goto hx hb dL_law_743 (by decide)) ?_
  refine ruL_c (n := 744) (n2 := 745) rfl (ru_bot) ?_
  refine ruL_c (n := 745) (n2 := 746) rfl (ru_bot) ?_
  exact trivial
set_option maxHeartbeats 8000000 in
set_option maxRecDepth 100000 in
theorem k_law8 {CP : aM → Prop} {N : Nat} {xs : Nat → Int32} {K : Nat → aS → Prop} (hw : ∀ c, c ≤ 8000 → ∀ n x, wpB 654 (T_law8 (fun d => K (c + d)) N xs) n (K c) x → K c x) (hf : ∀ c pc L i st σ, K c (pc, L.set i .null, st, σ) → K c (pc, L, st, σ)) (ag : ∀ p0 p1 p2 p3 : Int32, agW CP (f_L_move p0 p1 p2 p3) (f_X6_move p0 p1 p2 p3)) (c i : Nat) (hc : c ≤ 7900) (g1 : inb (nI i + 1) N = true) (g2 : inb (nI i + 2) N = true) (g3 : inb (nI i + 3) N = true) (g4 : inb (nI i + 4) N = true) (σ : aM) (hCP : CP σ)
    (hback : ∀ c2 σ2, c2 ≤ c + 12 → CP σ2 → K c2 (2234, [.ref 200, .ref 0, .ref 6, .ref 178, .int (nI i), .null, .null], [], σ2)) : K c (654, [.ref 200, .ref 0, .ref 6, .ref 178, .int (nI i), .null, .null], [], σ) := by
  obtain ⟨k1, σ1, b1, σ2, e1, e2, e3, e4, hcp⟩ := ag (xs (ix (nI i + 1))) (xs (ix (nI i + 2))) (xs (ix (nI i + 3))) (xs (ix (nI i + 4))) σ hCP
  refine hw c (by omega) 23 _ ?_
  show inb (nI i + 1) N = true ∧ (inb (nI i + 2) N = true ∧ (inb (nI i + 3) N = true ∧ (inb (nI i + 4) N = true ∧ (∃ k1 σ1, f_L_move (xs (ix (nI i + 1))) (xs (ix (nI i + 2))) (xs (ix (nI i + 3))) (xs (ix (nI i + 4))) σ = some (k1, σ1) ∧ K (c + 10) (683, [.ref 200, .ref 0, .ref 6, .ref 178, .int (nI i), .null, .null], [.int k1], σ1)))))
  refine ⟨g1, g2, g3, g4, ⟨k1, σ1, e1, ?_⟩⟩
  refine hw (c + 10) (by omega) 23 _ ?_
  show inb (nI i + 1) N = true ∧ (inb (nI i + 2) N = true ∧ (inb (nI i + 3) N = true ∧ (inb (nI i + 4) N = true ∧ (∃ b1 σ2, f_X6_move (xs (ix (nI i + 1))) (xs (ix (nI i + 2))) (xs (ix (nI i + 3))) (xs (ix (nI i + 4))) σ1 = some (b1, σ2) ∧ K (c + 10) (713, [.ref 200, .ref 0, .ref 6, .ref 178, .int (nI i), .int k1, .null], [.int b1], σ2)))))
  refine ⟨g1, g2, g3, g4, ⟨b1, σ2, e2, ?_⟩⟩
  refine hw (c + 10) (by omega) 3 _ ?_
  show ∃ r3 σ3, f_X6_thrown σ2 = some (r3, σ3) ∧ K (c + 10) (719, [.ref 200, .ref 0, .ref 6, .ref 178, .int (nI i), .int k1, .int b1], [.int r3], σ3)
  refine ⟨σ2 6 0, σ2, rfl, ?_⟩
  refine hw (c + 10) (by omega) 2 _ ?_
  show (((σ2 6 0) = k1) → K (c + 10) (726, [.ref 200, .ref 0, .ref 6, .ref 178, .int (nI i), .int k1, .int b1], [], σ2)) ∧ (¬ ((σ2 6 0) = k1) → K (c + 10) (724, [.ref 200, .ref 0, .ref 6, .ref 178, .int (nI i), .int k1, .int b1], [], σ2))
  refine ⟨fun _ => ?_, fun q => absurd e3 q⟩
  by_cases hk : k1 = 0
  · have hz : σ2 178 (ix 0) = b1 := e4 hk
    refine hw (c + 10) (by omega) 2 _ ?_
    show ((¬ k1 = 0) → K (c + 10) (743, [.ref 200, .ref 0, .ref 6, .ref 178, .int (nI i), .int k1, .int b1], [], σ2)) ∧ (¬ (¬ k1 = 0) → K (c + 10) (731, [.ref 200, .ref 0, .ref 6, .ref 178, .int (nI i), .int k1, .int b1], [], σ2))
    refine ⟨fun q => absurd hk q, fun _ => ?_⟩
    refine hw (c + 10) (by omega) 7 _ ?_
    show kd 178 = 4 ∧ (inb 0 1 = true ∧ ((((lg_cmp (σ2 178 (ix 0)).toInt64 b1.toInt64) = 0) → K (c + 10) (743, [.ref 200, .ref 0, .ref 6, .ref 178, .int (nI i), .int k1, .int b1], [], σ2)) ∧ (¬ ((lg_cmp (σ2 178 (ix 0)).toInt64 b1.toInt64) = 0) → K (c + 10) (741, [.ref 200, .ref 0, .ref 6, .ref 178, .int (nI i), .int k1, .int b1], [], σ2))))
    refine ⟨rfl, by decide, ⟨fun _ => ?_, fun q => absurd (by rw [hz]; exact lcmp_eq _) q⟩⟩
    refine hw (c + 10) (by omega) 1 _ ?_
    show K (c + 10) (2234, [.ref 200, .ref 0, .ref 6, .ref 178, .int (nI i), .int k1, .int b1], [], σ2)
    refine hf _ _ _ 5 _ _ ?_
    show K (c + 10) (2234, [.ref 200, .ref 0, .ref 6, .ref 178, .int (nI i), .null, .int b1], [], σ2)
    refine hf _ _ _ 6 _ _ ?_
    show K (c + 10) (2234, [.ref 200, .ref 0, .ref 6, .ref 178, .int (nI i), .null, .null], [], σ2)
    exact hback _ _ (by omega) hcp
  · refine hw (c + 10) (by omega) 2 _ ?_
    show ((¬ k1 = 0) → K (c + 10) (743, [.ref 200, .ref 0, .ref 6, .ref 178, .int (nI i), .int k1, .int b1], [], σ2)) ∧ (¬ (¬ k1 = 0) → K (c + 10) (731, [.ref 200, .ref 0, .ref 6, .ref 178, .int (nI i), .int k1, .int b1], [], σ2))
    refine ⟨fun _ => ?_, fun q => absurd hk q⟩
    refine hw (c + 10) (by omega) 1 _ ?_
    show K (c + 10) (2234, [.ref 200, .ref 0, .ref 6, .ref 178, .int (nI i), .int k1, .int b1], [], σ2)
    refine hf _ _ _ 5 _ _ ?_
    show K (c + 10) (2234, [.ref 200, .ref 0, .ref 6, .ref 178, .int (nI i), .null, .int b1], [], σ2)
    refine hf _ _ _ 6 _ _ ?_
    show K (c + 10) (2234, [.ref 200, .ref 0, .ref 6, .ref 178, .int (nI i), .null, .null], [], σ2)
    exact hback _ _ (by omega) hcp
