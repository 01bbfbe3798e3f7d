def bnC (o : Option (Nat × Int32 × aM)) (hc : Nat → Option Int32) (f : Int32 → aM → Option (Int32 × aM)) : Option (Int32 × aM) := match o with
  | none => none
  | some (e, r, s) => if e = 0 then f r s else match hc e with
    | none => none
    | some v => some (v, s)
theorem bnC_some {o : Option (Nat × Int32 × aM)} {hc : Nat → Option Int32} {f : Int32 → aM → Option (Int32 × aM)} {y : Int32 × aM} (h : bnC o hc f = some y) : ∃ e r s, o = some (e, r, s) ∧ ((e = 0 ∧ f r s = some y) ∨ (¬ e = 0 ∧ ∃ v, hc e = some v ∧ y = (v, s))) := by
  unfold bnC at h
  split at h
  · cases h
  · refine ⟨_, _, _, rfl, ?_⟩
    split at h
    · exact Or.inl ⟨by assumption, h⟩
    · refine Or.inr ⟨by assumption, ?_⟩
      split at h
      · cases h
      · exact ⟨_, by assumption, (Option.some.inj h).symm⟩
-- helper addLine
def hc_L_addLine (e : Nat) : Option Int32 := if e = 2 then some 1 else if e = 3 then some 2 else none
def f_L_addLine (p0 : Int32) (σ : aM) : Option (Int32 × aM) := bnC (f_X5_addLine p0 σ) hc_L_addLine (fun r σ1 => some (0, mput σ1 178 (ix 0) r))
def F_L_addLine : aF := fun As σ => match As with
  | [.ref 0, .int p0, .ref 178] => f_L_addLine p0 σ
  | _ => none
def T_L_addLine : aTw := fun Qa KN => [I_aload 2 1, I_const 0 1, I_aload 0 1, I_iload 1 1, I_callC 1 F_X5_addLine hc_L_addLine KN Qa, I_bot, I_bot, I_i2l, I_last, I_goto 18, I_bot, I_bot, I_bot, I_bot, I_bot, I_bot, I_bot, I_bot, I_const 0 1, I_iret Qa]
set_option maxHeartbeats 4000000 in
set_option maxRecDepth 100000 in
theorem s_L_addLine : runsW T_L_addLine 4 F_L_addLine := by
  intro Qa K hw As σ y h hQ
  unfold F_L_addLine at h
  split at h
  · rename_i p0
    unfold f_L_addLine at h
    show K 0 (0, [.ref 0, .int p0, .ref 178, .null], [], σ)
    obtain ⟨e1, r1, σ1, q1, hc⟩ := bnC_some h
    refine hw 0 (by decide) 5 _ ?_
    show ∃ e1 r1 σ1, f_X5_addLine p0 σ = some (e1, r1, σ1) ∧ (e1 = 0 → K 1 (7, [.ref 0, .int p0, .ref 178, .null], [.int r1, .int 0, .ref 178], σ1)) ∧ (¬ e1 = 0 → ∃ v, hc_L_addLine e1 = some v ∧ Qa v σ1)
    refine ⟨e1, r1, σ1, q1, fun h0 => ?_, fun h0 => ?_⟩
    · rcases hc with ⟨-, h⟩ | ⟨h1, -⟩
      · obtain rfl := Option.some.inj h
        refine hw 1 (by decide) 5 _ ?_
        show kd 178 = 4 ∧ (inb 0 1 = true ∧ ∃ v : Int32, r1.toInt64 = v.toInt64 ∧ Qa 0 (mput σ1 178 (ix 0) v))
        exact ⟨rfl, by decide, r1, rfl, hQ⟩
      · exact absurd h0 h1
    · rcases hc with ⟨h1, -⟩ | ⟨-, v, hv, h⟩
      · exact absurd h1 h0
      · obtain rfl := h
        exact ⟨v, hv, hQ⟩
  · cases h
theorem h_L_addLine : shp [] 4 F_L_addLine := by
  intro As σ r σ' h
  unfold F_L_addLine at h
  split at h
  · exact ⟨by simp [Value.category], Nat.le_of_ble_eq_true rfl⟩
  · cases h
set_option maxHeartbeats 4000000 in
set_option maxRecDepth 100000 in
theorem c_L_addLine (l : Launch) (hl : l.stackTraces = false) (D : va_G) (cI cZ cA cL : ClassId) (ad sa : Nat → Nat) (hi : adI ad) : CtW l yL_addLine wsL_addLine { frames := 8, cells := 6, slots := 36, locals := 125 } 6 D cI cZ cA cL ad sa F_L_addLine := by
  refine mk_W (mf := 3) F_L_addLine T_L_addLine (by decide +kernel) rfl ?_ h_L_addLine s_L_addLine
  intro p e s m args below meth c Qa ⟨⟨hx, hb, hml, hown, hts, hr, hlocks, hK, hN⟩, hX, hC, htab⟩ n hn
  have hn1 : n * 3 ≤ 2 * 3 := by omega
  have hn2 : n * 3 + 3 ≤ 2 * 3 := by omega
  have hn3 : 6 * (n * 3) + 6 * 3 ≤ 6 * (2 * 3) := by omega
  have hl1 : (Cond.classLink RL 13 (exn 2)) ∈ wsL_addLine := by decide +kernel
  have hl2 : (Cond.classLink RL 15 (exn 3)) ∈ wsL_addLine := by decide +kernel
  have hh : ∀ (e1 : Nat) (v : Int32), hc_L_addLine e1 = some v → ∀ (H1 : Heap) (locs1 : List Loc) (ls : Array Slot) (L rest : List Value) (q9 : Addr) (ce : Cell) (σ1 : aM), lh ad ls 4 L → H1[q9]? = some ce → ce.vm = .none → s.vm.findClass (exn e1) = some ce.cls → va_P D vwCl (wl cI cZ cA cL ad σ1) H1 → va_S (AA ad s.heap.size) s.heap H1 locs1 → Qa v σ1 → vx_W p l e { frames := 8, cells := 2 * 3, slots := 6 * (2 * 3), locals := 125 } s m args below meth c H1 locs1 (n * 3 + 3) (6 * (n * 3) + 6 * 3) (vx_MQ below (va_Qi Qa (BB D cI cZ cA cL ad) (AA ad s.heap.size)) (XF ad s.heap.size) args s (2 * 3) (6 * (2 * 3)) (AA ad s.heap.size)) (F0 m 4 ls rest) q9 := by
    intro e1 v hv H1 locs1 ls L rest q9 ce σ1 hl9 hce hcv hcl hP hS hq
    unfold hc_L_addLine at hv
    by_cases h0 : e1 = 2
    · subst h0
      rw [if_pos rfl] at hv
      obtain rfl := Option.some.inj hv
      exact hand_ok (own := RL) (hp := 12) (a1 := 13) (n := 1) [] { startPc := 0, endPc := 9, handlerPc := 12, catchType := 13 } [{ startPc := 0, endPc := 9, handlerPc := 15, catchType := 15 }] hx hb hown hts hK hr hlocks hX.1 (by rw [htab]; rfl) (fun z hz => by cases hz) (by decide) (by decide) hl1 (by decide +kernel) rfl (ast_n (k := 3) hx hb dL_addLine_12 (by decide)) dL_addLine_13 rfl dL_addLine_14 ⟨hn2, hn3⟩ hl9 hce hcv hcl hP hS hq
    · rw [if_neg h0] at hv
      by_cases h1 : e1 = 3
      · subst h1
        rw [if_pos rfl] at hv
        obtain rfl := Option.some.inj hv
        exact hand_ok (own := RL) (hp := 15) (a1 := 16) (n := 2) [{ startPc := 0, endPc := 9, handlerPc := 12, catchType := 13 }] { startPc := 0, endPc := 9, handlerPc := 15, catchType := 15 } [] hx hb hown hts hK hr hlocks hX.1 (by rw [htab]; rfl) (fun z hz => by
            rcases List.mem_cons.mp hz with rfl | hz
            · exact ⟨by decide, exn 2, hl1, hC 3 (by decide) 2 (by decide) (by decide)⟩
            · cases hz) (by decide) (by decide) hl2 (by decide +kernel) rfl (ast_n (k := 3) hx hb dL_addLine_15 (by decide)) dL_addLine_16 rfl dL_addLine_17 ⟨hn2, hn3⟩ hl9 hce hcv hcl hP hS hq
      · rw [if_neg h1] at hv
        cases hv
  refine ruL_c (n := 0) (n2 := 1) rfl (ru_aload_n (k := 2) hx hb dL_addLine_0) ?_
  refine ruL_c (n := 1) (n2 := 2) rfl (ru_iconst hx hb dL_addLine_1 rfl) ?_
  refine ruL_c (n := 2) (n2 := 3) rfl (ru_aload_n (k := 0) hx hb dL_addLine_2) ?_
  refine ruL_c (n := 3) (n2 := 4) rfl (ru_iload_n (k := 1) hx hb dL_addLine_3) ?_
  refine ruL_c (n := 4) (n2 := 5) rfl (ru_callC (own := RL) hx hb hml hown hts hK hN hX (c_X5_addLine l hl D cI cZ cA cL ad sa hi) (cwV 1 hts gL_addLine_X5_addLine rfl rfl rfl (by decide +kernel) ⟨Nat.le_of_ble_eq_true rfl, Nat.le_of_ble_eq_true rfl⟩) dL_addLine_4 ⟨hn2, hn3⟩ hh) ?_
  refine ruL_c (n := 5) (n2 := 6) rfl (ru_bot) ?_
  refine ruL_c (n := 6) (n2 := 7) rfl (ru_bot) ?_
  refine ruL_c (n := 7) (n2 := 8) rfl (ru_i2l hx hb dL_addLine_7) ?_
  refine ruL_c (n := 8) (n2 := 9) rfl (ru_last hx hb hK hi dL_addLine_8) ?_
  refine ruL_c (n := 9) (n2 := 10) rfl (ru_goto hx hb dL_addLine_9 (by decide)) ?_
  refine ruL_c (n := 10) (n2 := 11) rfl (ru_bot) ?_
  refine ruL_c (n := 11) (n2 := 12) rfl (ru_bot) ?_
  refine ruL_c (n := 12) (n2 := 13) rfl (ru_bot) ?_
  refine ruL_c (n := 13) (n2 := 14) rfl (ru_bot) ?_
  refine ruL_c (n := 14) (n2 := 15) rfl (ru_bot) ?_
  refine ruL_c (n := 15) (n2 := 16) rfl (ru_bot) ?_
  refine ruL_c (n := 16) (n2 := 17) rfl (ru_bot) ?_
  refine ruL_c (n := 17) (n2 := 18) rfl (ru_bot) ?_
  refine ruL_c (n := 18) (n2 := 19) rfl (ru_iconst hx hb dL_addLine_18 rfl) ?_
  refine ruL_c (n := 19) (n2 := 20) rfl (ru_iretX hx hb hK hr hlocks dL_addLine_19 ⟨hn1, Nat.mul_le_mul_left 6 hn1⟩) ?_
  exact trivial

-- helper need
def hc_L_need (e : Nat) : Option Int32 := if e = 1 then some 1 else if e = 2 then some 2 else none
def f_L_need (p0 : Int32) (p1 : Int32) (p2 : Int32) (σ : aM) : Option (Int32 × aM) := bnC (f_X5_need p0 p1 p2 σ) hc_L_need (fun r σ1 => some (0, mput σ1 178 (ix 0) r))
def F_L_need : aF := fun As σ => match As with
  | [.ref 0, .int p0, .int p1, .int p2, .ref 178] => f_L_need p0 p1 p2 σ
  | _ => none
def T_L_need : aTw := fun Qa KN => [I_aload 4 2, I_bot, I_const 0 1, I_aload 0 1, I_iload 1 1, I_iload 2 1, I_iload 3 1, I_callC 3 F_X5_need hc_L_need KN Qa, I_bot, I_bot, I_i2l, I_last, I_goto 23, I_bot, I_bot, I_bot, I_bot, I_bot, I_bot, I_bot, I_bot, I_bot, I_bot, I_const 0 1, I_iret Qa]
set_option maxHeartbeats 4000000 in
set_option maxRecDepth 100000 in
theorem s_L_need : runsW T_L_need 6 F_L_need := by
  intro Qa K hw As σ y h hQ
  unfold F_L_need at h
  split at h
  · rename_i p0 p1 p2
    unfold f_L_need at h
    show K 0 (0, [.ref 0, .int p0, .int p1, .int p2, .ref 178, .null], [], σ)
    obtain ⟨e1, r1, σ1, q1, hc⟩ := bnC_some h
    refine hw 0 (by decide) 7 _ ?_
    show ∃ e1 r1 σ1, f_X5_need p0 p1 p2 σ = some (e1, r1, σ1) ∧ (e1 = 0 → K 1 (10, [.ref 0, .int p0, .int p1, .int p2, .ref 178, .null], [.int r1, .int 0, .ref 178], σ1)) ∧ (¬ e1 = 0 → ∃ v, hc_L_need e1 = some v ∧ Qa v σ1)
    refine ⟨e1, r1, σ1, q1, fun h0 => ?_, fun h0 => ?_⟩
    · rcases hc with ⟨-, h⟩ | ⟨h1, -⟩
      · obtain rfl := Option.some.inj h
        refine hw 1 (by decide) 5 _ ?_
        show kd 178 = 4 ∧ (inb 0 1 = true ∧ ∃ v : Int32, r1.toInt64 = v.toInt64 ∧ Qa 0 (mput σ1 178 (ix 0) v))
        exact ⟨rfl, by decide, r1, rfl, hQ⟩
      · exact absurd h0 h1
    · rcases hc with ⟨h1, -⟩ | ⟨-, v, hv, h⟩
      · exact absurd h1 h0
      · obtain rfl := h
        exact ⟨v, hv, hQ⟩
  · cases h
theorem h_L_need : shp [] 6 F_L_need := by
  intro As σ r σ' h
  unfold F_L_need at h
  split at h
  · exact ⟨by simp [Value.category], Nat.le_of_ble_eq_true rfl⟩
  · cases h
set_option maxHeartbeats 4000000 in
set_option maxRecDepth 100000 in
theorem c_L_need (l : Launch) (hl : l.stackTraces = false) (D : va_G) (cI cZ cA cL : ClassId) (ad sa : Nat → Nat) (hi : adI ad) : CtW l yL_need wsL_need { frames := 8, cells := 8, slots := 48, locals := 128 } 8 D cI cZ cA cL ad sa F_L_need := by
  refine mk_W (mf := 4) F_L_need T_L_need (by decide +kernel) rfl ?_ h_L_need s_L_need
  intro p e s m args below meth c Qa ⟨⟨hx, hb, hml, hown, hts, hr, hlocks, hK, hN⟩, hX, hC, htab⟩ n hn
  have hn1 : n * 4 ≤ 2 * 4 := by omega
  have hn2 : n * 4 + 4 ≤ 2 * 4 := by omega
  have hn3 : 6 * (n * 4) + 6 * 4 ≤ 6 * (2 * 4) := by omega
  have hl1 : (Cond.classLink RL 21 (exn 1)) ∈ wsL_need := by decide +kernel
  have hl2 : (Cond.classLink RL 13 (exn 2)) ∈ wsL_need := by decide +kernel
  have hh : ∀ (e1 : Nat) (v : Int32), hc_L_need e1 = some v → ∀ (H1 : Heap) (locs1 : List Loc) (ls : Array Slot) (L rest : List Value) (q9 : Addr) (ce : Cell) (σ1 : aM), lh ad ls 6 L → H1[q9]? = some ce → ce.vm = .none → s.vm.findClass (exn e1) = some ce.cls → va_P D vwCl (wl cI cZ cA cL ad σ1) H1 → va_S (AA ad s.heap.size) s.heap H1 locs1 → Qa v σ1 → vx_W p l e { frames := 8, cells := 2 * 4, slots := 6 * (2 * 4), locals := 128 } s m args below meth c H1 locs1 (n * 4 + 4) (6 * (n * 4) + 6 * 4) (vx_MQ below (va_Qi Qa (BB D cI cZ cA cL ad) (AA ad s.heap.size)) (XF ad s.heap.size) args s (2 * 4) (6 * (2 * 4)) (AA ad s.heap.size)) (F0 m 7 ls rest) q9 := by
    intro e1 v hv H1 locs1 ls L rest q9 ce σ1 hl9 hce hcv hcl hP hS hq
    unfold hc_L_need at hv
    by_cases h0 : e1 = 1
    · subst h0
      rw [if_pos rfl] at hv
      obtain rfl := Option.some.inj hv
      exact hand_ok (own := RL) (hp := 15) (a1 := 17) (n := 1) [] { startPc := 0, endPc := 12, handlerPc := 15, catchType := 21 } [{ startPc := 0, endPc := 12, handlerPc := 19, catchType := 13 }] hx hb hown hts hK hr hlocks hX.1 (by rw [htab]; rfl) (fun z hz => by cases hz) (by decide) (by decide) hl1 (by decide +kernel) rfl (ast_w hx hb dL_need_15 (by decide)) dL_need_17 rfl dL_need_18 ⟨hn2, hn3⟩ hl9 hce hcv hcl hP hS hq
    · rw [if_neg h0] at hv
      by_cases h1 : e1 = 2
      · subst h1
        rw [if_pos rfl] at hv
        obtain rfl := Option.some.inj hv
        exact hand_ok (own := RL) (hp := 19) (a1 := 21) (n := 2) [{ startPc := 0, endPc := 12, handlerPc := 15, catchType := 21 }] { startPc := 0, endPc := 12, handlerPc := 19, catchType := 13 } [] hx hb hown hts hK hr hlocks hX.1 (by rw [htab]; rfl) (fun z hz => by
            rcases List.mem_cons.mp hz with rfl | hz
            · exact ⟨by decide, exn 1, hl1, hC 2 (by decide) 1 (by decide) (by decide)⟩
            · cases hz) (by decide) (by decide) hl2 (by decide +kernel) rfl (ast_w hx hb dL_need_19 (by decide)) dL_need_21 rfl dL_need_22 ⟨hn2, hn3⟩ hl9 hce hcv hcl hP hS hq
      · rw [if_neg h1] at hv
        cases hv
  refine ruL_c (n := 0) (n2 := 1) rfl (ru_aload hx hb dL_need_0) ?_
  refine ruL_c (n := 1) (n2 := 2) rfl (ru_bot) ?_
  refine ruL_c (n := 2) (n2 := 3) rfl (ru_iconst hx hb dL_need_2 rfl) ?_
  refine ruL_c (n := 3) (n2 := 4) rfl (ru_aload_n (k := 0) hx hb dL_need_3) ?_
  refine ruL_c (n := 4) (n2 := 5) rfl (ru_iload_n (k := 1) hx hb dL_need_4) ?_
  refine ruL_c (n := 5) (n2 := 6) rfl (ru_iload_n (k := 2) hx hb dL_need_5) ?_
  refine ruL_c (n := 6) (n2 := 7) rfl (ru_iload_n (k := 3) hx hb dL_need_6) ?_
  refine ruL_c (n := 7) (n2 := 8) rfl (ru_callC (own := RL) hx hb hml hown hts hK hN hX (c_X5_need l hl D cI cZ cA cL ad sa hi) (cwV 3 hts gL_need_X5_need rfl rfl rfl (by decide +kernel) ⟨Nat.le_of_ble_eq_true rfl, Nat.le_of_ble_eq_true rfl⟩) dL_need_7 ⟨hn2, hn3⟩ hh) ?_
  refine ruL_c (n := 8) (n2 := 9) rfl (ru_bot) ?_
  refine ruL_c (n := 9) (n2 := 10) rfl (ru_bot) ?_
  refine ruL_c (n := 10) (n2 := 11) rfl (ru_i2l hx hb dL_need_10) ?_
  refine ruL_c (n := 11) (n2 := 12) rfl (ru_last hx hb hK hi dL_need_11) ?_
  refine ruL_c (n := 12) (n2 := 13) rfl (ru_goto hx hb dL_need_12 (by decide)) ?_
  refine ruL_c (n := 13) (n2 := 14) rfl (ru_bot) ?_
  refine ruL_c (n := 14) (n2 := 15) rfl (ru_bot) ?_
  refine ruL_c (n := 15) (n2 := 16) rfl (ru_bot) ?_
  refine ruL_c (n := 16) (n2 := 17) rfl (ru_bot) ?_
  refine ruL_c (n := 17) (n2 := 18) rfl (ru_bot) ?_
  refine ruL_c (n := 18) (n2 := 19) rfl (ru_bot) ?_
  refine ruL_c (n := 19) (n2 := 20) rfl (ru_bot) ?_
  refine ruL_c (n := 20) (n2 := 21) rfl (ru_bot) ?_
  refine ruL_c (n := 21) (n2 := 22) rfl (ru_bot) ?_
  refine ruL_c (n := 22) (n2 := 23) rfl (ru_bot) ?_
  refine ruL_c (n := 23) (n2 := 24) rfl (ru_iconst hx hb dL_need_23 rfl) ?_
  refine ruL_c (n := 24) (n2 := 25) rfl (ru_iretX hx hb hK hr hlocks dL_need_24 ⟨hn1, Nat.mul_le_mul_left 6 hn1⟩) ?_
  exact trivial

-- helper cut
def hc_L_cut (e : Nat) : Option Int32 := if e = 1 then some 1 else none
def f_L_cut (p0 : Int32) (p1 : Int32) (σ : aM) : Option (Int32 × aM) := bnC (f_X5_cut p0 p1 σ) hc_L_cut (fun r σ1 => some (0, mput σ1 178 (ix 0) r))
def F_L_cut : aF := fun As σ => match As with
  | [.ref 0, .int p0, .int p1, .ref 178] => f_L_cut p0 p1 σ
  | _ => none
def T_L_cut : aTw := fun Qa KN => [I_aload 3 1, I_const 0 1, I_aload 0 1, I_iload 1 1, I_iload 2 1, I_callC 2 F_X5_cut hc_L_cut KN Qa, I_bot, I_bot, I_i2l, I_last, I_goto 17, I_bot, I_bot, I_bot, I_bot, I_bot, I_bot, I_const 0 1, I_iret Qa]
set_option maxHeartbeats 4000000 in
set_option maxRecDepth 100000 in
theorem s_L_cut : runsW T_L_cut 5 F_L_cut := by
  intro Qa K hw As σ y h hQ
  unfold F_L_cut at h
  split at h
  · rename_i p0 p1
    unfold f_L_cut at h
    show K 0 (0, [.ref 0, .int p0, .int p1, .ref 178, .null], [], σ)
    obtain ⟨e1, r1, σ1, q1, hc⟩ := bnC_some h
    refine hw 0 (by decide) 6 _ ?_
    show ∃ e1 r1 σ1, f_X5_cut p0 p1 σ = some (e1, r1, σ1) ∧ (e1 = 0 → K 1 (8, [.ref 0, .int p0, .int p1, .ref 178, .null], [.int r1, .int 0, .ref 178], σ1)) ∧ (¬ e1 = 0 → ∃ v, hc_L_cut e1 = some v ∧ Qa v σ1)
    refine ⟨e1, r1, σ1, q1, fun h0 => ?_, fun h0 => ?_⟩
    · rcases hc with ⟨-, h⟩ | ⟨h1, -⟩
      · obtain rfl := Option.some.inj h
        refine hw 1 (by decide) 5 _ ?_
        show kd 178 = 4 ∧ (inb 0 1 = true ∧ ∃ v : Int32, r1.toInt64 = v.toInt64 ∧ Qa 0 (mput σ1 178 (ix 0) v))
        exact ⟨rfl, by decide, r1, rfl, hQ⟩
      · exact absurd h0 h1
    · rcases hc with ⟨h1, -⟩ | ⟨-, v, hv, h⟩
      · exact absurd h1 h0
      · obtain rfl := h
        exact ⟨v, hv, hQ⟩
  · cases h
theorem h_L_cut : shp [] 5 F_L_cut := by
  intro As σ r σ' h
  unfold F_L_cut at h
  split at h
  · exact ⟨by simp [Value.category], Nat.le_of_ble_eq_true rfl⟩
  · cases h
set_option maxHeartbeats 4000000 in
set_option maxRecDepth 100000 in
theorem c_L_cut (l : Launch) (hl : l.stackTraces = false) (D : va_G) (cI cZ cA cL : ClassId) (ad sa : Nat → Nat) (hi : adI ad) : CtW l yL_cut wsL_cut { frames := 8, cells := 4, slots := 24, locals := 125 } 4 D cI cZ cA cL ad sa F_L_cut := by
  refine mk_W (mf := 2) F_L_cut T_L_cut (by decide +kernel) rfl ?_ h_L_cut s_L_cut
  intro p e s m args below meth c Qa ⟨⟨hx, hb, hml, hown, hts, hr, hlocks, hK, hN⟩, hX, hC, htab⟩ n hn
  have hn1 : n * 2 ≤ 2 * 2 := by omega
  have hn2 : n * 2 + 2 ≤ 2 * 2 := by omega
  have hn3 : 6 * (n * 2) + 6 * 2 ≤ 6 * (2 * 2) := by omega
  have hl1 : (Cond.classLink RL 21 (exn 1)) ∈ wsL_cut := by decide +kernel
  have hh : ∀ (e1 : Nat) (v : Int32), hc_L_cut e1 = some v → ∀ (H1 : Heap) (locs1 : List Loc) (ls : Array Slot) (L rest : List Value) (q9 : Addr) (ce : Cell) (σ1 : aM), lh ad ls 5 L → H1[q9]? = some ce → ce.vm = .none → s.vm.findClass (exn e1) = some ce.cls → va_P D vwCl (wl cI cZ cA cL ad σ1) H1 → va_S (AA ad s.heap.size) s.heap H1 locs1 → Qa v σ1 → vx_W p l e { frames := 8, cells := 2 * 2, slots := 6 * (2 * 2), locals := 125 } s m args below meth c H1 locs1 (n * 2 + 2) (6 * (n * 2) + 6 * 2) (vx_MQ below (va_Qi Qa (BB D cI cZ cA cL ad) (AA ad s.heap.size)) (XF ad s.heap.size) args s (2 * 2) (6 * (2 * 2)) (AA ad s.heap.size)) (F0 m 5 ls rest) q9 := by
    intro e1 v hv H1 locs1 ls L rest q9 ce σ1 hl9 hce hcv hcl hP hS hq
    unfold hc_L_cut at hv
    by_cases h0 : e1 = 1
    · subst h0
      rw [if_pos rfl] at hv
      obtain rfl := Option.some.inj hv
      exact hand_ok (own := RL) (hp := 13) (a1 := 15) (n := 1) [] { startPc := 0, endPc := 10, handlerPc := 13, catchType := 21 } [] hx hb hown hts hK hr hlocks hX.1 (by rw [htab]; rfl) (fun z hz => by cases hz) (by decide) (by decide) hl1 (by decide +kernel) rfl (ast_w hx hb dL_cut_13 (by decide)) dL_cut_15 rfl dL_cut_16 ⟨hn2, hn3⟩ hl9 hce hcv hcl hP hS hq
    · rw [if_neg h0] at hv
      cases hv
  refine ruL_c (n := 0) (n2 := 1) rfl (ru_aload_n (k := 3) hx hb dL_cut_0) ?_
  refine ruL_c (n := 1) (n2 := 2) rfl (ru_iconst hx hb dL_cut_1 rfl) ?_
  refine ruL_c (n := 2) (n2 := 3) rfl (ru_aload_n (k := 0) hx hb dL_cut_2) ?_
  refine ruL_c (n := 3) (n2 := 4) rfl (ru_iload_n (k := 1) hx hb dL_cut_3) ?_
  refine ruL_c (n := 4) (n2 := 5) rfl (ru_iload_n (k := 2) hx hb dL_cut_4) ?_
  refine ruL_c (n := 5) (n2 := 6) rfl (ru_callC (own := RL) hx hb hml hown hts hK hN hX (c_X5_cut l hl D cI cZ cA cL ad sa hi) (cwV 2 hts gL_cut_X5_cut rfl rfl rfl (by decide +kernel) ⟨Nat.le_of_ble_eq_true rfl, Nat.le_of_ble_eq_true rfl⟩) dL_cut_5 ⟨hn2, hn3⟩ hh) ?_
  refine ruL_c (n := 6) (n2 := 7) rfl (ru_bot) ?_
  refine ruL_c (n := 7) (n2 := 8) rfl (ru_bot) ?_
  refine ruL_c (n := 8) (n2 := 9) rfl (ru_i2l hx hb dL_cut_8) ?_
  refine ruL_c (n := 9) (n2 := 10) rfl (ru_last hx hb hK hi dL_cut_9) ?_
  refine ruL_c (n := 10) (n2 := 11) rfl (ru_goto hx hb dL_cut_10 (by decide)) ?_
  refine ruL_c (n := 11) (n2 := 12) rfl (ru_bot) ?_
  refine ruL_c (n := 12) (n2 := 13) rfl (ru_bot) ?_
  refine ruL_c (n := 13) (n2 := 14) rfl (ru_bot) ?_
  refine ruL_c (n := 14) (n2 := 15) rfl (ru_bot) ?_
  refine ruL_c (n := 15) (n2 := 16) rfl (ru_bot) ?_
  refine ruL_c (n := 16) (n2 := 17) rfl (ru_bot) ?_
  refine ruL_c (n := 17) (n2 := 18) rfl (ru_iconst hx hb dL_cut_17 rfl) ?_
  refine ruL_c (n := 18) (n2 := 19) rfl (ru_iretX hx hb hK hr hlocks dL_cut_18 ⟨hn1, Nat.mul_le_mul_left 6 hn1⟩) ?_
  exact trivial

-- helper startOf
def hc_L_startOf (e : Nat) : Option Int32 := if e = 1 then some 1 else none
def f_L_startOf (p0 : Int32) (σ : aM) : Option (Int32 × aM) := bnC (f_X5_startOf p0 σ) hc_L_startOf (fun r σ1 => some (0, mput σ1 178 (ix 0) r))
def F_L_startOf : aF := fun As σ => match As with
  | [.ref 0, .int p0, .ref 178] => f_L_startOf p0 σ
  | _ => none
def T_L_startOf : aTw := fun Qa KN => [I_aload 2 1, I_const 0 1, I_aload 0 1, I_iload 1 1, I_callC 1 F_X5_startOf hc_L_startOf KN Qa, I_bot, I_bot, I_i2l, I_last, I_goto 15, I_bot, I_bot, I_bot, I_bot, I_bot, I_const 0 1, I_iret Qa]
set_option maxHeartbeats 4000000 in
set_option maxRecDepth 100000 in
theorem s_L_startOf : runsW T_L_startOf 4 F_L_startOf := by
  intro Qa K hw As σ y h hQ
  unfold F_L_startOf at h
  split at h
  · rename_i p0
    unfold f_L_startOf at h
    show K 0 (0, [.ref 0, .int p0, .ref 178, .null], [], σ)
    obtain ⟨e1, r1, σ1, q1, hc⟩ := bnC_some h
    refine hw 0 (by decide) 5 _ ?_
    show ∃ e1 r1 σ1, f_X5_startOf p0 σ = some (e1, r1, σ1) ∧ (e1 = 0 → K 1 (7, [.ref 0, .int p0, .ref 178, .null], [.int r1, .int 0, .ref 178], σ1)) ∧ (¬ e1 = 0 → ∃ v, hc_L_startOf e1 = some v ∧ Qa v σ1)
    refine ⟨e1, r1, σ1, q1, fun h0 => ?_, fun h0 => ?_⟩
    · rcases hc with ⟨-, h⟩ | ⟨h1, -⟩
      · obtain rfl := Option.some.inj h
        refine hw 1 (by decide) 5 _ ?_
        show kd 178 = 4 ∧ (inb 0 1 = true ∧ ∃ v : Int32, r1.toInt64 = v.toInt64 ∧ Qa 0 (mput σ1 178 (ix 0) v))
        exact ⟨rfl, by decide, r1, rfl, hQ⟩
      · exact absurd h0 h1
    · rcases hc with ⟨h1, -⟩ | ⟨-, v, hv, h⟩
      · exact absurd h1 h0
      · obtain rfl := h
        exact ⟨v, hv, hQ⟩
  · cases h
theorem h_L_startOf : shp [] 4 F_L_startOf := by
  intro As σ r σ' h
  unfold F_L_startOf at h
  split at h
  · exact ⟨by simp [Value.category], Nat.le_of_ble_eq_true rfl⟩
  · cases h
set_option maxHeartbeats 4000000 in
set_option maxRecDepth 100000 in
theorem c_L_startOf (l : Launch) (hl : l.stackTraces = false) (D : va_G) (cI cZ cA cL : ClassId) (ad sa : Nat → Nat) (hi : adI ad) : CtW l yL_startOf wsL_startOf { frames := 8, cells := 4, slots := 24, locals := 124 } 4 D cI cZ cA cL ad sa F_L_startOf := by
  refine mk_W (mf := 2) F_L_startOf T_L_startOf (by decide +kernel) rfl ?_ h_L_startOf s_L_startOf
  intro p e s m args below meth c Qa ⟨⟨hx, hb, hml, hown, hts, hr, hlocks, hK, hN⟩, hX, hC, htab⟩ n hn
  have hn1 : n * 2 ≤ 2 * 2 := by omega
  have hn2 : n * 2 + 2 ≤ 2 * 2 := by omega
  have hn3 : 6 * (n * 2) + 6 * 2 ≤ 6 * (2 * 2) := by omega
  have hl1 : (Cond.classLink RL 21 (exn 1)) ∈ wsL_startOf := by decide +kernel
  have hh : ∀ (e1 : Nat) (v : Int32), hc_L_startOf e1 = some v → ∀ (H1 : Heap) (locs1 : List Loc) (ls : Array Slot) (L rest : List Value) (q9 : Addr) (ce : Cell) (σ1 : aM), lh ad ls 4 L → H1[q9]? = some ce → ce.vm = .none → s.vm.findClass (exn e1) = some ce.cls → va_P D vwCl (wl cI cZ cA cL ad σ1) H1 → va_S (AA ad s.heap.size) s.heap H1 locs1 → Qa v σ1 → vx_W p l e { frames := 8, cells := 2 * 2, slots := 6 * (2 * 2), locals := 124 } s m args below meth c H1 locs1 (n * 2 + 2) (6 * (n * 2) + 6 * 2) (vx_MQ below (va_Qi Qa (BB D cI cZ cA cL ad) (AA ad s.heap.size)) (XF ad s.heap.size) args s (2 * 2) (6 * (2 * 2)) (AA ad s.heap.size)) (F0 m 4 ls rest) q9 := by
    intro e1 v hv H1 locs1 ls L rest q9 ce σ1 hl9 hce hcv hcl hP hS hq
    unfold hc_L_startOf at hv
    by_cases h0 : e1 = 1
    · subst h0
      rw [if_pos rfl] at hv
      obtain rfl := Option.some.inj hv
      exact hand_ok (own := RL) (hp := 12) (a1 := 13) (n := 1) [] { startPc := 0, endPc := 9, handlerPc := 12, catchType := 21 } [] hx hb hown hts hK hr hlocks hX.1 (by rw [htab]; rfl) (fun z hz => by cases hz) (by decide) (by decide) hl1 (by decide +kernel) rfl (ast_n (k := 3) hx hb dL_startOf_12 (by decide)) dL_startOf_13 rfl dL_startOf_14 ⟨hn2, hn3⟩ hl9 hce hcv hcl hP hS hq
    · rw [if_neg h0] at hv
      cases hv
  refine ruL_c (n := 0) (n2 := 1) rfl (ru_aload_n (k := 2) hx hb dL_startOf_0) ?_
  refine ruL_c (n := 1) (n2 := 2) rfl (ru_iconst hx hb dL_startOf_1 rfl) ?_
  refine ruL_c (n := 2) (n2 := 3) rfl (ru_aload_n (k := 0) hx hb dL_startOf_2) ?_
  refine ruL_c (n := 3) (n2 := 4) rfl (ru_iload_n (k := 1) hx hb dL_startOf_3) ?_
  refine ruL_c (n := 4) (n2 := 5) rfl (ru_callC (own := RL) hx hb hml hown hts hK hN hX (c_X5_startOf l hl D cI cZ cA cL ad sa hi) (cwV 1 hts gL_startOf_X5_startOf rfl rfl rfl (by decide +kernel) ⟨Nat.le_of_ble_eq_true rfl, Nat.le_of_ble_eq_true rfl⟩) dL_startOf_4 ⟨hn2, hn3⟩ hh) ?_
  refine ruL_c (n := 5) (n2 := 6) rfl (ru_bot) ?_
  refine ruL_c (n := 6) (n2 := 7) rfl (ru_bot) ?_
  refine ruL_c (n := 7) (n2 := 8) rfl (ru_i2l hx hb dL_startOf_7) ?_
  refine ruL_c (n := 8) (n2 := 9) rfl (ru_last hx hb hK hi dL_startOf_8) ?_
  refine ruL_c (n := 9) (n2 := 10) rfl (ru_goto hx hb dL_startOf_9 (by decide)) ?_
  refine ruL_c (n := 10) (n2 := 11) rfl (ru_bot) ?_
  refine ruL_c (n := 11) (n2 := 12) rfl (ru_bot) ?_
  refine ruL_c (n := 12) (n2 := 13) rfl (ru_bot) ?_
  refine ruL_c (n := 13) (n2 := 14) rfl (ru_bot) ?_
  refine ruL_c (n := 14) (n2 := 15) rfl (ru_bot) ?_
  refine ruL_c (n := 15) (n2 := 16) rfl (ru_iconst hx hb dL_startOf_15 rfl) ?_
  refine ruL_c (n := 16) (n2 := 17) rfl (ru_iretX hx hb hK hr hlocks dL_startOf_16 ⟨hn1, Nat.mul_le_mul_left 6 hn1⟩) ?_
  exact trivial

-- helper setChannel
def hc_L_setChannel (e : Nat) : Option Int32 := if e = 1 then some 1 else if e = 2 then some 2 else none
def f_L_setChannel (p0 : Int32) (p1 : Int32) (p2 : Int32) (σ : aM) : Option (Int32 × aM) := bnC (f_X5_setChannel p0 p1 p2 σ) hc_L_setChannel (fun r σ1 => some (0, mput σ1 178 (ix 0) r))
def F_L_setChannel : aF := fun As σ => match As with
  | [.ref 0, .int p0, .int p1, .int p2, .ref 178] => f_L_setChannel p0 p1 p2 σ
  | _ => none
def T_L_setChannel : aTw := fun Qa KN => [I_aload 4 2, I_bot, I_const 0 1, I_aload 0 1, I_iload 1 1, I_iload 2 1, I_iload 3 1, I_callC 3 F_X5_setChannel hc_L_setChannel KN Qa, I_bot, I_bot, I_i2l, I_last, I_goto 23, I_bot, I_bot, I_bot, I_bot, I_bot, I_bot, I_bot, I_bot, I_bot, I_bot, I_const 0 1, I_iret Qa]
set_option maxHeartbeats 4000000 in
set_option maxRecDepth 100000 in
theorem s_L_setChannel : runsW T_L_setChannel 6 F_L_setChannel := by
  intro Qa K hw As σ y h hQ
  unfold F_L_setChannel at h
  split at h
  · rename_i p0 p1 p2
    unfold f_L_setChannel at h
    show K 0 (0, [.ref 0, .int p0, .int p1, .int p2, .ref 178, .null], [], σ)
    obtain ⟨e1, r1, σ1, q1, hc⟩ := bnC_some h
    refine hw 0 (by decide) 7 _ ?_
    show ∃ e1 r1 σ1, f_X5_setChannel p0 p1 p2 σ = some (e1, r1, σ1) ∧ (e1 = 0 → K 1 (10, [.ref 0, .int p0, .int p1, .int p2, .ref 178, .null], [.int r1, .int 0, .ref 178], σ1)) ∧ (¬ e1 = 0 → ∃ v, hc_L_setChannel e1 = some v ∧ Qa v σ1)
    refine ⟨e1, r1, σ1, q1, fun h0 => ?_, fun h0 => ?_⟩
    · rcases hc with ⟨-, h⟩ | ⟨h1, -⟩
      · obtain rfl := Option.some.inj h
        refine hw 1 (by decide) 5 _ ?_
        show kd 178 = 4 ∧ (inb 0 1 = true ∧ ∃ v : Int32, r1.toInt64 = v.toInt64 ∧ Qa 0 (mput σ1 178 (ix 0) v))
        exact ⟨rfl, by decide, r1, rfl, hQ⟩
      · exact absurd h0 h1
    · rcases hc with ⟨h1, -⟩ | ⟨-, v, hv, h⟩
      · exact absurd h1 h0
      · obtain rfl := h
        exact ⟨v, hv, hQ⟩
  · cases h
theorem h_L_setChannel : shp [] 6 F_L_setChannel := by
  intro As σ r σ' h
  unfold F_L_setChannel at h
  split at h
  · exact ⟨by simp [Value.category], Nat.le_of_ble_eq_true rfl⟩
  · cases h
set_option maxHeartbeats 4000000 in
set_option maxRecDepth 100000 in
theorem c_L_setChannel (l : Launch) (hl : l.stackTraces = false) (D : va_G) (cI cZ cA cL : ClassId) (ad sa : Nat → Nat) (hi : adI ad) : CtW l yL_setChannel wsL_setChannel { frames := 8, cells := 8, slots := 48, locals := 128 } 8 D cI cZ cA cL ad sa F_L_setChannel := by
  refine mk_W (mf := 4) F_L_setChannel T_L_setChannel (by decide +kernel) rfl ?_ h_L_setChannel s_L_setChannel
  intro p e s m args below meth c Qa ⟨⟨hx, hb, hml, hown, hts, hr, hlocks, hK, hN⟩, hX, hC, htab⟩ n hn
  have hn1 : n * 4 ≤ 2 * 4 := by omega
  have hn2 : n * 4 + 4 ≤ 2 * 4 := by omega
  have hn3 : 6 * (n * 4) + 6 * 4 ≤ 6 * (2 * 4) := by omega
  have hl1 : (Cond.classLink RL 21 (exn 1)) ∈ wsL_setChannel := by decide +kernel
  have hl2 : (Cond.classLink RL 13 (exn 2)) ∈ wsL_setChannel := by decide +kernel
  have hh : ∀ (e1 : Nat) (v : Int32), hc_L_setChannel e1 = some v → ∀ (H1 : Heap) (locs1 : List Loc) (ls : Array Slot) (L rest : List Value) (q9 : Addr) (ce : Cell) (σ1 : aM), lh ad ls 6 L → H1[q9]? = some ce → ce.vm = .none → s.vm.findClass (exn e1) = some ce.cls → va_P D vwCl (wl cI cZ cA cL ad σ1) H1 → va_S (AA ad s.heap.size) s.heap H1 locs1 → Qa v σ1 → vx_W p l e { frames := 8, cells := 2 * 4, slots := 6 * (2 * 4), locals := 128 } s m args below meth c H1 locs1 (n * 4 + 4) (6 * (n * 4) + 6 * 4) (vx_MQ below (va_Qi Qa (BB D cI cZ cA cL ad) (AA ad s.heap.size)) (XF ad s.heap.size) args s (2 * 4) (6 * (2 * 4)) (AA ad s.heap.size)) (F0 m 7 ls rest) q9 := by
    intro e1 v hv H1 locs1 ls L rest q9 ce σ1 hl9 hce hcv hcl hP hS hq
    unfold hc_L_setChannel at hv
    by_cases h0 : e1 = 1
    · subst h0
      rw [if_pos rfl] at hv
      obtain rfl := Option.some.inj hv
      exact hand_ok (own := RL) (hp := 15) (a1 := 17) (n := 1) [] { startPc := 0, endPc := 12, handlerPc := 15, catchType := 21 } [{ startPc := 0, endPc := 12, handlerPc := 19, catchType := 13 }] hx hb hown hts hK hr hlocks hX.1 (by rw [htab]; rfl) (fun z hz => by cases hz) (by decide) (by decide) hl1 (by decide +kernel) rfl (ast_w hx hb dL_setChannel_15 (by decide)) dL_setChannel_17 rfl dL_setChannel_18 ⟨hn2, hn3⟩ hl9 hce hcv hcl hP hS hq
    · rw [if_neg h0] at hv
      by_cases h1 : e1 = 2
      · subst h1
        rw [if_pos rfl] at hv
        obtain rfl := Option.some.inj hv
        exact hand_ok (own := RL) (hp := 19) (a1 := 21) (n := 2) [{ startPc := 0, endPc := 12, handlerPc := 15, catchType := 21 }] { startPc := 0, endPc := 12, handlerPc := 19, catchType := 13 } [] hx hb hown hts hK hr hlocks hX.1 (by rw [htab]; rfl) (fun z hz => by
            rcases List.mem_cons.mp hz with rfl | hz
            · exact ⟨by decide, exn 1, hl1, hC 2 (by decide) 1 (by decide) (by decide)⟩
            · cases hz) (by decide) (by decide) hl2 (by decide +kernel) rfl (ast_w hx hb dL_setChannel_19 (by decide)) dL_setChannel_21 rfl dL_setChannel_22 ⟨hn2, hn3⟩ hl9 hce hcv hcl hP hS hq
      · rw [if_neg h1] at hv
        cases hv
  refine ruL_c (n := 0) (n2 := 1) rfl (ru_aload hx hb dL_setChannel_0) ?_
  refine ruL_c (n := 1) (n2 := 2) rfl (ru_bot) ?_
  refine ruL_c (n := 2) (n2 := 3) rfl (ru_iconst hx hb dL_setChannel_2 rfl) ?_
  refine ruL_c (n := 3) (n2 := 4) rfl (ru_aload_n (k := 0) hx hb dL_setChannel_3) ?_
  refine ruL_c (n := 4) (n2 := 5) rfl (ru_iload_n (k := 1) hx hb dL_setChannel_4) ?_
  refine ruL_c (n := 5) (n2 := 6) rfl (ru_iload_n (k := 2) hx hb dL_setChannel_5) ?_
  refine ruL_c (n := 6) (n2 := 7) rfl (ru_iload_n (k := 3) hx hb dL_setChannel_6) ?_
  refine ruL_c (n := 7) (n2 := 8) rfl (ru_callC (own := RL) hx hb hml hown hts hK hN hX (c_X5_setChannel l hl D cI cZ cA cL ad sa hi) (cwV 3 hts gL_setChannel_X5_setChannel rfl rfl rfl (by decide +kernel) ⟨Nat.le_of_ble_eq_true rfl, Nat.le_of_ble_eq_true rfl⟩) dL_setChannel_7 ⟨hn2, hn3⟩ hh) ?_
  refine ruL_c (n := 8) (n2 := 9) rfl (ru_bot) ?_
  refine ruL_c (n := 9) (n2 := 10) rfl (ru_bot) ?_
  refine ruL_c (n := 10) (n2 := 11) rfl (ru_i2l hx hb dL_setChannel_10) ?_
  refine ruL_c (n := 11) (n2 := 12) rfl (ru_last hx hb hK hi dL_setChannel_11) ?_
  refine ruL_c (n := 12) (n2 := 13) rfl (ru_goto hx hb dL_setChannel_12 (by decide)) ?_
  refine ruL_c (n := 13) (n2 := 14) rfl (ru_bot) ?_
  refine ruL_c (n := 14) (n2 := 15) rfl (ru_bot) ?_
  refine ruL_c (n := 15) (n2 := 16) rfl (ru_bot) ?_
  refine ruL_c (n := 16) (n2 := 17) rfl (ru_bot) ?_
  refine ruL_c (n := 17) (n2 := 18) rfl (ru_bot) ?_
  refine ruL_c (n := 18) (n2 := 19) rfl (ru_bot) ?_
  refine ruL_c (n := 19) (n2 := 20) rfl (ru_bot) ?_
  refine ruL_c (n := 20) (n2 := 21) rfl (ru_bot) ?_
  refine ruL_c (n := 21) (n2 := 22) rfl (ru_bot) ?_
  refine ruL_c (n := 22) (n2 := 23) rfl (ru_bot) ?_
  refine ruL_c (n := 23) (n2 := 24) rfl (ru_iconst hx hb dL_setChannel_23 rfl) ?_
  refine ruL_c (n := 24) (n2 := 25) rfl (ru_iretX hx hb hK hr hlocks dL_setChannel_24 ⟨hn1, Nat.mul_le_mul_left 6 hn1⟩) ?_
  exact trivial

-- helper addCue
def hc_L_addCue (e : Nat) : Option Int32 := if e = 1 then some 1 else if e = 2 then some 2 else if e = 3 then some 3 else none
def f_L_addCue (p0 : Int32) (p1 : Int32) (p2 : Int32) (σ : aM) : Option (Int32 × aM) := bnC (f_X5_addCue p0 p1 p2 σ) hc_L_addCue (fun r σ1 => some (0, mput σ1 178 (ix 0) r))
def F_L_addCue : aF := fun As σ => match As with
  | [.ref 0, .int p0, .int p1, .int p2, .ref 178] => f_L_addCue p0 p1 p2 σ
  | _ => none
def T_L_addCue : aTw := fun Qa KN => [I_aload 4 2, I_bot, I_const 0 1, I_aload 0 1, I_iload 1 1, I_iload 2 1, I_iload 3 1, I_callC 3 F_X5_addCue hc_L_addCue KN Qa, I_bot, I_bot, I_i2l, I_last, I_goto 27, I_bot, I_bot, I_bot, I_bot, I_bot, I_bot, I_bot, I_bot, I_bot, I_bot, I_bot, I_bot, I_bot, I_bot, I_const 0 1, I_iret Qa]
set_option maxHeartbeats 4000000 in
set_option maxRecDepth 100000 in
theorem s_L_addCue : runsW T_L_addCue 6 F_L_addCue := by
  intro Qa K hw As σ y h hQ
  unfold F_L_addCue at h
  split at h
  · rename_i p0 p1 p2
    unfold f_L_addCue at h
    show K 0 (0, [.ref 0, .int p0, .int p1, .int p2, .ref 178, .null], [], σ)
    obtain ⟨e1, r1, σ1, q1, hc⟩ := bnC_some h
    refine hw 0 (by decide) 7 _ ?_
    show ∃ e1 r1 σ1, f_X5_addCue p0 p1 p2 σ = some (e1, r1, σ1) ∧ (e1 = 0 → K 1 (10, [.ref 0, .int p0, .int p1, .int p2, .ref 178, .null], [.int r1, .int 0, .ref 178], σ1)) ∧ (¬ e1 = 0 → ∃ v, hc_L_addCue e1 = some v ∧ Qa v σ1)
    refine ⟨e1, r1, σ1, q1, fun h0 => ?_, fun h0 => ?_⟩
    · rcases hc with ⟨-, h⟩ | ⟨h1, -⟩
      · obtain rfl := Option.some.inj h
        refine hw 1 (by decide) 5 _ ?_
        show kd 178 = 4 ∧ (inb 0 1 = true ∧ ∃ v : Int32, r1.toInt64 = v.toInt64 ∧ Qa 0 (mput σ1 178 (ix 0) v))
        exact ⟨rfl, by decide, r1, rfl, hQ⟩
      · exact absurd h0 h1
    · rcases hc with ⟨h1, -⟩ | ⟨-, v, hv, h⟩
      · exact absurd h1 h0
      · obtain rfl := h
        exact ⟨v, hv, hQ⟩
  · cases h
theorem h_L_addCue : shp [] 6 F_L_addCue := by
  intro As σ r σ' h
  unfold F_L_addCue at h
  split at h
  · exact ⟨by simp [Value.category], Nat.le_of_ble_eq_true rfl⟩
  · cases h
set_option maxHeartbeats 4000000 in
set_option maxRecDepth 100000 in
theorem c_L_addCue (l : Launch) (hl : l.stackTraces = false) (D : va_G) (cI cZ cA cL : ClassId) (ad sa : Nat → Nat) (hi : adI ad) : CtW l yL_addCue wsL_addCue { frames := 8, cells := 10, slots := 60, locals := 128 } 10 D cI cZ cA cL ad sa F_L_addCue := by
  refine mk_W (mf := 5) F_L_addCue T_L_addCue (by decide +kernel) rfl ?_ h_L_addCue s_L_addCue
  intro p e s m args below meth c Qa ⟨⟨hx, hb, hml, hown, hts, hr, hlocks, hK, hN⟩, hX, hC, htab⟩ n hn
  have hn1 : n * 5 ≤ 2 * 5 := by omega
  have hn2 : n * 5 + 5 ≤ 2 * 5 := by omega
  have hn3 : 6 * (n * 5) + 6 * 5 ≤ 6 * (2 * 5) := by omega
  have hl1 : (Cond.classLink RL 21 (exn 1)) ∈ wsL_addCue := by decide +kernel
  have hl2 : (Cond.classLink RL 13 (exn 2)) ∈ wsL_addCue := by decide +kernel
  have hl3 : (Cond.classLink RL 15 (exn 3)) ∈ wsL_addCue := by decide +kernel
  have hh : ∀ (e1 : Nat) (v : Int32), hc_L_addCue e1 = some v → ∀ (H1 : Heap) (locs1 : List Loc) (ls : Array Slot) (L rest : List Value) (q9 : Addr) (ce : Cell) (σ1 : aM), lh ad ls 6 L → H1[q9]? = some ce → ce.vm = .none → s.vm.findClass (exn e1) = some ce.cls → va_P D vwCl (wl cI cZ cA cL ad σ1) H1 → va_S (AA ad s.heap.size) s.heap H1 locs1 → Qa v σ1 → vx_W p l e { frames := 8, cells := 2 * 5, slots := 6 * (2 * 5), locals := 128 } s m args below meth c H1 locs1 (n * 5 + 5) (6 * (n * 5) + 6 * 5) (vx_MQ below (va_Qi Qa (BB D cI cZ cA cL ad) (AA ad s.heap.size)) (XF ad s.heap.size) args s (2 * 5) (6 * (2 * 5)) (AA ad s.heap.size)) (F0 m 7 ls rest) q9 := by
    intro e1 v hv H1 locs1 ls L rest q9 ce σ1 hl9 hce hcv hcl hP hS hq
    unfold hc_L_addCue at hv
    by_cases h0 : e1 = 1
    · subst h0
      rw [if_pos rfl] at hv
      obtain rfl := Option.some.inj hv
      exact hand_ok (own := RL) (hp := 15) (a1 := 17) (n := 1) [] { startPc := 0, endPc := 12, handlerPc := 15, catchType := 21 } [{ startPc := 0, endPc := 12, handlerPc := 19, catchType := 13 }, { startPc := 0, endPc := 12, handlerPc := 23, catchType := 15 }] hx hb hown hts hK hr hlocks hX.1 (by rw [htab]; rfl) (fun z hz => by cases hz) (by decide) (by decide) hl1 (by decide +kernel) rfl (ast_w hx hb dL_addCue_15 (by decide)) dL_addCue_17 rfl dL_addCue_18 ⟨hn2, hn3⟩ hl9 hce hcv hcl hP hS hq
    · rw [if_neg h0] at hv
      by_cases h1 : e1 = 2
      · subst h1
        rw [if_pos rfl] at hv
        obtain rfl := Option.some.inj hv
        exact hand_ok (own := RL) (hp := 19) (a1 := 21) (n := 2) [{ startPc := 0, endPc := 12, handlerPc := 15, catchType := 21 }] { startPc := 0, endPc := 12, handlerPc := 19, catchType := 13 } [{ startPc := 0, endPc := 12, handlerPc := 23, catchType := 15 }] hx hb hown hts hK hr hlocks hX.1 (by rw [htab]; rfl) (fun z hz => by
            rcases List.mem_cons.mp hz with rfl | hz
            · exact ⟨by decide, exn 1, hl1, hC 2 (by decide) 1 (by decide) (by decide)⟩
            · cases hz) (by decide) (by decide) hl2 (by decide +kernel) rfl (ast_w hx hb dL_addCue_19 (by decide)) dL_addCue_21 rfl dL_addCue_22 ⟨hn2, hn3⟩ hl9 hce hcv hcl hP hS hq
      · rw [if_neg h1] at hv
        by_cases h2 : e1 = 3
        · subst h2
          rw [if_pos rfl] at hv
          obtain rfl := Option.some.inj hv
          exact hand_ok (own := RL) (hp := 23) (a1 := 25) (n := 3) [{ startPc := 0, endPc := 12, handlerPc := 15, catchType := 21 }, { startPc := 0, endPc := 12, handlerPc := 19, catchType := 13 }] { startPc := 0, endPc := 12, handlerPc := 23, catchType := 15 } [] hx hb hown hts hK hr hlocks hX.1 (by rw [htab]; rfl) (fun z hz => by
              rcases List.mem_cons.mp hz with rfl | hz
              · exact ⟨by decide, exn 1, hl1, hC 3 (by decide) 1 (by decide) (by decide)⟩
              · rcases List.mem_cons.mp hz with rfl | hz
                · exact ⟨by decide, exn 2, hl2, hC 3 (by decide) 2 (by decide) (by decide)⟩
                · cases hz) (by decide) (by decide) hl3 (by decide +kernel) rfl (ast_w hx hb dL_addCue_23 (by decide)) dL_addCue_25 rfl dL_addCue_26 ⟨hn2, hn3⟩ hl9 hce hcv hcl hP hS hq
        · rw [if_neg h2] at hv
          cases hv
  refine ruL_c (n := 0) (n2 := 1) rfl (ru_aload hx hb dL_addCue_0) ?_
  refine ruL_c (n := 1) (n2 := 2) rfl (ru_bot) ?_
  refine ruL_c (n := 2) (n2 := 3) rfl (ru_iconst hx hb dL_addCue_2 rfl) ?_
  refine ruL_c (n := 3) (n2 := 4) rfl (ru_aload_n (k := 0) hx hb dL_addCue_3) ?_
  refine ruL_c (n := 4) (n2 := 5) rfl (ru_iload_n (k := 1) hx hb dL_addCue_4) ?_
  refine ruL_c (n := 5) (n2 := 6) rfl (ru_iload_n (k := 2) hx hb dL_addCue_5) ?_
  refine ruL_c (n := 6) (n2 := 7) rfl (ru_iload_n (k := 3) hx hb dL_addCue_6) ?_
  refine ruL_c (n := 7) (n2 := 8) rfl (ru_callC (own := RL) hx hb hml hown hts hK hN hX (c_X5_addCue l hl D cI cZ cA cL ad sa hi) (cwV 3 hts gL_addCue_X5_addCue rfl rfl rfl (by decide +kernel) ⟨Nat.le_of_ble_eq_true rfl, Nat.le_of_ble_eq_true rfl⟩) dL_addCue_7 ⟨hn2, hn3⟩ hh) ?_
  refine ruL_c (n := 8) (n2 := 9) rfl (ru_bot) ?_
  refine ruL_c (n := 9) (n2 := 10) rfl (ru_bot) ?_
  refine ruL_c (n := 10) (n2 := 11) rfl (ru_i2l hx hb dL_addCue_10) ?_
  refine ruL_c (n := 11) (n2 := 12) rfl (ru_last hx hb hK hi dL_addCue_11) ?_
  refine ruL_c (n := 12) (n2 := 13) rfl (ru_goto hx hb dL_addCue_12 (by decide)) ?_
  refine ruL_c (n := 13) (n2 := 14) rfl (ru_bot) ?_
  refine ruL_c (n := 14) (n2 := 15) rfl (ru_bot) ?_
  refine ruL_c (n := 15) (n2 := 16) rfl (ru_bot) ?_
  refine ruL_c (n := 16) (n2 := 17) rfl (ru_bot) ?_
  refine ruL_c (n := 17) (n2 := 18) rfl (ru_bot) ?_
  refine ruL_c (n := 18) (n2 := 19) rfl (ru_bot) ?_
  refine ruL_c (n := 19) (n2 := 20) rfl (ru_bot) ?_
  refine ruL_c (n := 20) (n2 := 21) rfl (ru_bot) ?_
  refine ruL_c (n := 21) (n2 := 22) rfl (ru_bot) ?_
  refine ruL_c (n := 22) (n2 := 23) rfl (ru_bot) ?_
  refine ruL_c (n := 23) (n2 := 24) rfl (ru_bot) ?_
  refine ruL_c (n := 24) (n2 := 25) rfl (ru_bot) ?_
  refine ruL_c (n := 25) (n2 := 26) rfl (ru_bot) ?_
  refine ruL_c (n := 26) (n2 := 27) rfl (ru_bot) ?_
  refine ruL_c (n := 27) (n2 := 28) rfl (ru_iconst hx hb dL_addCue_27 rfl) ?_
  refine ruL_c (n := 28) (n2 := 29) rfl (ru_iretX hx hb hK hr hlocks dL_addCue_28 ⟨hn1, Nat.mul_le_mul_left 6 hn1⟩) ?_
  exact trivial

-- helper move
def hc_L_move (e : Nat) : Option Int32 := if e = 1 then some 1 else if e = 2 then some 2 else none
def f_L_move (p0 : Int32) (p1 : Int32) (p2 : Int32) (p3 : Int32) (σ : aM) : Option (Int32 × aM) := bnC (f_X5_move p0 p1 p2 p3 σ) hc_L_move (fun r σ1 => some (0, mput σ1 178 (ix 0) r))
def F_L_move : aF := fun As σ => match As with
  | [.ref 0, .int p0, .int p1, .int p2, .int p3, .ref 178] => f_L_move p0 p1 p2 p3 σ
  | _ => none
def T_L_move : aTw := fun Qa KN => [I_aload 5 2, I_bot, I_const 0 1, I_aload 0 1, I_iload 1 1, I_iload 2 1, I_iload 3 1, I_iload 4 2, I_bot, I_callC 4 F_X5_move hc_L_move KN Qa, I_bot, I_bot, I_i2l, I_last, I_goto 25, I_bot, I_bot, I_bot, I_bot, I_bot, I_bot, I_bot, I_bot, I_bot, I_bot, I_const 0 1, I_iret Qa]
set_option maxHeartbeats 4000000 in
set_option maxRecDepth 100000 in
theorem s_L_move : runsW T_L_move 7 F_L_move := by
  intro Qa K hw As σ y h hQ
  unfold F_L_move at h
  split at h
  · rename_i p0 p1 p2 p3
    unfold f_L_move at h
    show K 0 (0, [.ref 0, .int p0, .int p1, .int p2, .int p3, .ref 178, .null], [], σ)
    obtain ⟨e1, r1, σ1, q1, hc⟩ := bnC_some h
    refine hw 0 (by decide) 8 _ ?_
    show ∃ e1 r1 σ1, f_X5_move p0 p1 p2 p3 σ = some (e1, r1, σ1) ∧ (e1 = 0 → K 1 (12, [.ref 0, .int p0, .int p1, .int p2, .int p3, .ref 178, .null], [.int r1, .int 0, .ref 178], σ1)) ∧ (¬ e1 = 0 → ∃ v, hc_L_move e1 = some v ∧ Qa v σ1)
    refine ⟨e1, r1, σ1, q1, fun h0 => ?_, fun h0 => ?_⟩
    · rcases hc with ⟨-, h⟩ | ⟨h1, -⟩
      · obtain rfl := Option.some.inj h
        refine hw 1 (by decide) 5 _ ?_
        show kd 178 = 4 ∧ (inb 0 1 = true ∧ ∃ v : Int32, r1.toInt64 = v.toInt64 ∧ Qa 0 (mput σ1 178 (ix 0) v))
        exact ⟨rfl, by decide, r1, rfl, hQ⟩
      · exact absurd h0 h1
    · rcases hc with ⟨h1, -⟩ | ⟨-, v, hv, h⟩
      · exact absurd h1 h0
      · obtain rfl := h
        exact ⟨v, hv, hQ⟩
  · cases h
theorem h_L_move : shp [] 7 F_L_move := by
  intro As σ r σ' h
  unfold F_L_move at h
  split at h
  · exact ⟨by simp [Value.category], Nat.le_of_ble_eq_true rfl⟩
  · cases h
set_option maxHeartbeats 4000000 in
set_option maxRecDepth 100000 in
theorem c_L_move (l : Launch) (hl : l.stackTraces = false) (D : va_G) (cI cZ cA cL : ClassId) (ad sa : Nat → Nat) (hi : adI ad) : CtW l yL_move wsL_move { frames := 8, cells := 10, slots := 60, locals := 129 } 10 D cI cZ cA cL ad sa F_L_move := by
  refine mk_W (mf := 5) F_L_move T_L_move (by decide +kernel) rfl ?_ h_L_move s_L_move
  intro p e s m args below meth c Qa ⟨⟨hx, hb, hml, hown, hts, hr, hlocks, hK, hN⟩, hX, hC, htab⟩ n hn
  have hn1 : n * 5 ≤ 2 * 5 := by omega
  have hn2 : n * 5 + 5 ≤ 2 * 5 := by omega
  have hn3 : 6 * (n * 5) + 6 * 5 ≤ 6 * (2 * 5) := by omega
  have hl1 : (Cond.classLink RL 21 (exn 1)) ∈ wsL_move := by decide +kernel
  have hl2 : (Cond.classLink RL 13 (exn 2)) ∈ wsL_move := by decide +kernel
  have hh : ∀ (e1 : Nat) (v : Int32), hc_L_move e1 = some v → ∀ (H1 : Heap) (locs1 : List Loc) (ls : Array Slot) (L rest : List Value) (q9 : Addr) (ce : Cell) (σ1 : aM), lh ad ls 7 L → H1[q9]? = some ce → ce.vm = .none → s.vm.findClass (exn e1) = some ce.cls → va_P D vwCl (wl cI cZ cA cL ad σ1) H1 → va_S (AA ad s.heap.size) s.heap H1 locs1 → Qa v σ1 → vx_W p l e { frames := 8, cells := 2 * 5, slots := 6 * (2 * 5), locals := 129 } s m args below meth c H1 locs1 (n * 5 + 5) (6 * (n * 5) + 6 * 5) (vx_MQ below (va_Qi Qa (BB D cI cZ cA cL ad) (AA ad s.heap.size)) (XF ad s.heap.size) args s (2 * 5) (6 * (2 * 5)) (AA ad s.heap.size)) (F0 m 9 ls rest) q9 := by
    intro e1 v hv H1 locs1 ls L rest q9 ce σ1 hl9 hce hcv hcl hP hS hq
    unfold hc_L_move at hv
    by_cases h0 : e1 = 1
    · subst h0
      rw [if_pos rfl] at hv
      obtain rfl := Option.some.inj hv
      exact hand_ok (own := RL) (hp := 17) (a1 := 19) (n := 1) [] { startPc := 0, endPc := 14, handlerPc := 17, catchType := 21 } [{ startPc := 0, endPc := 14, handlerPc := 21, catchType := 13 }] hx hb hown hts hK hr hlocks hX.1 (by rw [htab]; rfl) (fun z hz => by cases hz) (by decide) (by decide) hl1 (by decide +kernel) rfl (ast_w hx hb dL_move_17 (by decide)) dL_move_19 rfl dL_move_20 ⟨hn2, hn3⟩ hl9 hce hcv hcl hP hS hq
    · rw [if_neg h0] at hv
      by_cases h1 : e1 = 2
      · subst h1
        rw [if_pos rfl] at hv
        obtain rfl := Option.some.inj hv
        exact hand_ok (own := RL) (hp := 21) (a1 := 23) (n := 2) [{ startPc := 0, endPc := 14, handlerPc := 17, catchType := 21 }] { startPc := 0, endPc := 14, handlerPc := 21, catchType := 13 } [] hx hb hown hts hK hr hlocks hX.1 (by rw [htab]; rfl) (fun z hz => by
            rcases List.mem_cons.mp hz with rfl | hz
            · exact ⟨by decide, exn 1, hl1, hC 2 (by decide) 1 (by decide) (by decide)⟩
            · cases hz) (by decide) (by decide) hl2 (by decide +kernel) rfl (ast_w hx hb dL_move_21 (by decide)) dL_move_23 rfl dL_move_24 ⟨hn2, hn3⟩ hl9 hce hcv hcl hP hS hq
      · rw [if_neg h1] at hv
        cases hv
  refine ruL_c (n := 0) (n2 := 1) rfl (ru_aload hx hb dL_move_0) ?_
  refine ruL_c (n := 1) (n2 := 2) rfl (ru_bot) ?_
  refine ruL_c (n := 2) (n2 := 3) rfl (ru_iconst hx hb dL_move_2 rfl) ?_
  refine ruL_c (n := 3) (n2 := 4) rfl (ru_aload_n (k := 0) hx hb dL_move_3) ?_
  refine ruL_c (n := 4) (n2 := 5) rfl (ru_iload_n (k := 1) hx hb dL_move_4) ?_
  refine ruL_c (n := 5) (n2 := 6) rfl (ru_iload_n (k := 2) hx hb dL_move_5) ?_
  refine ruL_c (n := 6) (n2 := 7) rfl (ru_iload_n (k := 3) hx hb dL_move_6) ?_
  refine ruL_c (n := 7) (n2 := 8) rfl (ru_iload hx hb dL_move_7) ?_
  refine ruL_c (n := 8) (n2 := 9) rfl (ru_bot) ?_
  refine ruL_c (n := 9) (n2 := 10) rfl (ru_callC (own := RL) hx hb hml hown hts hK hN hX (c_X5_move l hl D cI cZ cA cL ad sa hi) (cwV 4 hts gL_move_X5_move rfl rfl rfl (by decide +kernel) ⟨Nat.le_of_ble_eq_true rfl, Nat.le_of_ble_eq_true rfl⟩) dL_move_9 ⟨hn2, hn3⟩ hh) ?_
  refine ruL_c (n := 10) (n2 := 11) rfl (ru_bot) ?_
  refine ruL_c (n := 11) (n2 := 12) rfl (ru_bot) ?_
  refine ruL_c (n := 12) (n2 := 13) rfl (ru_i2l hx hb dL_move_12) ?_
  refine ruL_c (n := 13) (n2 := 14) rfl (ru_last hx hb hK hi dL_move_13) ?_
  refine ruL_c (n := 14) (n2 := 15) rfl (ru_goto hx hb dL_move_14 (by decide)) ?_
  refine ruL_c (n := 15) (n2 := 16) rfl (ru_bot) ?_
  refine ruL_c (n := 16) (n2 := 17) rfl (ru_bot) ?_
  refine ruL_c (n := 17) (n2 := 18) rfl (ru_bot) ?_
  refine ruL_c (n := 18) (n2 := 19) rfl (ru_bot) ?_
  refine ruL_c (n := 19) (n2 := 20) rfl (ru_bot) ?_
  refine ruL_c (n := 20) (n2 := 21) rfl (ru_bot) ?_
  refine ruL_c (n := 21) (n2 := 22) rfl (ru_bot) ?_
  refine ruL_c (n := 22) (n2 := 23) rfl (ru_bot) ?_
  refine ruL_c (n := 23) (n2 := 24) rfl (ru_bot) ?_
  refine ruL_c (n := 24) (n2 := 25) rfl (ru_bot) ?_
  refine ruL_c (n := 25) (n2 := 26) rfl (ru_iconst hx hb dL_move_25 rfl) ?_
  refine ruL_c (n := 26) (n2 := 27) rfl (ru_iretX hx hb hK hr hlocks dL_move_26 ⟨hn1, Nat.mul_le_mul_left 6 hn1⟩) ?_
  exact trivial

-- helper change
def hc_L_change (e : Nat) : Option Int32 := if e = 1 then some 1 else if e = 2 then some 2 else none
def f_L_change (p0 : Int32) (p1 : Int32) (p2 : Int32) (σ : aM) : Option (Int32 × aM) := bnC (f_X5_change p0 p1 p2 σ) hc_L_change (fun r σ1 => some (0, mput σ1 178 (ix 0) r))
def F_L_change : aF := fun As σ => match As with
  | [.ref 0, .int p0, .int p1, .int p2, .ref 178] => f_L_change p0 p1 p2 σ
  | _ => none
def T_L_change : aTw := fun Qa KN => [I_aload 4 2, I_bot, I_const 0 1, I_aload 0 1, I_iload 1 1, I_iload 2 1, I_iload 3 1, I_callC 3 F_X5_change hc_L_change KN Qa, I_bot, I_bot, I_i2l, I_last, I_goto 23, I_bot, I_bot, I_bot, I_bot, I_bot, I_bot, I_bot, I_bot, I_bot, I_bot, I_const 0 1, I_iret Qa]
set_option maxHeartbeats 4000000 in
set_option maxRecDepth 100000 in
theorem s_L_change : runsW T_L_change 6 F_L_change := by
  intro Qa K hw As σ y h hQ
  unfold F_L_change at h
  split at h
  · rename_i p0 p1 p2
    unfold f_L_change at h
    show K 0 (0, [.ref 0, .int p0, .int p1, .int p2, .ref 178, .null], [], σ)
    obtain ⟨e1, r1, σ1, q1, hc⟩ := bnC_some h
    refine hw 0 (by decide) 7 _ ?_
    show ∃ e1 r1 σ1, f_X5_change p0 p1 p2 σ = some (e1, r1, σ1) ∧ (e1 = 0 → K 1 (10, [.ref 0, .int p0, .int p1, .int p2, .ref 178, .null], [.int r1, .int 0, .ref 178], σ1)) ∧ (¬ e1 = 0 → ∃ v, hc_L_change e1 = some v ∧ Qa v σ1)
    refine ⟨e1, r1, σ1, q1, fun h0 => ?_, fun h0 => ?_⟩
    · rcases hc with ⟨-, h⟩ | ⟨h1, -⟩
      · obtain rfl := Option.some.inj h
        refine hw 1 (by decide) 5 _ ?_
        show kd 178 = 4 ∧ (inb 0 1 = true ∧ ∃ v : Int32, r1.toInt64 = v.toInt64 ∧ Qa 0 (mput σ1 178 (ix 0) v))
        exact ⟨rfl, by decide, r1, rfl, hQ⟩
      · exact absurd h0 h1
    · rcases hc with ⟨h1, -⟩ | ⟨-, v, hv, h⟩
      · exact absurd h1 h0
      · obtain rfl := h
        exact ⟨v, hv, hQ⟩
  · cases h
theorem h_L_change : shp [] 6 F_L_change := by
  intro As σ r σ' h
  unfold F_L_change at h
  split at h
  · exact ⟨by simp [Value.category], Nat.le_of_ble_eq_true rfl⟩
  · cases h
set_option maxHeartbeats 4000000 in
set_option maxRecDepth 100000 in
theorem c_L_change (l : Launch) (hl : l.stackTraces = false) (D : va_G) (cI cZ cA cL : ClassId) (ad sa : Nat → Nat) (hi : adI ad) : CtW l yL_change wsL_change { frames := 8, cells := 8, slots := 48, locals := 128 } 8 D cI cZ cA cL ad sa F_L_change := by
  refine mk_W (mf := 4) F_L_change T_L_change (by decide +kernel) rfl ?_ h_L_change s_L_change
  intro p e s m args below meth c Qa ⟨⟨hx, hb, hml, hown, hts, hr, hlocks, hK, hN⟩, hX, hC, htab⟩ n hn
  have hn1 : n * 4 ≤ 2 * 4 := by omega
  have hn2 : n * 4 + 4 ≤ 2 * 4 := by omega
  have hn3 : 6 * (n * 4) + 6 * 4 ≤ 6 * (2 * 4) := by omega
  have hl1 : (Cond.classLink RL 21 (exn 1)) ∈ wsL_change := by decide +kernel
  have hl2 : (Cond.classLink RL 13 (exn 2)) ∈ wsL_change := by decide +kernel
  have hh : ∀ (e1 : Nat) (v : Int32), hc_L_change e1 = some v → ∀ (H1 : Heap) (locs1 : List Loc) (ls : Array Slot) (L rest : List Value) (q9 : Addr) (ce : Cell) (σ1 : aM), lh ad ls 6 L → H1[q9]? = some ce → ce.vm = .none → s.vm.findClass (exn e1) = some ce.cls → va_P D vwCl (wl cI cZ cA cL ad σ1) H1 → va_S (AA ad s.heap.size) s.heap H1 locs1 → Qa v σ1 → vx_W p l e { frames := 8, cells := 2 * 4, slots := 6 * (2 * 4), locals := 128 } s m args below meth c H1 locs1 (n * 4 + 4) (6 * (n * 4) + 6 * 4) (vx_MQ below (va_Qi Qa (BB D cI cZ cA cL ad) (AA ad s.heap.size)) (XF ad s.heap.size) args s (2 * 4) (6 * (2 * 4)) (AA ad s.heap.size)) (F0 m 7 ls rest) q9 := by
    intro e1 v hv H1 locs1 ls L rest q9 ce σ1 hl9 hce hcv hcl hP hS hq
    unfold hc_L_change at hv
    by_cases h0 : e1 = 1
    · subst h0
      rw [if_pos rfl] at hv
      obtain rfl := Option.some.inj hv
      exact hand_ok (own := RL) (hp := 15) (a1 := 17) (n := 1) [] { startPc := 0, endPc := 12, handlerPc := 15, catchType := 21 } [{ startPc := 0, endPc := 12, handlerPc := 19, catchType := 13 }] hx hb hown hts hK hr hlocks hX.1 (by rw [htab]; rfl) (fun z hz => by cases hz) (by decide) (by decide) hl1 (by decide +kernel) rfl (ast_w hx hb dL_change_15 (by decide)) dL_change_17 rfl dL_change_18 ⟨hn2, hn3⟩ hl9 hce hcv hcl hP hS hq
    · rw [if_neg h0] at hv
      by_cases h1 : e1 = 2
      · subst h1
        rw [if_pos rfl] at hv
        obtain rfl := Option.some.inj hv
        exact hand_ok (own := RL) (hp := 19) (a1 := 21) (n := 2) [{ startPc := 0, endPc := 12, handlerPc := 15, catchType := 21 }] { startPc := 0, endPc := 12, handlerPc := 19, catchType := 13 } [] hx hb hown hts hK hr hlocks hX.1 (by rw [htab]; rfl) (fun z hz => by
            rcases List.mem_cons.mp hz with rfl | hz
            · exact ⟨by decide, exn 1, hl1, hC 2 (by decide) 1 (by decide) (by decide)⟩
            · cases hz) (by decide) (by decide) hl2 (by decide +kernel) rfl (ast_w hx hb dL_change_19 (by decide)) dL_change_21 rfl dL_change_22 ⟨hn2, hn3⟩ hl9 hce hcv hcl hP hS hq
      · rw [if_neg h1] at hv
        cases hv
  refine ruL_c (n := 0) (n2 := 1) rfl (ru_aload hx hb dL_change_0) ?_
  refine ruL_c (n := 1) (n2 := 2) rfl (ru_bot) ?_
  refine ruL_c (n := 2) (n2 := 3) rfl (ru_iconst hx hb dL_change_2 rfl) ?_
  refine ruL_c (n := 3) (n2 := 4) rfl (ru_aload_n (k := 0) hx hb dL_change_3) ?_
  refine ruL_c (n := 4) (n2 := 5) rfl (ru_iload_n (k := 1) hx hb dL_change_4) ?_
  refine ruL_c (n := 5) (n2 := 6) rfl (ru_iload_n (k := 2) hx hb dL_change_5) ?_
  refine ruL_c (n := 6) (n2 := 7) rfl (ru_iload_n (k := 3) hx hb dL_change_6) ?_
  refine ruL_c (n := 7) (n2 := 8) rfl (ru_callC (own := RL) hx hb hml hown hts hK hN hX (c_X5_change l hl D cI cZ cA cL ad sa hi) (cwV 3 hts gL_change_X5_change rfl rfl rfl (by decide +kernel) ⟨Nat.le_of_ble_eq_true rfl, Nat.le_of_ble_eq_true rfl⟩) dL_change_7 ⟨hn2, hn3⟩ hh) ?_
  refine ruL_c (n := 8) (n2 := 9) rfl (ru_bot) ?_
  refine ruL_c (n := 9) (n2 := 10) rfl (ru_bot) ?_
  refine ruL_c (n := 10) (n2 := 11) rfl (ru_i2l hx hb dL_change_10) ?_
  refine ruL_c (n := 11) (n2 := 12) rfl (ru_last hx hb hK hi dL_change_11) ?_
  refine ruL_c (n := 12) (n2 := 13) rfl (ru_goto hx hb dL_change_12 (by decide)) ?_
  refine ruL_c (n := 13) (n2 := 14) rfl (ru_bot) ?_
  refine ruL_c (n := 14) (n2 := 15) rfl (ru_bot) ?_
  refine ruL_c (n := 15) (n2 := 16) rfl (ru_bot) ?_
  refine ruL_c (n := 16) (n2 := 17) rfl (ru_bot) ?_
  refine ruL_c (n := 17) (n2 := 18) rfl (ru_bot) ?_
  refine ruL_c (n := 18) (n2 := 19) rfl (ru_bot) ?_
  refine ruL_c (n := 19) (n2 := 20) rfl (ru_bot) ?_
  refine ruL_c (n := 20) (n2 := 21) rfl (ru_bot) ?_
  refine ruL_c (n := 21) (n2 := 22) rfl (ru_bot) ?_
  refine ruL_c (n := 22) (n2 := 23) rfl (ru_bot) ?_
  refine ruL_c (n := 23) (n2 := 24) rfl (ru_iconst hx hb dL_change_23 rfl) ?_
  refine ruL_c (n := 24) (n2 := 25) rfl (ru_iretX hx hb hK hr hlocks dL_change_24 ⟨hn1, Nat.mul_le_mul_left 6 hn1⟩) ?_
  exact trivial

-- helper cueAt
def hc_L_cueAt (e : Nat) : Option Int32 := if e = 1 then some 1 else none
def f_L_cueAt (p0 : Int32) (σ : aM) : Option (Int32 × aM) := bnC (f_X5_cueAt p0 σ) hc_L_cueAt (fun r σ1 => some (0, mput σ1 178 (ix 0) r))
def F_L_cueAt : aF := fun As σ => match As with
  | [.ref 0, .int p0, .ref 178] => f_L_cueAt p0 σ
  | _ => none
def T_L_cueAt : aTw := fun Qa KN => [I_aload 2 1, I_const 0 1, I_aload 0 1, I_iload 1 1, I_callC 1 F_X5_cueAt hc_L_cueAt KN Qa, I_bot, I_bot, I_i2l, I_last, I_goto 15, I_bot, I_bot, I_bot, I_bot, I_bot, I_const 0 1, I_iret Qa]
set_option maxHeartbeats 4000000 in
set_option maxRecDepth 100000 in
theorem s_L_cueAt : runsW T_L_cueAt 4 F_L_cueAt := by
  intro Qa K hw As σ y h hQ
  unfold F_L_cueAt at h
  split at h
  · rename_i p0
    unfold f_L_cueAt at h
    show K 0 (0, [.ref 0, .int p0, .ref 178, .null], [], σ)
    obtain ⟨e1, r1, σ1, q1, hc⟩ := bnC_some h
    refine hw 0 (by decide) 5 _ ?_
    show ∃ e1 r1 σ1, f_X5_cueAt p0 σ = some (e1, r1, σ1) ∧ (e1 = 0 → K 1 (7, [.ref 0, .int p0, .ref 178, .null], [.int r1, .int 0, .ref 178], σ1)) ∧ (¬ e1 = 0 → ∃ v, hc_L_cueAt e1 = some v ∧ Qa v σ1)
    refine ⟨e1, r1, σ1, q1, fun h0 => ?_, fun h0 => ?_⟩
    · rcases hc with ⟨-, h⟩ | ⟨h1, -⟩
      · obtain rfl := Option.some.inj h
        refine hw 1 (by decide) 5 _ ?_
        show kd 178 = 4 ∧ (inb 0 1 = true ∧ ∃ v : Int32, r1.toInt64 = v.toInt64 ∧ Qa 0 (mput σ1 178 (ix 0) v))
        exact ⟨rfl, by decide, r1, rfl, hQ⟩
      · exact absurd h0 h1
    · rcases hc with ⟨h1, -⟩ | ⟨-, v, hv, h⟩
      · exact absurd h1 h0
      · obtain rfl := h
        exact ⟨v, hv, hQ⟩
  · cases h
theorem h_L_cueAt : shp [] 4 F_L_cueAt := by
  intro As σ r σ' h
  unfold F_L_cueAt at h
  split at h
  · exact ⟨by simp [Value.category], Nat.le_of_ble_eq_true rfl⟩
  · cases h
set_option maxHeartbeats 4000000 in
set_option maxRecDepth 100000 in
theorem c_L_cueAt (l : Launch) (hl : l.stackTraces = false) (D : va_G) (cI cZ cA cL : ClassId) (ad sa : Nat → Nat) (hi : adI ad) : CtW l yL_cueAt wsL_cueAt { frames := 8, cells := 4, slots := 24, locals := 124 } 4 D cI cZ cA cL ad sa F_L_cueAt := by
  refine mk_W (mf := 2) F_L_cueAt T_L_cueAt (by decide +kernel) rfl ?_ h_L_cueAt s_L_cueAt
  intro p e s m args below meth c Qa ⟨⟨hx, hb, hml, hown, hts, hr, hlocks, hK, hN⟩, hX, hC, htab⟩ n hn
  have hn1 : n * 2 ≤ 2 * 2 := by omega
  have hn2 : n * 2 + 2 ≤ 2 * 2 := by omega
  have hn3 : 6 * (n * 2) + 6 * 2 ≤ 6 * (2 * 2) := by omega
  have hl1 : (Cond.classLink RL 21 (exn 1)) ∈ wsL_cueAt := by decide +kernel
  have hh : ∀ (e1 : Nat) (v : Int32), hc_L_cueAt e1 = some v → ∀ (H1 : Heap) (locs1 : List Loc) (ls : Array Slot) (L rest : List Value) (q9 : Addr) (ce : Cell) (σ1 : aM), lh ad ls 4 L → H1[q9]? = some ce → ce.vm = .none → s.vm.findClass (exn e1) = some ce.cls → va_P D vwCl (wl cI cZ cA cL ad σ1) H1 → va_S (AA ad s.heap.size) s.heap H1 locs1 → Qa v σ1 → vx_W p l e { frames := 8, cells := 2 * 2, slots := 6 * (2 * 2), locals := 124 } s m args below meth c H1 locs1 (n * 2 + 2) (6 * (n * 2) + 6 * 2) (vx_MQ below (va_Qi Qa (BB D cI cZ cA cL ad) (AA ad s.heap.size)) (XF ad s.heap.size) args s (2 * 2) (6 * (2 * 2)) (AA ad s.heap.size)) (F0 m 4 ls rest) q9 := by
    intro e1 v hv H1 locs1 ls L rest q9 ce σ1 hl9 hce hcv hcl hP hS hq
    unfold hc_L_cueAt at hv
    by_cases h0 : e1 = 1
    · subst h0
      rw [if_pos rfl] at hv
      obtain rfl := Option.some.inj hv
      exact hand_ok (own := RL) (hp := 12) (a1 := 13) (n := 1) [] { startPc := 0, endPc := 9, handlerPc := 12, catchType := 21 } [] hx hb hown hts hK hr hlocks hX.1 (by rw [htab]; rfl) (fun z hz => by cases hz) (by decide) (by decide) hl1 (by decide +kernel) rfl (ast_n (k := 3) hx hb dL_cueAt_12 (by decide)) dL_cueAt_13 rfl dL_cueAt_14 ⟨hn2, hn3⟩ hl9 hce hcv hcl hP hS hq
    · rw [if_neg h0] at hv
      cases hv
  refine ruL_c (n := 0) (n2 := 1) rfl (ru_aload_n (k := 2) hx hb dL_cueAt_0) ?_
  refine ruL_c (n := 1) (n2 := 2) rfl (ru_iconst hx hb dL_cueAt_1 rfl) ?_
  refine ruL_c (n := 2) (n2 := 3) rfl (ru_aload_n (k := 0) hx hb dL_cueAt_2) ?_
  refine ruL_c (n := 3) (n2 := 4) rfl (ru_iload_n (k := 1) hx hb dL_cueAt_3) ?_
  refine ruL_c (n := 4) (n2 := 5) rfl (ru_callC (own := RL) hx hb hml hown hts hK hN hX (c_X5_cueAt l hl D cI cZ cA cL ad sa hi) (cwV 1 hts gL_cueAt_X5_cueAt rfl rfl rfl (by decide +kernel) ⟨Nat.le_of_ble_eq_true rfl, Nat.le_of_ble_eq_true rfl⟩) dL_cueAt_4 ⟨hn2, hn3⟩ hh) ?_
  refine ruL_c (n := 5) (n2 := 6) rfl (ru_bot) ?_
  refine ruL_c (n := 6) (n2 := 7) rfl (ru_bot) ?_
  refine ruL_c (n := 7) (n2 := 8) rfl (ru_i2l hx hb dL_cueAt_7) ?_
  refine ruL_c (n := 8) (n2 := 9) rfl (ru_last hx hb hK hi dL_cueAt_8) ?_
  refine ruL_c (n := 9) (n2 := 10) rfl (ru_goto hx hb dL_cueAt_9 (by decide)) ?_
  refine ruL_c (n := 10) (n2 := 11) rfl (ru_bot) ?_
  refine ruL_c (n := 11) (n2 := 12) rfl (ru_bot) ?_
  refine ruL_c (n := 12) (n2 := 13) rfl (ru_bot) ?_
  refine ruL_c (n := 13) (n2 := 14) rfl (ru_bot) ?_
  refine ruL_c (n := 14) (n2 := 15) rfl (ru_bot) ?_
  refine ruL_c (n := 15) (n2 := 16) rfl (ru_iconst hx hb dL_cueAt_15 rfl) ?_
  refine ruL_c (n := 16) (n2 := 17) rfl (ru_iretX hx hb hK hr hlocks dL_cueAt_16 ⟨hn1, Nat.mul_le_mul_left 6 hn1⟩) ?_
  exact trivial

-- helper timeOf
def hc_L_timeOf (e : Nat) : Option Int32 := if e = 1 then some 1 else none
def f_L_timeOf (p0 : Int32) (σ : aM) : Option (Int32 × aM) := bnC (f_X5_timeOf p0 σ) hc_L_timeOf (fun r σ1 => some (0, mput σ1 178 (ix 0) r))
def F_L_timeOf : aF := fun As σ => match As with
  | [.ref 0, .int p0, .ref 178] => f_L_timeOf p0 σ
  | _ => none
def T_L_timeOf : aTw := fun Qa KN => [I_aload 2 1, I_const 0 1, I_aload 0 1, I_iload 1 1, I_callC 1 F_X5_timeOf hc_L_timeOf KN Qa, I_bot, I_bot, I_i2l, I_last, I_goto 15, I_bot, I_bot, I_bot, I_bot, I_bot, I_const 0 1, I_iret Qa]
set_option maxHeartbeats 4000000 in
set_option maxRecDepth 100000 in
theorem s_L_timeOf : runsW T_L_timeOf 4 F_L_timeOf := by
  intro Qa K hw As σ y h hQ
  unfold F_L_timeOf at h
  split at h
  · rename_i p0
    unfold f_L_timeOf at h
    show K 0 (0, [.ref 0, .int p0, .ref 178, .null], [], σ)
    obtain ⟨e1, r1, σ1, q1, hc⟩ := bnC_some h
    refine hw 0 (by decide) 5 _ ?_
    show ∃ e1 r1 σ1, f_X5_timeOf p0 σ = some (e1, r1, σ1) ∧ (e1 = 0 → K 1 (7, [.ref 0, .int p0, .ref 178, .null], [.int r1, .int 0, .ref 178], σ1)) ∧ (¬ e1 = 0 → ∃ v, hc_L_timeOf e1 = some v ∧ Qa v σ1)
    refine ⟨e1, r1, σ1, q1, fun h0 => ?_, fun h0 => ?_⟩
    · rcases hc with ⟨-, h⟩ | ⟨h1, -⟩
      · obtain rfl := Option.some.inj h
        refine hw 1 (by decide) 5 _ ?_
        show kd 178 = 4 ∧ (inb 0 1 = true ∧ ∃ v : Int32, r1.toInt64 = v.toInt64 ∧ Qa 0 (mput σ1 178 (ix 0) v))
        exact ⟨rfl, by decide, r1, rfl, hQ⟩
      · exact absurd h0 h1
    · rcases hc with ⟨h1, -⟩ | ⟨-, v, hv, h⟩
      · exact absurd h1 h0
      · obtain rfl := h
        exact ⟨v, hv, hQ⟩
  · cases h
theorem h_L_timeOf : shp [] 4 F_L_timeOf := by
  intro As σ r σ' h
  unfold F_L_timeOf at h
  split at h
  · exact ⟨by simp [Value.category], Nat.le_of_ble_eq_true rfl⟩
  · cases h
set_option maxHeartbeats 4000000 in
set_option maxRecDepth 100000 in
theorem c_L_timeOf (l : Launch) (hl : l.stackTraces = false) (D : va_G) (cI cZ cA cL : ClassId) (ad sa : Nat → Nat) (hi : adI ad) : CtW l yL_timeOf wsL_timeOf { frames := 8, cells := 4, slots := 24, locals := 124 } 4 D cI cZ cA cL ad sa F_L_timeOf := by
  refine mk_W (mf := 2) F_L_timeOf T_L_timeOf (by decide +kernel) rfl ?_ h_L_timeOf s_L_timeOf
  intro p e s m args below meth c Qa ⟨⟨hx, hb, hml, hown, hts, hr, hlocks, hK, hN⟩, hX, hC, htab⟩ n hn
  have hn1 : n * 2 ≤ 2 * 2 := by omega
  have hn2 : n * 2 + 2 ≤ 2 * 2 := by omega
  have hn3 : 6 * (n * 2) + 6 * 2 ≤ 6 * (2 * 2) := by omega
  have hl1 : (Cond.classLink RL 21 (exn 1)) ∈ wsL_timeOf := by decide +kernel
  have hh : ∀ (e1 : Nat) (v : Int32), hc_L_timeOf e1 = some v → ∀ (H1 : Heap) (locs1 : List Loc) (ls : Array Slot) (L rest : List Value) (q9 : Addr) (ce : Cell) (σ1 : aM), lh ad ls 4 L → H1[q9]? = some ce → ce.vm = .none → s.vm.findClass (exn e1) = some ce.cls → va_P D vwCl (wl cI cZ cA cL ad σ1) H1 → va_S (AA ad s.heap.size) s.heap H1 locs1 → Qa v σ1 → vx_W p l e { frames := 8, cells := 2 * 2, slots := 6 * (2 * 2), locals := 124 } s m args below meth c H1 locs1 (n * 2 + 2) (6 * (n * 2) + 6 * 2) (vx_MQ below (va_Qi Qa (BB D cI cZ cA cL ad) (AA ad s.heap.size)) (XF ad s.heap.size) args s (2 * 2) (6 * (2 * 2)) (AA ad s.heap.size)) (F0 m 4 ls rest) q9 := by
    intro e1 v hv H1 locs1 ls L rest q9 ce σ1 hl9 hce hcv hcl hP hS hq
    unfold hc_L_timeOf at hv
    by_cases h0 : e1 = 1
    · subst h0
      rw [if_pos rfl] at hv
      obtain rfl := Option.some.inj hv
      exact hand_ok (own := RL) (hp := 12) (a1 := 13) (n := 1) [] { startPc := 0, endPc := 9, handlerPc := 12, catchType := 21 } [] hx hb hown hts hK hr hlocks hX.1 (by rw [htab]; rfl) (fun z hz => by cases hz) (by decide) (by decide) hl1 (by decide +kernel) rfl (ast_n (k := 3) hx hb dL_timeOf_12 (by decide)) dL_timeOf_13 rfl dL_timeOf_14 ⟨hn2, hn3⟩ hl9 hce hcv hcl hP hS hq
    · rw [if_neg h0] at hv
      cases hv
  refine ruL_c (n := 0) (n2 := 1) rfl (ru_aload_n (k := 2) hx hb dL_timeOf_0) ?_
  refine ruL_c (n := 1) (n2 := 2) rfl (ru_iconst hx hb dL_timeOf_1 rfl) ?_
  refine ruL_c (n := 2) (n2 := 3) rfl (ru_aload_n (k := 0) hx hb dL_timeOf_2) ?_
  refine ruL_c (n := 3) (n2 := 4) rfl (ru_iload_n (k := 1) hx hb dL_timeOf_3) ?_
  refine ruL_c (n := 4) (n2 := 5) rfl (ru_callC (own := RL) hx hb hml hown hts hK hN hX (c_X5_timeOf l hl D cI cZ cA cL ad sa hi) (cwV 1 hts gL_timeOf_X5_timeOf rfl rfl rfl (by decide +kernel) ⟨Nat.le_of_ble_eq_true rfl, Nat.le_of_ble_eq_true rfl⟩) dL_timeOf_4 ⟨hn2, hn3⟩ hh) ?_
  refine ruL_c (n := 5) (n2 := 6) rfl (ru_bot) ?_
  refine ruL_c (n := 6) (n2 := 7) rfl (ru_bot) ?_
  refine ruL_c (n := 7) (n2 := 8) rfl (ru_i2l hx hb dL_timeOf_7) ?_
  refine ruL_c (n := 8) (n2 := 9) rfl (ru_last hx hb hK hi dL_timeOf_8) ?_
  refine ruL_c (n := 9) (n2 := 10) rfl (ru_goto hx hb dL_timeOf_9 (by decide)) ?_
  refine ruL_c (n := 10) (n2 := 11) rfl (ru_bot) ?_
  refine ruL_c (n := 11) (n2 := 12) rfl (ru_bot) ?_
  refine ruL_c (n := 12) (n2 := 13) rfl (ru_bot) ?_
  refine ruL_c (n := 13) (n2 := 14) rfl (ru_bot) ?_
  refine ruL_c (n := 14) (n2 := 15) rfl (ru_bot) ?_
  refine ruL_c (n := 15) (n2 := 16) rfl (ru_iconst hx hb dL_timeOf_15 rfl) ?_
  refine ruL_c (n := 16) (n2 := 17) rfl (ru_iretX hx hb hK hr hlocks dL_timeOf_16 ⟨hn1, Nat.mul_le_mul_left 6 hn1⟩) ?_
  exact trivial

-- helper foldedInto
def hc_L_foldedInto (e : Nat) : Option Int32 := if e = 1 then some 1 else none
def f_L_foldedInto (p0 : Int32) (σ : aM) : Option (Int32 × aM) := bnC (f_X5_foldedInto p0 σ) hc_L_foldedInto (fun r σ1 => some (0, mput σ1 178 (ix 0) r))
def F_L_foldedInto : aF := fun As σ => match As with
  | [.ref 0, .int p0, .ref 178] => f_L_foldedInto p0 σ
  | _ => none
def T_L_foldedInto : aTw := fun Qa KN => [I_aload 2 1, I_const 0 1, I_aload 0 1, I_iload 1 1, I_callC 1 F_X5_foldedInto hc_L_foldedInto KN Qa, I_bot, I_bot, I_i2l, I_last, I_goto 15, I_bot, I_bot, I_bot, I_bot, I_bot, I_const 0 1, I_iret Qa]
set_option maxHeartbeats 4000000 in
set_option maxRecDepth 100000 in
theorem s_L_foldedInto : runsW T_L_foldedInto 4 F_L_foldedInto := by
  intro Qa K hw As σ y h hQ
  unfold F_L_foldedInto at h
  split at h
  · rename_i p0
    unfold f_L_foldedInto at h
    show K 0 (0, [.ref 0, .int p0, .ref 178, .null], [], σ)
    obtain ⟨e1, r1, σ1, q1, hc⟩ := bnC_some h
    refine hw 0 (by decide) 5 _ ?_
    show ∃ e1 r1 σ1, f_X5_foldedInto p0 σ = some (e1, r1, σ1) ∧ (e1 = 0 → K 1 (7, [.ref 0, .int p0, .ref 178, .null], [.int r1, .int 0, .ref 178], σ1)) ∧ (¬ e1 = 0 → ∃ v, hc_L_foldedInto e1 = some v ∧ Qa v σ1)
    refine ⟨e1, r1, σ1, q1, fun h0 => ?_, fun h0 => ?_⟩
    · rcases hc with ⟨-, h⟩ | ⟨h1, -⟩
      · obtain rfl := Option.some.inj h
        refine hw 1 (by decide) 5 _ ?_
        show kd 178 = 4 ∧ (inb 0 1 = true ∧ ∃ v : Int32, r1.toInt64 = v.toInt64 ∧ Qa 0 (mput σ1 178 (ix 0) v))
        exact ⟨rfl, by decide, r1, rfl, hQ⟩
      · exact absurd h0 h1
    · rcases hc with ⟨h1, -⟩ | ⟨-, v, hv, h⟩
      · exact absurd h1 h0
      · obtain rfl := h
        exact ⟨v, hv, hQ⟩
  · cases h
theorem h_L_foldedInto : shp [] 4 F_L_foldedInto := by
  intro As σ r σ' h
  unfold F_L_foldedInto at h
  split at h
  · exact ⟨by simp [Value.category], Nat.le_of_ble_eq_true rfl⟩
  · cases h
set_option maxHeartbeats 4000000 in
set_option maxRecDepth 100000 in
theorem c_L_foldedInto (l : Launch) (hl : l.stackTraces = false) (D : va_G) (cI cZ cA cL : ClassId) (ad sa : Nat → Nat) (hi : adI ad) : CtW l yL_foldedInto wsL_foldedInto { frames := 8, cells := 4, slots := 24, locals := 124 } 4 D cI cZ cA cL ad sa F_L_foldedInto := by
  refine mk_W (mf := 2) F_L_foldedInto T_L_foldedInto (by decide +kernel) rfl ?_ h_L_foldedInto s_L_foldedInto
  intro p e s m args below meth c Qa ⟨⟨hx, hb, hml, hown, hts, hr, hlocks, hK, hN⟩, hX, hC, htab⟩ n hn
  have hn1 : n * 2 ≤ 2 * 2 := by omega
  have hn2 : n * 2 + 2 ≤ 2 * 2 := by omega
  have hn3 : 6 * (n * 2) + 6 * 2 ≤ 6 * (2 * 2) := by omega
  have hl1 : (Cond.classLink RL 21 (exn 1)) ∈ wsL_foldedInto := by decide +kernel
  have hh : ∀ (e1 : Nat) (v : Int32), hc_L_foldedInto e1 = some v → ∀ (H1 : Heap) (locs1 : List Loc) (ls : Array Slot) (L rest : List Value) (q9 : Addr) (ce : Cell) (σ1 : aM), lh ad ls 4 L → H1[q9]? = some ce → ce.vm = .none → s.vm.findClass (exn e1) = some ce.cls → va_P D vwCl (wl cI cZ cA cL ad σ1) H1 → va_S (AA ad s.heap.size) s.heap H1 locs1 → Qa v σ1 → vx_W p l e { frames := 8, cells := 2 * 2, slots := 6 * (2 * 2), locals := 124 } s m args below meth c H1 locs1 (n * 2 + 2) (6 * (n * 2) + 6 * 2) (vx_MQ below (va_Qi Qa (BB D cI cZ cA cL ad) (AA ad s.heap.size)) (XF ad s.heap.size) args s (2 * 2) (6 * (2 * 2)) (AA ad s.heap.size)) (F0 m 4 ls rest) q9 := by
    intro e1 v hv H1 locs1 ls L rest q9 ce σ1 hl9 hce hcv hcl hP hS hq
    unfold hc_L_foldedInto at hv
    by_cases h0 : e1 = 1
    · subst h0
      rw [if_pos rfl] at hv
      obtain rfl := Option.some.inj hv
      exact hand_ok (own := RL) (hp := 12) (a1 := 13) (n := 1) [] { startPc := 0, endPc := 9, handlerPc := 12, catchType := 21 } [] hx hb hown hts hK hr hlocks hX.1 (by rw [htab]; rfl) (fun z hz => by cases hz) (by decide) (by decide) hl1 (by decide +kernel) rfl (ast_n (k := 3) hx hb dL_foldedInto_12 (by decide)) dL_foldedInto_13 rfl dL_foldedInto_14 ⟨hn2, hn3⟩ hl9 hce hcv hcl hP hS hq
    · rw [if_neg h0] at hv
      cases hv
  refine ruL_c (n := 0) (n2 := 1) rfl (ru_aload_n (k := 2) hx hb dL_foldedInto_0) ?_
  refine ruL_c (n := 1) (n2 := 2) rfl (ru_iconst hx hb dL_foldedInto_1 rfl) ?_
  refine ruL_c (n := 2) (n2 := 3) rfl (ru_aload_n (k := 0) hx hb dL_foldedInto_2) ?_
  refine ruL_c (n := 3) (n2 := 4) rfl (ru_iload_n (k := 1) hx hb dL_foldedInto_3) ?_
  refine ruL_c (n := 4) (n2 := 5) rfl (ru_callC (own := RL) hx hb hml hown hts hK hN hX (c_X5_foldedInto l hl D cI cZ cA cL ad sa hi) (cwV 1 hts gL_foldedInto_X5_foldedInto rfl rfl rfl (by decide +kernel) ⟨Nat.le_of_ble_eq_true rfl, Nat.le_of_ble_eq_true rfl⟩) dL_foldedInto_4 ⟨hn2, hn3⟩ hh) ?_
  refine ruL_c (n := 5) (n2 := 6) rfl (ru_bot) ?_
  refine ruL_c (n := 6) (n2 := 7) rfl (ru_bot) ?_
  refine ruL_c (n := 7) (n2 := 8) rfl (ru_i2l hx hb dL_foldedInto_7) ?_
  refine ruL_c (n := 8) (n2 := 9) rfl (ru_last hx hb hK hi dL_foldedInto_8) ?_
  refine ruL_c (n := 9) (n2 := 10) rfl (ru_goto hx hb dL_foldedInto_9 (by decide)) ?_
  refine ruL_c (n := 10) (n2 := 11) rfl (ru_bot) ?_
  refine ruL_c (n := 11) (n2 := 12) rfl (ru_bot) ?_
  refine ruL_c (n := 12) (n2 := 13) rfl (ru_bot) ?_
  refine ruL_c (n := 13) (n2 := 14) rfl (ru_bot) ?_
  refine ruL_c (n := 14) (n2 := 15) rfl (ru_bot) ?_
  refine ruL_c (n := 15) (n2 := 16) rfl (ru_iconst hx hb dL_foldedInto_15 rfl) ?_
  refine ruL_c (n := 16) (n2 := 17) rfl (ru_iretX hx hb hK hr hlocks dL_foldedInto_16 ⟨hn1, Nat.mul_le_mul_left 6 hn1⟩) ?_
  exact trivial

-- helper changes
def hc_L_changes (e : Nat) : Option Int32 := if e = 1 then some 1 else none
def f_L_changes (p0 : Int32) (p1 : Int32) (σ : aM) : Option (Int32 × aM) := bnC (f_X5_changes p0 p1 σ) hc_L_changes (fun r σ1 => some (0, mput σ1 178 (ix 0) r))
def F_L_changes : aF := fun As σ => match As with
  | [.ref 0, .int p0, .int p1, .ref 178] => f_L_changes p0 p1 σ
  | _ => none
def T_L_changes : aTw := fun Qa KN => [I_aload 3 1, I_const 0 1, I_aload 0 1, I_iload 1 1, I_iload 2 1, I_callC 2 F_X5_changes hc_L_changes KN Qa, I_bot, I_bot, I_i2l, I_last, I_goto 17, I_bot, I_bot, I_bot, I_bot, I_bot, I_bot, I_const 0 1, I_iret Qa]
set_option maxHeartbeats 4000000 in
set_option maxRecDepth 100000 in
theorem s_L_changes : runsW T_L_changes 5 F_L_changes := by
  intro Qa K hw As σ y h hQ
  unfold F_L_changes at h
  split at h
  · rename_i p0 p1
    unfold f_L_changes at h
    show K 0 (0, [.ref 0, .int p0, .int p1, .ref 178, .null], [], σ)
    obtain ⟨e1, r1, σ1, q1, hc⟩ := bnC_some h
    refine hw 0 (by decide) 6 _ ?_
    show ∃ e1 r1 σ1, f_X5_changes p0 p1 σ = some (e1, r1, σ1) ∧ (e1 = 0 → K 1 (8, [.ref 0, .int p0, .int p1, .ref 178, .null], [.int r1, .int 0, .ref 178], σ1)) ∧ (¬ e1 = 0 → ∃ v, hc_L_changes e1 = some v ∧ Qa v σ1)
    refine ⟨e1, r1, σ1, q1, fun h0 => ?_, fun h0 => ?_⟩
    · rcases hc with ⟨-, h⟩ | ⟨h1, -⟩
      · obtain rfl := Option.some.inj h
        refine hw 1 (by decide) 5 _ ?_
        show kd 178 = 4 ∧ (inb 0 1 = true ∧ ∃ v : Int32, r1.toInt64 = v.toInt64 ∧ Qa 0 (mput σ1 178 (ix 0) v))
        exact ⟨rfl, by decide, r1, rfl, hQ⟩
      · exact absurd h0 h1
    · rcases hc with ⟨h1, -⟩ | ⟨-, v, hv, h⟩
      · exact absurd h1 h0
      · obtain rfl := h
        exact ⟨v, hv, hQ⟩
  · cases h
theorem h_L_changes : shp [] 5 F_L_changes := by
  intro As σ r σ' h
  unfold F_L_changes at h
  split at h
  · exact ⟨by simp [Value.category], Nat.le_of_ble_eq_true rfl⟩
  · cases h
set_option maxHeartbeats 4000000 in
set_option maxRecDepth 100000 in
theorem c_L_changes (l : Launch) (hl : l.stackTraces = false) (D : va_G) (cI cZ cA cL : ClassId) (ad sa : Nat → Nat) (hi : adI ad) : CtW l yL_changes wsL_changes { frames := 8, cells := 6, slots := 36, locals := 125 } 6 D cI cZ cA cL ad sa F_L_changes := by
  refine mk_W (mf := 3) F_L_changes T_L_changes (by decide +kernel) rfl ?_ h_L_changes s_L_changes
  intro p e s m args below meth c Qa ⟨⟨hx, hb, hml, hown, hts, hr, hlocks, hK, hN⟩, hX, hC, htab⟩ n hn
  have hn1 : n * 3 ≤ 2 * 3 := by omega
  have hn2 : n * 3 + 3 ≤ 2 * 3 := by omega
  have hn3 : 6 * (n * 3) + 6 * 3 ≤ 6 * (2 * 3) := by omega
  have hl1 : (Cond.classLink RL 21 (exn 1)) ∈ wsL_changes := by decide +kernel
  have hh : ∀ (e1 : Nat) (v : Int32), hc_L_changes e1 = some v → ∀ (H1 : Heap) (locs1 : List Loc) (ls : Array Slot) (L rest : List Value) (q9 : Addr) (ce : Cell) (σ1 : aM), lh ad ls 5 L → H1[q9]? = some ce → ce.vm = .none → s.vm.findClass (exn e1) = some ce.cls → va_P D vwCl (wl cI cZ cA cL ad σ1) H1 → va_S (AA ad s.heap.size) s.heap H1 locs1 → Qa v σ1 → vx_W p l e { frames := 8, cells := 2 * 3, slots := 6 * (2 * 3), locals := 125 } s m args below meth c H1 locs1 (n * 3 + 3) (6 * (n * 3) + 6 * 3) (vx_MQ below (va_Qi Qa (BB D cI cZ cA cL ad) (AA ad s.heap.size)) (XF ad s.heap.size) args s (2 * 3) (6 * (2 * 3)) (AA ad s.heap.size)) (F0 m 5 ls rest) q9 := by
    intro e1 v hv H1 locs1 ls L rest q9 ce σ1 hl9 hce hcv hcl hP hS hq
    unfold hc_L_changes at hv
    by_cases h0 : e1 = 1
    · subst h0
      rw [if_pos rfl] at hv
      obtain rfl := Option.some.inj hv
      exact hand_ok (own := RL) (hp := 13) (a1 := 15) (n := 1) [] { startPc := 0, endPc := 10, handlerPc := 13, catchType := 21 } [] hx hb hown hts hK hr hlocks hX.1 (by rw [htab]; rfl) (fun z hz => by cases hz) (by decide) (by decide) hl1 (by decide +kernel) rfl (ast_w hx hb dL_changes_13 (by decide)) dL_changes_15 rfl dL_changes_16 ⟨hn2, hn3⟩ hl9 hce hcv hcl hP hS hq
    · rw [if_neg h0] at hv
      cases hv
  refine ruL_c (n := 0) (n2 := 1) rfl (ru_aload_n (k := 3) hx hb dL_changes_0) ?_
  refine ruL_c (n := 1) (n2 := 2) rfl (ru_iconst hx hb dL_changes_1 rfl) ?_
  refine ruL_c (n := 2) (n2 := 3) rfl (ru_aload_n (k := 0) hx hb dL_changes_2) ?_
  refine ruL_c (n := 3) (n2 := 4) rfl (ru_iload_n (k := 1) hx hb dL_changes_3) ?_
  refine ruL_c (n := 4) (n2 := 5) rfl (ru_iload_n (k := 2) hx hb dL_changes_4) ?_
  refine ruL_c (n := 5) (n2 := 6) rfl (ru_callC (own := RL) hx hb hml hown hts hK hN hX (c_X5_changes l hl D cI cZ cA cL ad sa hi) (cwV 2 hts gL_changes_X5_changes rfl rfl rfl (by decide +kernel) ⟨Nat.le_of_ble_eq_true rfl, Nat.le_of_ble_eq_true rfl⟩) dL_changes_5 ⟨hn2, hn3⟩ hh) ?_
  refine ruL_c (n := 6) (n2 := 7) rfl (ru_bot) ?_
  refine ruL_c (n := 7) (n2 := 8) rfl (ru_bot) ?_
  refine ruL_c (n := 8) (n2 := 9) rfl (ru_i2l hx hb dL_changes_8) ?_
  refine ruL_c (n := 9) (n2 := 10) rfl (ru_last hx hb hK hi dL_changes_9) ?_
  refine ruL_c (n := 10) (n2 := 11) rfl (ru_goto hx hb dL_changes_10 (by decide)) ?_
  refine ruL_c (n := 11) (n2 := 12) rfl (ru_bot) ?_
  refine ruL_c (n := 12) (n2 := 13) rfl (ru_bot) ?_
  refine ruL_c (n := 13) (n2 := 14) rfl (ru_bot) ?_
  refine ruL_c (n := 14) (n2 := 15) rfl (ru_bot) ?_
  refine ruL_c (n := 15) (n2 := 16) rfl (ru_bot) ?_
  refine ruL_c (n := 16) (n2 := 17) rfl (ru_bot) ?_
  refine ruL_c (n := 17) (n2 := 18) rfl (ru_iconst hx hb dL_changes_17 rfl) ?_
  refine ruL_c (n := 18) (n2 := 19) rfl (ru_iretX hx hb hK hr hlocks dL_changes_18 ⟨hn1, Nat.mul_le_mul_left 6 hn1⟩) ?_
  exact trivial

-- helper levelAt
def hc_L_levelAt (e : Nat) : Option Int32 := if e = 1 then some 1 else if e = 2 then some 2 else none
def f_L_levelAt (p0 : Int32) (p1 : Int32) (σ : aM) : Option (Int32 × aM) := bnC (f_X5_levelAt p0 p1 σ) hc_L_levelAt (fun r σ1 => some (0, mput σ1 178 (ix 0) r))
def F_L_levelAt : aF := fun As σ => match As with
  | [.ref 0, .int p0, .int p1, .ref 178] => f_L_levelAt p0 p1 σ
  | _ => none
def T_L_levelAt : aTw := fun Qa KN => [I_aload 3 1, I_const 0 1, I_aload 0 1, I_iload 1 1, I_iload 2 1, I_callC 2 F_X5_levelAt hc_L_levelAt KN Qa, I_bot, I_bot, I_i2l, I_last, I_goto 21, I_bot, I_bot, I_bot, I_bot, I_bot, I_bot, I_bot, I_bot, I_bot, I_bot, I_const 0 1, I_iret Qa]
set_option maxHeartbeats 4000000 in
set_option maxRecDepth 100000 in
theorem s_L_levelAt : runsW T_L_levelAt 5 F_L_levelAt := by
  intro Qa K hw As σ y h hQ
  unfold F_L_levelAt at h
  split at h
  · rename_i p0 p1
    unfold f_L_levelAt at h
    show K 0 (0, [.ref 0, .int p0, .int p1, .ref 178, .null], [], σ)
    obtain ⟨e1, r1, σ1, q1, hc⟩ := bnC_some h
    refine hw 0 (by decide) 6 _ ?_
    show ∃ e1 r1 σ1, f_X5_levelAt p0 p1 σ = some (e1, r1, σ1) ∧ (e1 = 0 → K 1 (8, [.ref 0, .int p0, .int p1, .ref 178, .null], [.int r1, .int 0, .ref 178], σ1)) ∧ (¬ e1 = 0 → ∃ v, hc_L_levelAt e1 = some v ∧ Qa v σ1)
    refine ⟨e1, r1, σ1, q1, fun h0 => ?_, fun h0 => ?_⟩
    · rcases hc with ⟨-, h⟩ | ⟨h1, -⟩
      · obtain rfl := Option.some.inj h
        refine hw 1 (by decide) 5 _ ?_
        show kd 178 = 4 ∧ (inb 0 1 = true ∧ ∃ v : Int32, r1.toInt64 = v.toInt64 ∧ Qa 0 (mput σ1 178 (ix 0) v))
        exact ⟨rfl, by decide, r1, rfl, hQ⟩
      · exact absurd h0 h1
    · rcases hc with ⟨h1, -⟩ | ⟨-, v, hv, h⟩
      · exact absurd h1 h0
      · obtain rfl := h
        exact ⟨v, hv, hQ⟩
  · cases h
theorem h_L_levelAt : shp [] 5 F_L_levelAt := by
  intro As σ r σ' h
  unfold F_L_levelAt at h
  split at h
  · exact ⟨by simp [Value.category], Nat.le_of_ble_eq_true rfl⟩
  · cases h
set_option maxHeartbeats 4000000 in
set_option maxRecDepth 100000 in
theorem c_L_levelAt (l : Launch) (hl : l.stackTraces = false) (D : va_G) (cI cZ cA cL : ClassId) (ad sa : Nat → Nat) (hi : adI ad) : CtW l yL_levelAt wsL_levelAt { frames := 8, cells := 6, slots := 36, locals := 126 } 6 D cI cZ cA cL ad sa F_L_levelAt := by
  refine mk_W (mf := 3) F_L_levelAt T_L_levelAt (by decide +kernel) rfl ?_ h_L_levelAt s_L_levelAt
  intro p e s m args below meth c Qa ⟨⟨hx, hb, hml, hown, hts, hr, hlocks, hK, hN⟩, hX, hC, htab⟩ n hn
  have hn1 : n * 3 ≤ 2 * 3 := by omega
  have hn2 : n * 3 + 3 ≤ 2 * 3 := by omega
  have hn3 : 6 * (n * 3) + 6 * 3 ≤ 6 * (2 * 3) := by omega
  have hl1 : (Cond.classLink RL 21 (exn 1)) ∈ wsL_levelAt := by decide +kernel
  have hl2 : (Cond.classLink RL 13 (exn 2)) ∈ wsL_levelAt := by decide +kernel
  have hh : ∀ (e1 : Nat) (v : Int32), hc_L_levelAt e1 = some v → ∀ (H1 : Heap) (locs1 : List Loc) (ls : Array Slot) (L rest : List Value) (q9 : Addr) (ce : Cell) (σ1 : aM), lh ad ls 5 L → H1[q9]? = some ce → ce.vm = .none → s.vm.findClass (exn e1) = some ce.cls → va_P D vwCl (wl cI cZ cA cL ad σ1) H1 → va_S (AA ad s.heap.size) s.heap H1 locs1 → Qa v σ1 → vx_W p l e { frames := 8, cells := 2 * 3, slots := 6 * (2 * 3), locals := 126 } s m args below meth c H1 locs1 (n * 3 + 3) (6 * (n * 3) + 6 * 3) (vx_MQ below (va_Qi Qa (BB D cI cZ cA cL ad) (AA ad s.heap.size)) (XF ad s.heap.size) args s (2 * 3) (6 * (2 * 3)) (AA ad s.heap.size)) (F0 m 5 ls rest) q9 := by
    intro e1 v hv H1 locs1 ls L rest q9 ce σ1 hl9 hce hcv hcl hP hS hq
    unfold hc_L_levelAt at hv
    by_cases h0 : e1 = 1
    · subst h0
      rw [if_pos rfl] at hv
      obtain rfl := Option.some.inj hv
      exact hand_ok (own := RL) (hp := 13) (a1 := 15) (n := 1) [] { startPc := 0, endPc := 10, handlerPc := 13, catchType := 21 } [{ startPc := 0, endPc := 10, handlerPc := 17, catchType := 13 }] hx hb hown hts hK hr hlocks hX.1 (by rw [htab]; rfl) (fun z hz => by cases hz) (by decide) (by decide) hl1 (by decide +kernel) rfl (ast_w hx hb dL_levelAt_13 (by decide)) dL_levelAt_15 rfl dL_levelAt_16 ⟨hn2, hn3⟩ hl9 hce hcv hcl hP hS hq
    · rw [if_neg h0] at hv
      by_cases h1 : e1 = 2
      · subst h1
        rw [if_pos rfl] at hv
        obtain rfl := Option.some.inj hv
        exact hand_ok (own := RL) (hp := 17) (a1 := 19) (n := 2) [{ startPc := 0, endPc := 10, handlerPc := 13, catchType := 21 }] { startPc := 0, endPc := 10, handlerPc := 17, catchType := 13 } [] hx hb hown hts hK hr hlocks hX.1 (by rw [htab]; rfl) (fun z hz => by
            rcases List.mem_cons.mp hz with rfl | hz
            · exact ⟨by decide, exn 1, hl1, hC 2 (by decide) 1 (by decide) (by decide)⟩
            · cases hz) (by decide) (by decide) hl2 (by decide +kernel) rfl (ast_w hx hb dL_levelAt_17 (by decide)) dL_levelAt_19 rfl dL_levelAt_20 ⟨hn2, hn3⟩ hl9 hce hcv hcl hP hS hq
      · rw [if_neg h1] at hv
        cases hv
  refine ruL_c (n := 0) (n2 := 1) rfl (ru_aload_n (k := 3) hx hb dL_levelAt_0) ?_
  refine ruL_c (n := 1) (n2 := 2) rfl (ru_iconst hx hb dL_levelAt_1 rfl) ?_
  refine ruL_c (n := 2) (n2 := 3) rfl (ru_aload_n (k := 0) hx hb dL_levelAt_2) ?_
  refine ruL_c (n := 3) (n2 := 4) rfl (ru_iload_n (k := 1) hx hb dL_levelAt_3) ?_
  refine ruL_c (n := 4) (n2 := 5) rfl (ru_iload_n (k := 2) hx hb dL_levelAt_4) ?_
  refine ruL_c (n := 5) (n2 := 6) rfl (ru_callC (own := RL) hx hb hml hown hts hK hN hX (c_X5_levelAt l hl D cI cZ cA cL ad sa hi) (cwV 2 hts gL_levelAt_X5_levelAt rfl rfl rfl (by decide +kernel) ⟨Nat.le_of_ble_eq_true rfl, Nat.le_of_ble_eq_true rfl⟩) dL_levelAt_5 ⟨hn2, hn3⟩ hh) ?_
  refine ruL_c (n := 6) (n2 := 7) rfl (ru_bot) ?_
  refine ruL_c (n := 7) (n2 := 8) rfl (ru_bot) ?_
  refine ruL_c (n := 8) (n2 := 9) rfl (ru_i2l hx hb dL_levelAt_8) ?_
  refine ruL_c (n := 9) (n2 := 10) rfl (ru_last hx hb hK hi dL_levelAt_9) ?_
  refine ruL_c (n := 10) (n2 := 11) rfl (ru_goto hx hb dL_levelAt_10 (by decide)) ?_
  refine ruL_c (n := 11) (n2 := 12) rfl (ru_bot) ?_
  refine ruL_c (n := 12) (n2 := 13) rfl (ru_bot) ?_
  refine ruL_c (n := 13) (n2 := 14) rfl (ru_bot) ?_
  refine ruL_c (n := 14) (n2 := 15) rfl (ru_bot) ?_
  refine ruL_c (n := 15) (n2 := 16) rfl (ru_bot) ?_
  refine ruL_c (n := 16) (n2 := 17) rfl (ru_bot) ?_
  refine ruL_c (n := 17) (n2 := 18) rfl (ru_bot) ?_
  refine ruL_c (n := 18) (n2 := 19) rfl (ru_bot) ?_
  refine ruL_c (n := 19) (n2 := 20) rfl (ru_bot) ?_
  refine ruL_c (n := 20) (n2 := 21) rfl (ru_bot) ?_
  refine ruL_c (n := 21) (n2 := 22) rfl (ru_iconst hx hb dL_levelAt_21 rfl) ?_
  refine ruL_c (n := 22) (n2 := 23) rfl (ru_iretX hx hb hK hr hlocks dL_levelAt_22 ⟨hn1, Nat.mul_le_mul_left 6 hn1⟩) ?_
  exact trivial

-- helper levelBySeconds
def hc_L_levelBySeconds (e : Nat) : Option Int32 := if e = 1 then some 1 else if e = 2 then some 2 else none
def f_L_levelBySeconds (p0 : Int32) (p1 : Int32) (σ : aM) : Option (Int32 × aM) := bnC (f_X5_levelBySeconds p0 p1 σ) hc_L_levelBySeconds (fun r σ1 => some (0, mput σ1 178 (ix 0) r))
def F_L_levelBySeconds : aF := fun As σ => match As with
  | [.ref 0, .int p0, .int p1, .ref 178] => f_L_levelBySeconds p0 p1 σ
  | _ => none
def T_L_levelBySeconds : aTw := fun Qa KN => [I_aload 3 1, I_const 0 1, I_aload 0 1, I_iload 1 1, I_iload 2 1, I_callC 2 F_X5_levelBySeconds hc_L_levelBySeconds KN Qa, I_bot, I_bot, I_i2l, I_last, I_goto 21, I_bot, I_bot, I_bot, I_bot, I_bot, I_bot, I_bot, I_bot, I_bot, I_bot, I_const 0 1, I_iret Qa]
set_option maxHeartbeats 4000000 in
set_option maxRecDepth 100000 in
theorem s_L_levelBySeconds : runsW T_L_levelBySeconds 5 F_L_levelBySeconds := by
  intro Qa K hw As σ y h hQ
  unfold F_L_levelBySeconds at h
  split at h
  · rename_i p0 p1
    unfold f_L_levelBySeconds at h
    show K 0 (0, [.ref 0, .int p0, .int p1, .ref 178, .null], [], σ)
    obtain ⟨e1, r1, σ1, q1, hc⟩ := bnC_some h
    refine hw 0 (by decide) 6 _ ?_
    show ∃ e1 r1 σ1, f_X5_levelBySeconds p0 p1 σ = some (e1, r1, σ1) ∧ (e1 = 0 → K 1 (8, [.ref 0, .int p0, .int p1, .ref 178, .null], [.int r1, .int 0, .ref 178], σ1)) ∧ (¬ e1 = 0 → ∃ v, hc_L_levelBySeconds e1 = some v ∧ Qa v σ1)
    refine ⟨e1, r1, σ1, q1, fun h0 => ?_, fun h0 => ?_⟩
    · rcases hc with ⟨-, h⟩ | ⟨h1, -⟩
      · obtain rfl := Option.some.inj h
        refine hw 1 (by decide) 5 _ ?_
        show kd 178 = 4 ∧ (inb 0 1 = true ∧ ∃ v : Int32, r1.toInt64 = v.toInt64 ∧ Qa 0 (mput σ1 178 (ix 0) v))
        exact ⟨rfl, by decide, r1, rfl, hQ⟩
      · exact absurd h0 h1
    · rcases hc with ⟨h1, -⟩ | ⟨-, v, hv, h⟩
      · exact absurd h1 h0
      · obtain rfl := h
        exact ⟨v, hv, hQ⟩
  · cases h
theorem h_L_levelBySeconds : shp [] 5 F_L_levelBySeconds := by
  intro As σ r σ' h
  unfold F_L_levelBySeconds at h
  split at h
  · exact ⟨by simp [Value.category], Nat.le_of_ble_eq_true rfl⟩
  · cases h
set_option maxHeartbeats 4000000 in
set_option maxRecDepth 100000 in
theorem c_L_levelBySeconds (l : Launch) (hl : l.stackTraces = false) (D : va_G) (cI cZ cA cL : ClassId) (ad sa : Nat → Nat) (hi : adI ad) : CtW l yL_levelBySeconds wsL_levelBySeconds { frames := 8, cells := 6, slots := 36, locals := 126 } 6 D cI cZ cA cL ad sa F_L_levelBySeconds := by
  refine mk_W (mf := 3) F_L_levelBySeconds T_L_levelBySeconds (by decide +kernel) rfl ?_ h_L_levelBySeconds s_L_levelBySeconds
  intro p e s m args below meth c Qa ⟨⟨hx, hb, hml, hown, hts, hr, hlocks, hK, hN⟩, hX, hC, htab⟩ n hn
  have hn1 : n * 3 ≤ 2 * 3 := by omega
  have hn2 : n * 3 + 3 ≤ 2 * 3 := by omega
  have hn3 : 6 * (n * 3) + 6 * 3 ≤ 6 * (2 * 3) := by omega
  have hl1 : (Cond.classLink RL 21 (exn 1)) ∈ wsL_levelBySeconds := by decide +kernel
  have hl2 : (Cond.classLink RL 13 (exn 2)) ∈ wsL_levelBySeconds := by decide +kernel
  have hh : ∀ (e1 : Nat) (v : Int32), hc_L_levelBySeconds e1 = some v → ∀ (H1 : Heap) (locs1 : List Loc) (ls : Array Slot) (L rest : List Value) (q9 : Addr) (ce : Cell) (σ1 : aM), lh ad ls 5 L → H1[q9]? = some ce → ce.vm = .none → s.vm.findClass (exn e1) = some ce.cls → va_P D vwCl (wl cI cZ cA cL ad σ1) H1 → va_S (AA ad s.heap.size) s.heap H1 locs1 → Qa v σ1 → vx_W p l e { frames := 8, cells := 2 * 3, slots := 6 * (2 * 3), locals := 126 } s m args below meth c H1 locs1 (n * 3 + 3) (6 * (n * 3) + 6 * 3) (vx_MQ below (va_Qi Qa (BB D cI cZ cA cL ad) (AA ad s.heap.size)) (XF ad s.heap.size) args s (2 * 3) (6 * (2 * 3)) (AA ad s.heap.size)) (F0 m 5 ls rest) q9 := by
    intro e1 v hv H1 locs1 ls L rest q9 ce σ1 hl9 hce hcv hcl hP hS hq
    unfold hc_L_levelBySeconds at hv
    by_cases h0 : e1 = 1
    · subst h0
      rw [if_pos rfl] at hv
      obtain rfl := Option.some.inj hv
      exact hand_ok (own := RL) (hp := 13) (a1 := 15) (n := 1) [] { startPc := 0, endPc := 10, handlerPc := 13, catchType := 21 } [{ startPc := 0, endPc := 10, handlerPc := 17, catchType := 13 }] hx hb hown hts hK hr hlocks hX.1 (by rw [htab]; rfl) (fun z hz => by cases hz) (by decide) (by decide) hl1 (by decide +kernel) rfl (ast_w hx hb dL_levelBySeconds_13 (by decide)) dL_levelBySeconds_15 rfl dL_levelBySeconds_16 ⟨hn2, hn3⟩ hl9 hce hcv hcl hP hS hq
    · rw [if_neg h0] at hv
      by_cases h1 : e1 = 2
      · subst h1
        rw [if_pos rfl] at hv
        obtain rfl := Option.some.inj hv
        exact hand_ok (own := RL) (hp := 17) (a1 := 19) (n := 2) [{ startPc := 0, endPc := 10, handlerPc := 13, catchType := 21 }] { startPc := 0, endPc := 10, handlerPc := 17, catchType := 13 } [] hx hb hown hts hK hr hlocks hX.1 (by rw [htab]; rfl) (fun z hz => by
            rcases List.mem_cons.mp hz with rfl | hz
            · exact ⟨by decide, exn 1, hl1, hC 2 (by decide) 1 (by decide) (by decide)⟩
            · cases hz) (by decide) (by decide) hl2 (by decide +kernel) rfl (ast_w hx hb dL_levelBySeconds_17 (by decide)) dL_levelBySeconds_19 rfl dL_levelBySeconds_20 ⟨hn2, hn3⟩ hl9 hce hcv hcl hP hS hq
      · rw [if_neg h1] at hv
        cases hv
  refine ruL_c (n := 0) (n2 := 1) rfl (ru_aload_n (k := 3) hx hb dL_levelBySeconds_0) ?_
  refine ruL_c (n := 1) (n2 := 2) rfl (ru_iconst hx hb dL_levelBySeconds_1 rfl) ?_
  refine ruL_c (n := 2) (n2 := 3) rfl (ru_aload_n (k := 0) hx hb dL_levelBySeconds_2) ?_
  refine ruL_c (n := 3) (n2 := 4) rfl (ru_iload_n (k := 1) hx hb dL_levelBySeconds_3) ?_
  refine ruL_c (n := 4) (n2 := 5) rfl (ru_iload_n (k := 2) hx hb dL_levelBySeconds_4) ?_
  refine ruL_c (n := 5) (n2 := 6) rfl (ru_callC (own := RL) hx hb hml hown hts hK hN hX (c_X5_levelBySeconds l hl D cI cZ cA cL ad sa hi) (cwV 2 hts gL_levelBySeconds_X5_levelBySeconds rfl rfl rfl (by decide +kernel) ⟨Nat.le_of_ble_eq_true rfl, Nat.le_of_ble_eq_true rfl⟩) dL_levelBySeconds_5 ⟨hn2, hn3⟩ hh) ?_
  refine ruL_c (n := 6) (n2 := 7) rfl (ru_bot) ?_
  refine ruL_c (n := 7) (n2 := 8) rfl (ru_bot) ?_
  refine ruL_c (n := 8) (n2 := 9) rfl (ru_i2l hx hb dL_levelBySeconds_8) ?_
  refine ruL_c (n := 9) (n2 := 10) rfl (ru_last hx hb hK hi dL_levelBySeconds_9) ?_
  refine ruL_c (n := 10) (n2 := 11) rfl (ru_goto hx hb dL_levelBySeconds_10 (by decide)) ?_
  refine ruL_c (n := 11) (n2 := 12) rfl (ru_bot) ?_
  refine ruL_c (n := 12) (n2 := 13) rfl (ru_bot) ?_
  refine ruL_c (n := 13) (n2 := 14) rfl (ru_bot) ?_
  refine ruL_c (n := 14) (n2 := 15) rfl (ru_bot) ?_
  refine ruL_c (n := 15) (n2 := 16) rfl (ru_bot) ?_
  refine ruL_c (n := 16) (n2 := 17) rfl (ru_bot) ?_
  refine ruL_c (n := 17) (n2 := 18) rfl (ru_bot) ?_
  refine ruL_c (n := 18) (n2 := 19) rfl (ru_bot) ?_
  refine ruL_c (n := 19) (n2 := 20) rfl (ru_bot) ?_
  refine ruL_c (n := 20) (n2 := 21) rfl (ru_bot) ?_
  refine ruL_c (n := 21) (n2 := 22) rfl (ru_iconst hx hb dL_levelBySeconds_21 rfl) ?_
  refine ruL_c (n := 22) (n2 := 23) rfl (ru_iretX hx hb hK hr hlocks dL_levelBySeconds_22 ⟨hn1, Nat.mul_le_mul_left 6 hn1⟩) ?_
  exact trivial

-- helper addLamp
def hc_L_addLamp (e : Nat) : Option Int32 := if e = 1 then some 1 else if e = 2 then some 2 else if e = 3 then some 3 else none
def f_L_addLamp (p0 : Int32) (p1 : Int32) (p2 : Int32) (p3 : Int32) (σ : aM) : Option (Int32 × aM) := bnC (f_X5_addLamp p0 p1 p2 p3 σ) hc_L_addLamp (fun r σ1 => some (0, mput σ1 178 (ix 0) r))
def F_L_addLamp : aF := fun As σ => match As with
  | [.ref 0, .int p0, .int p1, .int p2, .int p3, .ref 178] => f_L_addLamp p0 p1 p2 p3 σ
  | _ => none
def T_L_addLamp : aTw := fun Qa KN => [I_aload 5 2, I_bot, I_const 0 1, I_aload 0 1, I_iload 1 1, I_iload 2 1, I_iload 3 1, I_iload 4 2, I_bot, I_callC 4 F_X5_addLamp hc_L_addLamp KN Qa, I_bot, I_bot, I_i2l, I_last, I_goto 29, I_bot, I_bot, I_bot, I_bot, I_bot, I_bot, I_bot, I_bot, I_bot, I_bot, I_bot, I_bot, I_bot, I_bot, I_const 0 1, I_iret Qa]
set_option maxHeartbeats 4000000 in
set_option maxRecDepth 100000 in
theorem s_L_addLamp : runsW T_L_addLamp 7 F_L_addLamp := by
  intro Qa K hw As σ y h hQ
  unfold F_L_addLamp at h
  split at h
  · rename_i p0 p1 p2 p3
    unfold f_L_addLamp at h
    show K 0 (0, [.ref 0, .int p0, .int p1, .int p2, .int p3, .ref 178, .null], [], σ)
    obtain ⟨e1, r1, σ1, q1, hc⟩ := bnC_some h
    refine hw 0 (by decide) 8 _ ?_
    show ∃ e1 r1 σ1, f_X5_addLamp p0 p1 p2 p3 σ = some (e1, r1, σ1) ∧ (e1 = 0 → K 1 (12, [.ref 0, .int p0, .int p1, .int p2, .int p3, .ref 178, .null], [.int r1, .int 0, .ref 178], σ1)) ∧ (¬ e1 = 0 → ∃ v, hc_L_addLamp e1 = some v ∧ Qa v σ1)
    refine ⟨e1, r1, σ1, q1, fun h0 => ?_, fun h0 => ?_⟩
    · rcases hc with ⟨-, h⟩ | ⟨h1, -⟩
      · obtain rfl := Option.some.inj h
        refine hw 1 (by decide) 5 _ ?_
        show kd 178 = 4 ∧ (inb 0 1 = true ∧ ∃ v : Int32, r1.toInt64 = v.toInt64 ∧ Qa 0 (mput σ1 178 (ix 0) v))
        exact ⟨rfl, by decide, r1, rfl, hQ⟩
      · exact absurd h0 h1
    · rcases hc with ⟨h1, -⟩ | ⟨-, v, hv, h⟩
      · exact absurd h1 h0
      · obtain rfl := h
        exact ⟨v, hv, hQ⟩
  · cases h
theorem h_L_addLamp : shp [] 7 F_L_addLamp := by
  intro As σ r σ' h
  unfold F_L_addLamp at h
  split at h
  · exact ⟨by simp [Value.category], Nat.le_of_ble_eq_true rfl⟩
  · cases h
set_option maxHeartbeats 4000000 in
set_option maxRecDepth 100000 in
theorem c_L_addLamp (l : Launch) (hl : l.stackTraces = false) (D : va_G) (cI cZ cA cL : ClassId) (ad sa : Nat → Nat) (hi : adI ad) : CtW l yL_addLamp wsL_addLamp { frames := 8, cells := 12, slots := 72, locals := 128 } 12 D cI cZ cA cL ad sa F_L_addLamp := by
  refine mk_W (mf := 6) F_L_addLamp T_L_addLamp (by decide +kernel) rfl ?_ h_L_addLamp s_L_addLamp
  intro p e s m args below meth c Qa ⟨⟨hx, hb, hml, hown, hts, hr, hlocks, hK, hN⟩, hX, hC, htab⟩ n hn
  have hn1 : n * 6 ≤ 2 * 6 := by omega
  have hn2 : n * 6 + 6 ≤ 2 * 6 := by omega
  have hn3 : 6 * (n * 6) + 6 * 6 ≤ 6 * (2 * 6) := by omega
  have hl1 : (Cond.classLink RL 21 (exn 1)) ∈ wsL_addLamp := by decide +kernel
  have hl2 : (Cond.classLink RL 13 (exn 2)) ∈ wsL_addLamp := by decide +kernel
  have hl3 : (Cond.classLink RL 15 (exn 3)) ∈ wsL_addLamp := by decide +kernel
  have hh : ∀ (e1 : Nat) (v : Int32), hc_L_addLamp e1 = some v → ∀ (H1 : Heap) (locs1 : List Loc) (ls : Array Slot) (L rest : List Value) (q9 : Addr) (ce : Cell) (σ1 : aM), lh ad ls 7 L → H1[q9]? = some ce → ce.vm = .none → s.vm.findClass (exn e1) = some ce.cls → va_P D vwCl (wl cI cZ cA cL ad σ1) H1 → va_S (AA ad s.heap.size) s.heap H1 locs1 → Qa v σ1 → vx_W p l e { frames := 8, cells := 2 * 6, slots := 6 * (2 * 6), locals := 128 } s m args below meth c H1 locs1 (n * 6 + 6) (6 * (n * 6) + 6 * 6) (vx_MQ below (va_Qi Qa (BB D cI cZ cA cL ad) (AA ad s.heap.size)) (XF ad s.heap.size) args s (2 * 6) (6 * (2 * 6)) (AA ad s.heap.size)) (F0 m 9 ls rest) q9 := by
    intro e1 v hv H1 locs1 ls L rest q9 ce σ1 hl9 hce hcv hcl hP hS hq
    unfold hc_L_addLamp at hv
    by_cases h0 : e1 = 1
    · subst h0
      rw [if_pos rfl] at hv
      obtain rfl := Option.some.inj hv
      exact hand_ok (own := RL) (hp := 17) (a1 := 19) (n := 1) [] { startPc := 0, endPc := 14, handlerPc := 17, catchType := 21 } [{ startPc := 0, endPc := 14, handlerPc := 21, catchType := 13 }, { startPc := 0, endPc := 14, handlerPc := 25, catchType := 15 }] hx hb hown hts hK hr hlocks hX.1 (by rw [htab]; rfl) (fun z hz => by cases hz) (by decide) (by decide) hl1 (by decide +kernel) rfl (ast_w hx hb dL_addLamp_17 (by decide)) dL_addLamp_19 rfl dL_addLamp_20 ⟨hn2, hn3⟩ hl9 hce hcv hcl hP hS hq
    · rw [if_neg h0] at hv
      by_cases h1 : e1 = 2
      · subst h1
        rw [if_pos rfl] at hv
        obtain rfl := Option.some.inj hv
        exact hand_ok (own := RL) (hp := 21) (a1 := 23) (n := 2) [{ startPc := 0, endPc := 14, handlerPc := 17, catchType := 21 }] { startPc := 0, endPc := 14, handlerPc := 21, catchType := 13 } [{ startPc := 0, endPc := 14, handlerPc := 25, catchType := 15 }] hx hb hown hts hK hr hlocks hX.1 (by rw [htab]; rfl) (fun z hz => by
            rcases List.mem_cons.mp hz with rfl | hz
            · exact ⟨by decide, exn 1, hl1, hC 2 (by decide) 1 (by decide) (by decide)⟩
            · cases hz) (by decide) (by decide) hl2 (by decide +kernel) rfl (ast_w hx hb dL_addLamp_21 (by decide)) dL_addLamp_23 rfl dL_addLamp_24 ⟨hn2, hn3⟩ hl9 hce hcv hcl hP hS hq
      · rw [if_neg h1] at hv
        by_cases h2 : e1 = 3
        · subst h2
          rw [if_pos rfl] at hv
          obtain rfl := Option.some.inj hv
          exact hand_ok (own := RL) (hp := 25) (a1 := 27) (n := 3) [{ startPc := 0, endPc := 14, handlerPc := 17, catchType := 21 }, { startPc := 0, endPc := 14, handlerPc := 21, catchType := 13 }] { startPc := 0, endPc := 14, handlerPc := 25, catchType := 15 } [] hx hb hown hts hK hr hlocks hX.1 (by rw [htab]; rfl) (fun z hz => by
              rcases List.mem_cons.mp hz with rfl | hz
              · exact ⟨by decide, exn 1, hl1, hC 3 (by decide) 1 (by decide) (by decide)⟩
              · rcases List.mem_cons.mp hz with rfl | hz
                · exact ⟨by decide, exn 2, hl2, hC 3 (by decide) 2 (by decide) (by decide)⟩
                · cases hz) (by decide) (by decide) hl3 (by decide +kernel) rfl (ast_w hx hb dL_addLamp_25 (by decide)) dL_addLamp_27 rfl dL_addLamp_28 ⟨hn2, hn3⟩ hl9 hce hcv hcl hP hS hq
        · rw [if_neg h2] at hv
          cases hv
  refine ruL_c (n := 0) (n2 := 1) rfl (ru_aload hx hb dL_addLamp_0) ?_
  refine ruL_c (n := 1) (n2 := 2) rfl (ru_bot) ?_
  refine ruL_c (n := 2) (n2 := 3) rfl (ru_iconst hx hb dL_addLamp_2 rfl) ?_
  refine ruL_c (n := 3) (n2 := 4) rfl (ru_aload_n (k := 0) hx hb dL_addLamp_3) ?_
  refine ruL_c (n := 4) (n2 := 5) rfl (ru_iload_n (k := 1) hx hb dL_addLamp_4) ?_
  refine ruL_c (n := 5) (n2 := 6) rfl (ru_iload_n (k := 2) hx hb dL_addLamp_5) ?_
  refine ruL_c (n := 6) (n2 := 7) rfl (ru_iload_n (k := 3) hx hb dL_addLamp_6) ?_
  refine ruL_c (n := 7) (n2 := 8) rfl (ru_iload hx hb dL_addLamp_7) ?_
  refine ruL_c (n := 8) (n2 := 9) rfl (ru_bot) ?_
  refine ruL_c (n := 9) (n2 := 10) rfl (ru_callC (own := RL) hx hb hml hown hts hK hN hX (c_X5_addLamp l hl D cI cZ cA cL ad sa hi) (cwV 4 hts gL_addLamp_X5_addLamp rfl rfl rfl (by decide +kernel) ⟨Nat.le_of_ble_eq_true rfl, Nat.le_of_ble_eq_true rfl⟩) dL_addLamp_9 ⟨hn2, hn3⟩ hh) ?_
  refine ruL_c (n := 10) (n2 := 11) rfl (ru_bot) ?_
  refine ruL_c (n := 11) (n2 := 12) rfl (ru_bot) ?_
  refine ruL_c (n := 12) (n2 := 13) rfl (ru_i2l hx hb dL_addLamp_12) ?_
  refine ruL_c (n := 13) (n2 := 14) rfl (ru_last hx hb hK hi dL_addLamp_13) ?_
  refine ruL_c (n := 14) (n2 := 15) rfl (ru_goto hx hb dL_addLamp_14 (by decide)) ?_
  refine ruL_c (n := 15) (n2 := 16) rfl (ru_bot) ?_
  refine ruL_c (n := 16) (n2 := 17) rfl (ru_bot) ?_
  refine ruL_c (n := 17) (n2 := 18) rfl (ru_bot) ?_
  refine ruL_c (n := 18) (n2 := 19) rfl (ru_bot) ?_
  refine ruL_c (n := 19) (n2 := 20) rfl (ru_bot) ?_
  refine ruL_c (n := 20) (n2 := 21) rfl (ru_bot) ?_
  refine ruL_c (n := 21) (n2 := 22) rfl (ru_bot) ?_
  refine ruL_c (n := 22) (n2 := 23) rfl (ru_bot) ?_
  refine ruL_c (n := 23) (n2 := 24) rfl (ru_bot) ?_
  refine ruL_c (n := 24) (n2 := 25) rfl (ru_bot) ?_
  refine ruL_c (n := 25) (n2 := 26) rfl (ru_bot) ?_
  refine ruL_c (n := 26) (n2 := 27) rfl (ru_bot) ?_
  refine ruL_c (n := 27) (n2 := 28) rfl (ru_bot) ?_
  refine ruL_c (n := 28) (n2 := 29) rfl (ru_bot) ?_
  refine ruL_c (n := 29) (n2 := 30) rfl (ru_iconst hx hb dL_addLamp_29 rfl) ?_
  refine ruL_c (n := 30) (n2 := 31) rfl (ru_iretX hx hb hK hr hlocks dL_addLamp_30 ⟨hn1, Nat.mul_le_mul_left 6 hn1⟩) ?_
  exact trivial

-- helper borrow
def hc_L_borrow (e : Nat) : Option Int32 := if e = 1 then some 1 else if e = 3 then some 2 else none
def f_L_borrow (p0 : Int32) (p1 : Int32) (p2 : Int32) (σ : aM) : Option (Int32 × aM) := bnC (f_X5_borrow p0 p1 p2 σ) hc_L_borrow (fun r σ1 => some (0, mput σ1 178 (ix 0) r))
def F_L_borrow : aF := fun As σ => match As with
  | [.ref 0, .int p0, .int p1, .int p2, .ref 178] => f_L_borrow p0 p1 p2 σ
  | _ => none
def T_L_borrow : aTw := fun Qa KN => [I_aload 4 2, I_bot, I_const 0 1, I_aload 0 1, I_iload 1 1, I_iload 2 1, I_iload 3 1, I_callC 3 F_X5_borrow hc_L_borrow KN Qa, I_bot, I_bot, I_i2l, I_last, I_goto 23, I_bot, I_bot, I_bot, I_bot, I_bot, I_bot, I_bot, I_bot, I_bot, I_bot, I_const 0 1, I_iret Qa]
set_option maxHeartbeats 4000000 in
set_option maxRecDepth 100000 in
theorem s_L_borrow : runsW T_L_borrow 6 F_L_borrow := by
  intro Qa K hw As σ y h hQ
  unfold F_L_borrow at h
  split at h
  · rename_i p0 p1 p2
    unfold f_L_borrow at h
    show K 0 (0, [.ref 0, .int p0, .int p1, .int p2, .ref 178, .null], [], σ)
    obtain ⟨e1, r1, σ1, q1, hc⟩ := bnC_some h
    refine hw 0 (by decide) 7 _ ?_
    show ∃ e1 r1 σ1, f_X5_borrow p0 p1 p2 σ = some (e1, r1, σ1) ∧ (e1 = 0 → K 1 (10, [.ref 0, .int p0, .int p1, .int p2, .ref 178, .null], [.int r1, .int 0, .ref 178], σ1)) ∧ (¬ e1 = 0 → ∃ v, hc_L_borrow e1 = some v ∧ Qa v σ1)
    refine ⟨e1, r1, σ1, q1, fun h0 => ?_, fun h0 => ?_⟩
    · rcases hc with ⟨-, h⟩ | ⟨h1, -⟩
      · obtain rfl := Option.some.inj h
        refine hw 1 (by decide) 5 _ ?_
        show kd 178 = 4 ∧ (inb 0 1 = true ∧ ∃ v : Int32, r1.toInt64 = v.toInt64 ∧ Qa 0 (mput σ1 178 (ix 0) v))
        exact ⟨rfl, by decide, r1, rfl, hQ⟩
      · exact absurd h0 h1
    · rcases hc with ⟨h1, -⟩ | ⟨-, v, hv, h⟩
      · exact absurd h1 h0
      · obtain rfl := h
        exact ⟨v, hv, hQ⟩
  · cases h
theorem h_L_borrow : shp [] 6 F_L_borrow := by
  intro As σ r σ' h
  unfold F_L_borrow at h
  split at h
  · exact ⟨by simp [Value.category], Nat.le_of_ble_eq_true rfl⟩
  · cases h
set_option maxHeartbeats 4000000 in
set_option maxRecDepth 100000 in
theorem c_L_borrow (l : Launch) (hl : l.stackTraces = false) (D : va_G) (cI cZ cA cL : ClassId) (ad sa : Nat → Nat) (hi : adI ad) : CtW l yL_borrow wsL_borrow { frames := 8, cells := 10, slots := 60, locals := 126 } 10 D cI cZ cA cL ad sa F_L_borrow := by
  refine mk_W (mf := 5) F_L_borrow T_L_borrow (by decide +kernel) rfl ?_ h_L_borrow s_L_borrow
  intro p e s m args below meth c Qa ⟨⟨hx, hb, hml, hown, hts, hr, hlocks, hK, hN⟩, hX, hC, htab⟩ n hn
  have hn1 : n * 5 ≤ 2 * 5 := by omega
  have hn2 : n * 5 + 5 ≤ 2 * 5 := by omega
  have hn3 : 6 * (n * 5) + 6 * 5 ≤ 6 * (2 * 5) := by omega
  have hl1 : (Cond.classLink RL 21 (exn 1)) ∈ wsL_borrow := by decide +kernel
  have hl2 : (Cond.classLink RL 15 (exn 3)) ∈ wsL_borrow := by decide +kernel
  have hh : ∀ (e1 : Nat) (v : Int32), hc_L_borrow e1 = some v → ∀ (H1 : Heap) (locs1 : List Loc) (ls : Array Slot) (L rest : List Value) (q9 : Addr) (ce : Cell) (σ1 : aM), lh ad ls 6 L → H1[q9]? = some ce → ce.vm = .none → s.vm.findClass (exn e1) = some ce.cls → va_P D vwCl (wl cI cZ cA cL ad σ1) H1 → va_S (AA ad s.heap.size) s.heap H1 locs1 → Qa v σ1 → vx_W p l e { frames := 8, cells := 2 * 5, slots := 6 * (2 * 5), locals := 126 } s m args below meth c H1 locs1 (n * 5 + 5) (6 * (n * 5) + 6 * 5) (vx_MQ below (va_Qi Qa (BB D cI cZ cA cL ad) (AA ad s.heap.size)) (XF ad s.heap.size) args s (2 * 5) (6 * (2 * 5)) (AA ad s.heap.size)) (F0 m 7 ls rest) q9 := by
    intro e1 v hv H1 locs1 ls L rest q9 ce σ1 hl9 hce hcv hcl hP hS hq
    unfold hc_L_borrow at hv
    by_cases h0 : e1 = 1
    · subst h0
      rw [if_pos rfl] at hv
      obtain rfl := Option.some.inj hv
      exact hand_ok (own := RL) (hp := 15) (a1 := 17) (n := 1) [] { startPc := 0, endPc := 12, handlerPc := 15, catchType := 21 } [{ startPc := 0, endPc := 12, handlerPc := 19, catchType := 15 }] hx hb hown hts hK hr hlocks hX.1 (by rw [htab]; rfl) (fun z hz => by cases hz) (by decide) (by decide) hl1 (by decide +kernel) rfl (ast_w hx hb dL_borrow_15 (by decide)) dL_borrow_17 rfl dL_borrow_18 ⟨hn2, hn3⟩ hl9 hce hcv hcl hP hS hq
    · rw [if_neg h0] at hv
      by_cases h1 : e1 = 3
      · subst h1
        rw [if_pos rfl] at hv
        obtain rfl := Option.some.inj hv
        exact hand_ok (own := RL) (hp := 19) (a1 := 21) (n := 2) [{ startPc := 0, endPc := 12, handlerPc := 15, catchType := 21 }] { startPc := 0, endPc := 12, handlerPc := 19, catchType := 15 } [] hx hb hown hts hK hr hlocks hX.1 (by rw [htab]; rfl) (fun z hz => by
            rcases List.mem_cons.mp hz with rfl | hz
            · exact ⟨by decide, exn 1, hl1, hC 3 (by decide) 1 (by decide) (by decide)⟩
            · cases hz) (by decide) (by decide) hl2 (by decide +kernel) rfl (ast_w hx hb dL_borrow_19 (by decide)) dL_borrow_21 rfl dL_borrow_22 ⟨hn2, hn3⟩ hl9 hce hcv hcl hP hS hq
      · rw [if_neg h1] at hv
        cases hv
  refine ruL_c (n := 0) (n2 := 1) rfl (ru_aload hx hb dL_borrow_0) ?_
  refine ruL_c (n := 1) (n2 := 2) rfl (ru_bot) ?_
  refine ruL_c (n := 2) (n2 := 3) rfl (ru_iconst hx hb dL_borrow_2 rfl) ?_
  refine ruL_c (n := 3) (n2 := 4) rfl (ru_aload_n (k := 0) hx hb dL_borrow_3) ?_
  refine ruL_c (n := 4) (n2 := 5) rfl (ru_iload_n (k := 1) hx hb dL_borrow_4) ?_
  refine ruL_c (n := 5) (n2 := 6) rfl (ru_iload_n (k := 2) hx hb dL_borrow_5) ?_
  refine ruL_c (n := 6) (n2 := 7) rfl (ru_iload_n (k := 3) hx hb dL_borrow_6) ?_
  refine ruL_c (n := 7) (n2 := 8) rfl (ru_callC (own := RL) hx hb hml hown hts hK hN hX (c_X5_borrow l hl D cI cZ cA cL ad sa hi) (cwV 3 hts gL_borrow_X5_borrow rfl rfl rfl (by decide +kernel) ⟨Nat.le_of_ble_eq_true rfl, Nat.le_of_ble_eq_true rfl⟩) dL_borrow_7 ⟨hn2, hn3⟩ hh) ?_
  refine ruL_c (n := 8) (n2 := 9) rfl (ru_bot) ?_
  refine ruL_c (n := 9) (n2 := 10) rfl (ru_bot) ?_
  refine ruL_c (n := 10) (n2 := 11) rfl (ru_i2l hx hb dL_borrow_10) ?_
  refine ruL_c (n := 11) (n2 := 12) rfl (ru_last hx hb hK hi dL_borrow_11) ?_
  refine ruL_c (n := 12) (n2 := 13) rfl (ru_goto hx hb dL_borrow_12 (by decide)) ?_
  refine ruL_c (n := 13) (n2 := 14) rfl (ru_bot) ?_
  refine ruL_c (n := 14) (n2 := 15) rfl (ru_bot) ?_
  refine ruL_c (n := 15) (n2 := 16) rfl (ru_bot) ?_
  refine ruL_c (n := 16) (n2 := 17) rfl (ru_bot) ?_
  refine ruL_c (n := 17) (n2 := 18) rfl (ru_bot) ?_
  refine ruL_c (n := 18) (n2 := 19) rfl (ru_bot) ?_
  refine ruL_c (n := 19) (n2 := 20) rfl (ru_bot) ?_
  refine ruL_c (n := 20) (n2 := 21) rfl (ru_bot) ?_
  refine ruL_c (n := 21) (n2 := 22) rfl (ru_bot) ?_
  refine ruL_c (n := 22) (n2 := 23) rfl (ru_bot) ?_
  refine ruL_c (n := 23) (n2 := 24) rfl (ru_iconst hx hb dL_borrow_23 rfl) ?_
  refine ruL_c (n := 24) (n2 := 25) rfl (ru_iretX hx hb hK hr hlocks dL_borrow_24 ⟨hn1, Nat.mul_le_mul_left 6 hn1⟩) ?_
  exact trivial

-- helper bringBack
def hc_L_bringBack (e : Nat) : Option Int32 := if e = 1 then some 1 else if e = 3 then some 2 else none
def f_L_bringBack (p0 : Int32) (σ : aM) : Option (Int32 × aM) := bnC (f_X5_bringBack p0 σ) hc_L_bringBack (fun r σ1 => some (0, mput σ1 178 (ix 0) r))
def F_L_bringBack : aF := fun As σ => match As with
  | [.ref 0, .int p0, .ref 178] => f_L_bringBack p0 σ
  | _ => none
def T_L_bringBack : aTw := fun Qa KN => [I_aload 2 1, I_const 0 1, I_aload 0 1, I_iload 1 1, I_callC 1 F_X5_bringBack hc_L_bringBack KN Qa, I_bot, I_bot, I_i2l, I_last, I_goto 18, I_bot, I_bot, I_bot, I_bot, I_bot, I_bot, I_bot, I_bot, I_const 0 1, I_iret Qa]
set_option maxHeartbeats 4000000 in
set_option maxRecDepth 100000 in
theorem s_L_bringBack : runsW T_L_bringBack 4 F_L_bringBack := by
  intro Qa K hw As σ y h hQ
  unfold F_L_bringBack at h
  split at h
  · rename_i p0
    unfold f_L_bringBack at h
    show K 0 (0, [.ref 0, .int p0, .ref 178, .null], [], σ)
    obtain ⟨e1, r1, σ1, q1, hc⟩ := bnC_some h
    refine hw 0 (by decide) 5 _ ?_
    show ∃ e1 r1 σ1, f_X5_bringBack p0 σ = some (e1, r1, σ1) ∧ (e1 = 0 → K 1 (7, [.ref 0, .int p0, .ref 178, .null], [.int r1, .int 0, .ref 178], σ1)) ∧ (¬ e1 = 0 → ∃ v, hc_L_bringBack e1 = some v ∧ Qa v σ1)
    refine ⟨e1, r1, σ1, q1, fun h0 => ?_, fun h0 => ?_⟩
    · rcases hc with ⟨-, h⟩ | ⟨h1, -⟩
      · obtain rfl := Option.some.inj h
        refine hw 1 (by decide) 5 _ ?_
        show kd 178 = 4 ∧ (inb 0 1 = true ∧ ∃ v : Int32, r1.toInt64 = v.toInt64 ∧ Qa 0 (mput σ1 178 (ix 0) v))
        exact ⟨rfl, by decide, r1, rfl, hQ⟩
      · exact absurd h0 h1
    · rcases hc with ⟨h1, -⟩ | ⟨-, v, hv, h⟩
      · exact absurd h1 h0
      · obtain rfl := h
        exact ⟨v, hv, hQ⟩
  · cases h
theorem h_L_bringBack : shp [] 4 F_L_bringBack := by
  intro As σ r σ' h
  unfold F_L_bringBack at h
  split at h
  · exact ⟨by simp [Value.category], Nat.le_of_ble_eq_true rfl⟩
  · cases h
set_option maxHeartbeats 4000000 in
set_option maxRecDepth 100000 in
theorem c_L_bringBack (l : Launch) (hl : l.stackTraces = false) (D : va_G) (cI cZ cA cL : ClassId) (ad sa : Nat → Nat) (hi : adI ad) : CtW l yL_bringBack wsL_bringBack { frames := 8, cells := 6, slots := 36, locals := 125 } 6 D cI cZ cA cL ad sa F_L_bringBack := by
  refine mk_W (mf := 3) F_L_bringBack T_L_bringBack (by decide +kernel) rfl ?_ h_L_bringBack s_L_bringBack
  intro p e s m args below meth c Qa ⟨⟨hx, hb, hml, hown, hts, hr, hlocks, hK, hN⟩, hX, hC, htab⟩ n hn
  have hn1 : n * 3 ≤ 2 * 3 := by omega
  have hn2 : n * 3 + 3 ≤ 2 * 3 := by omega
  have hn3 : 6 * (n * 3) + 6 * 3 ≤ 6 * (2 * 3) := by omega
  have hl1 : (Cond.classLink RL 21 (exn 1)) ∈ wsL_bringBack := by decide +kernel
  have hl2 : (Cond.classLink RL 15 (exn 3)) ∈ wsL_bringBack := by decide +kernel
  have hh : ∀ (e1 : Nat) (v : Int32), hc_L_bringBack e1 = some v → ∀ (H1 : Heap) (locs1 : List Loc) (ls : Array Slot) (L rest : List Value) (q9 : Addr) (ce : Cell) (σ1 : aM), lh ad ls 4 L → H1[q9]? = some ce → ce.vm = .none → s.vm.findClass (exn e1) = some ce.cls → va_P D vwCl (wl cI cZ cA cL ad σ1) H1 → va_S (AA ad s.heap.size) s.heap H1 locs1 → Qa v σ1 → vx_W p l e { frames := 8, cells := 2 * 3, slots := 6 * (2 * 3), locals := 125 } s m args below meth c H1 locs1 (n * 3 + 3) (6 * (n * 3) + 6 * 3) (vx_MQ below (va_Qi Qa (BB D cI cZ cA cL ad) (AA ad s.heap.size)) (XF ad s.heap.size) args s (2 * 3) (6 * (2 * 3)) (AA ad s.heap.size)) (F0 m 4 ls rest) q9 := by
    intro e1 v hv H1 locs1 ls L rest q9 ce σ1 hl9 hce hcv hcl hP hS hq
    unfold hc_L_bringBack at hv
    by_cases h0 : e1 = 1
    · subst h0
      rw [if_pos rfl] at hv
      obtain rfl := Option.some.inj hv
      exact hand_ok (own := RL) (hp := 12) (a1 := 13) (n := 1) [] { startPc := 0, endPc := 9, handlerPc := 12, catchType := 21 } [{ startPc := 0, endPc := 9, handlerPc := 15, catchType := 15 }] hx hb hown hts hK hr hlocks hX.1 (by rw [htab]; rfl) (fun z hz => by cases hz) (by decide) (by decide) hl1 (by decide +kernel) rfl (ast_n (k := 3) hx hb dL_bringBack_12 (by decide)) dL_bringBack_13 rfl dL_bringBack_14 ⟨hn2, hn3⟩ hl9 hce hcv hcl hP hS hq
    · rw [if_neg h0] at hv
      by_cases h1 : e1 = 3
      · subst h1
        rw [if_pos rfl] at hv
        obtain rfl := Option.some.inj hv
        exact hand_ok (own := RL) (hp := 15) (a1 := 16) (n := 2) [{ startPc := 0, endPc := 9, handlerPc := 12, catchType := 21 }] { startPc := 0, endPc := 9, handlerPc := 15, catchType := 15 } [] hx hb hown hts hK hr hlocks hX.1 (by rw [htab]; rfl) (fun z hz => by
            rcases List.mem_cons.mp hz with rfl | hz
            · exact ⟨by decide, exn 1, hl1, hC 3 (by decide) 1 (by decide) (by decide)⟩
            · cases hz) (by decide) (by decide) hl2 (by decide +kernel) rfl (ast_n (k := 3) hx hb dL_bringBack_15 (by decide)) dL_bringBack_16 rfl dL_bringBack_17 ⟨hn2, hn3⟩ hl9 hce hcv hcl hP hS hq
      · rw [if_neg h1] at hv
        cases hv
  refine ruL_c (n := 0) (n2 := 1) rfl (ru_aload_n (k := 2) hx hb dL_bringBack_0) ?_
  refine ruL_c (n := 1) (n2 := 2) rfl (ru_iconst hx hb dL_bringBack_1 rfl) ?_
  refine ruL_c (n := 2) (n2 := 3) rfl (ru_aload_n (k := 0) hx hb dL_bringBack_2) ?_
  refine ruL_c (n := 3) (n2 := 4) rfl (ru_iload_n (k := 1) hx hb dL_bringBack_3) ?_
  refine ruL_c (n := 4) (n2 := 5) rfl (ru_callC (own := RL) hx hb hml hown hts hK hN hX (c_X5_bringBack l hl D cI cZ cA cL ad sa hi) (cwV 1 hts gL_bringBack_X5_bringBack rfl rfl rfl (by decide +kernel) ⟨Nat.le_of_ble_eq_true rfl, Nat.le_of_ble_eq_true rfl⟩) dL_bringBack_4 ⟨hn2, hn3⟩ hh) ?_
  refine ruL_c (n := 5) (n2 := 6) rfl (ru_bot) ?_
  refine ruL_c (n := 6) (n2 := 7) rfl (ru_bot) ?_
  refine ruL_c (n := 7) (n2 := 8) rfl (ru_i2l hx hb dL_bringBack_7) ?_
  refine ruL_c (n := 8) (n2 := 9) rfl (ru_last hx hb hK hi dL_bringBack_8) ?_
  refine ruL_c (n := 9) (n2 := 10) rfl (ru_goto hx hb dL_bringBack_9 (by decide)) ?_
  refine ruL_c (n := 10) (n2 := 11) rfl (ru_bot) ?_
  refine ruL_c (n := 11) (n2 := 12) rfl (ru_bot) ?_
  refine ruL_c (n := 12) (n2 := 13) rfl (ru_bot) ?_
  refine ruL_c (n := 13) (n2 := 14) rfl (ru_bot) ?_
  refine ruL_c (n := 14) (n2 := 15) rfl (ru_bot) ?_
  refine ruL_c (n := 15) (n2 := 16) rfl (ru_bot) ?_
  refine ruL_c (n := 16) (n2 := 17) rfl (ru_bot) ?_
  refine ruL_c (n := 17) (n2 := 18) rfl (ru_bot) ?_
  refine ruL_c (n := 18) (n2 := 19) rfl (ru_iconst hx hb dL_bringBack_18 rfl) ?_
  refine ruL_c (n := 19) (n2 := 20) rfl (ru_iretX hx hb hK hr hlocks dL_bringBack_19 ⟨hn1, Nat.mul_le_mul_left 6 hn1⟩) ?_
  exact trivial

-- helper replace
def hc_L_replace (e : Nat) : Option Int32 := if e = 1 then some 1 else none
def f_L_replace (p0 : Int32) (σ : aM) : Option (Int32 × aM) := bnC (f_X5_replace p0 σ) hc_L_replace (fun r σ1 => some (0, mput σ1 178 (ix 0) r))
def F_L_replace : aF := fun As σ => match As with
  | [.ref 0, .int p0, .ref 178] => f_L_replace p0 σ
  | _ => none
def T_L_replace : aTw := fun Qa KN => [I_aload 2 1, I_const 0 1, I_aload 0 1, I_iload 1 1, I_callC 1 F_X5_replace hc_L_replace KN Qa, I_bot, I_bot, I_i2l, I_last, I_goto 15, I_bot, I_bot, I_bot, I_bot, I_bot, I_const 0 1, I_iret Qa]
set_option maxHeartbeats 4000000 in
set_option maxRecDepth 100000 in
theorem s_L_replace : runsW T_L_replace 4 F_L_replace := by
  intro Qa K hw As σ y h hQ
  unfold F_L_replace at h
  split at h
  · rename_i p0
    unfold f_L_replace at h
    show K 0 (0, [.ref 0, .int p0, .ref 178, .null], [], σ)
    obtain ⟨e1, r1, σ1, q1, hc⟩ := bnC_some h
    refine hw 0 (by decide) 5 _ ?_
    show ∃ e1 r1 σ1, f_X5_replace p0 σ = some (e1, r1, σ1) ∧ (e1 = 0 → K 1 (7, [.ref 0, .int p0, .ref 178, .null], [.int r1, .int 0, .ref 178], σ1)) ∧ (¬ e1 = 0 → ∃ v, hc_L_replace e1 = some v ∧ Qa v σ1)
    refine ⟨e1, r1, σ1, q1, fun h0 => ?_, fun h0 => ?_⟩
    · rcases hc with ⟨-, h⟩ | ⟨h1, -⟩
      · obtain rfl := Option.some.inj h
        refine hw 1 (by decide) 5 _ ?_
        show kd 178 = 4 ∧ (inb 0 1 = true ∧ ∃ v : Int32, r1.toInt64 = v.toInt64 ∧ Qa 0 (mput σ1 178 (ix 0) v))
        exact ⟨rfl, by decide, r1, rfl, hQ⟩
      · exact absurd h0 h1
    · rcases hc with ⟨h1, -⟩ | ⟨-, v, hv, h⟩
      · exact absurd h1 h0
      · obtain rfl := h
        exact ⟨v, hv, hQ⟩
  · cases h
theorem h_L_replace : shp [] 4 F_L_replace := by
  intro As σ r σ' h
  unfold F_L_replace at h
  split at h
  · exact ⟨by simp [Value.category], Nat.le_of_ble_eq_true rfl⟩
  · cases h
set_option maxHeartbeats 4000000 in
set_option maxRecDepth 100000 in
theorem c_L_replace (l : Launch) (hl : l.stackTraces = false) (D : va_G) (cI cZ cA cL : ClassId) (ad sa : Nat → Nat) (hi : adI ad) : CtW l yL_replace wsL_replace { frames := 8, cells := 4, slots := 24, locals := 125 } 4 D cI cZ cA cL ad sa F_L_replace := by
  refine mk_W (mf := 2) F_L_replace T_L_replace (by decide +kernel) rfl ?_ h_L_replace s_L_replace
  intro p e s m args below meth c Qa ⟨⟨hx, hb, hml, hown, hts, hr, hlocks, hK, hN⟩, hX, hC, htab⟩ n hn
  have hn1 : n * 2 ≤ 2 * 2 := by omega
  have hn2 : n * 2 + 2 ≤ 2 * 2 := by omega
  have hn3 : 6 * (n * 2) + 6 * 2 ≤ 6 * (2 * 2) := by omega
  have hl1 : (Cond.classLink RL 21 (exn 1)) ∈ wsL_replace := by decide +kernel
  have hh : ∀ (e1 : Nat) (v : Int32), hc_L_replace e1 = some v → ∀ (H1 : Heap) (locs1 : List Loc) (ls : Array Slot) (L rest : List Value) (q9 : Addr) (ce : Cell) (σ1 : aM), lh ad ls 4 L → H1[q9]? = some ce → ce.vm = .none → s.vm.findClass (exn e1) = some ce.cls → va_P D vwCl (wl cI cZ cA cL ad σ1) H1 → va_S (AA ad s.heap.size) s.heap H1 locs1 → Qa v σ1 → vx_W p l e { frames := 8, cells := 2 * 2, slots := 6 * (2 * 2), locals := 125 } s m args below meth c H1 locs1 (n * 2 + 2) (6 * (n * 2) + 6 * 2) (vx_MQ below (va_Qi Qa (BB D cI cZ cA cL ad) (AA ad s.heap.size)) (XF ad s.heap.size) args s (2 * 2) (6 * (2 * 2)) (AA ad s.heap.size)) (F0 m 4 ls rest) q9 := by
    intro e1 v hv H1 locs1 ls L rest q9 ce σ1 hl9 hce hcv hcl hP hS hq
    unfold hc_L_replace at hv
    by_cases h0 : e1 = 1
    · subst h0
      rw [if_pos rfl] at hv
      obtain rfl := Option.some.inj hv
      exact hand_ok (own := RL) (hp := 12) (a1 := 13) (n := 1) [] { startPc := 0, endPc := 9, handlerPc := 12, catchType := 21 } [] hx hb hown hts hK hr hlocks hX.1 (by rw [htab]; rfl) (fun z hz => by cases hz) (by decide) (by decide) hl1 (by decide +kernel) rfl (ast_n (k := 3) hx hb dL_replace_12 (by decide)) dL_replace_13 rfl dL_replace_14 ⟨hn2, hn3⟩ hl9 hce hcv hcl hP hS hq
    · rw [if_neg h0] at hv
      cases hv
  refine ruL_c (n := 0) (n2 := 1) rfl (ru_aload_n (k := 2) hx hb dL_replace_0) ?_
  refine ruL_c (n := 1) (n2 := 2) rfl (ru_iconst hx hb dL_replace_1 rfl) ?_
  refine ruL_c (n := 2) (n2 := 3) rfl (ru_aload_n (k := 0) hx hb dL_replace_2) ?_
  refine ruL_c (n := 3) (n2 := 4) rfl (ru_iload_n (k := 1) hx hb dL_replace_3) ?_
  refine ruL_c (n := 4) (n2 := 5) rfl (ru_callC (own := RL) hx hb hml hown hts hK hN hX (c_X5_replace l hl D cI cZ cA cL ad sa hi) (cwV 1 hts gL_replace_X5_replace rfl rfl rfl (by decide +kernel) ⟨Nat.le_of_ble_eq_true rfl, Nat.le_of_ble_eq_true rfl⟩) dL_replace_4 ⟨hn2, hn3⟩ hh) ?_
  refine ruL_c (n := 5) (n2 := 6) rfl (ru_bot) ?_
  refine ruL_c (n := 6) (n2 := 7) rfl (ru_bot) ?_
  refine ruL_c (n := 7) (n2 := 8) rfl (ru_i2l hx hb dL_replace_7) ?_
  refine ruL_c (n := 8) (n2 := 9) rfl (ru_last hx hb hK hi dL_replace_8) ?_
  refine ruL_c (n := 9) (n2 := 10) rfl (ru_goto hx hb dL_replace_9 (by decide)) ?_
  refine ruL_c (n := 10) (n2 := 11) rfl (ru_bot) ?_
  refine ruL_c (n := 11) (n2 := 12) rfl (ru_bot) ?_
  refine ruL_c (n := 12) (n2 := 13) rfl (ru_bot) ?_
  refine ruL_c (n := 13) (n2 := 14) rfl (ru_bot) ?_
  refine ruL_c (n := 14) (n2 := 15) rfl (ru_bot) ?_
  refine ruL_c (n := 15) (n2 := 16) rfl (ru_iconst hx hb dL_replace_15 rfl) ?_
  refine ruL_c (n := 16) (n2 := 17) rfl (ru_iretX hx hb hK hr hlocks dL_replace_16 ⟨hn1, Nat.mul_le_mul_left 6 hn1⟩) ?_
  exact trivial

-- helper whereIs
def hc_L_whereIs (e : Nat) : Option Int32 := if e = 1 then some 1 else none
def f_L_whereIs (p0 : Int32) (σ : aM) : Option (Int32 × aM) := bnC (f_X5_whereIs p0 σ) hc_L_whereIs (fun r σ1 => some (0, mput σ1 178 (ix 0) r))
def F_L_whereIs : aF := fun As σ => match As with
  | [.ref 0, .int p0, .ref 178] => f_L_whereIs p0 σ
  | _ => none
def T_L_whereIs : aTw := fun Qa KN => [I_aload 2 1, I_const 0 1, I_aload 0 1, I_iload 1 1, I_callC 1 F_X5_whereIs hc_L_whereIs KN Qa, I_bot, I_bot, I_i2l, I_last, I_goto 15, I_bot, I_bot, I_bot, I_bot, I_bot, I_const 0 1, I_iret Qa]
set_option maxHeartbeats 4000000 in
set_option maxRecDepth 100000 in
theorem s_L_whereIs : runsW T_L_whereIs 4 F_L_whereIs := by
  intro Qa K hw As σ y h hQ
  unfold F_L_whereIs at h
  split at h
  · rename_i p0
    unfold f_L_whereIs at h
    show K 0 (0, [.ref 0, .int p0, .ref 178, .null], [], σ)
    obtain ⟨e1, r1, σ1, q1, hc⟩ := bnC_some h
    refine hw 0 (by decide) 5 _ ?_
    show ∃ e1 r1 σ1, f_X5_whereIs p0 σ = some (e1, r1, σ1) ∧ (e1 = 0 → K 1 (7, [.ref 0, .int p0, .ref 178, .null], [.int r1, .int 0, .ref 178], σ1)) ∧ (¬ e1 = 0 → ∃ v, hc_L_whereIs e1 = some v ∧ Qa v σ1)
    refine ⟨e1, r1, σ1, q1, fun h0 => ?_, fun h0 => ?_⟩
    · rcases hc with ⟨-, h⟩ | ⟨h1, -⟩
      · obtain rfl := Option.some.inj h
        refine hw 1 (by decide) 5 _ ?_
        show kd 178 = 4 ∧ (inb 0 1 = true ∧ ∃ v : Int32, r1.toInt64 = v.toInt64 ∧ Qa 0 (mput σ1 178 (ix 0) v))
        exact ⟨rfl, by decide, r1, rfl, hQ⟩
      · exact absurd h0 h1
    · rcases hc with ⟨h1, -⟩ | ⟨-, v, hv, h⟩
      · exact absurd h1 h0
      · obtain rfl := h
        exact ⟨v, hv, hQ⟩
  · cases h
theorem h_L_whereIs : shp [] 4 F_L_whereIs := by
  intro As σ r σ' h
  unfold F_L_whereIs at h
  split at h
  · exact ⟨by simp [Value.category], Nat.le_of_ble_eq_true rfl⟩
  · cases h
set_option maxHeartbeats 4000000 in
set_option maxRecDepth 100000 in
theorem c_L_whereIs (l : Launch) (hl : l.stackTraces = false) (D : va_G) (cI cZ cA cL : ClassId) (ad sa : Nat → Nat) (hi : adI ad) : CtW l yL_whereIs wsL_whereIs { frames := 8, cells := 4, slots := 24, locals := 124 } 4 D cI cZ cA cL ad sa F_L_whereIs := by
  refine mk_W (mf := 2) F_L_whereIs T_L_whereIs (by decide +kernel) rfl ?_ h_L_whereIs s_L_whereIs
  intro p e s m args below meth c Qa ⟨⟨hx, hb, hml, hown, hts, hr, hlocks, hK, hN⟩, hX, hC, htab⟩ n hn
  have hn1 : n * 2 ≤ 2 * 2 := by omega
  have hn2 : n * 2 + 2 ≤ 2 * 2 := by omega
  have hn3 : 6 * (n * 2) + 6 * 2 ≤ 6 * (2 * 2) := by omega
  have hl1 : (Cond.classLink RL 21 (exn 1)) ∈ wsL_whereIs := by decide +kernel
  have hh : ∀ (e1 : Nat) (v : Int32), hc_L_whereIs e1 = some v → ∀ (H1 : Heap) (locs1 : List Loc) (ls : Array Slot) (L rest : List Value) (q9 : Addr) (ce : Cell) (σ1 : aM), lh ad ls 4 L → H1[q9]? = some ce → ce.vm = .none → s.vm.findClass (exn e1) = some ce.cls → va_P D vwCl (wl cI cZ cA cL ad σ1) H1 → va_S (AA ad s.heap.size) s.heap H1 locs1 → Qa v σ1 → vx_W p l e { frames := 8, cells := 2 * 2, slots := 6 * (2 * 2), locals := 124 } s m args below meth c H1 locs1 (n * 2 + 2) (6 * (n * 2) + 6 * 2) (vx_MQ below (va_Qi Qa (BB D cI cZ cA cL ad) (AA ad s.heap.size)) (XF ad s.heap.size) args s (2 * 2) (6 * (2 * 2)) (AA ad s.heap.size)) (F0 m 4 ls rest) q9 := by
    intro e1 v hv H1 locs1 ls L rest q9 ce σ1 hl9 hce hcv hcl hP hS hq
    unfold hc_L_whereIs at hv
    by_cases h0 : e1 = 1
    · subst h0
      rw [if_pos rfl] at hv
      obtain rfl := Option.some.inj hv
      exact hand_ok (own := RL) (hp := 12) (a1 := 13) (n := 1) [] { startPc := 0, endPc := 9, handlerPc := 12, catchType := 21 } [] hx hb hown hts hK hr hlocks hX.1 (by rw [htab]; rfl) (fun z hz => by cases hz) (by decide) (by decide) hl1 (by decide +kernel) rfl (ast_n (k := 3) hx hb dL_whereIs_12 (by decide)) dL_whereIs_13 rfl dL_whereIs_14 ⟨hn2, hn3⟩ hl9 hce hcv hcl hP hS hq
    · rw [if_neg h0] at hv
      cases hv
  refine ruL_c (n := 0) (n2 := 1) rfl (ru_aload_n (k := 2) hx hb dL_whereIs_0) ?_
  refine ruL_c (n := 1) (n2 := 2) rfl (ru_iconst hx hb dL_whereIs_1 rfl) ?_
  refine ruL_c (n := 2) (n2 := 3) rfl (ru_aload_n (k := 0) hx hb dL_whereIs_2) ?_
  refine ruL_c (n := 3) (n2 := 4) rfl (ru_iload_n (k := 1) hx hb dL_whereIs_3) ?_
  refine ruL_c (n := 4) (n2 := 5) rfl (ru_callC (own := RL) hx hb hml hown hts hK hN hX (c_X5_whereIs l hl D cI cZ cA cL ad sa hi) (cwV 1 hts gL_whereIs_X5_whereIs rfl rfl rfl (by decide +kernel) ⟨Nat.le_of_ble_eq_true rfl, Nat.le_of_ble_eq_true rfl⟩) dL_whereIs_4 ⟨hn2, hn3⟩ hh) ?_
  refine ruL_c (n := 5) (n2 := 6) rfl (ru_bot) ?_
  refine ruL_c (n := 6) (n2 := 7) rfl (ru_bot) ?_
  refine ruL_c (n := 7) (n2 := 8) rfl (ru_i2l hx hb dL_whereIs_7) ?_
  refine ruL_c (n := 8) (n2 := 9) rfl (ru_last hx hb hK hi dL_whereIs_8) ?_
  refine ruL_c (n := 9) (n2 := 10) rfl (ru_goto hx hb dL_whereIs_9 (by decide)) ?_
  refine ruL_c (n := 10) (n2 := 11) rfl (ru_bot) ?_
  refine ruL_c (n := 11) (n2 := 12) rfl (ru_bot) ?_
  refine ruL_c (n := 12) (n2 := 13) rfl (ru_bot) ?_
  refine ruL_c (n := 13) (n2 := 14) rfl (ru_bot) ?_
  refine ruL_c (n := 14) (n2 := 15) rfl (ru_bot) ?_
  refine ruL_c (n := 15) (n2 := 16) rfl (ru_iconst hx hb dL_whereIs_15 rfl) ?_
  refine ruL_c (n := 16) (n2 := 17) rfl (ru_iretX hx hb hK hr hlocks dL_whereIs_16 ⟨hn1, Nat.mul_le_mul_left 6 hn1⟩) ?_
  exact trivial

-- helper wear
def hc_L_wear (e : Nat) : Option Int32 := if e = 1 then some 1 else none
def f_L_wear (p0 : Int32) (σ : aM) : Option (Int32 × aM) := bnC (f_X5_wear p0 σ) hc_L_wear (fun r σ1 => some (0, mput σ1 178 (ix 0) r))
def F_L_wear : aF := fun As σ => match As with
  | [.ref 0, .int p0, .ref 178] => f_L_wear p0 σ
  | _ => none
def T_L_wear : aTw := fun Qa KN => [I_aload 2 1, I_const 0 1, I_aload 0 1, I_iload 1 1, I_callC 1 F_X5_wear hc_L_wear KN Qa, I_bot, I_bot, I_i2l, I_last, I_goto 15, I_bot, I_bot, I_bot, I_bot, I_bot, I_const 0 1, I_iret Qa]
set_option maxHeartbeats 4000000 in
set_option maxRecDepth 100000 in
theorem s_L_wear : runsW T_L_wear 4 F_L_wear := by
  intro Qa K hw As σ y h hQ
  unfold F_L_wear at h
  split at h
  · rename_i p0
    unfold f_L_wear at h
    show K 0 (0, [.ref 0, .int p0, .ref 178, .null], [], σ)
    obtain ⟨e1, r1, σ1, q1, hc⟩ := bnC_some h
    refine hw 0 (by decide) 5 _ ?_
    show ∃ e1 r1 σ1, f_X5_wear p0 σ = some (e1, r1, σ1) ∧ (e1 = 0 → K 1 (7, [.ref 0, .int p0, .ref 178, .null], [.int r1, .int 0, .ref 178], σ1)) ∧ (¬ e1 = 0 → ∃ v, hc_L_wear e1 = some v ∧ Qa v σ1)
    refine ⟨e1, r1, σ1, q1, fun h0 => ?_, fun h0 => ?_⟩
    · rcases hc with ⟨-, h⟩ | ⟨h1, -⟩
      · obtain rfl := Option.some.inj h
        refine hw 1 (by decide) 5 _ ?_
        show kd 178 = 4 ∧ (inb 0 1 = true ∧ ∃ v : Int32, r1.toInt64 = v.toInt64 ∧ Qa 0 (mput σ1 178 (ix 0) v))
        exact ⟨rfl, by decide, r1, rfl, hQ⟩
      · exact absurd h0 h1
    · rcases hc with ⟨h1, -⟩ | ⟨-, v, hv, h⟩
      · exact absurd h1 h0
      · obtain rfl := h
        exact ⟨v, hv, hQ⟩
  · cases h
theorem h_L_wear : shp [] 4 F_L_wear := by
  intro As σ r σ' h
  unfold F_L_wear at h
  split at h
  · exact ⟨by simp [Value.category], Nat.le_of_ble_eq_true rfl⟩
  · cases h
set_option maxHeartbeats 4000000 in
set_option maxRecDepth 100000 in
theorem c_L_wear (l : Launch) (hl : l.stackTraces = false) (D : va_G) (cI cZ cA cL : ClassId) (ad sa : Nat → Nat) (hi : adI ad) : CtW l yL_wear wsL_wear { frames := 8, cells := 4, slots := 24, locals := 124 } 4 D cI cZ cA cL ad sa F_L_wear := by
  refine mk_W (mf := 2) F_L_wear T_L_wear (by decide +kernel) rfl ?_ h_L_wear s_L_wear
  intro p e s m args below meth c Qa ⟨⟨hx, hb, hml, hown, hts, hr, hlocks, hK, hN⟩, hX, hC, htab⟩ n hn
  have hn1 : n * 2 ≤ 2 * 2 := by omega
  have hn2 : n * 2 + 2 ≤ 2 * 2 := by omega
  have hn3 : 6 * (n * 2) + 6 * 2 ≤ 6 * (2 * 2) := by omega
  have hl1 : (Cond.classLink RL 21 (exn 1)) ∈ wsL_wear := by decide +kernel
  have hh : ∀ (e1 : Nat) (v : Int32), hc_L_wear e1 = some v → ∀ (H1 : Heap) (locs1 : List Loc) (ls : Array Slot) (L rest : List Value) (q9 : Addr) (ce : Cell) (σ1 : aM), lh ad ls 4 L → H1[q9]? = some ce → ce.vm = .none → s.vm.findClass (exn e1) = some ce.cls → va_P D vwCl (wl cI cZ cA cL ad σ1) H1 → va_S (AA ad s.heap.size) s.heap H1 locs1 → Qa v σ1 → vx_W p l e { frames := 8, cells := 2 * 2, slots := 6 * (2 * 2), locals := 124 } s m args below meth c H1 locs1 (n * 2 + 2) (6 * (n * 2) + 6 * 2) (vx_MQ below (va_Qi Qa (BB D cI cZ cA cL ad) (AA ad s.heap.size)) (XF ad s.heap.size) args s (2 * 2) (6 * (2 * 2)) (AA ad s.heap.size)) (F0 m 4 ls rest) q9 := by
    intro e1 v hv H1 locs1 ls L rest q9 ce σ1 hl9 hce hcv hcl hP hS hq
    unfold hc_L_wear at hv
    by_cases h0 : e1 = 1
    · subst h0
      rw [if_pos rfl] at hv
      obtain rfl := Option.some.inj hv
      exact hand_ok (own := RL) (hp := 12) (a1 := 13) (n := 1) [] { startPc := 0, endPc := 9, handlerPc := 12, catchType := 21 } [] hx hb hown hts hK hr hlocks hX.1 (by rw [htab]; rfl) (fun z hz => by cases hz) (by decide) (by decide) hl1 (by decide +kernel) rfl (ast_n (k := 3) hx hb dL_wear_12 (by decide)) dL_wear_13 rfl dL_wear_14 ⟨hn2, hn3⟩ hl9 hce hcv hcl hP hS hq
    · rw [if_neg h0] at hv
      cases hv
  refine ruL_c (n := 0) (n2 := 1) rfl (ru_aload_n (k := 2) hx hb dL_wear_0) ?_
  refine ruL_c (n := 1) (n2 := 2) rfl (ru_iconst hx hb dL_wear_1 rfl) ?_
  refine ruL_c (n := 2) (n2 := 3) rfl (ru_aload_n (k := 0) hx hb dL_wear_2) ?_
  refine ruL_c (n := 3) (n2 := 4) rfl (ru_iload_n (k := 1) hx hb dL_wear_3) ?_
  refine ruL_c (n := 4) (n2 := 5) rfl (ru_callC (own := RL) hx hb hml hown hts hK hN hX (c_X5_wear l hl D cI cZ cA cL ad sa hi) (cwV 1 hts gL_wear_X5_wear rfl rfl rfl (by decide +kernel) ⟨Nat.le_of_ble_eq_true rfl, Nat.le_of_ble_eq_true rfl⟩) dL_wear_4 ⟨hn2, hn3⟩ hh) ?_
  refine ruL_c (n := 5) (n2 := 6) rfl (ru_bot) ?_
  refine ruL_c (n := 6) (n2 := 7) rfl (ru_bot) ?_
  refine ruL_c (n := 7) (n2 := 8) rfl (ru_i2l hx hb dL_wear_7) ?_
  refine ruL_c (n := 8) (n2 := 9) rfl (ru_last hx hb hK hi dL_wear_8) ?_
  refine ruL_c (n := 9) (n2 := 10) rfl (ru_goto hx hb dL_wear_9 (by decide)) ?_
  refine ruL_c (n := 10) (n2 := 11) rfl (ru_bot) ?_
  refine ruL_c (n := 11) (n2 := 12) rfl (ru_bot) ?_
  refine ruL_c (n := 12) (n2 := 13) rfl (ru_bot) ?_
  refine ruL_c (n := 13) (n2 := 14) rfl (ru_bot) ?_
  refine ruL_c (n := 14) (n2 := 15) rfl (ru_bot) ?_
  refine ruL_c (n := 15) (n2 := 16) rfl (ru_iconst hx hb dL_wear_15 rfl) ?_
  refine ruL_c (n := 16) (n2 := 17) rfl (ru_iretX hx hb hK hr hlocks dL_wear_16 ⟨hn1, Nat.mul_le_mul_left 6 hn1⟩) ?_
  exact trivial

-- helper laidOn
def hc_L_laidOn (e : Nat) : Option Int32 := if e = 1 then some 1 else none
def f_L_laidOn (p0 : Int32) (p1 : Int32) (σ : aM) : Option (Int32 × aM) := bnC (f_X5_laidOn p0 p1 σ) hc_L_laidOn (fun r σ1 => some (0, mput σ1 178 (ix 0) r))
def F_L_laidOn : aF := fun As σ => match As with
  | [.ref 0, .int p0, .int p1, .ref 178] => f_L_laidOn p0 p1 σ
  | _ => none
def T_L_laidOn : aTw := fun Qa KN => [I_aload 3 1, I_const 0 1, I_aload 0 1, I_iload 1 1, I_iload 2 1, I_callC 2 F_X5_laidOn hc_L_laidOn KN Qa, I_bot, I_bot, I_i2l, I_last, I_goto 17, I_bot, I_bot, I_bot, I_bot, I_bot, I_bot, I_const 0 1, I_iret Qa]
set_option maxHeartbeats 4000000 in
set_option maxRecDepth 100000 in
theorem s_L_laidOn : runsW T_L_laidOn 5 F_L_laidOn := by
  intro Qa K hw As σ y h hQ
  unfold F_L_laidOn at h
  split at h
  · rename_i p0 p1
    unfold f_L_laidOn at h
    show K 0 (0, [.ref 0, .int p0, .int p1, .ref 178, .null], [], σ)
    obtain ⟨e1, r1, σ1, q1, hc⟩ := bnC_some h
    refine hw 0 (by decide) 6 _ ?_
    show ∃ e1 r1 σ1, f_X5_laidOn p0 p1 σ = some (e1, r1, σ1) ∧ (e1 = 0 → K 1 (8, [.ref 0, .int p0, .int p1, .ref 178, .null], [.int r1, .int 0, .ref 178], σ1)) ∧ (¬ e1 = 0 → ∃ v, hc_L_laidOn e1 = some v ∧ Qa v σ1)
    refine ⟨e1, r1, σ1, q1, fun h0 => ?_, fun h0 => ?_⟩
    · rcases hc with ⟨-, h⟩ | ⟨h1, -⟩
      · obtain rfl := Option.some.inj h
        refine hw 1 (by decide) 5 _ ?_
        show kd 178 = 4 ∧ (inb 0 1 = true ∧ ∃ v : Int32, r1.toInt64 = v.toInt64 ∧ Qa 0 (mput σ1 178 (ix 0) v))
        exact ⟨rfl, by decide, r1, rfl, hQ⟩
      · exact absurd h0 h1
    · rcases hc with ⟨h1, -⟩ | ⟨-, v, hv, h⟩
      · exact absurd h1 h0
      · obtain rfl := h
        exact ⟨v, hv, hQ⟩
  · cases h
theorem h_L_laidOn : shp [] 5 F_L_laidOn := by
  intro As σ r σ' h
  unfold F_L_laidOn at h
  split at h
  · exact ⟨by simp [Value.category], Nat.le_of_ble_eq_true rfl⟩
  · cases h
set_option maxHeartbeats 4000000 in
set_option maxRecDepth 100000 in
theorem c_L_laidOn (l : Launch) (hl : l.stackTraces = false) (D : va_G) (cI cZ cA cL : ClassId) (ad sa : Nat → Nat) (hi : adI ad) : CtW l yL_laidOn wsL_laidOn { frames := 8, cells := 6, slots := 36, locals := 125 } 6 D cI cZ cA cL ad sa F_L_laidOn := by
  refine mk_W (mf := 3) F_L_laidOn T_L_laidOn (by decide +kernel) rfl ?_ h_L_laidOn s_L_laidOn
  intro p e s m args below meth c Qa ⟨⟨hx, hb, hml, hown, hts, hr, hlocks, hK, hN⟩, hX, hC, htab⟩ n hn
  have hn1 : n * 3 ≤ 2 * 3 := by omega
  have hn2 : n * 3 + 3 ≤ 2 * 3 := by omega
  have hn3 : 6 * (n * 3) + 6 * 3 ≤ 6 * (2 * 3) := by omega
  have hl1 : (Cond.classLink RL 21 (exn 1)) ∈ wsL_laidOn := by decide +kernel
  have hh : ∀ (e1 : Nat) (v : Int32), hc_L_laidOn e1 = some v → ∀ (H1 : Heap) (locs1 : List Loc) (ls : Array Slot) (L rest : List Value) (q9 : Addr) (ce : Cell) (σ1 : aM), lh ad ls 5 L → H1[q9]? = some ce → ce.vm = .none → s.vm.findClass (exn e1) = some ce.cls → va_P D vwCl (wl cI cZ cA cL ad σ1) H1 → va_S (AA ad s.heap.size) s.heap H1 locs1 → Qa v σ1 → vx_W p l e { frames := 8, cells := 2 * 3, slots := 6 * (2 * 3), locals := 125 } s m args below meth c H1 locs1 (n * 3 + 3) (6 * (n * 3) + 6 * 3) (vx_MQ below (va_Qi Qa (BB D cI cZ cA cL ad) (AA ad s.heap.size)) (XF ad s.heap.size) args s (2 * 3) (6 * (2 * 3)) (AA ad s.heap.size)) (F0 m 5 ls rest) q9 := by
    intro e1 v hv H1 locs1 ls L rest q9 ce σ1 hl9 hce hcv hcl hP hS hq
    unfold hc_L_laidOn at hv
    by_cases h0 : e1 = 1
    · subst h0
      rw [if_pos rfl] at hv
      obtain rfl := Option.some.inj hv
      exact hand_ok (own := RL) (hp := 13) (a1 := 15) (n := 1) [] { startPc := 0, endPc := 10, handlerPc := 13, catchType := 21 } [] hx hb hown hts hK hr hlocks hX.1 (by rw [htab]; rfl) (fun z hz => by cases hz) (by decide) (by decide) hl1 (by decide +kernel) rfl (ast_w hx hb dL_laidOn_13 (by decide)) dL_laidOn_15 rfl dL_laidOn_16 ⟨hn2, hn3⟩ hl9 hce hcv hcl hP hS hq
    · rw [if_neg h0] at hv
      cases hv
  refine ruL_c (n := 0) (n2 := 1) rfl (ru_aload_n (k := 3) hx hb dL_laidOn_0) ?_
  refine ruL_c (n := 1) (n2 := 2) rfl (ru_iconst hx hb dL_laidOn_1 rfl) ?_
  refine ruL_c (n := 2) (n2 := 3) rfl (ru_aload_n (k := 0) hx hb dL_laidOn_2) ?_
  refine ruL_c (n := 3) (n2 := 4) rfl (ru_iload_n (k := 1) hx hb dL_laidOn_3) ?_
  refine ruL_c (n := 4) (n2 := 5) rfl (ru_iload_n (k := 2) hx hb dL_laidOn_4) ?_
  refine ruL_c (n := 5) (n2 := 6) rfl (ru_callC (own := RL) hx hb hml hown hts hK hN hX (c_X5_laidOn l hl D cI cZ cA cL ad sa hi) (cwV 2 hts gL_laidOn_X5_laidOn rfl rfl rfl (by decide +kernel) ⟨Nat.le_of_ble_eq_true rfl, Nat.le_of_ble_eq_true rfl⟩) dL_laidOn_5 ⟨hn2, hn3⟩ hh) ?_
  refine ruL_c (n := 6) (n2 := 7) rfl (ru_bot) ?_
  refine ruL_c (n := 7) (n2 := 8) rfl (ru_bot) ?_
  refine ruL_c (n := 8) (n2 := 9) rfl (ru_i2l hx hb dL_laidOn_8) ?_
  refine ruL_c (n := 9) (n2 := 10) rfl (ru_last hx hb hK hi dL_laidOn_9) ?_
  refine ruL_c (n := 10) (n2 := 11) rfl (ru_goto hx hb dL_laidOn_10 (by decide)) ?_
  refine ruL_c (n := 11) (n2 := 12) rfl (ru_bot) ?_
  refine ruL_c (n := 12) (n2 := 13) rfl (ru_bot) ?_
  refine ruL_c (n := 13) (n2 := 14) rfl (ru_bot) ?_
  refine ruL_c (n := 14) (n2 := 15) rfl (ru_bot) ?_
  refine ruL_c (n := 15) (n2 := 16) rfl (ru_bot) ?_
  refine ruL_c (n := 16) (n2 := 17) rfl (ru_bot) ?_
  refine ruL_c (n := 17) (n2 := 18) rfl (ru_iconst hx hb dL_laidOn_17 rfl) ?_
  refine ruL_c (n := 18) (n2 := 19) rfl (ru_iretX hx hb hK hr hlocks dL_laidOn_18 ⟨hn1, Nat.mul_le_mul_left 6 hn1⟩) ?_
  exact trivial

-- helper lampLevel
def hc_L_lampLevel (e : Nat) : Option Int32 := if e = 1 then some 1 else if e = 2 then some 2 else none
def f_L_lampLevel (p0 : Int32) (p1 : Int32) (σ : aM) : Option (Int32 × aM) := bnC (f_X5_lampLevel p0 p1 σ) hc_L_lampLevel (fun r σ1 => some (0, mput σ1 178 (ix 0) r))
def F_L_lampLevel : aF := fun As σ => match As with
  | [.ref 0, .int p0, .int p1, .ref 178] => f_L_lampLevel p0 p1 σ
  | _ => none
def T_L_lampLevel : aTw := fun Qa KN => [I_aload 3 1, I_const 0 1, I_aload 0 1, I_iload 1 1, I_iload 2 1, I_callC 2 F_X5_lampLevel hc_L_lampLevel KN Qa, I_bot, I_bot, I_i2l, I_last, I_goto 21, I_bot, I_bot, I_bot, I_bot, I_bot, I_bot, I_bot, I_bot, I_bot, I_bot, I_const 0 1, I_iret Qa]
set_option maxHeartbeats 4000000 in
set_option maxRecDepth 100000 in
theorem s_L_lampLevel : runsW T_L_lampLevel 5 F_L_lampLevel := by
  intro Qa K hw As σ y h hQ
  unfold F_L_lampLevel at h
  split at h
  · rename_i p0 p1
    unfold f_L_lampLevel at h
    show K 0 (0, [.ref 0, .int p0, .int p1, .ref 178, .null], [], σ)
    obtain ⟨e1, r1, σ1, q1, hc⟩ := bnC_some h
    refine hw 0 (by decide) 6 _ ?_
    show ∃ e1 r1 σ1, f_X5_lampLevel p0 p1 σ = some (e1, r1, σ1) ∧ (e1 = 0 → K 1 (8, [.ref 0, .int p0, .int p1, .ref 178, .null], [.int r1, .int 0, .ref 178], σ1)) ∧ (¬ e1 = 0 → ∃ v, hc_L_lampLevel e1 = some v ∧ Qa v σ1)
    refine ⟨e1, r1, σ1, q1, fun h0 => ?_, fun h0 => ?_⟩
    · rcases hc with ⟨-, h⟩ | ⟨h1, -⟩
      · obtain rfl := Option.some.inj h
        refine hw 1 (by decide) 5 _ ?_
        show kd 178 = 4 ∧ (inb 0 1 = true ∧ ∃ v : Int32, r1.toInt64 = v.toInt64 ∧ Qa 0 (mput σ1 178 (ix 0) v))
        exact ⟨rfl, by decide, r1, rfl, hQ⟩
      · exact absurd h0 h1
    · rcases hc with ⟨h1, -⟩ | ⟨-, v, hv, h⟩
      · exact absurd h1 h0
      · obtain rfl := h
        exact ⟨v, hv, hQ⟩
  · cases h
theorem h_L_lampLevel : shp [] 5 F_L_lampLevel := by
  intro As σ r σ' h
  unfold F_L_lampLevel at h
  split at h
  · exact ⟨by simp [Value.category], Nat.le_of_ble_eq_true rfl⟩
  · cases h
set_option maxHeartbeats 4000000 in
set_option maxRecDepth 100000 in
theorem c_L_lampLevel (l : Launch) (hl : l.stackTraces = false) (D : va_G) (cI cZ cA cL : ClassId) (ad sa : Nat → Nat) (hi : adI ad) : CtW l yL_lampLevel wsL_lampLevel { frames := 8, cells := 6, slots := 36, locals := 126 } 6 D cI cZ cA cL ad sa F_L_lampLevel := by
  refine mk_W (mf := 3) F_L_lampLevel T_L_lampLevel (by decide +kernel) rfl ?_ h_L_lampLevel s_L_lampLevel
  intro p e s m args below meth c Qa ⟨⟨hx, hb, hml, hown, hts, hr, hlocks, hK, hN⟩, hX, hC, htab⟩ n hn
  have hn1 : n * 3 ≤ 2 * 3 := by omega
  have hn2 : n * 3 + 3 ≤ 2 * 3 := by omega
  have hn3 : 6 * (n * 3) + 6 * 3 ≤ 6 * (2 * 3) := by omega
  have hl1 : (Cond.classLink RL 21 (exn 1)) ∈ wsL_lampLevel := by decide +kernel
  have hl2 : (Cond.classLink RL 13 (exn 2)) ∈ wsL_lampLevel := by decide +kernel
  have hh : ∀ (e1 : Nat) (v : Int32), hc_L_lampLevel e1 = some v → ∀ (H1 : Heap) (locs1 : List Loc) (ls : Array Slot) (L rest : List Value) (q9 : Addr) (ce : Cell) (σ1 : aM), lh ad ls 5 L → H1[q9]? = some ce → ce.vm = .none → s.vm.findClass (exn e1) = some ce.cls → va_P D vwCl (wl cI cZ cA cL ad σ1) H1 → va_S (AA ad s.heap.size) s.heap H1 locs1 → Qa v σ1 → vx_W p l e { frames := 8, cells := 2 * 3, slots := 6 * (2 * 3), locals := 126 } s m args below meth c H1 locs1 (n * 3 + 3) (6 * (n * 3) + 6 * 3) (vx_MQ below (va_Qi Qa (BB D cI cZ cA cL ad) (AA ad s.heap.size)) (XF ad s.heap.size) args s (2 * 3) (6 * (2 * 3)) (AA ad s.heap.size)) (F0 m 5 ls rest) q9 := by
    intro e1 v hv H1 locs1 ls L rest q9 ce σ1 hl9 hce hcv hcl hP hS hq
    unfold hc_L_lampLevel at hv
    by_cases h0 : e1 = 1
    · subst h0
      rw [if_pos rfl] at hv
      obtain rfl := Option.some.inj hv
      exact hand_ok (own := RL) (hp := 13) (a1 := 15) (n := 1) [] { startPc := 0, endPc := 10, handlerPc := 13, catchType := 21 } [{ startPc := 0, endPc := 10, handlerPc := 17, catchType := 13 }] hx hb hown hts hK hr hlocks hX.1 (by rw [htab]; rfl) (fun z hz => by cases hz) (by decide) (by decide) hl1 (by decide +kernel) rfl (ast_w hx hb dL_lampLevel_13 (by decide)) dL_lampLevel_15 rfl dL_lampLevel_16 ⟨hn2, hn3⟩ hl9 hce hcv hcl hP hS hq
    · rw [if_neg h0] at hv
      by_cases h1 : e1 = 2
      · subst h1
        rw [if_pos rfl] at hv
        obtain rfl := Option.some.inj hv
        exact hand_ok (own := RL) (hp := 17) (a1 := 19) (n := 2) [{ startPc := 0, endPc := 10, handlerPc := 13, catchType := 21 }] { startPc := 0, endPc := 10, handlerPc := 17, catchType := 13 } [] hx hb hown hts hK hr hlocks hX.1 (by rw [htab]; rfl) (fun z hz => by
            rcases List.mem_cons.mp hz with rfl | hz
            · exact ⟨by decide, exn 1, hl1, hC 2 (by decide) 1 (by decide) (by decide)⟩
            · cases hz) (by decide) (by decide) hl2 (by decide +kernel) rfl (ast_w hx hb dL_lampLevel_17 (by decide)) dL_lampLevel_19 rfl dL_lampLevel_20 ⟨hn2, hn3⟩ hl9 hce hcv hcl hP hS hq
      · rw [if_neg h1] at hv
        cases hv
  refine ruL_c (n := 0) (n2 := 1) rfl (ru_aload_n (k := 3) hx hb dL_lampLevel_0) ?_
  refine ruL_c (n := 1) (n2 := 2) rfl (ru_iconst hx hb dL_lampLevel_1 rfl) ?_
  refine ruL_c (n := 2) (n2 := 3) rfl (ru_aload_n (k := 0) hx hb dL_lampLevel_2) ?_
  refine ruL_c (n := 3) (n2 := 4) rfl (ru_iload_n (k := 1) hx hb dL_lampLevel_3) ?_
  refine ruL_c (n := 4) (n2 := 5) rfl (ru_iload_n (k := 2) hx hb dL_lampLevel_4) ?_
  refine ruL_c (n := 5) (n2 := 6) rfl (ru_callC (own := RL) hx hb hml hown hts hK hN hX (c_X5_lampLevel l hl D cI cZ cA cL ad sa hi) (cwV 2 hts gL_lampLevel_X5_lampLevel rfl rfl rfl (by decide +kernel) ⟨Nat.le_of_ble_eq_true rfl, Nat.le_of_ble_eq_true rfl⟩) dL_lampLevel_5 ⟨hn2, hn3⟩ hh) ?_
  refine ruL_c (n := 6) (n2 := 7) rfl (ru_bot) ?_
  refine ruL_c (n := 7) (n2 := 8) rfl (ru_bot) ?_
  refine ruL_c (n := 8) (n2 := 9) rfl (ru_i2l hx hb dL_lampLevel_8) ?_
  refine ruL_c (n := 9) (n2 := 10) rfl (ru_last hx hb hK hi dL_lampLevel_9) ?_
  refine ruL_c (n := 10) (n2 := 11) rfl (ru_goto hx hb dL_lampLevel_10 (by decide)) ?_
  refine ruL_c (n := 11) (n2 := 12) rfl (ru_bot) ?_
  refine ruL_c (n := 12) (n2 := 13) rfl (ru_bot) ?_
  refine ruL_c (n := 13) (n2 := 14) rfl (ru_bot) ?_
  refine ruL_c (n := 14) (n2 := 15) rfl (ru_bot) ?_
  refine ruL_c (n := 15) (n2 := 16) rfl (ru_bot) ?_
  refine ruL_c (n := 16) (n2 := 17) rfl (ru_bot) ?_
  refine ruL_c (n := 17) (n2 := 18) rfl (ru_bot) ?_
  refine ruL_c (n := 18) (n2 := 19) rfl (ru_bot) ?_
  refine ruL_c (n := 19) (n2 := 20) rfl (ru_bot) ?_
  refine ruL_c (n := 20) (n2 := 21) rfl (ru_bot) ?_
  refine ruL_c (n := 21) (n2 := 22) rfl (ru_iconst hx hb dL_lampLevel_21 rfl) ?_
  refine ruL_c (n := 22) (n2 := 23) rfl (ru_iretX hx hb hK hr hlocks dL_lampLevel_22 ⟨hn1, Nat.mul_le_mul_left 6 hn1⟩) ?_
  exact trivial

-- helper light
def hc_L_light (e : Nat) : Option Int32 := if e = 1 then some 1 else if e = 2 then some 2 else none
def f_L_light (p0 : Int32) (p1 : Int32) (p2 : Int32) (σ : aM) : Option (Int32 × aM) := bnC (f_X5_light p0 p1 p2 σ) hc_L_light (fun r σ1 => some (0, mput σ1 178 (ix 0) r))
def F_L_light : aF := fun As σ => match As with
  | [.ref 0, .int p0, .int p1, .int p2, .ref 178] => f_L_light p0 p1 p2 σ
  | _ => none
def T_L_light : aTw := fun Qa KN => [I_aload 4 2, I_bot, I_const 0 1, I_aload 0 1, I_iload 1 1, I_iload 2 1, I_iload 3 1, I_callC 3 F_X5_light hc_L_light KN Qa, I_bot, I_bot, I_i2l, I_last, I_goto 23, I_bot, I_bot, I_bot, I_bot, I_bot, I_bot, I_bot, I_bot, I_bot, I_bot, I_const 0 1, I_iret Qa]
set_option maxHeartbeats 4000000 in
set_option maxRecDepth 100000 in
theorem s_L_light : runsW T_L_light 6 F_L_light := by
  intro Qa K hw As σ y h hQ
  unfold F_L_light at h
  split at h
  · rename_i p0 p1 p2
    unfold f_L_light at h
    show K 0 (0, [.ref 0, .int p0, .int p1, .int p2, .ref 178, .null], [], σ)
    obtain ⟨e1, r1, σ1, q1, hc⟩ := bnC_some h
    refine hw 0 (by decide) 7 _ ?_
    show ∃ e1 r1 σ1, f_X5_light p0 p1 p2 σ = some (e1, r1, σ1) ∧ (e1 = 0 → K 1 (10, [.ref 0, .int p0, .int p1, .int p2, .ref 178, .null], [.int r1, .int 0, .ref 178], σ1)) ∧ (¬ e1 = 0 → ∃ v, hc_L_light e1 = some v ∧ Qa v σ1)
    refine ⟨e1, r1, σ1, q1, fun h0 => ?_, fun h0 => ?_⟩
    · rcases hc with ⟨-, h⟩ | ⟨h1, -⟩
      · obtain rfl := Option.some.inj h
        refine hw 1 (by decide) 5 _ ?_
        show kd 178 = 4 ∧ (inb 0 1 = true ∧ ∃ v : Int32, r1.toInt64 = v.toInt64 ∧ Qa 0 (mput σ1 178 (ix 0) v))
        exact ⟨rfl, by decide, r1, rfl, hQ⟩
      · exact absurd h0 h1
    · rcases hc with ⟨h1, -⟩ | ⟨-, v, hv, h⟩
      · exact absurd h1 h0
      · obtain rfl := h
        exact ⟨v, hv, hQ⟩
  · cases h
theorem h_L_light : shp [] 6 F_L_light := by
  intro As σ r σ' h
  unfold F_L_light at h
  split at h
  · exact ⟨by simp [Value.category], Nat.le_of_ble_eq_true rfl⟩
  · cases h
set_option maxHeartbeats 4000000 in
set_option maxRecDepth 100000 in
theorem c_L_light (l : Launch) (hl : l.stackTraces = false) (D : va_G) (cI cZ cA cL : ClassId) (ad sa : Nat → Nat) (hi : adI ad) : CtW l yL_light wsL_light { frames := 8, cells := 8, slots := 48, locals := 127 } 8 D cI cZ cA cL ad sa F_L_light := by
  refine mk_W (mf := 4) F_L_light T_L_light (by decide +kernel) rfl ?_ h_L_light s_L_light
  intro p e s m args below meth c Qa ⟨⟨hx, hb, hml, hown, hts, hr, hlocks, hK, hN⟩, hX, hC, htab⟩ n hn
  have hn1 : n * 4 ≤ 2 * 4 := by omega
  have hn2 : n * 4 + 4 ≤ 2 * 4 := by omega
  have hn3 : 6 * (n * 4) + 6 * 4 ≤ 6 * (2 * 4) := by omega
  have hl1 : (Cond.classLink RL 21 (exn 1)) ∈ wsL_light := by decide +kernel
  have hl2 : (Cond.classLink RL 13 (exn 2)) ∈ wsL_light := by decide +kernel
  have hh : ∀ (e1 : Nat) (v : Int32), hc_L_light e1 = some v → ∀ (H1 : Heap) (locs1 : List Loc) (ls : Array Slot) (L rest : List Value) (q9 : Addr) (ce : Cell) (σ1 : aM), lh ad ls 6 L → H1[q9]? = some ce → ce.vm = .none → s.vm.findClass (exn e1) = some ce.cls → va_P D vwCl (wl cI cZ cA cL ad σ1) H1 → va_S (AA ad s.heap.size) s.heap H1 locs1 → Qa v σ1 → vx_W p l e { frames := 8, cells := 2 * 4, slots := 6 * (2 * 4), locals := 127 } s m args below meth c H1 locs1 (n * 4 + 4) (6 * (n * 4) + 6 * 4) (vx_MQ below (va_Qi Qa (BB D cI cZ cA cL ad) (AA ad s.heap.size)) (XF ad s.heap.size) args s (2 * 4) (6 * (2 * 4)) (AA ad s.heap.size)) (F0 m 7 ls rest) q9 := by
    intro e1 v hv H1 locs1 ls L rest q9 ce σ1 hl9 hce hcv hcl hP hS hq
    unfold hc_L_light at hv
    by_cases h0 : e1 = 1
    · subst h0
      rw [if_pos rfl] at hv
      obtain rfl := Option.some.inj hv
      exact hand_ok (own := RL) (hp := 15) (a1 := 17) (n := 1) [] { startPc := 0, endPc := 12, handlerPc := 15, catchType := 21 } [{ startPc := 0, endPc := 12, handlerPc := 19, catchType := 13 }] hx hb hown hts hK hr hlocks hX.1 (by rw [htab]; rfl) (fun z hz => by cases hz) (by decide) (by decide) hl1 (by decide +kernel) rfl (ast_w hx hb dL_light_15 (by decide)) dL_light_17 rfl dL_light_18 ⟨hn2, hn3⟩ hl9 hce hcv hcl hP hS hq
    · rw [if_neg h0] at hv
      by_cases h1 : e1 = 2
      · subst h1
        rw [if_pos rfl] at hv
        obtain rfl := Option.some.inj hv
        exact hand_ok (own := RL) (hp := 19) (a1 := 21) (n := 2) [{ startPc := 0, endPc := 12, handlerPc := 15, catchType := 21 }] { startPc := 0, endPc := 12, handlerPc := 19, catchType := 13 } [] hx hb hown hts hK hr hlocks hX.1 (by rw [htab]; rfl) (fun z hz => by
            rcases List.mem_cons.mp hz with rfl | hz
            · exact ⟨by decide, exn 1, hl1, hC 2 (by decide) 1 (by decide) (by decide)⟩
            · cases hz) (by decide) (by decide) hl2 (by decide +kernel) rfl (ast_w hx hb dL_light_19 (by decide)) dL_light_21 rfl dL_light_22 ⟨hn2, hn3⟩ hl9 hce hcv hcl hP hS hq
      · rw [if_neg h1] at hv
        cases hv
  refine ruL_c (n := 0) (n2 := 1) rfl (ru_aload hx hb dL_light_0) ?_
  refine ruL_c (n := 1) (n2 := 2) rfl (ru_bot) ?_
  refine ruL_c (n := 2) (n2 := 3) rfl (ru_iconst hx hb dL_light_2 rfl) ?_
  refine ruL_c (n := 3) (n2 := 4) rfl (ru_aload_n (k := 0) hx hb dL_light_3) ?_
  refine ruL_c (n := 4) (n2 := 5) rfl (ru_iload_n (k := 1) hx hb dL_light_4) ?_
  refine ruL_c (n := 5) (n2 := 6) rfl (ru_iload_n (k := 2) hx hb dL_light_5) ?_
  refine ruL_c (n := 6) (n2 := 7) rfl (ru_iload_n (k := 3) hx hb dL_light_6) ?_
  refine ruL_c (n := 7) (n2 := 8) rfl (ru_callC (own := RL) hx hb hml hown hts hK hN hX (c_X5_light l hl D cI cZ cA cL ad sa hi) (cwV 3 hts gL_light_X5_light rfl rfl rfl (by decide +kernel) ⟨Nat.le_of_ble_eq_true rfl, Nat.le_of_ble_eq_true rfl⟩) dL_light_7 ⟨hn2, hn3⟩ hh) ?_
  refine ruL_c (n := 8) (n2 := 9) rfl (ru_bot) ?_
  refine ruL_c (n := 9) (n2 := 10) rfl (ru_bot) ?_
  refine ruL_c (n := 10) (n2 := 11) rfl (ru_i2l hx hb dL_light_10) ?_
  refine ruL_c (n := 11) (n2 := 12) rfl (ru_last hx hb hK hi dL_light_11) ?_
  refine ruL_c (n := 12) (n2 := 13) rfl (ru_goto hx hb dL_light_12 (by decide)) ?_
  refine ruL_c (n := 13) (n2 := 14) rfl (ru_bot) ?_
  refine ruL_c (n := 14) (n2 := 15) rfl (ru_bot) ?_
  refine ruL_c (n := 15) (n2 := 16) rfl (ru_bot) ?_
  refine ruL_c (n := 16) (n2 := 17) rfl (ru_bot) ?_
  refine ruL_c (n := 17) (n2 := 18) rfl (ru_bot) ?_
  refine ruL_c (n := 18) (n2 := 19) rfl (ru_bot) ?_
  refine ruL_c (n := 19) (n2 := 20) rfl (ru_bot) ?_
  refine ruL_c (n := 20) (n2 := 21) rfl (ru_bot) ?_
  refine ruL_c (n := 21) (n2 := 22) rfl (ru_bot) ?_
  refine ruL_c (n := 22) (n2 := 23) rfl (ru_bot) ?_
  refine ruL_c (n := 23) (n2 := 24) rfl (ru_iconst hx hb dL_light_23 rfl) ?_
  refine ruL_c (n := 24) (n2 := 25) rfl (ru_iretX hx hb hK hr hlocks dL_light_24 ⟨hn1, Nat.mul_le_mul_left 6 hn1⟩) ?_
  exact trivial

-- helper shortOf
def hc_L_shortOf (e : Nat) : Option Int32 := if e = 1 then some 1 else none
def f_L_shortOf (p0 : Int32) (p1 : Int32) (σ : aM) : Option (Int32 × aM) := bnC (f_X5_shortOf p0 p1 σ) hc_L_shortOf (fun r σ1 => some (0, mput σ1 178 (ix 0) r))
def F_L_shortOf : aF := fun As σ => match As with
  | [.ref 0, .int p0, .int p1, .ref 178] => f_L_shortOf p0 p1 σ
  | _ => none
def T_L_shortOf : aTw := fun Qa KN => [I_aload 3 1, I_const 0 1, I_aload 0 1, I_iload 1 1, I_iload 2 1, I_callC 2 F_X5_shortOf hc_L_shortOf KN Qa, I_bot, I_bot, I_i2l, I_last, I_goto 17, I_bot, I_bot, I_bot, I_bot, I_bot, I_bot, I_const 0 1, I_iret Qa]
set_option maxHeartbeats 4000000 in
set_option maxRecDepth 100000 in
theorem s_L_shortOf : runsW T_L_shortOf 5 F_L_shortOf := by
  intro Qa K hw As σ y h hQ
  unfold F_L_shortOf at h
  split at h
  · rename_i p0 p1
    unfold f_L_shortOf at h
    show K 0 (0, [.ref 0, .int p0, .int p1, .ref 178, .null], [], σ)
    obtain ⟨e1, r1, σ1, q1, hc⟩ := bnC_some h
    refine hw 0 (by decide) 6 _ ?_
    show ∃ e1 r1 σ1, f_X5_shortOf p0 p1 σ = some (e1, r1, σ1) ∧ (e1 = 0 → K 1 (8, [.ref 0, .int p0, .int p1, .ref 178, .null], [.int r1, .int 0, .ref 178], σ1)) ∧ (¬ e1 = 0 → ∃ v, hc_L_shortOf e1 = some v ∧ Qa v σ1)
    refine ⟨e1, r1, σ1, q1, fun h0 => ?_, fun h0 => ?_⟩
    · rcases hc with ⟨-, h⟩ | ⟨h1, -⟩
      · obtain rfl := Option.some.inj h
        refine hw 1 (by decide) 5 _ ?_
        show kd 178 = 4 ∧ (inb 0 1 = true ∧ ∃ v : Int32, r1.toInt64 = v.toInt64 ∧ Qa 0 (mput σ1 178 (ix 0) v))
        exact ⟨rfl, by decide, r1, rfl, hQ⟩
      · exact absurd h0 h1
    · rcases hc with ⟨h1, -⟩ | ⟨-, v, hv, h⟩
      · exact absurd h1 h0
      · obtain rfl := h
        exact ⟨v, hv, hQ⟩
  · cases h
theorem h_L_shortOf : shp [] 5 F_L_shortOf := by
  intro As σ r σ' h
  unfold F_L_shortOf at h
  split at h
  · exact ⟨by simp [Value.category], Nat.le_of_ble_eq_true rfl⟩
  · cases h
set_option maxHeartbeats 4000000 in
set_option maxRecDepth 100000 in
theorem c_L_shortOf (l : Launch) (hl : l.stackTraces = false) (D : va_G) (cI cZ cA cL : ClassId) (ad sa : Nat → Nat) (hi : adI ad) : CtW l yL_shortOf wsL_shortOf { frames := 8, cells := 6, slots := 36, locals := 125 } 6 D cI cZ cA cL ad sa F_L_shortOf := by
  refine mk_W (mf := 3) F_L_shortOf T_L_shortOf (by decide +kernel) rfl ?_ h_L_shortOf s_L_shortOf
  intro p e s m args below meth c Qa ⟨⟨hx, hb, hml, hown, hts, hr, hlocks, hK, hN⟩, hX, hC, htab⟩ n hn
  have hn1 : n * 3 ≤ 2 * 3 := by omega
  have hn2 : n * 3 + 3 ≤ 2 * 3 := by omega
  have hn3 : 6 * (n * 3) + 6 * 3 ≤ 6 * (2 * 3) := by omega
  have hl1 : (Cond.classLink RL 21 (exn 1)) ∈ wsL_shortOf := by decide +kernel
  have hh : ∀ (e1 : Nat) (v : Int32), hc_L_shortOf e1 = some v → ∀ (H1 : Heap) (locs1 : List Loc) (ls : Array Slot) (L rest : List Value) (q9 : Addr) (ce : Cell) (σ1 : aM), lh ad ls 5 L → H1[q9]? = some ce → ce.vm = .none → s.vm.findClass (exn e1) = some ce.cls → va_P D vwCl (wl cI cZ cA cL ad σ1) H1 → va_S (AA ad s.heap.size) s.heap H1 locs1 → Qa v σ1 → vx_W p l e { frames := 8, cells := 2 * 3, slots := 6 * (2 * 3), locals := 125 } s m args below meth c H1 locs1 (n * 3 + 3) (6 * (n * 3) + 6 * 3) (vx_MQ below (va_Qi Qa (BB D cI cZ cA cL ad) (AA ad s.heap.size)) (XF ad s.heap.size) args s (2 * 3) (6 * (2 * 3)) (AA ad s.heap.size)) (F0 m 5 ls rest) q9 := by
    intro e1 v hv H1 locs1 ls L rest q9 ce σ1 hl9 hce hcv hcl hP hS hq
    unfold hc_L_shortOf at hv
    by_cases h0 : e1 = 1
    · subst h0
      rw [if_pos rfl] at hv
      obtain rfl := Option.some.inj hv
      exact hand_ok (own := RL) (hp := 13) (a1 := 15) (n := 1) [] { startPc := 0, endPc := 10, handlerPc := 13, catchType := 21 } [] hx hb hown hts hK hr hlocks hX.1 (by rw [htab]; rfl) (fun z hz => by cases hz) (by decide) (by decide) hl1 (by decide +kernel) rfl (ast_w hx hb dL_shortOf_13 (by decide)) dL_shortOf_15 rfl dL_shortOf_16 ⟨hn2, hn3⟩ hl9 hce hcv hcl hP hS hq
    · rw [if_neg h0] at hv
      cases hv
  refine ruL_c (n := 0) (n2 := 1) rfl (ru_aload_n (k := 3) hx hb dL_shortOf_0) ?_
  refine ruL_c (n := 1) (n2 := 2) rfl (ru_iconst hx hb dL_shortOf_1 rfl) ?_
  refine ruL_c (n := 2) (n2 := 3) rfl (ru_aload_n (k := 0) hx hb dL_shortOf_2) ?_
  refine ruL_c (n := 3) (n2 := 4) rfl (ru_iload_n (k := 1) hx hb dL_shortOf_3) ?_
  refine ruL_c (n := 4) (n2 := 5) rfl (ru_iload_n (k := 2) hx hb dL_shortOf_4) ?_
  refine ruL_c (n := 5) (n2 := 6) rfl (ru_callC (own := RL) hx hb hml hown hts hK hN hX (c_X5_shortOf l hl D cI cZ cA cL ad sa hi) (cwV 2 hts gL_shortOf_X5_shortOf rfl rfl rfl (by decide +kernel) ⟨Nat.le_of_ble_eq_true rfl, Nat.le_of_ble_eq_true rfl⟩) dL_shortOf_5 ⟨hn2, hn3⟩ hh) ?_
  refine ruL_c (n := 6) (n2 := 7) rfl (ru_bot) ?_
  refine ruL_c (n := 7) (n2 := 8) rfl (ru_bot) ?_
  refine ruL_c (n := 8) (n2 := 9) rfl (ru_i2l hx hb dL_shortOf_8) ?_
  refine ruL_c (n := 9) (n2 := 10) rfl (ru_last hx hb hK hi dL_shortOf_9) ?_
  refine ruL_c (n := 10) (n2 := 11) rfl (ru_goto hx hb dL_shortOf_10 (by decide)) ?_
  refine ruL_c (n := 11) (n2 := 12) rfl (ru_bot) ?_
  refine ruL_c (n := 12) (n2 := 13) rfl (ru_bot) ?_
  refine ruL_c (n := 13) (n2 := 14) rfl (ru_bot) ?_
  refine ruL_c (n := 14) (n2 := 15) rfl (ru_bot) ?_
  refine ruL_c (n := 15) (n2 := 16) rfl (ru_bot) ?_
  refine ruL_c (n := 16) (n2 := 17) rfl (ru_bot) ?_
  refine ruL_c (n := 17) (n2 := 18) rfl (ru_iconst hx hb dL_shortOf_17 rfl) ?_
  refine ruL_c (n := 18) (n2 := 19) rfl (ru_iretX hx hb hK hr hlocks dL_shortOf_18 ⟨hn1, Nat.mul_le_mul_left 6 hn1⟩) ?_
  exact trivial

-- helper bestToBorrow
def hc_L_bestToBorrow (e : Nat) : Option Int32 := if e = 1 then some 1 else none
def f_L_bestToBorrow (p0 : Int32) (p1 : Int32) (σ : aM) : Option (Int32 × aM) := bnC (f_X5_bestToBorrow p0 p1 σ) hc_L_bestToBorrow (fun r σ1 => some (0, mput σ1 178 (ix 0) r))
def F_L_bestToBorrow : aF := fun As σ => match As with
  | [.ref 0, .int p0, .int p1, .ref 178] => f_L_bestToBorrow p0 p1 σ
  | _ => none
def T_L_bestToBorrow : aTw := fun Qa KN => [I_aload 3 1, I_const 0 1, I_aload 0 1, I_iload 1 1, I_iload 2 1, I_callC 2 F_X5_bestToBorrow hc_L_bestToBorrow KN Qa, I_bot, I_bot, I_i2l, I_last, I_goto 17, I_bot, I_bot, I_bot, I_bot, I_bot, I_bot, I_const 0 1, I_iret Qa]
set_option maxHeartbeats 4000000 in
set_option maxRecDepth 100000 in
theorem s_L_bestToBorrow : runsW T_L_bestToBorrow 5 F_L_bestToBorrow := by
  intro Qa K hw As σ y h hQ
  unfold F_L_bestToBorrow at h
  split at h
  · rename_i p0 p1
    unfold f_L_bestToBorrow at h
    show K 0 (0, [.ref 0, .int p0, .int p1, .ref 178, .null], [], σ)
    obtain ⟨e1, r1, σ1, q1, hc⟩ := bnC_some h
    refine hw 0 (by decide) 6 _ ?_
    show ∃ e1 r1 σ1, f_X5_bestToBorrow p0 p1 σ = some (e1, r1, σ1) ∧ (e1 = 0 → K 1 (8, [.ref 0, .int p0, .int p1, .ref 178, .null], [.int r1, .int 0, .ref 178], σ1)) ∧ (¬ e1 = 0 → ∃ v, hc_L_bestToBorrow e1 = some v ∧ Qa v σ1)
    refine ⟨e1, r1, σ1, q1, fun h0 => ?_, fun h0 => ?_⟩
    · rcases hc with ⟨-, h⟩ | ⟨h1, -⟩
      · obtain rfl := Option.some.inj h
        refine hw 1 (by decide) 5 _ ?_
        show kd 178 = 4 ∧ (inb 0 1 = true ∧ ∃ v : Int32, r1.toInt64 = v.toInt64 ∧ Qa 0 (mput σ1 178 (ix 0) v))
        exact ⟨rfl, by decide, r1, rfl, hQ⟩
      · exact absurd h0 h1
    · rcases hc with ⟨h1, -⟩ | ⟨-, v, hv, h⟩
      · exact absurd h1 h0
      · obtain rfl := h
        exact ⟨v, hv, hQ⟩
  · cases h
theorem h_L_bestToBorrow : shp [] 5 F_L_bestToBorrow := by
  intro As σ r σ' h
  unfold F_L_bestToBorrow at h
  split at h
  · exact ⟨by simp [Value.category], Nat.le_of_ble_eq_true rfl⟩
  · cases h
set_option maxHeartbeats 4000000 in
set_option maxRecDepth 100000 in
theorem c_L_bestToBorrow (l : Launch) (hl : l.stackTraces = false) (D : va_G) (cI cZ cA cL : ClassId) (ad sa : Nat → Nat) (hi : adI ad) : CtW l yL_bestToBorrow wsL_bestToBorrow { frames := 8, cells := 6, slots := 36, locals := 148 } 6 D cI cZ cA cL ad sa F_L_bestToBorrow := by
  refine mk_W (mf := 3) F_L_bestToBorrow T_L_bestToBorrow (by decide +kernel) rfl ?_ h_L_bestToBorrow s_L_bestToBorrow
  intro p e s m args below meth c Qa ⟨⟨hx, hb, hml, hown, hts, hr, hlocks, hK, hN⟩, hX, hC, htab⟩ n hn
  have hn1 : n * 3 ≤ 2 * 3 := by omega
  have hn2 : n * 3 + 3 ≤ 2 * 3 := by omega
  have hn3 : 6 * (n * 3) + 6 * 3 ≤ 6 * (2 * 3) := by omega
  have hl1 : (Cond.classLink RL 21 (exn 1)) ∈ wsL_bestToBorrow := by decide +kernel
  have hh : ∀ (e1 : Nat) (v : Int32), hc_L_bestToBorrow e1 = some v → ∀ (H1 : Heap) (locs1 : List Loc) (ls : Array Slot) (L rest : List Value) (q9 : Addr) (ce : Cell) (σ1 : aM), lh ad ls 5 L → H1[q9]? = some ce → ce.vm = .none → s.vm.findClass (exn e1) = some ce.cls → va_P D vwCl (wl cI cZ cA cL ad σ1) H1 → va_S (AA ad s.heap.size) s.heap H1 locs1 → Qa v σ1 → vx_W p l e { frames := 8, cells := 2 * 3, slots := 6 * (2 * 3), locals := 148 } s m args below meth c H1 locs1 (n * 3 + 3) (6 * (n * 3) + 6 * 3) (vx_MQ below (va_Qi Qa (BB D cI cZ cA cL ad) (AA ad s.heap.size)) (XF ad s.heap.size) args s (2 * 3) (6 * (2 * 3)) (AA ad s.heap.size)) (F0 m 5 ls rest) q9 := by
    intro e1 v hv H1 locs1 ls L rest q9 ce σ1 hl9 hce hcv hcl hP hS hq
    unfold hc_L_bestToBorrow at hv
    by_cases h0 : e1 = 1
    · subst h0
      rw [if_pos rfl] at hv
      obtain rfl := Option.some.inj hv
      exact hand_ok (own := RL) (hp := 13) (a1 := 15) (n := 1) [] { startPc := 0, endPc := 10, handlerPc := 13, catchType := 21 } [] hx hb hown hts hK hr hlocks hX.1 (by rw [htab]; rfl) (fun z hz => by cases hz) (by decide) (by decide) hl1 (by decide +kernel) rfl (ast_w hx hb dL_bestToBorrow_13 (by decide)) dL_bestToBorrow_15 rfl dL_bestToBorrow_16 ⟨hn2, hn3⟩ hl9 hce hcv hcl hP hS hq
    · rw [if_neg h0] at hv
      cases hv
  refine ruL_c (n := 0) (n2 := 1) rfl (ru_aload_n (k := 3) hx hb dL_bestToBorrow_0) ?_
  refine ruL_c (n := 1) (n2 := 2) rfl (ru_iconst hx hb dL_bestToBorrow_1 rfl) ?_
  refine ruL_c (n := 2) (n2 := 3) rfl (ru_aload_n (k := 0) hx hb dL_bestToBorrow_2) ?_
  refine ruL_c (n := 3) (n2 := 4) rfl (ru_iload_n (k := 1) hx hb dL_bestToBorrow_3) ?_
  refine ruL_c (n := 4) (n2 := 5) rfl (ru_iload_n (k := 2) hx hb dL_bestToBorrow_4) ?_
  refine ruL_c (n := 5) (n2 := 6) rfl (ru_callC (own := RL) hx hb hml hown hts hK hN hX (c_X5_bestToBorrow l hl D cI cZ cA cL ad sa hi) (cwV 2 hts gL_bestToBorrow_X5_bestToBorrow rfl rfl rfl (by decide +kernel) ⟨Nat.le_of_ble_eq_true rfl, Nat.le_of_ble_eq_true rfl⟩) dL_bestToBorrow_5 ⟨hn2, hn3⟩ hh) ?_
  refine ruL_c (n := 6) (n2 := 7) rfl (ru_bot) ?_
  refine ruL_c (n := 7) (n2 := 8) rfl (ru_bot) ?_
  refine ruL_c (n := 8) (n2 := 9) rfl (ru_i2l hx hb dL_bestToBorrow_8) ?_
  refine ruL_c (n := 9) (n2 := 10) rfl (ru_last hx hb hK hi dL_bestToBorrow_9) ?_
  refine ruL_c (n := 10) (n2 := 11) rfl (ru_goto hx hb dL_bestToBorrow_10 (by decide)) ?_
  refine ruL_c (n := 11) (n2 := 12) rfl (ru_bot) ?_
  refine ruL_c (n := 12) (n2 := 13) rfl (ru_bot) ?_
  refine ruL_c (n := 13) (n2 := 14) rfl (ru_bot) ?_
  refine ruL_c (n := 14) (n2 := 15) rfl (ru_bot) ?_
  refine ruL_c (n := 15) (n2 := 16) rfl (ru_bot) ?_
  refine ruL_c (n := 16) (n2 := 17) rfl (ru_bot) ?_
  refine ruL_c (n := 17) (n2 := 18) rfl (ru_iconst hx hb dL_bestToBorrow_17 rfl) ?_
  refine ruL_c (n := 18) (n2 := 19) rfl (ru_iretX hx hb hK hr hlocks dL_bestToBorrow_18 ⟨hn1, Nat.mul_le_mul_left 6 hn1⟩) ?_
  exact trivial

-- helper perform
def hc_L_perform (e : Nat) : Option Int32 := if e = 1 then some 1 else if e = 3 then some 2 else none
def f_L_perform (p0 : Int32) (σ : aM) : Option (Int32 × aM) := bnC (f_X5_perform p0 σ) hc_L_perform (fun r σ1 => some (0, mput σ1 178 (ix 0) r))
def F_L_perform : aF := fun As σ => match As with
  | [.ref 0, .int p0, .ref 178] => f_L_perform p0 σ
  | _ => none
def T_L_perform : aTw := fun Qa KN => [I_aload 2 1, I_const 0 1, I_aload 0 1, I_iload 1 1, I_callC 1 F_X5_perform hc_L_perform KN Qa, I_bot, I_bot, I_i2l, I_last, I_goto 18, I_bot, I_bot, I_bot, I_bot, I_bot, I_bot, I_bot, I_bot, I_const 0 1, I_iret Qa]
set_option maxHeartbeats 4000000 in
set_option maxRecDepth 100000 in
theorem s_L_perform : runsW T_L_perform 4 F_L_perform := by
  intro Qa K hw As σ y h hQ
  unfold F_L_perform at h
  split at h
  · rename_i p0
    unfold f_L_perform at h
    show K 0 (0, [.ref 0, .int p0, .ref 178, .null], [], σ)
    obtain ⟨e1, r1, σ1, q1, hc⟩ := bnC_some h
    refine hw 0 (by decide) 5 _ ?_
    show ∃ e1 r1 σ1, f_X5_perform p0 σ = some (e1, r1, σ1) ∧ (e1 = 0 → K 1 (7, [.ref 0, .int p0, .ref 178, .null], [.int r1, .int 0, .ref 178], σ1)) ∧ (¬ e1 = 0 → ∃ v, hc_L_perform e1 = some v ∧ Qa v σ1)
    refine ⟨e1, r1, σ1, q1, fun h0 => ?_, fun h0 => ?_⟩
    · rcases hc with ⟨-, h⟩ | ⟨h1, -⟩
      · obtain rfl := Option.some.inj h
        refine hw 1 (by decide) 5 _ ?_
        show kd 178 = 4 ∧ (inb 0 1 = true ∧ ∃ v : Int32, r1.toInt64 = v.toInt64 ∧ Qa 0 (mput σ1 178 (ix 0) v))
        exact ⟨rfl, by decide, r1, rfl, hQ⟩
      · exact absurd h0 h1
    · rcases hc with ⟨h1, -⟩ | ⟨-, v, hv, h⟩
      · exact absurd h1 h0
      · obtain rfl := h
        exact ⟨v, hv, hQ⟩
  · cases h
theorem h_L_perform : shp [] 4 F_L_perform := by
  intro As σ r σ' h
  unfold F_L_perform at h
  split at h
  · exact ⟨by simp [Value.category], Nat.le_of_ble_eq_true rfl⟩
  · cases h
set_option maxHeartbeats 4000000 in
set_option maxRecDepth 100000 in
theorem c_L_perform (l : Launch) (hl : l.stackTraces = false) (D : va_G) (cI cZ cA cL : ClassId) (ad sa : Nat → Nat) (hi : adI ad) : CtW l yL_perform wsL_perform { frames := 8, cells := 8, slots := 48, locals := 138 } 8 D cI cZ cA cL ad sa F_L_perform := by
  refine mk_W (mf := 4) F_L_perform T_L_perform (by decide +kernel) rfl ?_ h_L_perform s_L_perform
  intro p e s m args below meth c Qa ⟨⟨hx, hb, hml, hown, hts, hr, hlocks, hK, hN⟩, hX, hC, htab⟩ n hn
  have hn1 : n * 4 ≤ 2 * 4 := by omega
  have hn2 : n * 4 + 4 ≤ 2 * 4 := by omega
  have hn3 : 6 * (n * 4) + 6 * 4 ≤ 6 * (2 * 4) := by omega
  have hl1 : (Cond.classLink RL 21 (exn 1)) ∈ wsL_perform := by decide +kernel
  have hl2 : (Cond.classLink RL 15 (exn 3)) ∈ wsL_perform := by decide +kernel
  have hh : ∀ (e1 : Nat) (v : Int32), hc_L_perform e1 = some v → ∀ (H1 : Heap) (locs1 : List Loc) (ls : Array Slot) (L rest : List Value) (q9 : Addr) (ce : Cell) (σ1 : aM), lh ad ls 4 L → H1[q9]? = some ce → ce.vm = .none → s.vm.findClass (exn e1) = some ce.cls → va_P D vwCl (wl cI cZ cA cL ad σ1) H1 → va_S (AA ad s.heap.size) s.heap H1 locs1 → Qa v σ1 → vx_W p l e { frames := 8, cells := 2 * 4, slots := 6 * (2 * 4), locals := 138 } s m args below meth c H1 locs1 (n * 4 + 4) (6 * (n * 4) + 6 * 4) (vx_MQ below (va_Qi Qa (BB D cI cZ cA cL ad) (AA ad s.heap.size)) (XF ad s.heap.size) args s (2 * 4) (6 * (2 * 4)) (AA ad s.heap.size)) (F0 m 4 ls rest) q9 := by
    intro e1 v hv H1 locs1 ls L rest q9 ce σ1 hl9 hce hcv hcl hP hS hq
    unfold hc_L_perform at hv
    by_cases h0 : e1 = 1
    · subst h0
      rw [if_pos rfl] at hv
      obtain rfl := Option.some.inj hv
      exact hand_ok (own := RL) (hp := 12) (a1 := 13) (n := 1) [] { startPc := 0, endPc := 9, handlerPc := 12, catchType := 21 } [{ startPc := 0, endPc := 9, handlerPc := 15, catchType := 15 }] hx hb hown hts hK hr hlocks hX.1 (by rw [htab]; rfl) (fun z hz => by cases hz) (by decide) (by decide) hl1 (by decide +kernel) rfl (ast_n (k := 3) hx hb dL_perform_12 (by decide)) dL_perform_13 rfl dL_perform_14 ⟨hn2, hn3⟩ hl9 hce hcv hcl hP hS hq
    · rw [if_neg h0] at hv
      by_cases h1 : e1 = 3
      · subst h1
        rw [if_pos rfl] at hv
        obtain rfl := Option.some.inj hv
        exact hand_ok (own := RL) (hp := 15) (a1 := 16) (n := 2) [{ startPc := 0, endPc := 9, handlerPc := 12, catchType := 21 }] { startPc := 0, endPc := 9, handlerPc := 15, catchType := 15 } [] hx hb hown hts hK hr hlocks hX.1 (by rw [htab]; rfl) (fun z hz => by
            rcases List.mem_cons.mp hz with rfl | hz
            · exact ⟨by decide, exn 1, hl1, hC 3 (by decide) 1 (by decide) (by decide)⟩
            · cases hz) (by decide) (by decide) hl2 (by decide +kernel) rfl (ast_n (k := 3) hx hb dL_perform_15 (by decide)) dL_perform_16 rfl dL_perform_17 ⟨hn2, hn3⟩ hl9 hce hcv hcl hP hS hq
      · rw [if_neg h1] at hv
        cases hv
  refine ruL_c (n := 0) (n2 := 1) rfl (ru_aload_n (k := 2) hx hb dL_perform_0) ?_
  refine ruL_c (n := 1) (n2 := 2) rfl (ru_iconst hx hb dL_perform_1 rfl) ?_
  refine ruL_c (n := 2) (n2 := 3) rfl (ru_aload_n (k := 0) hx hb dL_perform_2) ?_
  refine ruL_c (n := 3) (n2 := 4) rfl (ru_iload_n (k := 1) hx hb dL_perform_3) ?_
  refine ruL_c (n := 4) (n2 := 5) rfl (ru_callC (own := RL) hx hb hml hown hts hK hN hX (c_X5_perform l hl D cI cZ cA cL ad sa hi) (cwV 1 hts gL_perform_X5_perform rfl rfl rfl (by decide +kernel) ⟨Nat.le_of_ble_eq_true rfl, Nat.le_of_ble_eq_true rfl⟩) dL_perform_4 ⟨hn2, hn3⟩ hh) ?_
  refine ruL_c (n := 5) (n2 := 6) rfl (ru_bot) ?_
  refine ruL_c (n := 6) (n2 := 7) rfl (ru_bot) ?_
  refine ruL_c (n := 7) (n2 := 8) rfl (ru_i2l hx hb dL_perform_7) ?_
  refine ruL_c (n := 8) (n2 := 9) rfl (ru_last hx hb hK hi dL_perform_8) ?_
  refine ruL_c (n := 9) (n2 := 10) rfl (ru_goto hx hb dL_perform_9 (by decide)) ?_
  refine ruL_c (n := 10) (n2 := 11) rfl (ru_bot) ?_
  refine ruL_c (n := 11) (n2 := 12) rfl (ru_bot) ?_
  refine ruL_c (n := 12) (n2 := 13) rfl (ru_bot) ?_
  refine ruL_c (n := 13) (n2 := 14) rfl (ru_bot) ?_
  refine ruL_c (n := 14) (n2 := 15) rfl (ru_bot) ?_
  refine ruL_c (n := 15) (n2 := 16) rfl (ru_bot) ?_
  refine ruL_c (n := 16) (n2 := 17) rfl (ru_bot) ?_
  refine ruL_c (n := 17) (n2 := 18) rfl (ru_bot) ?_
  refine ruL_c (n := 18) (n2 := 19) rfl (ru_iconst hx hb dL_perform_18 rfl) ?_
  refine ruL_c (n := 19) (n2 := 20) rfl (ru_iretX hx hb hK hr hlocks dL_perform_19 ⟨hn1, Nat.mul_le_mul_left 6 hn1⟩) ?_
  exact trivial

-- helper stageOf
def hc_L_stageOf (e : Nat) : Option Int32 := if e = 1 then some 1 else none
def f_L_stageOf (p0 : Int32) (σ : aM) : Option (Int32 × aM) := bnC (f_X5_stageOf p0 σ) hc_L_stageOf (fun r σ1 => some (0, mput σ1 178 (ix 0) r))
def F_L_stageOf : aF := fun As σ => match As with
  | [.ref 0, .int p0, .ref 178] => f_L_stageOf p0 σ
  | _ => none
def T_L_stageOf : aTw := fun Qa KN => [I_aload 2 1, I_const 0 1, I_aload 0 1, I_iload 1 1, I_callC 1 F_X5_stageOf hc_L_stageOf KN Qa, I_bot, I_bot, I_i2l, I_last, I_goto 15, I_bot, I_bot, I_bot, I_bot, I_bot, I_const 0 1, I_iret Qa]
set_option maxHeartbeats 4000000 in
set_option maxRecDepth 100000 in
theorem s_L_stageOf : runsW T_L_stageOf 4 F_L_stageOf := by
  intro Qa K hw As σ y h hQ
  unfold F_L_stageOf at h
  split at h
  · rename_i p0
    unfold f_L_stageOf at h
    show K 0 (0, [.ref 0, .int p0, .ref 178, .null], [], σ)
    obtain ⟨e1, r1, σ1, q1, hc⟩ := bnC_some h
    refine hw 0 (by decide) 5 _ ?_
    show ∃ e1 r1 σ1, f_X5_stageOf p0 σ = some (e1, r1, σ1) ∧ (e1 = 0 → K 1 (7, [.ref 0, .int p0, .ref 178, .null], [.int r1, .int 0, .ref 178], σ1)) ∧ (¬ e1 = 0 → ∃ v, hc_L_stageOf e1 = some v ∧ Qa v σ1)
    refine ⟨e1, r1, σ1, q1, fun h0 => ?_, fun h0 => ?_⟩
    · rcases hc with ⟨-, h⟩ | ⟨h1, -⟩
      · obtain rfl := Option.some.inj h
        refine hw 1 (by decide) 5 _ ?_
        show kd 178 = 4 ∧ (inb 0 1 = true ∧ ∃ v : Int32, r1.toInt64 = v.toInt64 ∧ Qa 0 (mput σ1 178 (ix 0) v))
        exact ⟨rfl, by decide, r1, rfl, hQ⟩
      · exact absurd h0 h1
    · rcases hc with ⟨h1, -⟩ | ⟨-, v, hv, h⟩
      · exact absurd h1 h0
      · obtain rfl := h
        exact ⟨v, hv, hQ⟩
  · cases h
theorem h_L_stageOf : shp [] 4 F_L_stageOf := by
  intro As σ r σ' h
  unfold F_L_stageOf at h
  split at h
  · exact ⟨by simp [Value.category], Nat.le_of_ble_eq_true rfl⟩
  · cases h
set_option maxHeartbeats 4000000 in
set_option maxRecDepth 100000 in
theorem c_L_stageOf (l : Launch) (hl : l.stackTraces = false) (D : va_G) (cI cZ cA cL : ClassId) (ad sa : Nat → Nat) (hi : adI ad) : CtW l yL_stageOf wsL_stageOf { frames := 8, cells := 4, slots := 24, locals := 124 } 4 D cI cZ cA cL ad sa F_L_stageOf := by
  refine mk_W (mf := 2) F_L_stageOf T_L_stageOf (by decide +kernel) rfl ?_ h_L_stageOf s_L_stageOf
  intro p e s m args below meth c Qa ⟨⟨hx, hb, hml, hown, hts, hr, hlocks, hK, hN⟩, hX, hC, htab⟩ n hn
  have hn1 : n * 2 ≤ 2 * 2 := by omega
  have hn2 : n * 2 + 2 ≤ 2 * 2 := by omega
  have hn3 : 6 * (n * 2) + 6 * 2 ≤ 6 * (2 * 2) := by omega
  have hl1 : (Cond.classLink RL 21 (exn 1)) ∈ wsL_stageOf := by decide +kernel
  have hh : ∀ (e1 : Nat) (v : Int32), hc_L_stageOf e1 = some v → ∀ (H1 : Heap) (locs1 : List Loc) (ls : Array Slot) (L rest : List Value) (q9 : Addr) (ce : Cell) (σ1 : aM), lh ad ls 4 L → H1[q9]? = some ce → ce.vm = .none → s.vm.findClass (exn e1) = some ce.cls → va_P D vwCl (wl cI cZ cA cL ad σ1) H1 → va_S (AA ad s.heap.size) s.heap H1 locs1 → Qa v σ1 → vx_W p l e { frames := 8, cells := 2 * 2, slots := 6 * (2 * 2), locals := 124 } s m args below meth c H1 locs1 (n * 2 + 2) (6 * (n * 2) + 6 * 2) (vx_MQ below (va_Qi Qa (BB D cI cZ cA cL ad) (AA ad s.heap.size)) (XF ad s.heap.size) args s (2 * 2) (6 * (2 * 2)) (AA ad s.heap.size)) (F0 m 4 ls rest) q9 := by
    intro e1 v hv H1 locs1 ls L rest q9 ce σ1 hl9 hce hcv hcl hP hS hq
    unfold hc_L_stageOf at hv
    by_cases h0 : e1 = 1
    · subst h0
      rw [if_pos rfl] at hv
      obtain rfl := Option.some.inj hv
      exact hand_ok (own := RL) (hp := 12) (a1 := 13) (n := 1) [] { startPc := 0, endPc := 9, handlerPc := 12, catchType := 21 } [] hx hb hown hts hK hr hlocks hX.1 (by rw [htab]; rfl) (fun z hz => by cases hz) (by decide) (by decide) hl1 (by decide +kernel) rfl (ast_n (k := 3) hx hb dL_stageOf_12 (by decide)) dL_stageOf_13 rfl dL_stageOf_14 ⟨hn2, hn3⟩ hl9 hce hcv hcl hP hS hq
    · rw [if_neg h0] at hv
      cases hv
  refine ruL_c (n := 0) (n2 := 1) rfl (ru_aload_n (k := 2) hx hb dL_stageOf_0) ?_
  refine ruL_c (n := 1) (n2 := 2) rfl (ru_iconst hx hb dL_stageOf_1 rfl) ?_
  refine ruL_c (n := 2) (n2 := 3) rfl (ru_aload_n (k := 0) hx hb dL_stageOf_2) ?_
  refine ruL_c (n := 3) (n2 := 4) rfl (ru_iload_n (k := 1) hx hb dL_stageOf_3) ?_
  refine ruL_c (n := 4) (n2 := 5) rfl (ru_callC (own := RL) hx hb hml hown hts hK hN hX (c_X5_stageOf l hl D cI cZ cA cL ad sa hi) (cwV 1 hts gL_stageOf_X5_stageOf rfl rfl rfl (by decide +kernel) ⟨Nat.le_of_ble_eq_true rfl, Nat.le_of_ble_eq_true rfl⟩) dL_stageOf_4 ⟨hn2, hn3⟩ hh) ?_
  refine ruL_c (n := 5) (n2 := 6) rfl (ru_bot) ?_
  refine ruL_c (n := 6) (n2 := 7) rfl (ru_bot) ?_
  refine ruL_c (n := 7) (n2 := 8) rfl (ru_i2l hx hb dL_stageOf_7) ?_
  refine ruL_c (n := 8) (n2 := 9) rfl (ru_last hx hb hK hi dL_stageOf_8) ?_
  refine ruL_c (n := 9) (n2 := 10) rfl (ru_goto hx hb dL_stageOf_9 (by decide)) ?_
  refine ruL_c (n := 10) (n2 := 11) rfl (ru_bot) ?_
  refine ruL_c (n := 11) (n2 := 12) rfl (ru_bot) ?_
  refine ruL_c (n := 12) (n2 := 13) rfl (ru_bot) ?_
  refine ruL_c (n := 13) (n2 := 14) rfl (ru_bot) ?_
  refine ruL_c (n := 14) (n2 := 15) rfl (ru_bot) ?_
  refine ruL_c (n := 15) (n2 := 16) rfl (ru_iconst hx hb dL_stageOf_15 rfl) ?_
  refine ruL_c (n := 16) (n2 := 17) rfl (ru_iretX hx hb hK hr hlocks dL_stageOf_16 ⟨hn1, Nat.mul_le_mul_left 6 hn1⟩) ?_
  exact trivial

-- helper wasShortOf
def hc_L_wasShortOf (e : Nat) : Option Int32 := if e = 1 then some 1 else none
def f_L_wasShortOf (p0 : Int32) (p1 : Int32) (σ : aM) : Option (Int32 × aM) := bnC (f_X5_wasShortOf p0 p1 σ) hc_L_wasShortOf (fun r σ1 => some (0, mput σ1 178 (ix 0) r))
def F_L_wasShortOf : aF := fun As σ => match As with
  | [.ref 0, .int p0, .int p1, .ref 178] => f_L_wasShortOf p0 p1 σ
  | _ => none
def T_L_wasShortOf : aTw := fun Qa KN => [I_aload 3 1, I_const 0 1, I_aload 0 1, I_iload 1 1, I_iload 2 1, I_callC 2 F_X5_wasShortOf hc_L_wasShortOf KN Qa, I_bot, I_bot, I_i2l, I_last, I_goto 17, I_bot, I_bot, I_bot, I_bot, I_bot, I_bot, I_const 0 1, I_iret Qa]
set_option maxHeartbeats 4000000 in
set_option maxRecDepth 100000 in
theorem s_L_wasShortOf : runsW T_L_wasShortOf 5 F_L_wasShortOf := by
  intro Qa K hw As σ y h hQ
  unfold F_L_wasShortOf at h
  split at h
  · rename_i p0 p1
    unfold f_L_wasShortOf at h
    show K 0 (0, [.ref 0, .int p0, .int p1, .ref 178, .null], [], σ)
    obtain ⟨e1, r1, σ1, q1, hc⟩ := bnC_some h
    refine hw 0 (by decide) 6 _ ?_
    show ∃ e1 r1 σ1, f_X5_wasShortOf p0 p1 σ = some (e1, r1, σ1) ∧ (e1 = 0 → K 1 (8, [.ref 0, .int p0, .int p1, .ref 178, .null], [.int r1, .int 0, .ref 178], σ1)) ∧ (¬ e1 = 0 → ∃ v, hc_L_wasShortOf e1 = some v ∧ Qa v σ1)
    refine ⟨e1, r1, σ1, q1, fun h0 => ?_, fun h0 => ?_⟩
    · rcases hc with ⟨-, h⟩ | ⟨h1, -⟩
      · obtain rfl := Option.some.inj h
        refine hw 1 (by decide) 5 _ ?_
        show kd 178 = 4 ∧ (inb 0 1 = true ∧ ∃ v : Int32, r1.toInt64 = v.toInt64 ∧ Qa 0 (mput σ1 178 (ix 0) v))
        exact ⟨rfl, by decide, r1, rfl, hQ⟩
      · exact absurd h0 h1
    · rcases hc with ⟨h1, -⟩ | ⟨-, v, hv, h⟩
      · exact absurd h1 h0
      · obtain rfl := h
        exact ⟨v, hv, hQ⟩
  · cases h
theorem h_L_wasShortOf : shp [] 5 F_L_wasShortOf := by
  intro As σ r σ' h
  unfold F_L_wasShortOf at h
  split at h
  · exact ⟨by simp [Value.category], Nat.le_of_ble_eq_true rfl⟩
  · cases h
set_option maxHeartbeats 4000000 in
set_option maxRecDepth 100000 in
theorem c_L_wasShortOf (l : Launch) (hl : l.stackTraces = false) (D : va_G) (cI cZ cA cL : ClassId) (ad sa : Nat → Nat) (hi : adI ad) : CtW l yL_wasShortOf wsL_wasShortOf { frames := 8, cells := 6, slots := 36, locals := 125 } 6 D cI cZ cA cL ad sa F_L_wasShortOf := by
  refine mk_W (mf := 3) F_L_wasShortOf T_L_wasShortOf (by decide +kernel) rfl ?_ h_L_wasShortOf s_L_wasShortOf
  intro p e s m args below meth c Qa ⟨⟨hx, hb, hml, hown, hts, hr, hlocks, hK, hN⟩, hX, hC, htab⟩ n hn
  have hn1 : n * 3 ≤ 2 * 3 := by omega
  have hn2 : n * 3 + 3 ≤ 2 * 3 := by omega
  have hn3 : 6 * (n * 3) + 6 * 3 ≤ 6 * (2 * 3) := by omega
  have hl1 : (Cond.classLink RL 21 (exn 1)) ∈ wsL_wasShortOf := by decide +kernel
  have hh : ∀ (e1 : Nat) (v : Int32), hc_L_wasShortOf e1 = some v → ∀ (H1 : Heap) (locs1 : List Loc) (ls : Array Slot) (L rest : List Value) (q9 : Addr) (ce : Cell) (σ1 : aM), lh ad ls 5 L → H1[q9]? = some ce → ce.vm = .none → s.vm.findClass (exn e1) = some ce.cls → va_P D vwCl (wl cI cZ cA cL ad σ1) H1 → va_S (AA ad s.heap.size) s.heap H1 locs1 → Qa v σ1 → vx_W p l e { frames := 8, cells := 2 * 3, slots := 6 * (2 * 3), locals := 125 } s m args below meth c H1 locs1 (n * 3 + 3) (6 * (n * 3) + 6 * 3) (vx_MQ below (va_Qi Qa (BB D cI cZ cA cL ad) (AA ad s.heap.size)) (XF ad s.heap.size) args s (2 * 3) (6 * (2 * 3)) (AA ad s.heap.size)) (F0 m 5 ls rest) q9 := by
    intro e1 v hv H1 locs1 ls L rest q9 ce σ1 hl9 hce hcv hcl hP hS hq
    unfold hc_L_wasShortOf at hv
    by_cases h0 : e1 = 1
    · subst h0
      rw [if_pos rfl] at hv
      obtain rfl := Option.some.inj hv
      exact hand_ok (own := RL) (hp := 13) (a1 := 15) (n := 1) [] { startPc := 0, endPc := 10, handlerPc := 13, catchType := 21 } [] hx hb hown hts hK hr hlocks hX.1 (by rw [htab]; rfl) (fun z hz => by cases hz) (by decide) (by decide) hl1 (by decide +kernel) rfl (ast_w hx hb dL_wasShortOf_13 (by decide)) dL_wasShortOf_15 rfl dL_wasShortOf_16 ⟨hn2, hn3⟩ hl9 hce hcv hcl hP hS hq
    · rw [if_neg h0] at hv
      cases hv
  refine ruL_c (n := 0) (n2 := 1) rfl (ru_aload_n (k := 3) hx hb dL_wasShortOf_0) ?_
  refine ruL_c (n := 1) (n2 := 2) rfl (ru_iconst hx hb dL_wasShortOf_1 rfl) ?_
  refine ruL_c (n := 2) (n2 := 3) rfl (ru_aload_n (k := 0) hx hb dL_wasShortOf_2) ?_
  refine ruL_c (n := 3) (n2 := 4) rfl (ru_iload_n (k := 1) hx hb dL_wasShortOf_3) ?_
  refine ruL_c (n := 4) (n2 := 5) rfl (ru_iload_n (k := 2) hx hb dL_wasShortOf_4) ?_
  refine ruL_c (n := 5) (n2 := 6) rfl (ru_callC (own := RL) hx hb hml hown hts hK hN hX (c_X5_wasShortOf l hl D cI cZ cA cL ad sa hi) (cwV 2 hts gL_wasShortOf_X5_wasShortOf rfl rfl rfl (by decide +kernel) ⟨Nat.le_of_ble_eq_true rfl, Nat.le_of_ble_eq_true rfl⟩) dL_wasShortOf_5 ⟨hn2, hn3⟩ hh) ?_
  refine ruL_c (n := 6) (n2 := 7) rfl (ru_bot) ?_
  refine ruL_c (n := 7) (n2 := 8) rfl (ru_bot) ?_
  refine ruL_c (n := 8) (n2 := 9) rfl (ru_i2l hx hb dL_wasShortOf_8) ?_
  refine ruL_c (n := 9) (n2 := 10) rfl (ru_last hx hb hK hi dL_wasShortOf_9) ?_
  refine ruL_c (n := 10) (n2 := 11) rfl (ru_goto hx hb dL_wasShortOf_10 (by decide)) ?_
  refine ruL_c (n := 11) (n2 := 12) rfl (ru_bot) ?_
  refine ruL_c (n := 12) (n2 := 13) rfl (ru_bot) ?_
  refine ruL_c (n := 13) (n2 := 14) rfl (ru_bot) ?_
  refine ruL_c (n := 14) (n2 := 15) rfl (ru_bot) ?_
  refine ruL_c (n := 15) (n2 := 16) rfl (ru_bot) ?_
  refine ruL_c (n := 16) (n2 := 17) rfl (ru_bot) ?_
  refine ruL_c (n := 17) (n2 := 18) rfl (ru_iconst hx hb dL_wasShortOf_17 rfl) ?_
  refine ruL_c (n := 18) (n2 := 19) rfl (ru_iretX hx hb hK hr hlocks dL_wasShortOf_18 ⟨hn1, Nat.mul_le_mul_left 6 hn1⟩) ?_
  exact trivial

-- helper timesShort
def hc_L_timesShort (e : Nat) : Option Int32 := if e = 1 then some 1 else none
def f_L_timesShort (p0 : Int32) (σ : aM) : Option (Int32 × aM) := bnC (f_X5_timesShort p0 σ) hc_L_timesShort (fun r σ1 => some (0, mput σ1 178 (ix 0) r))
def F_L_timesShort : aF := fun As σ => match As with
  | [.ref 0, .int p0, .ref 178] => f_L_timesShort p0 σ
  | _ => none
def T_L_timesShort : aTw := fun Qa KN => [I_aload 2 1, I_const 0 1, I_aload 0 1, I_iload 1 1, I_callC 1 F_X5_timesShort hc_L_timesShort KN Qa, I_bot, I_bot, I_i2l, I_last, I_goto 15, I_bot, I_bot, I_bot, I_bot, I_bot, I_const 0 1, I_iret Qa]
set_option maxHeartbeats 4000000 in
set_option maxRecDepth 100000 in
theorem s_L_timesShort : runsW T_L_timesShort 4 F_L_timesShort := by
  intro Qa K hw As σ y h hQ
  unfold F_L_timesShort at h
  split at h
  · rename_i p0
    unfold f_L_timesShort at h
    show K 0 (0, [.ref 0, .int p0, .ref 178, .null], [], σ)
    obtain ⟨e1, r1, σ1, q1, hc⟩ := bnC_some h
    refine hw 0 (by decide) 5 _ ?_
    show ∃ e1 r1 σ1, f_X5_timesShort p0 σ = some (e1, r1, σ1) ∧ (e1 = 0 → K 1 (7, [.ref 0, .int p0, .ref 178, .null], [.int r1, .int 0, .ref 178], σ1)) ∧ (¬ e1 = 0 → ∃ v, hc_L_timesShort e1 = some v ∧ Qa v σ1)
    refine ⟨e1, r1, σ1, q1, fun h0 => ?_, fun h0 => ?_⟩
    · rcases hc with ⟨-, h⟩ | ⟨h1, -⟩
      · obtain rfl := Option.some.inj h
        refine hw 1 (by decide) 5 _ ?_
        show kd 178 = 4 ∧ (inb 0 1 = true ∧ ∃ v : Int32, r1.toInt64 = v.toInt64 ∧ Qa 0 (mput σ1 178 (ix 0) v))
        exact ⟨rfl, by decide, r1, rfl, hQ⟩
      · exact absurd h0 h1
    · rcases hc with ⟨h1, -⟩ | ⟨-, v, hv, h⟩
      · exact absurd h1 h0
      · obtain rfl := h
        exact ⟨v, hv, hQ⟩
  · cases h
theorem h_L_timesShort : shp [] 4 F_L_timesShort := by
  intro As σ r σ' h
  unfold F_L_timesShort at h
  split at h
  · exact ⟨by simp [Value.category], Nat.le_of_ble_eq_true rfl⟩
  · cases h
set_option maxHeartbeats 4000000 in
set_option maxRecDepth 100000 in
theorem c_L_timesShort (l : Launch) (hl : l.stackTraces = false) (D : va_G) (cI cZ cA cL : ClassId) (ad sa : Nat → Nat) (hi : adI ad) : CtW l yL_timesShort wsL_timesShort { frames := 8, cells := 4, slots := 24, locals := 124 } 4 D cI cZ cA cL ad sa F_L_timesShort := by
  refine mk_W (mf := 2) F_L_timesShort T_L_timesShort (by decide +kernel) rfl ?_ h_L_timesShort s_L_timesShort
  intro p e s m args below meth c Qa ⟨⟨hx, hb, hml, hown, hts, hr, hlocks, hK, hN⟩, hX, hC, htab⟩ n hn
  have hn1 : n * 2 ≤ 2 * 2 := by omega
  have hn2 : n * 2 + 2 ≤ 2 * 2 := by omega
  have hn3 : 6 * (n * 2) + 6 * 2 ≤ 6 * (2 * 2) := by omega
  have hl1 : (Cond.classLink RL 21 (exn 1)) ∈ wsL_timesShort := by decide +kernel
  have hh : ∀ (e1 : Nat) (v : Int32), hc_L_timesShort e1 = some v → ∀ (H1 : Heap) (locs1 : List Loc) (ls : Array Slot) (L rest : List Value) (q9 : Addr) (ce : Cell) (σ1 : aM), lh ad ls 4 L → H1[q9]? = some ce → ce.vm = .none → s.vm.findClass (exn e1) = some ce.cls → va_P D vwCl (wl cI cZ cA cL ad σ1) H1 → va_S (AA ad s.heap.size) s.heap H1 locs1 → Qa v σ1 → vx_W p l e { frames := 8, cells := 2 * 2, slots := 6 * (2 * 2), locals := 124 } s m args below meth c H1 locs1 (n * 2 + 2) (6 * (n * 2) + 6 * 2) (vx_MQ below (va_Qi Qa (BB D cI cZ cA cL ad) (AA ad s.heap.size)) (XF ad s.heap.size) args s (2 * 2) (6 * (2 * 2)) (AA ad s.heap.size)) (F0 m 4 ls rest) q9 := by
    intro e1 v hv H1 locs1 ls L rest q9 ce σ1 hl9 hce hcv hcl hP hS hq
    unfold hc_L_timesShort at hv
    by_cases h0 : e1 = 1
    · subst h0
      rw [if_pos rfl] at hv
      obtain rfl := Option.some.inj hv
      exact hand_ok (own := RL) (hp := 12) (a1 := 13) (n := 1) [] { startPc := 0, endPc := 9, handlerPc := 12, catchType := 21 } [] hx hb hown hts hK hr hlocks hX.1 (by rw [htab]; rfl) (fun z hz => by cases hz) (by decide) (by decide) hl1 (by decide +kernel) rfl (ast_n (k := 3) hx hb dL_timesShort_12 (by decide)) dL_timesShort_13 rfl dL_timesShort_14 ⟨hn2, hn3⟩ hl9 hce hcv hcl hP hS hq
    · rw [if_neg h0] at hv
      cases hv
  refine ruL_c (n := 0) (n2 := 1) rfl (ru_aload_n (k := 2) hx hb dL_timesShort_0) ?_
  refine ruL_c (n := 1) (n2 := 2) rfl (ru_iconst hx hb dL_timesShort_1 rfl) ?_
  refine ruL_c (n := 2) (n2 := 3) rfl (ru_aload_n (k := 0) hx hb dL_timesShort_2) ?_
  refine ruL_c (n := 3) (n2 := 4) rfl (ru_iload_n (k := 1) hx hb dL_timesShort_3) ?_
  refine ruL_c (n := 4) (n2 := 5) rfl (ru_callC (own := RL) hx hb hml hown hts hK hN hX (c_X5_timesShort l hl D cI cZ cA cL ad sa hi) (cwV 1 hts gL_timesShort_X5_timesShort rfl rfl rfl (by decide +kernel) ⟨Nat.le_of_ble_eq_true rfl, Nat.le_of_ble_eq_true rfl⟩) dL_timesShort_4 ⟨hn2, hn3⟩ hh) ?_
  refine ruL_c (n := 5) (n2 := 6) rfl (ru_bot) ?_
  refine ruL_c (n := 6) (n2 := 7) rfl (ru_bot) ?_
  refine ruL_c (n := 7) (n2 := 8) rfl (ru_i2l hx hb dL_timesShort_7) ?_
  refine ruL_c (n := 8) (n2 := 9) rfl (ru_last hx hb hK hi dL_timesShort_8) ?_
  refine ruL_c (n := 9) (n2 := 10) rfl (ru_goto hx hb dL_timesShort_9 (by decide)) ?_
  refine ruL_c (n := 10) (n2 := 11) rfl (ru_bot) ?_
  refine ruL_c (n := 11) (n2 := 12) rfl (ru_bot) ?_
  refine ruL_c (n := 12) (n2 := 13) rfl (ru_bot) ?_
  refine ruL_c (n := 13) (n2 := 14) rfl (ru_bot) ?_
  refine ruL_c (n := 14) (n2 := 15) rfl (ru_bot) ?_
  refine ruL_c (n := 15) (n2 := 16) rfl (ru_iconst hx hb dL_timesShort_15 rfl) ?_
  refine ruL_c (n := 16) (n2 := 17) rfl (ru_iretX hx hb hK hr hlocks dL_timesShort_16 ⟨hn1, Nat.mul_le_mul_left 6 hn1⟩) ?_
  exact trivial

