-- CueTour$Book.append
def f_X0_append (p0 : Int32) (σ : aM) : Option (Int32 × aM) := if inb (σ 5 2) 20 = true then some (((σ 5 2) + 1) - 1, mput (mput σ 26 (ix (σ 5 2)) p0) 5 2 ((σ 5 2) + 1)) else none
def F_X0_append : aF := fun As σ => match As with
  | [.int p0] => f_X0_append p0 σ
  | _ => none
def T_X0_append (Qa : Int32 → aM → Prop) : List aI := [I_aload 0 1, I_getR 5 26, I_bot, I_bot, I_aload 0 1, I_getI 5 2, I_bot, I_bot, I_iload 1 1, I_iast, I_aload 0 1, I_dup, I_getI 5 2, I_bot, I_bot, I_const 1 1, I_bin fun x y => x + y, I_putI 5 2, I_bot, I_bot, I_aload 0 1, I_getI 5 2, I_bot, I_bot, I_const 1 1, I_bin fun x y => x - y, I_iret Qa]
set_option maxHeartbeats 4000000 in
set_option maxRecDepth 100000 in
theorem s_X0_append : runs T_X0_append [.ref 5] 2 F_X0_append := by
  intro Qa K hw hf As σ r σ' h hQ
  unfold F_X0_append at h
  split at h
  · rename_i p0
    unfold f_X0_append at h
    have hQ : Qa (r, σ').1 (r, σ').2 := hQ
    generalize (r, σ') = y at h hQ
    show K (0, [.ref 5, .int p0], [], σ)
    obtain ⟨g1, h⟩ := ite_some h
    obtain rfl := Option.some.inj h
    refine hw 17 _ ?_
    show kd 26 = 1 ∧ (inb (σ 5 2) 20 = true ∧ (Qa (((σ 5 2) + 1) - 1) (mput (mput σ 26 (ix (σ 5 2)) p0) 5 2 ((σ 5 2) + 1))))
    refine ⟨rfl, g1, hQ⟩
  · cases h
theorem h_X0_append : shp [.ref 5] 2 F_X0_append := by
  intro As σ r σ' h
  unfold F_X0_append at h
  split at h
  · exact ⟨by simp [Value.category], Nat.le_of_ble_eq_true rfl⟩
  · cases h
set_option maxHeartbeats 4000000 in
set_option maxRecDepth 100000 in
theorem c_X0_append (l : Launch) (D : va_G) (cI cZ cA cL : ClassId) (ad : Nat → Nat) (hi : adI ad) : CtI l yX0_append wsX0_append { frames := 0, cells := 0, slots := 0, locals := 0 } D cI cZ cA cL ad [.ref 5] F_X0_append := by
  refine mk_I [.ref 5] F_X0_append T_X0_append (by decide +kernel) rfl ?_ h_X0_append s_X0_append
  intro p e s m args below meth c Qa ⟨hx, hb, hml, hown, hts, hr, hlocks, hK, hN⟩
  have hin0 : ∀ w ∈ u_ws RX0 TX0 3, w ∈ wsX0_append := by decide +kernel
  have hl9 : (Cond.fieldLink RX0 9 RX0 (TX0 0).2.1 (TX0 0).2.2.1) ∈ wsX0_append := by decide +kernel
  have hl20 : (Cond.fieldLink RX0 20 RX0 (TX0 2).2.1 (TX0 2).2.2.1) ∈ wsX0_append := by decide +kernel
  refine ruL_c (n := 0) (n2 := 1) rfl (ru_aload_n (k := 0) hx hb dX0_append_0) ?_
  refine ruL_c (n := 1) (n2 := 2) rfl (ru_getR (own := RX0) (j := 0) (T := TX0) hx hb hown hK hts hin0 (by decide) rfl rfl (by decide) rfl hl9 dX0_append_1) ?_
  refine ruL_c (n := 2) (n2 := 3) rfl (ru_bot) ?_
  refine ruL_c (n := 3) (n2 := 4) rfl (ru_bot) ?_
  refine ruL_c (n := 4) (n2 := 5) rfl (ru_aload_n (k := 0) hx hb dX0_append_4) ?_
  refine ruL_c (n := 5) (n2 := 6) rfl (ru_getI (own := RX0) (j := 2) (T := TX0) hx hb hown hK hts hin0 (by decide) rfl rfl (by decide) rfl hl20 dX0_append_5) ?_
  refine ruL_c (n := 6) (n2 := 7) rfl (ru_bot) ?_
  refine ruL_c (n := 7) (n2 := 8) rfl (ru_bot) ?_
  refine ruL_c (n := 8) (n2 := 9) rfl (ru_iload_n (k := 1) hx hb dX0_append_8) ?_
  refine ruL_c (n := 9) (n2 := 10) rfl (ru_iast hx hb hK hi dX0_append_9) ?_
  refine ruL_c (n := 10) (n2 := 11) rfl (ru_aload_n (k := 0) hx hb dX0_append_10) ?_
  refine ruL_c (n := 11) (n2 := 12) rfl (ru_dup hx hb dX0_append_11) ?_
  refine ruL_c (n := 12) (n2 := 13) rfl (ru_getI (own := RX0) (j := 2) (T := TX0) hx hb hown hK hts hin0 (by decide) rfl rfl (by decide) rfl hl20 dX0_append_12) ?_
  refine ruL_c (n := 13) (n2 := 14) rfl (ru_bot) ?_
  refine ruL_c (n := 14) (n2 := 15) rfl (ru_bot) ?_
  refine ruL_c (n := 15) (n2 := 16) rfl (ru_iconst hx hb dX0_append_15 rfl) ?_
  refine ruL_c (n := 16) (n2 := 17) rfl (ru_iadd hx hb dX0_append_16) ?_
  refine ruL_c (n := 17) (n2 := 18) rfl (ru_putI (own := RX0) (j := 2) (T := TX0) hx hb hown hK hi hts hin0 tyX0 tyX0_ok nmX0 (by decide) rfl rfl (by decide) rfl hl20 rfl (by decide +kernel) dX0_append_17) ?_
  refine ruL_c (n := 18) (n2 := 19) rfl (ru_bot) ?_
  refine ruL_c (n := 19) (n2 := 20) rfl (ru_bot) ?_
  refine ruL_c (n := 20) (n2 := 21) rfl (ru_aload_n (k := 0) hx hb dX0_append_20) ?_
  refine ruL_c (n := 21) (n2 := 22) rfl (ru_getI (own := RX0) (j := 2) (T := TX0) hx hb hown hK hts hin0 (by decide) rfl rfl (by decide) rfl hl20 dX0_append_21) ?_
  refine ruL_c (n := 22) (n2 := 23) rfl (ru_bot) ?_
  refine ruL_c (n := 23) (n2 := 24) rfl (ru_bot) ?_
  refine ruL_c (n := 24) (n2 := 25) rfl (ru_iconst hx hb dX0_append_24 rfl) ?_
  refine ruL_c (n := 25) (n2 := 26) rfl (ru_isub hx hb dX0_append_25) ?_
  refine ruL_c (n := 26) (n2 := 27) rfl (ru_iret hx hb hK hr hlocks dX0_append_26) ?_
  exact trivial

-- CueTour$Book.countShortLogs
def l_X0_countShortLogs_4 (x1 : Int32) : Nat → Int32 → Int32 → aM → (Int32 → Int32 → aM → Option (Int32 × aM)) → Option (Int32 × aM)
  | 0, _, _, _, _ => none
  | n + 1, v2, v3, σ4, k => if (σ4 5 2) ≤ v3 then k v2 v3 σ4 else if inb v3 20 = true then if inb x1 30 = true then if (σ4 (158 + ix v3) (ix x1)) = 0 then l_X0_countShortLogs_4 x1 n v2 (v3 + 1) σ4 k else l_X0_countShortLogs_4 x1 n (v2 + 1) (v3 + 1) σ4 k else none else none
def f_X0_countShortLogs (p0 : Int32) (σ : aM) : Option (Int32 × aM) := l_X0_countShortLogs_4 p0 lf 0 0 σ (fun v9 v10 σ11 => some (v9, σ11))
def F_X0_countShortLogs : aF := fun As σ => match As with
  | [.int p0] => f_X0_countShortLogs p0 σ
  | _ => none
def T_X0_countShortLogs (Qa : Int32 → aM → Prop) : List aI := [I_const 0 1, I_istore 2 1, I_const 0 1, I_istore 3 1, I_iload 3 1, I_aload 0 1, I_getI 5 2, I_bot, I_bot, I_icmp (fun x y => y ≤ x) 32, I_bot, I_bot, I_aload 0 1, I_getR 5 57, I_bot, I_bot, I_iload 3 1, I_aald, I_iload 1 1, I_iald, I_if (fun x => x = 0) 26, I_bot, I_bot, I_iinc 2 (1), I_bot, I_bot, I_iinc 3 (1), I_bot, I_bot, I_goto 4, I_bot, I_bot, I_iload 2 1, I_iret Qa]
set_option maxHeartbeats 4000000 in
set_option maxRecDepth 100000 in
theorem t_X0_countShortLogs_4 {Qa : Int32 → aM → Prop} {K : aS → Prop} (hw : ∀ k x, wp (T_X0_countShortLogs Qa) k K x → K x) (hf : ∀ pc L i st σ, K (pc, L.set i .null, st, σ) → K (pc, L, st, σ)) (x1 : Int32) (y : Int32 × aM) (k : Int32 → Int32 → aM → Option (Int32 × aM)) :
    ∀ (n : Nat) (v2 : Int32) (v3 : Int32) (σ4 : aM), l_X0_countShortLogs_4 x1 n v2 v3 σ4 k = some y → (∀ (w0 : Int32) (w1 : Int32) (τ : aM), k w0 w1 τ = some y → K (32, [.ref 5, .int x1, .int w0, .int w1], [], τ)) → K (4, [.ref 5, .int x1, .int v2, .int v3], [], σ4) := by
  intro n
  induction n with
  | zero =>
    intro v2 v3 σ4 h hk
    exact absurd h (by simp [l_X0_countShortLogs_4])
  | succ n ih =>
    intro v2 v3 σ4 h hk
    unfold l_X0_countShortLogs_4 at h
    rcases ite_cases h with ⟨c5, h⟩ | ⟨c5, h⟩
    · refine hw 4 _ ?_
      show (((σ4 5 2) ≤ v3) → K (32, [.ref 5, .int x1, .int v2, .int v3], [], σ4)) ∧ (¬ ((σ4 5 2) ≤ v3) → K (12, [.ref 5, .int x1, .int v2, .int v3], [], σ4))
      refine ⟨fun _ => ?_, fun q => absurd c5 q⟩
      exact hk v2 v3 σ4 h
    · refine hw 4 _ ?_
      show (((σ4 5 2) ≤ v3) → K (32, [.ref 5, .int x1, .int v2, .int v3], [], σ4)) ∧ (¬ ((σ4 5 2) ≤ v3) → K (12, [.ref 5, .int x1, .int v2, .int v3], [], σ4))
      refine ⟨fun q => absurd q c5, fun _ => ?_⟩
      obtain ⟨g6, h⟩ := ite_some h
      obtain ⟨g7, h⟩ := ite_some h
      rcases ite_cases h with ⟨c8, h⟩ | ⟨c8, h⟩
      · refine hw 7 _ ?_
        show kd 57 = 3 ∧ (inb v3 20 = true ∧ (kd (158 + ix v3) = 1 ∧ (inb x1 (ln (158 + ix v3)) = true ∧ ((((σ4 (158 + ix v3) (ix x1)) = 0) → K (26, [.ref 5, .int x1, .int v2, .int v3], [], σ4)) ∧ (¬ ((σ4 (158 + ix v3) (ix x1)) = 0) → K (23, [.ref 5, .int x1, .int v2, .int v3], [], σ4))))))
        refine ⟨rfl, g6, (row57_kd g6), (by rw [row57_ln g6]; exact g7), ⟨fun _ => ?_, fun q => absurd c8 q⟩⟩
        refine hw 2 _ ?_
        show K (4, [.ref 5, .int x1, .int v2, .int (v3 + 1)], [], σ4)
        exact ih v2 (v3 + 1) σ4 h hk
      · refine hw 7 _ ?_
        show kd 57 = 3 ∧ (inb v3 20 = true ∧ (kd (158 + ix v3) = 1 ∧ (inb x1 (ln (158 + ix v3)) = true ∧ ((((σ4 (158 + ix v3) (ix x1)) = 0) → K (26, [.ref 5, .int x1, .int v2, .int v3], [], σ4)) ∧ (¬ ((σ4 (158 + ix v3) (ix x1)) = 0) → K (23, [.ref 5, .int x1, .int v2, .int v3], [], σ4))))))
        refine ⟨rfl, g6, (row57_kd g6), (by rw [row57_ln g6]; exact g7), ⟨fun q => absurd q c8, fun _ => ?_⟩⟩
        refine hw 3 _ ?_
        show K (4, [.ref 5, .int x1, .int (v2 + 1), .int (v3 + 1)], [], σ4)
        exact ih (v2 + 1) (v3 + 1) σ4 h hk

set_option maxHeartbeats 4000000 in
set_option maxRecDepth 100000 in
theorem s_X0_countShortLogs : runs T_X0_countShortLogs [.ref 5] 4 F_X0_countShortLogs := by
  intro Qa K hw hf As σ r σ' h hQ
  unfold F_X0_countShortLogs at h
  split at h
  · rename_i p0
    unfold f_X0_countShortLogs at h
    have hQ : Qa (r, σ').1 (r, σ').2 := hQ
    generalize (r, σ') = y at h hQ
    show K (0, [.ref 5, .int p0, .null, .null], [], σ)
    refine hw 4 _ ?_
    show K (4, [.ref 5, .int p0, .int 0, .int 0], [], σ)
    refine t_X0_countShortLogs_4 hw hf p0 _ _ lf 0 0 σ h (fun v9 v10 σ11 h => ?_)
    show K (32, [.ref 5, .int p0, .int v9, .int v10], [], σ11)
    obtain rfl := Option.some.inj h
    refine hw 2 _ ?_
    show Qa v9 σ11
    refine hQ
  · cases h
theorem h_X0_countShortLogs : shp [.ref 5] 4 F_X0_countShortLogs := by
  intro As σ r σ' h
  unfold F_X0_countShortLogs at h
  split at h
  · exact ⟨by simp [Value.category], Nat.le_of_ble_eq_true rfl⟩
  · cases h
set_option maxHeartbeats 4000000 in
set_option maxRecDepth 100000 in
theorem c_X0_countShortLogs (l : Launch) (D : va_G) (cI cZ cA cL : ClassId) (ad : Nat → Nat) (hi : adI ad) : CtI l yX0_countShortLogs wsX0_countShortLogs { frames := 0, cells := 0, slots := 0, locals := 0 } D cI cZ cA cL ad [.ref 5] F_X0_countShortLogs := by
  refine mk_I [.ref 5] F_X0_countShortLogs T_X0_countShortLogs (by decide +kernel) rfl ?_ h_X0_countShortLogs s_X0_countShortLogs
  intro p e s m args below meth c Qa ⟨hx, hb, hml, hown, hts, hr, hlocks, hK, hN⟩
  have hin0 : ∀ w ∈ u_ws RX0 TX0 3, w ∈ wsX0_countShortLogs := by decide +kernel
  have hl20 : (Cond.fieldLink RX0 20 RX0 (TX0 2).2.1 (TX0 2).2.2.1) ∈ wsX0_countShortLogs := by decide +kernel
  have hl17 : (Cond.fieldLink RX0 17 RX0 (TX0 1).2.1 (TX0 1).2.2.1) ∈ wsX0_countShortLogs := by decide +kernel
  refine ruL_c (n := 0) (n2 := 1) rfl (ru_iconst hx hb dX0_countShortLogs_0 rfl) ?_
  refine ruL_c (n := 1) (n2 := 2) rfl (ru_istore_n (k := 2) hx hb dX0_countShortLogs_1) ?_
  refine ruL_c (n := 2) (n2 := 3) rfl (ru_iconst hx hb dX0_countShortLogs_2 rfl) ?_
  refine ruL_c (n := 3) (n2 := 4) rfl (ru_istore_n (k := 3) hx hb dX0_countShortLogs_3) ?_
  refine ruL_c (n := 4) (n2 := 5) rfl (ru_iload_n (k := 3) hx hb dX0_countShortLogs_4) ?_
  refine ruL_c (n := 5) (n2 := 6) rfl (ru_aload_n (k := 0) hx hb dX0_countShortLogs_5) ?_
  refine ruL_c (n := 6) (n2 := 7) rfl (ru_getI (own := RX0) (j := 2) (T := TX0) hx hb hown hK hts hin0 (by decide) rfl rfl (by decide) rfl hl20 dX0_countShortLogs_6) ?_
  refine ruL_c (n := 7) (n2 := 8) rfl (ru_bot) ?_
  refine ruL_c (n := 8) (n2 := 9) rfl (ru_bot) ?_
  refine ruL_c (n := 9) (n2 := 10) rfl (ru_icmpge hx hb dX0_countShortLogs_9 (by decide)) ?_
  refine ruL_c (n := 10) (n2 := 11) rfl (ru_bot) ?_
  refine ruL_c (n := 11) (n2 := 12) rfl (ru_bot) ?_
  refine ruL_c (n := 12) (n2 := 13) rfl (ru_aload_n (k := 0) hx hb dX0_countShortLogs_12) ?_
  refine ruL_c (n := 13) (n2 := 14) rfl (ru_getR (own := RX0) (j := 1) (T := TX0) hx hb hown hK hts hin0 (by decide) rfl rfl (by decide) rfl hl17 dX0_countShortLogs_13) ?_
  refine ruL_c (n := 14) (n2 := 15) rfl (ru_bot) ?_
  refine ruL_c (n := 15) (n2 := 16) rfl (ru_bot) ?_
  refine ruL_c (n := 16) (n2 := 17) rfl (ru_iload_n (k := 3) hx hb dX0_countShortLogs_16) ?_
  refine ruL_c (n := 17) (n2 := 18) rfl (ru_aald hx hb hK dX0_countShortLogs_17) ?_
  refine ruL_c (n := 18) (n2 := 19) rfl (ru_iload_n (k := 1) hx hb dX0_countShortLogs_18) ?_
  refine ruL_c (n := 19) (n2 := 20) rfl (ru_iald hx hb hK dX0_countShortLogs_19) ?_
  refine ruL_c (n := 20) (n2 := 21) rfl (ru_ifeq hx hb dX0_countShortLogs_20 (by decide)) ?_
  refine ruL_c (n := 21) (n2 := 22) rfl (ru_bot) ?_
  refine ruL_c (n := 22) (n2 := 23) rfl (ru_bot) ?_
  refine ruL_c (n := 23) (n2 := 24) rfl (ru_iinc hx hb dX0_countShortLogs_23 rfl) ?_
  refine ruL_c (n := 24) (n2 := 25) rfl (ru_bot) ?_
  refine ruL_c (n := 25) (n2 := 26) rfl (ru_bot) ?_
  refine ruL_c (n := 26) (n2 := 27) rfl (ru_iinc hx hb dX0_countShortLogs_26 rfl) ?_
  refine ruL_c (n := 27) (n2 := 28) rfl (ru_bot) ?_
  refine ruL_c (n := 28) (n2 := 29) rfl (ru_bot) ?_
  refine ruL_c (n := 29) (n2 := 30) rfl (ru_goto hx hb dX0_countShortLogs_29 (by decide)) ?_
  refine ruL_c (n := 30) (n2 := 31) rfl (ru_bot) ?_
  refine ruL_c (n := 31) (n2 := 32) rfl (ru_bot) ?_
  refine ruL_c (n := 32) (n2 := 33) rfl (ru_iload_n (k := 2) hx hb dX0_countShortLogs_32) ?_
  refine ruL_c (n := 33) (n2 := 34) rfl (ru_iret hx hb hK hr hlocks dX0_countShortLogs_33) ?_
  exact trivial

-- CueTour$Rig.put
def f_X3_put (p0 : Int32) (p1 : Int32) (p2 : Int32) (σ : aM) : Option (Int32 × aM) := if inb p0 20 = true then if inb p0 20 = true then some (0, mput (mput σ 22 (ix p0) p1) 23 (ix p0) p2) else none else none
def F_X3_put : aF := fun As σ => match As with
  | [.int p0, .int p1, .int p2] => f_X3_put p0 p1 p2 σ
  | _ => none
def T_X3_put (Qa : Int32 → aM → Prop) : List aI := [I_aload 0 1, I_getR 4 22, I_bot, I_bot, I_iload 1 1, I_iload 2 1, I_iast, I_aload 0 1, I_getR 4 23, I_bot, I_bot, I_iload 1 1, I_iload 3 1, I_iast, I_vret Qa]
set_option maxHeartbeats 4000000 in
set_option maxRecDepth 100000 in
theorem s_X3_put : runs T_X3_put [.ref 4] 4 F_X3_put := by
  intro Qa K hw hf As σ r σ' h hQ
  unfold F_X3_put at h
  split at h
  · rename_i p0 p1 p2
    unfold f_X3_put at h
    have hQ : Qa (r, σ').1 (r, σ').2 := hQ
    generalize (r, σ') = y at h hQ
    show K (0, [.ref 4, .int p0, .int p1, .int p2], [], σ)
    obtain ⟨g1, h⟩ := ite_some h
    obtain ⟨g2, h⟩ := ite_some h
    obtain rfl := Option.some.inj h
    refine hw 11 _ ?_
    show kd 22 = 1 ∧ (inb p0 20 = true ∧ (kd 23 = 1 ∧ (inb p0 20 = true ∧ (Qa 0 (mput (mput σ 22 (ix p0) p1) 23 (ix p0) p2)))))
    refine ⟨rfl, g1, rfl, g2, hQ⟩
  · cases h
theorem h_X3_put : shp [.ref 4] 4 F_X3_put := by
  intro As σ r σ' h
  unfold F_X3_put at h
  split at h
  · exact ⟨by simp [Value.category], Nat.le_of_ble_eq_true rfl⟩
  · cases h
set_option maxHeartbeats 4000000 in
set_option maxRecDepth 100000 in
theorem c_X3_put (l : Launch) (D : va_G) (cI cZ cA cL : ClassId) (ad : Nat → Nat) (hi : adI ad) : CtV l yX3_put wsX3_put { frames := 0, cells := 0, slots := 0, locals := 0 } D cI cZ cA cL ad [.ref 4] F_X3_put := by
  refine mk_V [.ref 4] F_X3_put T_X3_put (by decide +kernel) rfl ?_ h_X3_put s_X3_put
  intro p e s m args below meth c Qa ⟨hx, hb, hml, hown, hts, hr, hlocks, hK, hN⟩
  have hin3 : ∀ w ∈ u_ws RX3 TX3 9, w ∈ wsX3_put := by decide +kernel
  have hl24 : (Cond.fieldLink RX3 24 RX3 (TX3 4).2.1 (TX3 4).2.2.1) ∈ wsX3_put := by decide +kernel
  have hl27 : (Cond.fieldLink RX3 27 RX3 (TX3 5).2.1 (TX3 5).2.2.1) ∈ wsX3_put := by decide +kernel
  refine ruL_c (n := 0) (n2 := 1) rfl (ru_aload_n (k := 0) hx hb dX3_put_0) ?_
  refine ruL_c (n := 1) (n2 := 2) rfl (ru_getR (own := RX3) (j := 4) (T := TX3) hx hb hown hK hts hin3 (by decide) rfl rfl (by decide) rfl hl24 dX3_put_1) ?_
  refine ruL_c (n := 2) (n2 := 3) rfl (ru_bot) ?_
  refine ruL_c (n := 3) (n2 := 4) rfl (ru_bot) ?_
  refine ruL_c (n := 4) (n2 := 5) rfl (ru_iload_n (k := 1) hx hb dX3_put_4) ?_
  refine ruL_c (n := 5) (n2 := 6) rfl (ru_iload_n (k := 2) hx hb dX3_put_5) ?_
  refine ruL_c (n := 6) (n2 := 7) rfl (ru_iast hx hb hK hi dX3_put_6) ?_
  refine ruL_c (n := 7) (n2 := 8) rfl (ru_aload_n (k := 0) hx hb dX3_put_7) ?_
  refine ruL_c (n := 8) (n2 := 9) rfl (ru_getR (own := RX3) (j := 5) (T := TX3) hx hb hown hK hts hin3 (by decide) rfl rfl (by decide) rfl hl27 dX3_put_8) ?_
  refine ruL_c (n := 9) (n2 := 10) rfl (ru_bot) ?_
  refine ruL_c (n := 10) (n2 := 11) rfl (ru_bot) ?_
  refine ruL_c (n := 11) (n2 := 12) rfl (ru_iload_n (k := 1) hx hb dX3_put_11) ?_
  refine ruL_c (n := 12) (n2 := 13) rfl (ru_iload_n (k := 3) hx hb dX3_put_12) ?_
  refine ruL_c (n := 13) (n2 := 14) rfl (ru_iast hx hb hK hi dX3_put_13) ?_
  refine ruL_c (n := 14) (n2 := 15) rfl (ru_vret hx hb hK hr hlocks dX3_put_14) ?_
  exact trivial

-- CueTour$Rig.putHome
def f_X3_putHome (p0 : Int32) (σ : aM) : Option (Int32 × aM) := if inb p0 20 = true then if inb p0 20 = true then bnd (f_X3_put p0 (σ 18 (ix p0)) (σ 19 (ix p0)) σ) (fun r3 σ4 => some (0, σ4)) else none else none
def F_X3_putHome : aF := fun As σ => match As with
  | [.int p0] => f_X3_putHome p0 σ
  | _ => none
def T_X3_putHome (Qa : Int32 → aM → Prop) : List aI := [I_aload 0 1, I_iload 1 1, I_aload 0 1, I_getR 4 18, I_bot, I_bot, I_iload 1 1, I_iald, I_aload 0 1, I_getR 4 19, I_bot, I_bot, I_iload 1 1, I_iald, I_callVv 4 3 F_X3_put, I_bot, I_bot, I_vret Qa]
set_option maxHeartbeats 4000000 in
set_option maxRecDepth 100000 in
theorem s_X3_putHome : runs T_X3_putHome [.ref 4] 2 F_X3_putHome := by
  intro Qa K hw hf As σ r σ' h hQ
  unfold F_X3_putHome at h
  split at h
  · rename_i p0
    unfold f_X3_putHome at h
    have hQ : Qa (r, σ').1 (r, σ').2 := hQ
    generalize (r, σ') = y at h hQ
    show K (0, [.ref 4, .int p0], [], σ)
    obtain ⟨g1, h⟩ := ite_some h
    obtain ⟨g2, h⟩ := ite_some h
    obtain ⟨r3, σ4, e5, h⟩ := bnd_some h
    refine hw 11 _ ?_
    show kd 18 = 1 ∧ (inb p0 20 = true ∧ (kd 19 = 1 ∧ (inb p0 20 = true ∧ (∃ r3 σ4, f_X3_put p0 (σ 18 (ix p0)) (σ 19 (ix p0)) σ = some (r3, σ4) ∧ K (17, [.ref 4, .int p0], [], σ4)))))
    refine ⟨rfl, g1, rfl, g2, ⟨r3, σ4, e5, ?_⟩⟩
    obtain rfl := Option.some.inj h
    refine hw 1 _ ?_
    show Qa 0 σ4
    refine hQ
  · cases h
theorem h_X3_putHome : shp [.ref 4] 2 F_X3_putHome := by
  intro As σ r σ' h
  unfold F_X3_putHome at h
  split at h
  · exact ⟨by simp [Value.category], Nat.le_of_ble_eq_true rfl⟩
  · cases h
set_option maxHeartbeats 4000000 in
set_option maxRecDepth 100000 in
theorem c_X3_putHome (l : Launch) (D : va_G) (cI cZ cA cL : ClassId) (ad : Nat → Nat) (hi : adI ad) : CtV l yX3_putHome wsX3_putHome { frames := 1, cells := 0, slots := 0, locals := 23 } D cI cZ cA cL ad [.ref 4] F_X3_putHome := by
  refine mk_V [.ref 4] F_X3_putHome T_X3_putHome (by decide +kernel) rfl ?_ h_X3_putHome s_X3_putHome
  intro p e s m args below meth c Qa ⟨hx, hb, hml, hown, hts, hr, hlocks, hK, hN⟩
  have hin3 : ∀ w ∈ u_ws RX3 TX3 9, w ∈ wsX3_putHome := by decide +kernel
  have hl9 : (Cond.fieldLink RX3 9 RX3 (TX3 0).2.1 (TX3 0).2.2.1) ∈ wsX3_putHome := by decide +kernel
  have hl15 : (Cond.fieldLink RX3 15 RX3 (TX3 1).2.1 (TX3 1).2.2.1) ∈ wsX3_putHome := by decide +kernel
  refine ruL_c (n := 0) (n2 := 1) rfl (ru_aload_n (k := 0) hx hb dX3_putHome_0) ?_
  refine ruL_c (n := 1) (n2 := 2) rfl (ru_iload_n (k := 1) hx hb dX3_putHome_1) ?_
  refine ruL_c (n := 2) (n2 := 3) rfl (ru_aload_n (k := 0) hx hb dX3_putHome_2) ?_
  refine ruL_c (n := 3) (n2 := 4) rfl (ru_getR (own := RX3) (j := 0) (T := TX3) hx hb hown hK hts hin3 (by decide) rfl rfl (by decide) rfl hl9 dX3_putHome_3) ?_
  refine ruL_c (n := 4) (n2 := 5) rfl (ru_bot) ?_
  refine ruL_c (n := 5) (n2 := 6) rfl (ru_bot) ?_
  refine ruL_c (n := 6) (n2 := 7) rfl (ru_iload_n (k := 1) hx hb dX3_putHome_6) ?_
  refine ruL_c (n := 7) (n2 := 8) rfl (ru_iald hx hb hK dX3_putHome_7) ?_
  refine ruL_c (n := 8) (n2 := 9) rfl (ru_aload_n (k := 0) hx hb dX3_putHome_8) ?_
  refine ruL_c (n := 9) (n2 := 10) rfl (ru_getR (own := RX3) (j := 1) (T := TX3) hx hb hown hK hts hin3 (by decide) rfl rfl (by decide) rfl hl15 dX3_putHome_9) ?_
  refine ruL_c (n := 10) (n2 := 11) rfl (ru_bot) ?_
  refine ruL_c (n := 11) (n2 := 12) rfl (ru_bot) ?_
  refine ruL_c (n := 12) (n2 := 13) rfl (ru_iload_n (k := 1) hx hb dX3_putHome_12) ?_
  refine ruL_c (n := 13) (n2 := 14) rfl (ru_iald hx hb hK dX3_putHome_13) ?_
  refine ruL_c (n := 14) (n2 := 15) rfl (ru_callVv hx hb hml hown hts hK hN (by decide) rfl (c_X3_put l D cI cZ cA cL ad hi) (cwV 3 hts gX3_putHome_X3_put rfl rfl rfl (by decide +kernel) ⟨Nat.le_of_ble_eq_true rfl, Nat.le_of_ble_eq_true rfl⟩) dX3_putHome_14 ⟨Nat.zero_le _, Nat.zero_le _⟩) ?_
  refine ruL_c (n := 15) (n2 := 16) rfl (ru_bot) ?_
  refine ruL_c (n := 16) (n2 := 17) rfl (ru_bot) ?_
  refine ruL_c (n := 17) (n2 := 18) rfl (ru_vret hx hb hK hr hlocks dX3_putHome_17) ?_
  exact trivial

-- CueTour$Rig.isHome
def f_X3_isHome (p0 : Int32) (σ : aM) : Option (Int32 × aM) := if inb p0 20 = true then if inb p0 20 = true then if ¬ (σ 22 (ix p0)) = (σ 18 (ix p0)) then some (0, σ) else some (1, σ) else none else none
def F_X3_isHome : aF := fun As σ => match As with
  | [.int p0] => f_X3_isHome p0 σ
  | _ => none
def T_X3_isHome (Qa : Int32 → aM → Prop) : List aI := [I_aload 0 1, I_getR 4 22, I_bot, I_bot, I_iload 1 1, I_iald, I_aload 0 1, I_getR 4 18, I_bot, I_bot, I_iload 1 1, I_iald, I_icmp (fun x y => ¬ x = y) 19, I_bot, I_bot, I_const 1 1, I_goto 20, I_bot, I_bot, I_const 0 1, I_zret Qa]
set_option maxHeartbeats 4000000 in
set_option maxRecDepth 100000 in
theorem s_X3_isHome : runs T_X3_isHome [.ref 4] 2 F_X3_isHome := by
  intro Qa K hw hf As σ r σ' h hQ
  unfold F_X3_isHome at h
  split at h
  · rename_i p0
    unfold f_X3_isHome at h
    have hQ : Qa (r, σ').1 (r, σ').2 := hQ
    generalize (r, σ') = y at h hQ
    show K (0, [.ref 4, .int p0], [], σ)
    obtain ⟨g1, h⟩ := ite_some h
    obtain ⟨g2, h⟩ := ite_some h
    rcases ite_cases h with ⟨c3, h⟩ | ⟨c3, h⟩
    · refine hw 9 _ ?_
      show kd 22 = 1 ∧ (inb p0 20 = true ∧ (kd 18 = 1 ∧ (inb p0 20 = true ∧ (((¬ (σ 22 (ix p0)) = (σ 18 (ix p0))) → K (19, [.ref 4, .int p0], [], σ)) ∧ (¬ (¬ (σ 22 (ix p0)) = (σ 18 (ix p0))) → K (15, [.ref 4, .int p0], [], σ))))))
      refine ⟨rfl, g1, rfl, g2, ⟨fun _ => ?_, fun q => absurd c3 q⟩⟩
      obtain rfl := Option.some.inj h
      refine hw 2 _ ?_
      show (0 = (0:Int32) ∨ 0 = (1:Int32)) ∧ (Qa 0 σ)
      refine ⟨Or.inl rfl, hQ⟩
    · refine hw 9 _ ?_
      show kd 22 = 1 ∧ (inb p0 20 = true ∧ (kd 18 = 1 ∧ (inb p0 20 = true ∧ (((¬ (σ 22 (ix p0)) = (σ 18 (ix p0))) → K (19, [.ref 4, .int p0], [], σ)) ∧ (¬ (¬ (σ 22 (ix p0)) = (σ 18 (ix p0))) → K (15, [.ref 4, .int p0], [], σ))))))
      refine ⟨rfl, g1, rfl, g2, ⟨fun q => absurd q c3, fun _ => ?_⟩⟩
      obtain rfl := Option.some.inj h
      refine hw 3 _ ?_
      show (1 = (0:Int32) ∨ 1 = (1:Int32)) ∧ (Qa 1 σ)
      refine ⟨Or.inr rfl, hQ⟩
  · cases h
theorem h_X3_isHome : shp [.ref 4] 2 F_X3_isHome := by
  intro As σ r σ' h
  unfold F_X3_isHome at h
  split at h
  · exact ⟨by simp [Value.category], Nat.le_of_ble_eq_true rfl⟩
  · cases h
set_option maxHeartbeats 4000000 in
set_option maxRecDepth 100000 in
theorem c_X3_isHome (l : Launch) (D : va_G) (cI cZ cA cL : ClassId) (ad : Nat → Nat) (hi : adI ad) : CtI l yX3_isHome wsX3_isHome { frames := 0, cells := 0, slots := 0, locals := 0 } D cI cZ cA cL ad [.ref 4] F_X3_isHome := by
  refine mk_I [.ref 4] F_X3_isHome T_X3_isHome (by decide +kernel) rfl ?_ h_X3_isHome s_X3_isHome
  intro p e s m args below meth c Qa ⟨hx, hb, hml, hown, hts, hr, hlocks, hK, hN⟩
  have hin3 : ∀ w ∈ u_ws RX3 TX3 9, w ∈ wsX3_isHome := by decide +kernel
  have hl24 : (Cond.fieldLink RX3 24 RX3 (TX3 4).2.1 (TX3 4).2.2.1) ∈ wsX3_isHome := by decide +kernel
  have hl9 : (Cond.fieldLink RX3 9 RX3 (TX3 0).2.1 (TX3 0).2.2.1) ∈ wsX3_isHome := by decide +kernel
  refine ruL_c (n := 0) (n2 := 1) rfl (ru_aload_n (k := 0) hx hb dX3_isHome_0) ?_
  refine ruL_c (n := 1) (n2 := 2) rfl (ru_getR (own := RX3) (j := 4) (T := TX3) hx hb hown hK hts hin3 (by decide) rfl rfl (by decide) rfl hl24 dX3_isHome_1) ?_
  refine ruL_c (n := 2) (n2 := 3) rfl (ru_bot) ?_
  refine ruL_c (n := 3) (n2 := 4) rfl (ru_bot) ?_
  refine ruL_c (n := 4) (n2 := 5) rfl (ru_iload_n (k := 1) hx hb dX3_isHome_4) ?_
  refine ruL_c (n := 5) (n2 := 6) rfl (ru_iald hx hb hK dX3_isHome_5) ?_
  refine ruL_c (n := 6) (n2 := 7) rfl (ru_aload_n (k := 0) hx hb dX3_isHome_6) ?_
  refine ruL_c (n := 7) (n2 := 8) rfl (ru_getR (own := RX3) (j := 0) (T := TX3) hx hb hown hK hts hin3 (by decide) rfl rfl (by decide) rfl hl9 dX3_isHome_7) ?_
  refine ruL_c (n := 8) (n2 := 9) rfl (ru_bot) ?_
  refine ruL_c (n := 9) (n2 := 10) rfl (ru_bot) ?_
  refine ruL_c (n := 10) (n2 := 11) rfl (ru_iload_n (k := 1) hx hb dX3_isHome_10) ?_
  refine ruL_c (n := 11) (n2 := 12) rfl (ru_iald hx hb hK dX3_isHome_11) ?_
  refine ruL_c (n := 12) (n2 := 13) rfl (ru_icmpne hx hb dX3_isHome_12 (by decide)) ?_
  refine ruL_c (n := 13) (n2 := 14) rfl (ru_bot) ?_
  refine ruL_c (n := 14) (n2 := 15) rfl (ru_bot) ?_
  refine ruL_c (n := 15) (n2 := 16) rfl (ru_iconst hx hb dX3_isHome_15 rfl) ?_
  refine ruL_c (n := 16) (n2 := 17) rfl (ru_goto hx hb dX3_isHome_16 (by decide)) ?_
  refine ruL_c (n := 17) (n2 := 18) rfl (ru_bot) ?_
  refine ruL_c (n := 18) (n2 := 19) rfl (ru_bot) ?_
  refine ruL_c (n := 19) (n2 := 20) rfl (ru_iconst hx hb dX3_isHome_19 rfl) ?_
  refine ruL_c (n := 20) (n2 := 21) rfl (ru_zret hx hb hK hr hlocks dX3_isHome_20) ?_
  exact trivial

-- CueTour$Rig.canGo
def f_X3_canGo (p0 : Int32) (p1 : Int32) (σ : aM) : Option (Int32 × aM) := bnd (f_X3_isHome p0 σ) (fun r1 σ2 => if r1 = 0 then some (0, σ2) else if inb p0 20 = true then if (σ2 18 (ix p0)) = p1 then some (0, σ2) else some (1, σ2) else none)
def F_X3_canGo : aF := fun As σ => match As with
  | [.int p0, .int p1] => f_X3_canGo p0 p1 σ
  | _ => none
def T_X3_canGo (Qa : Int32 → aM → Prop) : List aI := [I_aload 0 1, I_iload 1 1, I_callV 4 1 F_X3_isHome, I_bot, I_bot, I_if (fun x => x = 0) 22, I_bot, I_bot, I_aload 0 1, I_getR 4 18, I_bot, I_bot, I_iload 1 1, I_iald, I_iload 2 1, I_icmp (fun x y => x = y) 22, I_bot, I_bot, I_const 1 1, I_goto 23, I_bot, I_bot, I_const 0 1, I_zret Qa]
set_option maxHeartbeats 4000000 in
set_option maxRecDepth 100000 in
theorem s_X3_canGo : runs T_X3_canGo [.ref 4] 3 F_X3_canGo := by
  intro Qa K hw hf As σ r σ' h hQ
  unfold F_X3_canGo at h
  split at h
  · rename_i p0 p1
    unfold f_X3_canGo at h
    have hQ : Qa (r, σ').1 (r, σ').2 := hQ
    generalize (r, σ') = y at h hQ
    show K (0, [.ref 4, .int p0, .int p1], [], σ)
    obtain ⟨r1, σ2, e3, h⟩ := bnd_some h
    refine hw 3 _ ?_
    show ∃ r1 σ2, f_X3_isHome p0 σ = some (r1, σ2) ∧ K (5, [.ref 4, .int p0, .int p1], [.int r1], σ2)
    refine ⟨r1, σ2, e3, ?_⟩
    rcases ite_cases h with ⟨c4, h⟩ | ⟨c4, h⟩
    · refine hw 1 _ ?_
      show ((r1 = 0) → K (22, [.ref 4, .int p0, .int p1], [], σ2)) ∧ (¬ (r1 = 0) → K (8, [.ref 4, .int p0, .int p1], [], σ2))
      refine ⟨fun _ => ?_, fun q => absurd c4 q⟩
      obtain rfl := Option.some.inj h
      refine hw 2 _ ?_
      show (0 = (0:Int32) ∨ 0 = (1:Int32)) ∧ (Qa 0 σ2)
      refine ⟨Or.inl rfl, hQ⟩
    · refine hw 1 _ ?_
      show ((r1 = 0) → K (22, [.ref 4, .int p0, .int p1], [], σ2)) ∧ (¬ (r1 = 0) → K (8, [.ref 4, .int p0, .int p1], [], σ2))
      refine ⟨fun q => absurd q c4, fun _ => ?_⟩
      obtain ⟨g5, h⟩ := ite_some h
      rcases ite_cases h with ⟨c6, h⟩ | ⟨c6, h⟩
      · refine hw 6 _ ?_
        show kd 18 = 1 ∧ (inb p0 20 = true ∧ ((((σ2 18 (ix p0)) = p1) → K (22, [.ref 4, .int p0, .int p1], [], σ2)) ∧ (¬ ((σ2 18 (ix p0)) = p1) → K (18, [.ref 4, .int p0, .int p1], [], σ2))))
        refine ⟨rfl, g5, ⟨fun _ => ?_, fun q => absurd c6 q⟩⟩
        obtain rfl := Option.some.inj h
        refine hw 2 _ ?_
        show (0 = (0:Int32) ∨ 0 = (1:Int32)) ∧ (Qa 0 σ2)
        refine ⟨Or.inl rfl, hQ⟩
      · refine hw 6 _ ?_
        show kd 18 = 1 ∧ (inb p0 20 = true ∧ ((((σ2 18 (ix p0)) = p1) → K (22, [.ref 4, .int p0, .int p1], [], σ2)) ∧ (¬ ((σ2 18 (ix p0)) = p1) → K (18, [.ref 4, .int p0, .int p1], [], σ2))))
        refine ⟨rfl, g5, ⟨fun q => absurd q c6, fun _ => ?_⟩⟩
        obtain rfl := Option.some.inj h
        refine hw 3 _ ?_
        show (1 = (0:Int32) ∨ 1 = (1:Int32)) ∧ (Qa 1 σ2)
        refine ⟨Or.inr rfl, hQ⟩
  · cases h
theorem h_X3_canGo : shp [.ref 4] 3 F_X3_canGo := by
  intro As σ r σ' h
  unfold F_X3_canGo at h
  split at h
  · exact ⟨by simp [Value.category], Nat.le_of_ble_eq_true rfl⟩
  · cases h
set_option maxHeartbeats 4000000 in
set_option maxRecDepth 100000 in
theorem c_X3_canGo (l : Launch) (D : va_G) (cI cZ cA cL : ClassId) (ad : Nat → Nat) (hi : adI ad) : CtI l yX3_canGo wsX3_canGo { frames := 1, cells := 0, slots := 0, locals := 21 } D cI cZ cA cL ad [.ref 4] F_X3_canGo := by
  refine mk_I [.ref 4] F_X3_canGo T_X3_canGo (by decide +kernel) rfl ?_ h_X3_canGo s_X3_canGo
  intro p e s m args below meth c Qa ⟨hx, hb, hml, hown, hts, hr, hlocks, hK, hN⟩
  have hin3 : ∀ w ∈ u_ws RX3 TX3 9, w ∈ wsX3_canGo := by decide +kernel
  have hl9 : (Cond.fieldLink RX3 9 RX3 (TX3 0).2.1 (TX3 0).2.2.1) ∈ wsX3_canGo := by decide +kernel
  refine ruL_c (n := 0) (n2 := 1) rfl (ru_aload_n (k := 0) hx hb dX3_canGo_0) ?_
  refine ruL_c (n := 1) (n2 := 2) rfl (ru_iload_n (k := 1) hx hb dX3_canGo_1) ?_
  refine ruL_c (n := 2) (n2 := 3) rfl (ru_callV hx hb hml hown hts hK hN (by decide) rfl (c_X3_isHome l D cI cZ cA cL ad hi) (cwV 1 hts gX3_canGo_X3_isHome rfl rfl rfl (by decide +kernel) ⟨Nat.le_of_ble_eq_true rfl, Nat.le_of_ble_eq_true rfl⟩) dX3_canGo_2 ⟨Nat.zero_le _, Nat.zero_le _⟩) ?_
  refine ruL_c (n := 3) (n2 := 4) rfl (ru_bot) ?_
  refine ruL_c (n := 4) (n2 := 5) rfl (ru_bot) ?_
  refine ruL_c (n := 5) (n2 := 6) rfl (ru_ifeq hx hb dX3_canGo_5 (by decide)) ?_
  refine ruL_c (n := 6) (n2 := 7) rfl (ru_bot) ?_
  refine ruL_c (n := 7) (n2 := 8) rfl (ru_bot) ?_
  refine ruL_c (n := 8) (n2 := 9) rfl (ru_aload_n (k := 0) hx hb dX3_canGo_8) ?_
  refine ruL_c (n := 9) (n2 := 10) rfl (ru_getR (own := RX3) (j := 0) (T := TX3) hx hb hown hK hts hin3 (by decide) rfl rfl (by decide) rfl hl9 dX3_canGo_9) ?_
  refine ruL_c (n := 10) (n2 := 11) rfl (ru_bot) ?_
  refine ruL_c (n := 11) (n2 := 12) rfl (ru_bot) ?_
  refine ruL_c (n := 12) (n2 := 13) rfl (ru_iload_n (k := 1) hx hb dX3_canGo_12) ?_
  refine ruL_c (n := 13) (n2 := 14) rfl (ru_iald hx hb hK dX3_canGo_13) ?_
  refine ruL_c (n := 14) (n2 := 15) rfl (ru_iload_n (k := 2) hx hb dX3_canGo_14) ?_
  refine ruL_c (n := 15) (n2 := 16) rfl (ru_icmpeq hx hb dX3_canGo_15 (by decide)) ?_
  refine ruL_c (n := 16) (n2 := 17) rfl (ru_bot) ?_
  refine ruL_c (n := 17) (n2 := 18) rfl (ru_bot) ?_
  refine ruL_c (n := 18) (n2 := 19) rfl (ru_iconst hx hb dX3_canGo_18 rfl) ?_
  refine ruL_c (n := 19) (n2 := 20) rfl (ru_goto hx hb dX3_canGo_19 (by decide)) ?_
  refine ruL_c (n := 20) (n2 := 21) rfl (ru_bot) ?_
  refine ruL_c (n := 21) (n2 := 22) rfl (ru_bot) ?_
  refine ruL_c (n := 22) (n2 := 23) rfl (ru_iconst hx hb dX3_canGo_22 rfl) ?_
  refine ruL_c (n := 23) (n2 := 24) rfl (ru_zret hx hb hK hr hlocks dX3_canGo_23) ?_
  exact trivial

-- CueTour$Rig.isFor
def f_X3_isFor (p0 : Int32) (p1 : Int32) (p2 : Int32) (σ : aM) : Option (Int32 × aM) := if inb p0 20 = true then if ¬ (σ 22 (ix p0)) = p1 then some (0, σ) else if inb p0 20 = true then if ¬ (σ 23 (ix p0)) = p2 then some (0, σ) else some (1, σ) else none else none
def F_X3_isFor : aF := fun As σ => match As with
  | [.int p0, .int p1, .int p2] => f_X3_isFor p0 p1 p2 σ
  | _ => none
def T_X3_isFor (Qa : Int32 → aM → Prop) : List aI := [I_aload 0 1, I_getR 4 22, I_bot, I_bot, I_iload 1 1, I_iald, I_iload 2 1, I_icmp (fun x y => ¬ x = y) 24, I_bot, I_bot, I_aload 0 1, I_getR 4 23, I_bot, I_bot, I_iload 1 1, I_iald, I_iload 3 1, I_icmp (fun x y => ¬ x = y) 24, I_bot, I_bot, I_const 1 1, I_goto 25, I_bot, I_bot, I_const 0 1, I_zret Qa]
set_option maxHeartbeats 4000000 in
set_option maxRecDepth 100000 in
theorem s_X3_isFor : runs T_X3_isFor [.ref 4] 4 F_X3_isFor := by
  intro Qa K hw hf As σ r σ' h hQ
  unfold F_X3_isFor at h
  split at h
  · rename_i p0 p1 p2
    unfold f_X3_isFor at h
    have hQ : Qa (r, σ').1 (r, σ').2 := hQ
    generalize (r, σ') = y at h hQ
    show K (0, [.ref 4, .int p0, .int p1, .int p2], [], σ)
    obtain ⟨g1, h⟩ := ite_some h
    rcases ite_cases h with ⟨c2, h⟩ | ⟨c2, h⟩
    · refine hw 6 _ ?_
      show kd 22 = 1 ∧ (inb p0 20 = true ∧ (((¬ (σ 22 (ix p0)) = p1) → K (24, [.ref 4, .int p0, .int p1, .int p2], [], σ)) ∧ (¬ (¬ (σ 22 (ix p0)) = p1) → K (10, [.ref 4, .int p0, .int p1, .int p2], [], σ))))
      refine ⟨rfl, g1, ⟨fun _ => ?_, fun q => absurd c2 q⟩⟩
      obtain rfl := Option.some.inj h
      refine hw 2 _ ?_
      show (0 = (0:Int32) ∨ 0 = (1:Int32)) ∧ (Qa 0 σ)
      refine ⟨Or.inl rfl, hQ⟩
    · refine hw 6 _ ?_
      show kd 22 = 1 ∧ (inb p0 20 = true ∧ (((¬ (σ 22 (ix p0)) = p1) → K (24, [.ref 4, .int p0, .int p1, .int p2], [], σ)) ∧ (¬ (¬ (σ 22 (ix p0)) = p1) → K (10, [.ref 4, .int p0, .int p1, .int p2], [], σ))))
      refine ⟨rfl, g1, ⟨fun q => absurd q c2, fun _ => ?_⟩⟩
      obtain ⟨g3, h⟩ := ite_some h
      rcases ite_cases h with ⟨c4, h⟩ | ⟨c4, h⟩
      · refine hw 6 _ ?_
        show kd 23 = 1 ∧ (inb p0 20 = true ∧ (((¬ (σ 23 (ix p0)) = p2) → K (24, [.ref 4, .int p0, .int p1, .int p2], [], σ)) ∧ (¬ (¬ (σ 23 (ix p0)) = p2) → K (20, [.ref 4, .int p0, .int p1, .int p2], [], σ))))
        refine ⟨rfl, g3, ⟨fun _ => ?_, fun q => absurd c4 q⟩⟩
        obtain rfl := Option.some.inj h
        refine hw 2 _ ?_
        show (0 = (0:Int32) ∨ 0 = (1:Int32)) ∧ (Qa 0 σ)
        refine ⟨Or.inl rfl, hQ⟩
      · refine hw 6 _ ?_
        show kd 23 = 1 ∧ (inb p0 20 = true ∧ (((¬ (σ 23 (ix p0)) = p2) → K (24, [.ref 4, .int p0, .int p1, .int p2], [], σ)) ∧ (¬ (¬ (σ 23 (ix p0)) = p2) → K (20, [.ref 4, .int p0, .int p1, .int p2], [], σ))))
        refine ⟨rfl, g3, ⟨fun q => absurd q c4, fun _ => ?_⟩⟩
        obtain rfl := Option.some.inj h
        refine hw 3 _ ?_
        show (1 = (0:Int32) ∨ 1 = (1:Int32)) ∧ (Qa 1 σ)
        refine ⟨Or.inr rfl, hQ⟩
  · cases h
theorem h_X3_isFor : shp [.ref 4] 4 F_X3_isFor := by
  intro As σ r σ' h
  unfold F_X3_isFor at h
  split at h
  · exact ⟨by simp [Value.category], Nat.le_of_ble_eq_true rfl⟩
  · cases h
set_option maxHeartbeats 4000000 in
set_option maxRecDepth 100000 in
theorem c_X3_isFor (l : Launch) (D : va_G) (cI cZ cA cL : ClassId) (ad : Nat → Nat) (hi : adI ad) : CtI l yX3_isFor wsX3_isFor { frames := 0, cells := 0, slots := 0, locals := 0 } D cI cZ cA cL ad [.ref 4] F_X3_isFor := by
  refine mk_I [.ref 4] F_X3_isFor T_X3_isFor (by decide +kernel) rfl ?_ h_X3_isFor s_X3_isFor
  intro p e s m args below meth c Qa ⟨hx, hb, hml, hown, hts, hr, hlocks, hK, hN⟩
  have hin3 : ∀ w ∈ u_ws RX3 TX3 9, w ∈ wsX3_isFor := by decide +kernel
  have hl24 : (Cond.fieldLink RX3 24 RX3 (TX3 4).2.1 (TX3 4).2.2.1) ∈ wsX3_isFor := by decide +kernel
  have hl27 : (Cond.fieldLink RX3 27 RX3 (TX3 5).2.1 (TX3 5).2.2.1) ∈ wsX3_isFor := by decide +kernel
  refine ruL_c (n := 0) (n2 := 1) rfl (ru_aload_n (k := 0) hx hb dX3_isFor_0) ?_
  refine ruL_c (n := 1) (n2 := 2) rfl (ru_getR (own := RX3) (j := 4) (T := TX3) hx hb hown hK hts hin3 (by decide) rfl rfl (by decide) rfl hl24 dX3_isFor_1) ?_
  refine ruL_c (n := 2) (n2 := 3) rfl (ru_bot) ?_
  refine ruL_c (n := 3) (n2 := 4) rfl (ru_bot) ?_
  refine ruL_c (n := 4) (n2 := 5) rfl (ru_iload_n (k := 1) hx hb dX3_isFor_4) ?_
  refine ruL_c (n := 5) (n2 := 6) rfl (ru_iald hx hb hK dX3_isFor_5) ?_
  refine ruL_c (n := 6) (n2 := 7) rfl (ru_iload_n (k := 2) hx hb dX3_isFor_6) ?_
  refine ruL_c (n := 7) (n2 := 8) rfl (ru_icmpne hx hb dX3_isFor_7 (by decide)) ?_
  refine ruL_c (n := 8) (n2 := 9) rfl (ru_bot) ?_
  refine ruL_c (n := 9) (n2 := 10) rfl (ru_bot) ?_
  refine ruL_c (n := 10) (n2 := 11) rfl (ru_aload_n (k := 0) hx hb dX3_isFor_10) ?_
  refine ruL_c (n := 11) (n2 := 12) rfl (ru_getR (own := RX3) (j := 5) (T := TX3) hx hb hown hK hts hin3 (by decide) rfl rfl (by decide) rfl hl27 dX3_isFor_11) ?_
  refine ruL_c (n := 12) (n2 := 13) rfl (ru_bot) ?_
  refine ruL_c (n := 13) (n2 := 14) rfl (ru_bot) ?_
  refine ruL_c (n := 14) (n2 := 15) rfl (ru_iload_n (k := 1) hx hb dX3_isFor_14) ?_
  refine ruL_c (n := 15) (n2 := 16) rfl (ru_iald hx hb hK dX3_isFor_15) ?_
  refine ruL_c (n := 16) (n2 := 17) rfl (ru_iload_n (k := 3) hx hb dX3_isFor_16) ?_
  refine ruL_c (n := 17) (n2 := 18) rfl (ru_icmpne hx hb dX3_isFor_17 (by decide)) ?_
  refine ruL_c (n := 18) (n2 := 19) rfl (ru_bot) ?_
  refine ruL_c (n := 19) (n2 := 20) rfl (ru_bot) ?_
  refine ruL_c (n := 20) (n2 := 21) rfl (ru_iconst hx hb dX3_isFor_20 rfl) ?_
  refine ruL_c (n := 21) (n2 := 22) rfl (ru_goto hx hb dX3_isFor_21 (by decide)) ?_
  refine ruL_c (n := 22) (n2 := 23) rfl (ru_bot) ?_
  refine ruL_c (n := 23) (n2 := 24) rfl (ru_bot) ?_
  refine ruL_c (n := 24) (n2 := 25) rfl (ru_iconst hx hb dX3_isFor_24 rfl) ?_
  refine ruL_c (n := 25) (n2 := 26) rfl (ru_zret hx hb hK hr hlocks dX3_isFor_25) ?_
  exact trivial

-- CueTour$Rig.append
def f_X3_append (p0 : Int32) (p1 : Int32) (p2 : Int32) (p3 : Int32) (σ : aM) : Option (Int32 × aM) := if inb (σ 4 8) 20 = true then if inb (σ 4 8) 20 = true then if inb (σ 4 8) 20 = true then if inb (σ 4 8) 20 = true then bnd (f_X3_putHome (σ 4 8) (mput (mput (mput (mput (mput σ 18 (ix (σ 4 8)) p0) 19 (ix (σ 4 8)) p1) 20 (ix (σ 4 8)) p2) 21 (ix (σ 4 8)) p3) 4 8 ((σ 4 8) + 1))) (fun r5 σ6 => some (σ 4 8, σ6)) else none else none else none else none
def F_X3_append : aF := fun As σ => match As with
  | [.int p0, .int p1, .int p2, .int p3] => f_X3_append p0 p1 p2 p3 σ
  | _ => none
def T_X3_append (Qa : Int32 → aM → Prop) : List aI := [I_aload 0 1, I_getI 4 8, I_bot, I_bot, I_istore 5 2, I_bot, I_aload 0 1, I_getR 4 18, I_bot, I_bot, I_iload 5 2, I_bot, I_iload 1 1, I_iast, I_aload 0 1, I_getR 4 19, I_bot, I_bot, I_iload 5 2, I_bot, I_iload 2 1, I_iast, I_aload 0 1, I_getR 4 20, I_bot, I_bot, I_iload 5 2, I_bot, I_iload 3 1, I_iast, I_aload 0 1, I_getR 4 21, I_bot, I_bot, I_iload 5 2, I_bot, I_iload 4 2, I_bot, I_iast, I_aload 0 1, I_dup, I_getI 4 8, I_bot, I_bot, I_const 1 1, I_bin fun x y => x + y, I_putI 4 8, I_bot, I_bot, I_aload 0 1, I_iload 5 2, I_bot, I_callVv 4 1 F_X3_putHome, I_bot, I_bot, I_iload 5 2, I_bot, I_iret Qa]
set_option maxHeartbeats 4000000 in
set_option maxRecDepth 100000 in
theorem s_X3_append : runs T_X3_append [.ref 4] 6 F_X3_append := by
  intro Qa K hw hf As σ r σ' h hQ
  unfold F_X3_append at h
  split at h
  · rename_i p0 p1 p2 p3
    unfold f_X3_append at h
    have hQ : Qa (r, σ').1 (r, σ').2 := hQ
    generalize (r, σ') = y at h hQ
    show K (0, [.ref 4, .int p0, .int p1, .int p2, .int p3, .null], [], σ)
    obtain ⟨g1, h⟩ := ite_some h
    obtain ⟨g2, h⟩ := ite_some h
    obtain ⟨g3, h⟩ := ite_some h
    obtain ⟨g4, h⟩ := ite_some h
    obtain ⟨r5, σ6, e7, h⟩ := bnd_some h
    refine hw 32 _ ?_
    show kd 18 = 1 ∧ (inb (σ 4 8) 20 = true ∧ (kd 19 = 1 ∧ (inb (σ 4 8) 20 = true ∧ (kd 20 = 1 ∧ (inb (σ 4 8) 20 = true ∧ (kd 21 = 1 ∧ (inb (σ 4 8) 20 = true ∧ (∃ r5 σ6, f_X3_putHome (σ 4 8) (mput (mput (mput (mput (mput σ 18 (ix (σ 4 8)) p0) 19 (ix (σ 4 8)) p1) 20 (ix (σ 4 8)) p2) 21 (ix (σ 4 8)) p3) 4 8 ((σ 4 8) + 1)) = some (r5, σ6) ∧ K (55, [.ref 4, .int p0, .int p1, .int p2, .int p3, .int (σ 4 8)], [], σ6)))))))))
    refine ⟨rfl, g1, rfl, g2, rfl, g3, rfl, g4, ⟨r5, σ6, e7, ?_⟩⟩
    obtain rfl := Option.some.inj h
    refine hw 2 _ ?_
    show Qa (σ 4 8) σ6
    refine hQ
  · cases h
theorem h_X3_append : shp [.ref 4] 6 F_X3_append := by
  intro As σ r σ' h
  unfold F_X3_append at h
  split at h
  · exact ⟨by simp [Value.category], Nat.le_of_ble_eq_true rfl⟩
  · cases h
set_option maxHeartbeats 4000000 in
set_option maxRecDepth 100000 in
theorem c_X3_append (l : Launch) (D : va_G) (cI cZ cA cL : ClassId) (ad : Nat → Nat) (hi : adI ad) : CtI l yX3_append wsX3_append { frames := 2, cells := 0, slots := 0, locals := 44 } D cI cZ cA cL ad [.ref 4] F_X3_append := by
  refine mk_I [.ref 4] F_X3_append T_X3_append (by decide +kernel) rfl ?_ h_X3_append s_X3_append
  intro p e s m args below meth c Qa ⟨hx, hb, hml, hown, hts, hr, hlocks, hK, hN⟩
  have hin3 : ∀ w ∈ u_ws RX3 TX3 9, w ∈ wsX3_append := by decide +kernel
  have hl36 : (Cond.fieldLink RX3 36 RX3 (TX3 8).2.1 (TX3 8).2.2.1) ∈ wsX3_append := by decide +kernel
  have hl9 : (Cond.fieldLink RX3 9 RX3 (TX3 0).2.1 (TX3 0).2.2.1) ∈ wsX3_append := by decide +kernel
  have hl15 : (Cond.fieldLink RX3 15 RX3 (TX3 1).2.1 (TX3 1).2.2.1) ∈ wsX3_append := by decide +kernel
  have hl18 : (Cond.fieldLink RX3 18 RX3 (TX3 2).2.1 (TX3 2).2.2.1) ∈ wsX3_append := by decide +kernel
  have hl21 : (Cond.fieldLink RX3 21 RX3 (TX3 3).2.1 (TX3 3).2.2.1) ∈ wsX3_append := by decide +kernel
  refine ruL_c (n := 0) (n2 := 1) rfl (ru_aload_n (k := 0) hx hb dX3_append_0) ?_
  refine ruL_c (n := 1) (n2 := 2) rfl (ru_getI (own := RX3) (j := 8) (T := TX3) hx hb hown hK hts hin3 (by decide) rfl rfl (by decide) rfl hl36 dX3_append_1) ?_
  refine ruL_c (n := 2) (n2 := 3) rfl (ru_bot) ?_
  refine ruL_c (n := 3) (n2 := 4) rfl (ru_bot) ?_
  refine ruL_c (n := 4) (n2 := 5) rfl (ru_istore hx hb dX3_append_4) ?_
  refine ruL_c (n := 5) (n2 := 6) rfl (ru_bot) ?_
  refine ruL_c (n := 6) (n2 := 7) rfl (ru_aload_n (k := 0) hx hb dX3_append_6) ?_
  refine ruL_c (n := 7) (n2 := 8) rfl (ru_getR (own := RX3) (j := 0) (T := TX3) hx hb hown hK hts hin3 (by decide) rfl rfl (by decide) rfl hl9 dX3_append_7) ?_
  refine ruL_c (n := 8) (n2 := 9) rfl (ru_bot) ?_
  refine ruL_c (n := 9) (n2 := 10) rfl (ru_bot) ?_
  refine ruL_c (n := 10) (n2 := 11) rfl (ru_iload hx hb dX3_append_10) ?_
  refine ruL_c (n := 11) (n2 := 12) rfl (ru_bot) ?_
  refine ruL_c (n := 12) (n2 := 13) rfl (ru_iload_n (k := 1) hx hb dX3_append_12) ?_
  refine ruL_c (n := 13) (n2 := 14) rfl (ru_iast hx hb hK hi dX3_append_13) ?_
  refine ruL_c (n := 14) (n2 := 15) rfl (ru_aload_n (k := 0) hx hb dX3_append_14) ?_
  refine ruL_c (n := 15) (n2 := 16) rfl (ru_getR (own := RX3) (j := 1) (T := TX3) hx hb hown hK hts hin3 (by decide) rfl rfl (by decide) rfl hl15 dX3_append_15) ?_
  refine ruL_c (n := 16) (n2 := 17) rfl (ru_bot) ?_
  refine ruL_c (n := 17) (n2 := 18) rfl (ru_bot) ?_
  refine ruL_c (n := 18) (n2 := 19) rfl (ru_iload hx hb dX3_append_18) ?_
  refine ruL_c (n := 19) (n2 := 20) rfl (ru_bot) ?_
  refine ruL_c (n := 20) (n2 := 21) rfl (ru_iload_n (k := 2) hx hb dX3_append_20) ?_
  refine ruL_c (n := 21) (n2 := 22) rfl (ru_iast hx hb hK hi dX3_append_21) ?_
  refine ruL_c (n := 22) (n2 := 23) rfl (ru_aload_n (k := 0) hx hb dX3_append_22) ?_
  refine ruL_c (n := 23) (n2 := 24) rfl (ru_getR (own := RX3) (j := 2) (T := TX3) hx hb hown hK hts hin3 (by decide) rfl rfl (by decide) rfl hl18 dX3_append_23) ?_
  refine ruL_c (n := 24) (n2 := 25) rfl (ru_bot) ?_
  refine ruL_c (n := 25) (n2 := 26) rfl (ru_bot) ?_
  refine ruL_c (n := 26) (n2 := 27) rfl (ru_iload hx hb dX3_append_26) ?_
  refine ruL_c (n := 27) (n2 := 28) rfl (ru_bot) ?_
  refine ruL_c (n := 28) (n2 := 29) rfl (ru_iload_n (k := 3) hx hb dX3_append_28) ?_
  refine ruL_c (n := 29) (n2 := 30) rfl (ru_iast hx hb hK hi dX3_append_29) ?_
  refine ruL_c (n := 30) (n2 := 31) rfl (ru_aload_n (k := 0) hx hb dX3_append_30) ?_
  refine ruL_c (n := 31) (n2 := 32) rfl (ru_getR (own := RX3) (j := 3) (T := TX3) hx hb hown hK hts hin3 (by decide) rfl rfl (by decide) rfl hl21 dX3_append_31) ?_
  refine ruL_c (n := 32) (n2 := 33) rfl (ru_bot) ?_
  refine ruL_c (n := 33) (n2 := 34) rfl (ru_bot) ?_
  refine ruL_c (n := 34) (n2 := 35) rfl (ru_iload hx hb dX3_append_34) ?_
  refine ruL_c (n := 35) (n2 := 36) rfl (ru_bot) ?_
  refine ruL_c (n := 36) (n2 := 37) rfl (ru_iload hx hb dX3_append_36) ?_
  refine ruL_c (n := 37) (n2 := 38) rfl (ru_bot) ?_
  refine ruL_c (n := 38) (n2 := 39) rfl (ru_iast hx hb hK hi dX3_append_38) ?_
  refine ruL_c (n := 39) (n2 := 40) rfl (ru_aload_n (k := 0) hx hb dX3_append_39) ?_
  refine ruL_c (n := 40) (n2 := 41) rfl (ru_dup hx hb dX3_append_40) ?_
  refine ruL_c (n := 41) (n2 := 42) rfl (ru_getI (own := RX3) (j := 8) (T := TX3) hx hb hown hK hts hin3 (by decide) rfl rfl (by decide) rfl hl36 dX3_append_41) ?_
  refine ruL_c (n := 42) (n2 := 43) rfl (ru_bot) ?_
  refine ruL_c (n := 43) (n2 := 44) rfl (ru_bot) ?_
  refine ruL_c (n := 44) (n2 := 45) rfl (ru_iconst hx hb dX3_append_44 rfl) ?_
  refine ruL_c (n := 45) (n2 := 46) rfl (ru_iadd hx hb dX3_append_45) ?_
  refine ruL_c (n := 46) (n2 := 47) rfl (ru_putI (own := RX3) (j := 8) (T := TX3) hx hb hown hK hi hts hin3 tyX3 tyX3_ok nmX3 (by decide) rfl rfl (by decide) rfl hl36 rfl (by decide +kernel) dX3_append_46) ?_
  refine ruL_c (n := 47) (n2 := 48) rfl (ru_bot) ?_
  refine ruL_c (n := 48) (n2 := 49) rfl (ru_bot) ?_
  refine ruL_c (n := 49) (n2 := 50) rfl (ru_aload_n (k := 0) hx hb dX3_append_49) ?_
  refine ruL_c (n := 50) (n2 := 51) rfl (ru_iload hx hb dX3_append_50) ?_
  refine ruL_c (n := 51) (n2 := 52) rfl (ru_bot) ?_
  refine ruL_c (n := 52) (n2 := 53) rfl (ru_callVv hx hb hml hown hts hK hN (by decide) rfl (c_X3_putHome l D cI cZ cA cL ad hi) (cwV 1 hts gX3_append_X3_putHome rfl rfl rfl (by decide +kernel) ⟨Nat.le_of_ble_eq_true rfl, Nat.le_of_ble_eq_true rfl⟩) dX3_append_52 ⟨Nat.zero_le _, Nat.zero_le _⟩) ?_
  refine ruL_c (n := 53) (n2 := 54) rfl (ru_bot) ?_
  refine ruL_c (n := 54) (n2 := 55) rfl (ru_bot) ?_
  refine ruL_c (n := 55) (n2 := 56) rfl (ru_iload hx hb dX3_append_55) ?_
  refine ruL_c (n := 56) (n2 := 57) rfl (ru_bot) ?_
  refine ruL_c (n := 57) (n2 := 58) rfl (ru_iret hx hb hK hr hlocks dX3_append_57) ?_
  exact trivial

-- CueTour$Rig.lampsFor
def l_X3_lampsFor_9 (x1 : Int32) (x2 : Int32) (x3 : Int32) : Nat → Int32 → Int32 → Int32 → aM → (Int32 → Int32 → Int32 → aM → Option (Int32 × aM)) → Option (Int32 × aM)
  | 0, _, _, _, _, _ => none
  | n + 1, v4, v5, v6, σ7, k => if (σ7 4 8) ≤ v6 then k v4 v5 v6 σ7 else bnd (f_X3_isFor v6 x1 x2 σ7) (fun r9 σ10 => if r9 = 0 then l_X3_lampsFor_9 x1 x2 x3 n v4 v5 (v6 + 1) σ10 k else if inb v6 20 = true then if ¬ (σ10 20 (ix v6)) = x3 then l_X3_lampsFor_9 x1 x2 x3 n v4 (v5 ||| (1 <<< (v6 &&& 31))) (v6 + 1) σ10 k else l_X3_lampsFor_9 x1 x2 x3 n (v4 ||| (1 <<< (v6 &&& 31))) (v5 ||| (1 <<< (v6 &&& 31))) (v6 + 1) σ10 k else none)
def f_X3_lampsFor (p0 : Int32) (p1 : Int32) (p2 : Int32) (σ : aM) : Option (Int32 × aM) := l_X3_lampsFor_9 p0 p1 p2 lf 0 0 0 σ (fun v15 v16 v17 σ18 => if v15 = 0 then some (v16, σ18) else some (v15, σ18))
def F_X3_lampsFor : aF := fun As σ => match As with
  | [.int p0, .int p1, .int p2] => f_X3_lampsFor p0 p1 p2 σ
  | _ => none
def T_X3_lampsFor (Qa : Int32 → aM → Prop) : List aI := [I_const 0 1, I_istore 4 2, I_bot, I_const 0 1, I_istore 5 2, I_bot, I_const 0 1, I_istore 6 2, I_bot, I_iload 6 2, I_bot, I_aload 0 1, I_getI 4 8, I_bot, I_bot, I_icmp (fun x y => y ≤ x) 64, I_bot, I_bot, I_aload 0 1, I_iload 6 2, I_bot, I_iload 1 1, I_iload 2 1, I_callV 4 3 F_X3_isFor, I_bot, I_bot, I_if (fun x => x = 0) 58, I_bot, I_bot, I_iload 5 2, I_bot, I_const 1 1, I_iload 6 2, I_bot, I_bin fun x y => x <<< (y &&& 31), I_bin fun x y => x ||| y, I_istore 5 2, I_bot, I_aload 0 1, I_getR 4 20, I_bot, I_bot, I_iload 6 2, I_bot, I_iald, I_iload 3 1, I_icmp (fun x y => ¬ x = y) 58, I_bot, I_bot, I_iload 4 2, I_bot, I_const 1 1, I_iload 6 2, I_bot, I_bin fun x y => x <<< (y &&& 31), I_bin fun x y => x ||| y, I_istore 4 2, I_bot, I_iinc 6 (1), I_bot, I_bot, I_goto 9, I_bot, I_bot, I_iload 4 2, I_bot, I_if (fun x => x = 0) 74, I_bot, I_bot, I_iload 4 2, I_bot, I_goto 76, I_bot, I_bot, I_iload 5 2, I_bot, I_iret Qa]
set_option maxHeartbeats 4000000 in
set_option maxRecDepth 100000 in
theorem t_X3_lampsFor_9 {Qa : Int32 → aM → Prop} {K : aS → Prop} (hw : ∀ k x, wp (T_X3_lampsFor Qa) k K x → K x) (hf : ∀ pc L i st σ, K (pc, L.set i .null, st, σ) → K (pc, L, st, σ)) (x1 : Int32) (x2 : Int32) (x3 : Int32) (y : Int32 × aM) (k : Int32 → Int32 → Int32 → aM → Option (Int32 × aM)) :
    ∀ (n : Nat) (v4 : Int32) (v5 : Int32) (v6 : Int32) (σ7 : aM), l_X3_lampsFor_9 x1 x2 x3 n v4 v5 v6 σ7 k = some y → (∀ (w0 : Int32) (w1 : Int32) (w2 : Int32) (τ : aM), k w0 w1 w2 τ = some y → K (64, [.ref 4, .int x1, .int x2, .int x3, .int w0, .int w1, .int w2], [], τ)) → K (9, [.ref 4, .int x1, .int x2, .int x3, .int v4, .int v5, .int v6], [], σ7) := by
  intro n
  induction n with
  | zero =>
    intro v4 v5 v6 σ7 h hk
    exact absurd h (by simp [l_X3_lampsFor_9])
  | succ n ih =>
    intro v4 v5 v6 σ7 h hk
    unfold l_X3_lampsFor_9 at h
    rcases ite_cases h with ⟨c8, h⟩ | ⟨c8, h⟩
    · refine hw 4 _ ?_
      show (((σ7 4 8) ≤ v6) → K (64, [.ref 4, .int x1, .int x2, .int x3, .int v4, .int v5, .int v6], [], σ7)) ∧ (¬ ((σ7 4 8) ≤ v6) → K (18, [.ref 4, .int x1, .int x2, .int x3, .int v4, .int v5, .int v6], [], σ7))
      refine ⟨fun _ => ?_, fun q => absurd c8 q⟩
      exact hk v4 v5 v6 σ7 h
    · refine hw 4 _ ?_
      show (((σ7 4 8) ≤ v6) → K (64, [.ref 4, .int x1, .int x2, .int x3, .int v4, .int v5, .int v6], [], σ7)) ∧ (¬ ((σ7 4 8) ≤ v6) → K (18, [.ref 4, .int x1, .int x2, .int x3, .int v4, .int v5, .int v6], [], σ7))
      refine ⟨fun q => absurd q c8, fun _ => ?_⟩
      obtain ⟨r9, σ10, e11, h⟩ := bnd_some h
      refine hw 5 _ ?_
      show ∃ r9 σ10, f_X3_isFor v6 x1 x2 σ7 = some (r9, σ10) ∧ K (26, [.ref 4, .int x1, .int x2, .int x3, .int v4, .int v5, .int v6], [.int r9], σ10)
      refine ⟨r9, σ10, e11, ?_⟩
      rcases ite_cases h with ⟨c12, h⟩ | ⟨c12, h⟩
      · refine hw 1 _ ?_
        show ((r9 = 0) → K (58, [.ref 4, .int x1, .int x2, .int x3, .int v4, .int v5, .int v6], [], σ10)) ∧ (¬ (r9 = 0) → K (29, [.ref 4, .int x1, .int x2, .int x3, .int v4, .int v5, .int v6], [], σ10))
        refine ⟨fun _ => ?_, fun q => absurd c12 q⟩
        refine hw 2 _ ?_
        show K (9, [.ref 4, .int x1, .int x2, .int x3, .int v4, .int v5, .int (v6 + 1)], [], σ10)
        exact ih v4 v5 (v6 + 1) σ10 h hk
      · refine hw 1 _ ?_
        show ((r9 = 0) → K (58, [.ref 4, .int x1, .int x2, .int x3, .int v4, .int v5, .int v6], [], σ10)) ∧ (¬ (r9 = 0) → K (29, [.ref 4, .int x1, .int x2, .int x3, .int v4, .int v5, .int v6], [], σ10))
        refine ⟨fun q => absurd q c12, fun _ => ?_⟩
        obtain ⟨g13, h⟩ := ite_some h
        rcases ite_cases h with ⟨c14, h⟩ | ⟨c14, h⟩
        · refine hw 12 _ ?_
          show kd 20 = 1 ∧ (inb v6 20 = true ∧ (((¬ (σ10 20 (ix v6)) = x3) → K (58, [.ref 4, .int x1, .int x2, .int x3, .int v4, .int (v5 ||| (1 <<< (v6 &&& 31))), .int v6], [], σ10)) ∧ (¬ (¬ (σ10 20 (ix v6)) = x3) → K (49, [.ref 4, .int x1, .int x2, .int x3, .int v4, .int (v5 ||| (1 <<< (v6 &&& 31))), .int v6], [], σ10))))
          refine ⟨rfl, g13, ⟨fun _ => ?_, fun q => absurd c14 q⟩⟩
          refine hw 2 _ ?_
          show K (9, [.ref 4, .int x1, .int x2, .int x3, .int v4, .int (v5 ||| (1 <<< (v6 &&& 31))), .int (v6 + 1)], [], σ10)
          exact ih v4 (v5 ||| (1 <<< (v6 &&& 31))) (v6 + 1) σ10 h hk
        · refine hw 12 _ ?_
          show kd 20 = 1 ∧ (inb v6 20 = true ∧ (((¬ (σ10 20 (ix v6)) = x3) → K (58, [.ref 4, .int x1, .int x2, .int x3, .int v4, .int (v5 ||| (1 <<< (v6 &&& 31))), .int v6], [], σ10)) ∧ (¬ (¬ (σ10 20 (ix v6)) = x3) → K (49, [.ref 4, .int x1, .int x2, .int x3, .int v4, .int (v5 ||| (1 <<< (v6 &&& 31))), .int v6], [], σ10))))
          refine ⟨rfl, g13, ⟨fun q => absurd q c14, fun _ => ?_⟩⟩
          refine hw 8 _ ?_
          show K (9, [.ref 4, .int x1, .int x2, .int x3, .int (v4 ||| (1 <<< (v6 &&& 31))), .int (v5 ||| (1 <<< (v6 &&& 31))), .int (v6 + 1)], [], σ10)
          exact ih (v4 ||| (1 <<< (v6 &&& 31))) (v5 ||| (1 <<< (v6 &&& 31))) (v6 + 1) σ10 h hk

set_option maxHeartbeats 4000000 in
set_option maxRecDepth 100000 in
theorem s_X3_lampsFor : runs T_X3_lampsFor [.ref 4] 7 F_X3_lampsFor := by
  intro Qa K hw hf As σ r σ' h hQ
  unfold F_X3_lampsFor at h
  split at h
  · rename_i p0 p1 p2
    unfold f_X3_lampsFor at h
    have hQ : Qa (r, σ').1 (r, σ').2 := hQ
    generalize (r, σ') = y at h hQ
    show K (0, [.ref 4, .int p0, .int p1, .int p2, .null, .null, .null], [], σ)
    refine hw 6 _ ?_
    show K (9, [.ref 4, .int p0, .int p1, .int p2, .int 0, .int 0, .int 0], [], σ)
    refine t_X3_lampsFor_9 hw hf p0 p1 p2 _ _ lf 0 0 0 σ h (fun v15 v16 v17 σ18 h => ?_)
    show K (64, [.ref 4, .int p0, .int p1, .int p2, .int v15, .int v16, .int v17], [], σ18)
    rcases ite_cases h with ⟨c19, h⟩ | ⟨c19, h⟩
    · refine hw 2 _ ?_
      show ((v15 = 0) → K (74, [.ref 4, .int p0, .int p1, .int p2, .int v15, .int v16, .int v17], [], σ18)) ∧ (¬ (v15 = 0) → K (69, [.ref 4, .int p0, .int p1, .int p2, .int v15, .int v16, .int v17], [], σ18))
      refine ⟨fun _ => ?_, fun q => absurd c19 q⟩
      obtain rfl := Option.some.inj h
      refine hw 2 _ ?_
      show Qa v16 σ18
      refine hQ
    · refine hw 2 _ ?_
      show ((v15 = 0) → K (74, [.ref 4, .int p0, .int p1, .int p2, .int v15, .int v16, .int v17], [], σ18)) ∧ (¬ (v15 = 0) → K (69, [.ref 4, .int p0, .int p1, .int p2, .int v15, .int v16, .int v17], [], σ18))
      refine ⟨fun q => absurd q c19, fun _ => ?_⟩
      obtain rfl := Option.some.inj h
      refine hw 3 _ ?_
      show Qa v15 σ18
      refine hQ
  · cases h
theorem h_X3_lampsFor : shp [.ref 4] 7 F_X3_lampsFor := by
  intro As σ r σ' h
  unfold F_X3_lampsFor at h
  split at h
  · exact ⟨by simp [Value.category], Nat.le_of_ble_eq_true rfl⟩
  · cases h
set_option maxHeartbeats 4000000 in
set_option maxRecDepth 100000 in
theorem c_X3_lampsFor (l : Launch) (D : va_G) (cI cZ cA cL : ClassId) (ad : Nat → Nat) (hi : adI ad) : CtI l yX3_lampsFor wsX3_lampsFor { frames := 1, cells := 0, slots := 0, locals := 23 } D cI cZ cA cL ad [.ref 4] F_X3_lampsFor := by
  refine mk_I [.ref 4] F_X3_lampsFor T_X3_lampsFor (by decide +kernel) rfl ?_ h_X3_lampsFor s_X3_lampsFor
  intro p e s m args below meth c Qa ⟨hx, hb, hml, hown, hts, hr, hlocks, hK, hN⟩
  have hin3 : ∀ w ∈ u_ws RX3 TX3 9, w ∈ wsX3_lampsFor := by decide +kernel
  have hl36 : (Cond.fieldLink RX3 36 RX3 (TX3 8).2.1 (TX3 8).2.2.1) ∈ wsX3_lampsFor := by decide +kernel
  have hl18 : (Cond.fieldLink RX3 18 RX3 (TX3 2).2.1 (TX3 2).2.2.1) ∈ wsX3_lampsFor := by decide +kernel
  refine ruL_c (n := 0) (n2 := 1) rfl (ru_iconst hx hb dX3_lampsFor_0 rfl) ?_
  refine ruL_c (n := 1) (n2 := 2) rfl (ru_istore hx hb dX3_lampsFor_1) ?_
  refine ruL_c (n := 2) (n2 := 3) rfl (ru_bot) ?_
  refine ruL_c (n := 3) (n2 := 4) rfl (ru_iconst hx hb dX3_lampsFor_3 rfl) ?_
  refine ruL_c (n := 4) (n2 := 5) rfl (ru_istore hx hb dX3_lampsFor_4) ?_
  refine ruL_c (n := 5) (n2 := 6) rfl (ru_bot) ?_
  refine ruL_c (n := 6) (n2 := 7) rfl (ru_iconst hx hb dX3_lampsFor_6 rfl) ?_
  refine ruL_c (n := 7) (n2 := 8) rfl (ru_istore hx hb dX3_lampsFor_7) ?_
  refine ruL_c (n := 8) (n2 := 9) rfl (ru_bot) ?_
  refine ruL_c (n := 9) (n2 := 10) rfl (ru_iload hx hb dX3_lampsFor_9) ?_
  refine ruL_c (n := 10) (n2 := 11) rfl (ru_bot) ?_
  refine ruL_c (n := 11) (n2 := 12) rfl (ru_aload_n (k := 0) hx hb dX3_lampsFor_11) ?_
  refine ruL_c (n := 12) (n2 := 13) rfl (ru_getI (own := RX3) (j := 8) (T := TX3) hx hb hown hK hts hin3 (by decide) rfl rfl (by decide) rfl hl36 dX3_lampsFor_12) ?_
  refine ruL_c (n := 13) (n2 := 14) rfl (ru_bot) ?_
  refine ruL_c (n := 14) (n2 := 15) rfl (ru_bot) ?_
  refine ruL_c (n := 15) (n2 := 16) rfl (ru_icmpge hx hb dX3_lampsFor_15 (by decide)) ?_
  refine ruL_c (n := 16) (n2 := 17) rfl (ru_bot) ?_
  refine ruL_c (n := 17) (n2 := 18) rfl (ru_bot) ?_
  refine ruL_c (n := 18) (n2 := 19) rfl (ru_aload_n (k := 0) hx hb dX3_lampsFor_18) ?_
  refine ruL_c (n := 19) (n2 := 20) rfl (ru_iload hx hb dX3_lampsFor_19) ?_
  refine ruL_c (n := 20) (n2 := 21) rfl (ru_bot) ?_
  refine ruL_c (n := 21) (n2 := 22) rfl (ru_iload_n (k := 1) hx hb dX3_lampsFor_21) ?_
  refine ruL_c (n := 22) (n2 := 23) rfl (ru_iload_n (k := 2) hx hb dX3_lampsFor_22) ?_
  refine ruL_c (n := 23) (n2 := 24) rfl (ru_callV hx hb hml hown hts hK hN (by decide) rfl (c_X3_isFor l D cI cZ cA cL ad hi) (cwV 3 hts gX3_lampsFor_X3_isFor rfl rfl rfl (by decide +kernel) ⟨Nat.le_of_ble_eq_true rfl, Nat.le_of_ble_eq_true rfl⟩) dX3_lampsFor_23 ⟨Nat.zero_le _, Nat.zero_le _⟩) ?_
  refine ruL_c (n := 24) (n2 := 25) rfl (ru_bot) ?_
  refine ruL_c (n := 25) (n2 := 26) rfl (ru_bot) ?_
  refine ruL_c (n := 26) (n2 := 27) rfl (ru_ifeq hx hb dX3_lampsFor_26 (by decide)) ?_
  refine ruL_c (n := 27) (n2 := 28) rfl (ru_bot) ?_
  refine ruL_c (n := 28) (n2 := 29) rfl (ru_bot) ?_
  refine ruL_c (n := 29) (n2 := 30) rfl (ru_iload hx hb dX3_lampsFor_29) ?_
  refine ruL_c (n := 30) (n2 := 31) rfl (ru_bot) ?_
  refine ruL_c (n := 31) (n2 := 32) rfl (ru_iconst hx hb dX3_lampsFor_31 rfl) ?_
  refine ruL_c (n := 32) (n2 := 33) rfl (ru_iload hx hb dX3_lampsFor_32) ?_
  refine ruL_c (n := 33) (n2 := 34) rfl (ru_bot) ?_
  refine ruL_c (n := 34) (n2 := 35) rfl (ru_ishl hx hb dX3_lampsFor_34) ?_
  refine ruL_c (n := 35) (n2 := 36) rfl (ru_ior hx hb dX3_lampsFor_35) ?_
  refine ruL_c (n := 36) (n2 := 37) rfl (ru_istore hx hb dX3_lampsFor_36) ?_
  refine ruL_c (n := 37) (n2 := 38) rfl (ru_bot) ?_
  refine ruL_c (n := 38) (n2 := 39) rfl (ru_aload_n (k := 0) hx hb dX3_lampsFor_38) ?_
  refine ruL_c (n := 39) (n2 := 40) rfl (ru_getR (own := RX3) (j := 2) (T := TX3) hx hb hown hK hts hin3 (by decide) rfl rfl (by decide) rfl hl18 dX3_lampsFor_39) ?_
  refine ruL_c (n := 40) (n2 := 41) rfl (ru_bot) ?_
  refine ruL_c (n := 41) (n2 := 42) rfl (ru_bot) ?_
  refine ruL_c (n := 42) (n2 := 43) rfl (ru_iload hx hb dX3_lampsFor_42) ?_
  refine ruL_c (n := 43) (n2 := 44) rfl (ru_bot) ?_
  refine ruL_c (n := 44) (n2 := 45) rfl (ru_iald hx hb hK dX3_lampsFor_44) ?_
  refine ruL_c (n := 45) (n2 := 46) rfl (ru_iload_n (k := 3) hx hb dX3_lampsFor_45) ?_
  refine ruL_c (n := 46) (n2 := 47) rfl (ru_icmpne hx hb dX3_lampsFor_46 (by decide)) ?_
  refine ruL_c (n := 47) (n2 := 48) rfl (ru_bot) ?_
  refine ruL_c (n := 48) (n2 := 49) rfl (ru_bot) ?_
  refine ruL_c (n := 49) (n2 := 50) rfl (ru_iload hx hb dX3_lampsFor_49) ?_
  refine ruL_c (n := 50) (n2 := 51) rfl (ru_bot) ?_
  refine ruL_c (n := 51) (n2 := 52) rfl (ru_iconst hx hb dX3_lampsFor_51 rfl) ?_
  refine ruL_c (n := 52) (n2 := 53) rfl (ru_iload hx hb dX3_lampsFor_52) ?_
  refine ruL_c (n := 53) (n2 := 54) rfl (ru_bot) ?_
  refine ruL_c (n := 54) (n2 := 55) rfl (ru_ishl hx hb dX3_lampsFor_54) ?_
  refine ruL_c (n := 55) (n2 := 56) rfl (ru_ior hx hb dX3_lampsFor_55) ?_
  refine ruL_c (n := 56) (n2 := 57) rfl (ru_istore hx hb dX3_lampsFor_56) ?_
  refine ruL_c (n := 57) (n2 := 58) rfl (ru_bot) ?_
  refine ruL_c (n := 58) (n2 := 59) rfl (ru_iinc hx hb dX3_lampsFor_58 rfl) ?_
  refine ruL_c (n := 59) (n2 := 60) rfl (ru_bot) ?_
  refine ruL_c (n := 60) (n2 := 61) rfl (ru_bot) ?_
  refine ruL_c (n := 61) (n2 := 62) rfl (ru_goto hx hb dX3_lampsFor_61 (by decide)) ?_
  refine ruL_c (n := 62) (n2 := 63) rfl (ru_bot) ?_
  refine ruL_c (n := 63) (n2 := 64) rfl (ru_bot) ?_
  refine ruL_c (n := 64) (n2 := 65) rfl (ru_iload hx hb dX3_lampsFor_64) ?_
  refine ruL_c (n := 65) (n2 := 66) rfl (ru_bot) ?_
  refine ruL_c (n := 66) (n2 := 67) rfl (ru_ifeq hx hb dX3_lampsFor_66 (by decide)) ?_
  refine ruL_c (n := 67) (n2 := 68) rfl (ru_bot) ?_
  refine ruL_c (n := 68) (n2 := 69) rfl (ru_bot) ?_
  refine ruL_c (n := 69) (n2 := 70) rfl (ru_iload hx hb dX3_lampsFor_69) ?_
  refine ruL_c (n := 70) (n2 := 71) rfl (ru_bot) ?_
  refine ruL_c (n := 71) (n2 := 72) rfl (ru_goto hx hb dX3_lampsFor_71 (by decide)) ?_
  refine ruL_c (n := 72) (n2 := 73) rfl (ru_bot) ?_
  refine ruL_c (n := 73) (n2 := 74) rfl (ru_bot) ?_
  refine ruL_c (n := 74) (n2 := 75) rfl (ru_iload hx hb dX3_lampsFor_74) ?_
  refine ruL_c (n := 75) (n2 := 76) rfl (ru_bot) ?_
  refine ruL_c (n := 76) (n2 := 77) rfl (ru_iret hx hb hK hr hlocks dX3_lampsFor_76) ?_
  exact trivial

-- CueTour$Rig.lay
def l_X3_lay_3 (x1 : Int32) (a2 : Nat) : Nat → Int32 → aM → (Int32 → aM → Option (Int32 × aM)) → Option (Int32 × aM)
  | 0, _, _, _ => none
  | n + 1, v3, σ4, k => if 10 ≤ v3 then k v3 σ4 else if inb v3 10 = true then if inb v3 10 = true then bnd (f_X3_lampsFor x1 (σ4 9 (ix v3)) (σ4 10 (ix v3)) σ4) (fun r8 σ9 => if kd a2 = 1 then if inb v3 (ln a2) = true then l_X3_lay_3 x1 a2 n (v3 + 1) (mput σ9 a2 (ix v3) r8) k else none else none) else none else none
def f_X3_lay (p0 : Int32) (p2 : Nat) (σ : aM) : Option (Int32 × aM) := l_X3_lay_3 p0 p2 lf 0 σ (fun v13 σ14 => some (0, σ14))
def F_X3_lay : aF := fun As σ => match As with
  | [.int p0, .ref 2, .ref p2] => f_X3_lay p0 p2 σ
  | _ => none
def T_X3_lay (Qa : Int32 → aM → Prop) : List aI := [I_const 0 1, I_istore 4 2, I_bot, I_iload 4 2, I_bot, I_const (10) 2, I_bot, I_icmp (fun x y => y ≤ x) 39, I_bot, I_bot, I_aload 3 1, I_iload 4 2, I_bot, I_aload 0 1, I_iload 1 1, I_aload 2 1, I_getR 2 9, I_bot, I_bot, I_iload 4 2, I_bot, I_iald, I_aload 2 1, I_getR 2 10, I_bot, I_bot, I_iload 4 2, I_bot, I_iald, I_callV 4 3 F_X3_lampsFor, I_bot, I_bot, I_iast, I_iinc 4 (1), I_bot, I_bot, I_goto 3, I_bot, I_bot, I_vret Qa]
set_option maxHeartbeats 4000000 in
set_option maxRecDepth 100000 in
theorem t_X3_lay_3 {Qa : Int32 → aM → Prop} {K : aS → Prop} (hw : ∀ k x, wp (T_X3_lay Qa) k K x → K x) (hf : ∀ pc L i st σ, K (pc, L.set i .null, st, σ) → K (pc, L, st, σ)) (x1 : Int32) (a2 : Nat) (y : Int32 × aM) (k : Int32 → aM → Option (Int32 × aM)) :
    ∀ (n : Nat) (v3 : Int32) (σ4 : aM), l_X3_lay_3 x1 a2 n v3 σ4 k = some y → (∀ (w0 : Int32) (τ : aM), k w0 τ = some y → K (39, [.ref 4, .int x1, .ref 2, .ref a2, .int w0], [], τ)) → K (3, [.ref 4, .int x1, .ref 2, .ref a2, .int v3], [], σ4) := by
  intro n
  induction n with
  | zero =>
    intro v3 σ4 h hk
    exact absurd h (by simp [l_X3_lay_3])
  | succ n ih =>
    intro v3 σ4 h hk
    unfold l_X3_lay_3 at h
    rcases ite_cases h with ⟨c5, h⟩ | ⟨c5, h⟩
    · refine hw 3 _ ?_
      show ((10 ≤ v3) → K (39, [.ref 4, .int x1, .ref 2, .ref a2, .int v3], [], σ4)) ∧ (¬ (10 ≤ v3) → K (10, [.ref 4, .int x1, .ref 2, .ref a2, .int v3], [], σ4))
      refine ⟨fun _ => ?_, fun q => absurd c5 q⟩
      exact hk v3 σ4 h
    · refine hw 3 _ ?_
      show ((10 ≤ v3) → K (39, [.ref 4, .int x1, .ref 2, .ref a2, .int v3], [], σ4)) ∧ (¬ (10 ≤ v3) → K (10, [.ref 4, .int x1, .ref 2, .ref a2, .int v3], [], σ4))
      refine ⟨fun q => absurd q c5, fun _ => ?_⟩
      obtain ⟨g6, h⟩ := ite_some h
      obtain ⟨g7, h⟩ := ite_some h
      obtain ⟨r8, σ9, e10, h⟩ := bnd_some h
      refine hw 13 _ ?_
      show kd 9 = 1 ∧ (inb v3 10 = true ∧ (kd 10 = 1 ∧ (inb v3 10 = true ∧ (∃ r8 σ9, f_X3_lampsFor x1 (σ4 9 (ix v3)) (σ4 10 (ix v3)) σ4 = some (r8, σ9) ∧ K (32, [.ref 4, .int x1, .ref 2, .ref a2, .int v3], [.int r8, .int v3, .ref a2], σ9)))))
      refine ⟨rfl, g6, rfl, g7, ⟨r8, σ9, e10, ?_⟩⟩
      obtain ⟨g11, h⟩ := ite_some h
      obtain ⟨g12, h⟩ := ite_some h
      refine hw 3 _ ?_
      show kd a2 = 1 ∧ (inb v3 (ln a2) = true ∧ (K (3, [.ref 4, .int x1, .ref 2, .ref a2, .int (v3 + 1)], [], mput σ9 a2 (ix v3) r8)))
      refine ⟨g11, g12, ?_⟩
      exact ih (v3 + 1) (mput σ9 a2 (ix v3) r8) h hk

set_option maxHeartbeats 4000000 in
set_option maxRecDepth 100000 in
theorem s_X3_lay : runs T_X3_lay [.ref 4] 5 F_X3_lay := by
  intro Qa K hw hf As σ r σ' h hQ
  unfold F_X3_lay at h
  split at h
  · rename_i p0 p2
    unfold f_X3_lay at h
    have hQ : Qa (r, σ').1 (r, σ').2 := hQ
    generalize (r, σ') = y at h hQ
    show K (0, [.ref 4, .int p0, .ref 2, .ref p2, .null], [], σ)
    refine hw 2 _ ?_
    show K (3, [.ref 4, .int p0, .ref 2, .ref p2, .int 0], [], σ)
    refine t_X3_lay_3 hw hf p0 p2 _ _ lf 0 σ h (fun v13 σ14 h => ?_)
    show K (39, [.ref 4, .int p0, .ref 2, .ref p2, .int v13], [], σ14)
    obtain rfl := Option.some.inj h
    refine hw 1 _ ?_
    show Qa 0 σ14
    refine hQ
  · cases h
theorem h_X3_lay : shp [.ref 4] 5 F_X3_lay := by
  intro As σ r σ' h
  unfold F_X3_lay at h
  split at h
  · exact ⟨by simp [Value.category], Nat.le_of_ble_eq_true rfl⟩
  · cases h
set_option maxHeartbeats 4000000 in
set_option maxRecDepth 100000 in
theorem c_X3_lay (l : Launch) (D : va_G) (cI cZ cA cL : ClassId) (ad : Nat → Nat) (hi : adI ad) : CtV l yX3_lay wsX3_lay { frames := 2, cells := 0, slots := 0, locals := 49 } D cI cZ cA cL ad [.ref 4] F_X3_lay := by
  refine mk_V [.ref 4] F_X3_lay T_X3_lay (by decide +kernel) rfl ?_ h_X3_lay s_X3_lay
  intro p e s m args below meth c Qa ⟨hx, hb, hml, hown, hts, hr, hlocks, hK, hN⟩
  have hin2 : ∀ w ∈ u_ws RX2 TX2 2, w ∈ wsX3_lay := by decide +kernel
  have hl56 : (Cond.fieldLinkNest RX3 56 RX2 (TX2 0).2.1 (TX2 0).2.2.1 "CueTour") ∈ nwL := by decide +kernel
  have hl59 : (Cond.fieldLinkNest RX3 59 RX2 (TX2 1).2.1 (TX2 1).2.2.1 "CueTour") ∈ nwL := by decide +kernel
  refine ruL_c (n := 0) (n2 := 1) rfl (ru_iconst hx hb dX3_lay_0 rfl) ?_
  refine ruL_c (n := 1) (n2 := 2) rfl (ru_istore hx hb dX3_lay_1) ?_
  refine ruL_c (n := 2) (n2 := 3) rfl (ru_bot) ?_
  refine ruL_c (n := 3) (n2 := 4) rfl (ru_iload hx hb dX3_lay_3) ?_
  refine ruL_c (n := 4) (n2 := 5) rfl (ru_bot) ?_
  refine ruL_c (n := 5) (n2 := 6) rfl (ru_bipush hx hb dX3_lay_5 rfl) ?_
  refine ruL_c (n := 6) (n2 := 7) rfl (ru_bot) ?_
  refine ruL_c (n := 7) (n2 := 8) rfl (ru_icmpge hx hb dX3_lay_7 (by decide)) ?_
  refine ruL_c (n := 8) (n2 := 9) rfl (ru_bot) ?_
  refine ruL_c (n := 9) (n2 := 10) rfl (ru_bot) ?_
  refine ruL_c (n := 10) (n2 := 11) rfl (ru_aload_n (k := 3) hx hb dX3_lay_10) ?_
  refine ruL_c (n := 11) (n2 := 12) rfl (ru_iload hx hb dX3_lay_11) ?_
  refine ruL_c (n := 12) (n2 := 13) rfl (ru_bot) ?_
  refine ruL_c (n := 13) (n2 := 14) rfl (ru_aload_n (k := 0) hx hb dX3_lay_13) ?_
  refine ruL_c (n := 14) (n2 := 15) rfl (ru_iload_n (k := 1) hx hb dX3_lay_14) ?_
  refine ruL_c (n := 15) (n2 := 16) rfl (ru_aload_n (k := 2) hx hb dX3_lay_15) ?_
  refine ruL_c (n := 16) (n2 := 17) rfl (ru_getRN (own := RX3) (j := 0) (T := TX2) hx hb hown hK hN hts hin2 (by decide) rfl rfl (by decide) rfl hl56 dX3_lay_16) ?_
  refine ruL_c (n := 17) (n2 := 18) rfl (ru_bot) ?_
  refine ruL_c (n := 18) (n2 := 19) rfl (ru_bot) ?_
  refine ruL_c (n := 19) (n2 := 20) rfl (ru_iload hx hb dX3_lay_19) ?_
  refine ruL_c (n := 20) (n2 := 21) rfl (ru_bot) ?_
  refine ruL_c (n := 21) (n2 := 22) rfl (ru_iald hx hb hK dX3_lay_21) ?_
  refine ruL_c (n := 22) (n2 := 23) rfl (ru_aload_n (k := 2) hx hb dX3_lay_22) ?_
  refine ruL_c (n := 23) (n2 := 24) rfl (ru_getRN (own := RX3) (j := 1) (T := TX2) hx hb hown hK hN hts hin2 (by decide) rfl rfl (by decide) rfl hl59 dX3_lay_23) ?_
  refine ruL_c (n := 24) (n2 := 25) rfl (ru_bot) ?_
  refine ruL_c (n := 25) (n2 := 26) rfl (ru_bot) ?_
  refine ruL_c (n := 26) (n2 := 27) rfl (ru_iload hx hb dX3_lay_26) ?_
  refine ruL_c (n := 27) (n2 := 28) rfl (ru_bot) ?_
  refine ruL_c (n := 28) (n2 := 29) rfl (ru_iald hx hb hK dX3_lay_28) ?_
  refine ruL_c (n := 29) (n2 := 30) rfl (ru_callV hx hb hml hown hts hK hN (by decide) rfl (c_X3_lampsFor l D cI cZ cA cL ad hi) (cwV 3 hts gX3_lay_X3_lampsFor rfl rfl rfl (by decide +kernel) ⟨Nat.le_of_ble_eq_true rfl, Nat.le_of_ble_eq_true rfl⟩) dX3_lay_29 ⟨Nat.zero_le _, Nat.zero_le _⟩) ?_
  refine ruL_c (n := 30) (n2 := 31) rfl (ru_bot) ?_
  refine ruL_c (n := 31) (n2 := 32) rfl (ru_bot) ?_
  refine ruL_c (n := 32) (n2 := 33) rfl (ru_iast hx hb hK hi dX3_lay_32) ?_
  refine ruL_c (n := 33) (n2 := 34) rfl (ru_iinc hx hb dX3_lay_33 rfl) ?_
  refine ruL_c (n := 34) (n2 := 35) rfl (ru_bot) ?_
  refine ruL_c (n := 35) (n2 := 36) rfl (ru_bot) ?_
  refine ruL_c (n := 36) (n2 := 37) rfl (ru_goto hx hb dX3_lay_36 (by decide)) ?_
  refine ruL_c (n := 37) (n2 := 38) rfl (ru_bot) ?_
  refine ruL_c (n := 38) (n2 := 39) rfl (ru_bot) ?_
  refine ruL_c (n := 39) (n2 := 40) rfl (ru_vret hx hb hK hr hlocks dX3_lay_39) ?_
  exact trivial

-- CueTour$Rig.levelOf
def l_X3_levelOf_20 (x3 : Int32) (a4 : Nat) (a5 : Nat) : Nat → Int32 → Int32 → aM → (Int32 → Int32 → aM → Option (Int32 × aM)) → Option (Int32 × aM)
  | 0, _, _, _, _ => none
  | n + 1, v6, v7, σ8, k => if 10 ≤ v7 then k v6 v7 σ8 else if kd a4 = 1 then if inb v7 (ln a4) = true then if (((σ8 a4 (ix v7)) >>> (x3 &&& 31)) &&& 1) = 0 then l_X3_levelOf_20 x3 a4 a5 n v6 (v7 + 1) σ8 k else if kd a5 = 1 then if inb v7 (ln a5) = true then if (σ8 a5 (ix v7)) ≤ v6 then l_X3_levelOf_20 x3 a4 a5 n v6 (v7 + 1) σ8 k else if kd a5 = 1 then if inb v7 (ln a5) = true then l_X3_levelOf_20 x3 a4 a5 n (σ8 a5 (ix v7)) (v7 + 1) σ8 k else none else none else none else none else none else none
def f_X3_levelOf (p0 : Int32) (p1 : Nat) (p2 : Nat) (σ : aM) : Option (Int32 × aM) := if inb p0 20 = true then if (σ 24 (ix p0)) < 300 then l_X3_levelOf_20 p0 p1 p2 lf 0 0 σ (fun v18 v19 σ20 => some (v18, σ20)) else some (0, σ) else none
def F_X3_levelOf : aF := fun As σ => match As with
  | [.int p0, .ref p1, .ref p2] => f_X3_levelOf p0 p1 p2 σ
  | _ => none
def T_X3_levelOf (Qa : Int32 → aM → Prop) : List aI := [I_aload 0 1, I_getR 4 24, I_bot, I_bot, I_iload 1 1, I_iald, I_const (300) 3, I_bot, I_bot, I_icmp (fun x y => x < y) 14, I_bot, I_bot, I_const 0 1, I_iret Qa, I_const 0 1, I_istore 4 2, I_bot, I_const 0 1, I_istore 5 2, I_bot, I_iload 5 2, I_bot, I_const (10) 2, I_bot, I_icmp (fun x y => y ≤ x) 59, I_bot, I_bot, I_aload 2 1, I_iload 5 2, I_bot, I_iald, I_iload 1 1, I_bin fun x y => x >>> (y &&& 31), I_const 1 1, I_bin fun x y => x &&& y, I_if (fun x => x = 0) 53, I_bot, I_bot, I_aload 3 1, I_iload 5 2, I_bot, I_iald, I_iload 4 2, I_bot, I_icmp (fun x y => x ≤ y) 53, I_bot, I_bot, I_aload 3 1, I_iload 5 2, I_bot, I_iald, I_istore 4 2, I_bot, I_iinc 5 (1), I_bot, I_bot, I_goto 20, I_bot, I_bot, I_iload 4 2, I_bot, I_iret Qa]
set_option maxHeartbeats 4000000 in
set_option maxRecDepth 100000 in
theorem t_X3_levelOf_20 {Qa : Int32 → aM → Prop} {K : aS → Prop} (hw : ∀ k x, wp (T_X3_levelOf Qa) k K x → K x) (hf : ∀ pc L i st σ, K (pc, L.set i .null, st, σ) → K (pc, L, st, σ)) (x3 : Int32) (a4 : Nat) (a5 : Nat) (y : Int32 × aM) (k : Int32 → Int32 → aM → Option (Int32 × aM)) :
    ∀ (n : Nat) (v6 : Int32) (v7 : Int32) (σ8 : aM), l_X3_levelOf_20 x3 a4 a5 n v6 v7 σ8 k = some y → (∀ (w0 : Int32) (w1 : Int32) (τ : aM), k w0 w1 τ = some y → K (59, [.ref 4, .int x3, .ref a4, .ref a5, .int w0, .int w1], [], τ)) → K (20, [.ref 4, .int x3, .ref a4, .ref a5, .int v6, .int v7], [], σ8) := by
  intro n
  induction n with
  | zero =>
    intro v6 v7 σ8 h hk
    exact absurd h (by simp [l_X3_levelOf_20])
  | succ n ih =>
    intro v6 v7 σ8 h hk
    unfold l_X3_levelOf_20 at h
    rcases ite_cases h with ⟨c9, h⟩ | ⟨c9, h⟩
    · refine hw 3 _ ?_
      show ((10 ≤ v7) → K (59, [.ref 4, .int x3, .ref a4, .ref a5, .int v6, .int v7], [], σ8)) ∧ (¬ (10 ≤ v7) → K (27, [.ref 4, .int x3, .ref a4, .ref a5, .int v6, .int v7], [], σ8))
      refine ⟨fun _ => ?_, fun q => absurd c9 q⟩
      exact hk v6 v7 σ8 h
    · refine hw 3 _ ?_
      show ((10 ≤ v7) → K (59, [.ref 4, .int x3, .ref a4, .ref a5, .int v6, .int v7], [], σ8)) ∧ (¬ (10 ≤ v7) → K (27, [.ref 4, .int x3, .ref a4, .ref a5, .int v6, .int v7], [], σ8))
      refine ⟨fun q => absurd q c9, fun _ => ?_⟩
      obtain ⟨g10, h⟩ := ite_some h
      obtain ⟨g11, h⟩ := ite_some h
      rcases ite_cases h with ⟨c12, h⟩ | ⟨c12, h⟩
      · refine hw 8 _ ?_
        show kd a4 = 1 ∧ (inb v7 (ln a4) = true ∧ ((((((σ8 a4 (ix v7)) >>> (x3 &&& 31)) &&& 1) = 0) → K (53, [.ref 4, .int x3, .ref a4, .ref a5, .int v6, .int v7], [], σ8)) ∧ (¬ ((((σ8 a4 (ix v7)) >>> (x3 &&& 31)) &&& 1) = 0) → K (38, [.ref 4, .int x3, .ref a4, .ref a5, .int v6, .int v7], [], σ8))))
        refine ⟨g10, g11, ⟨fun _ => ?_, fun q => absurd c12 q⟩⟩
        refine hw 2 _ ?_
        show K (20, [.ref 4, .int x3, .ref a4, .ref a5, .int v6, .int (v7 + 1)], [], σ8)
        exact ih v6 (v7 + 1) σ8 h hk
      · refine hw 8 _ ?_
        show kd a4 = 1 ∧ (inb v7 (ln a4) = true ∧ ((((((σ8 a4 (ix v7)) >>> (x3 &&& 31)) &&& 1) = 0) → K (53, [.ref 4, .int x3, .ref a4, .ref a5, .int v6, .int v7], [], σ8)) ∧ (¬ ((((σ8 a4 (ix v7)) >>> (x3 &&& 31)) &&& 1) = 0) → K (38, [.ref 4, .int x3, .ref a4, .ref a5, .int v6, .int v7], [], σ8))))
        refine ⟨g10, g11, ⟨fun q => absurd q c12, fun _ => ?_⟩⟩
        obtain ⟨g13, h⟩ := ite_some h
        obtain ⟨g14, h⟩ := ite_some h
        rcases ite_cases h with ⟨c15, h⟩ | ⟨c15, h⟩
        · refine hw 5 _ ?_
          show kd a5 = 1 ∧ (inb v7 (ln a5) = true ∧ ((((σ8 a5 (ix v7)) ≤ v6) → K (53, [.ref 4, .int x3, .ref a4, .ref a5, .int v6, .int v7], [], σ8)) ∧ (¬ ((σ8 a5 (ix v7)) ≤ v6) → K (47, [.ref 4, .int x3, .ref a4, .ref a5, .int v6, .int v7], [], σ8))))
          refine ⟨g13, g14, ⟨fun _ => ?_, fun q => absurd c15 q⟩⟩
          refine hw 2 _ ?_
          show K (20, [.ref 4, .int x3, .ref a4, .ref a5, .int v6, .int (v7 + 1)], [], σ8)
          exact ih v6 (v7 + 1) σ8 h hk
        · refine hw 5 _ ?_
          show kd a5 = 1 ∧ (inb v7 (ln a5) = true ∧ ((((σ8 a5 (ix v7)) ≤ v6) → K (53, [.ref 4, .int x3, .ref a4, .ref a5, .int v6, .int v7], [], σ8)) ∧ (¬ ((σ8 a5 (ix v7)) ≤ v6) → K (47, [.ref 4, .int x3, .ref a4, .ref a5, .int v6, .int v7], [], σ8))))
          refine ⟨g13, g14, ⟨fun q => absurd q c15, fun _ => ?_⟩⟩
          obtain ⟨g16, h⟩ := ite_some h
          obtain ⟨g17, h⟩ := ite_some h
          refine hw 6 _ ?_
          show kd a5 = 1 ∧ (inb v7 (ln a5) = true ∧ (K (20, [.ref 4, .int x3, .ref a4, .ref a5, .int (σ8 a5 (ix v7)), .int (v7 + 1)], [], σ8)))
          refine ⟨g16, g17, ?_⟩
          exact ih (σ8 a5 (ix v7)) (v7 + 1) σ8 h hk

set_option maxHeartbeats 4000000 in
set_option maxRecDepth 100000 in
theorem s_X3_levelOf : runs T_X3_levelOf [.ref 4] 6 F_X3_levelOf := by
  intro Qa K hw hf As σ r σ' h hQ
  unfold F_X3_levelOf at h
  split at h
  · rename_i p0 p1 p2
    unfold f_X3_levelOf at h
    have hQ : Qa (r, σ').1 (r, σ').2 := hQ
    generalize (r, σ') = y at h hQ
    show K (0, [.ref 4, .int p0, .ref p1, .ref p2, .null, .null], [], σ)
    obtain ⟨g1, h⟩ := ite_some h
    rcases ite_cases h with ⟨c2, h⟩ | ⟨c2, h⟩
    · refine hw 6 _ ?_
      show kd 24 = 1 ∧ (inb p0 20 = true ∧ ((((σ 24 (ix p0)) < 300) → K (14, [.ref 4, .int p0, .ref p1, .ref p2, .null, .null], [], σ)) ∧ (¬ ((σ 24 (ix p0)) < 300) → K (12, [.ref 4, .int p0, .ref p1, .ref p2, .null, .null], [], σ))))
      refine ⟨rfl, g1, ⟨fun _ => ?_, fun q => absurd c2 q⟩⟩
      refine hw 4 _ ?_
      show K (20, [.ref 4, .int p0, .ref p1, .ref p2, .int 0, .int 0], [], σ)
      refine t_X3_levelOf_20 hw hf p0 p1 p2 _ _ lf 0 0 σ h (fun v18 v19 σ20 h => ?_)
      show K (59, [.ref 4, .int p0, .ref p1, .ref p2, .int v18, .int v19], [], σ20)
      obtain rfl := Option.some.inj h
      refine hw 2 _ ?_
      show Qa v18 σ20
      refine hQ
    · refine hw 6 _ ?_
      show kd 24 = 1 ∧ (inb p0 20 = true ∧ ((((σ 24 (ix p0)) < 300) → K (14, [.ref 4, .int p0, .ref p1, .ref p2, .null, .null], [], σ)) ∧ (¬ ((σ 24 (ix p0)) < 300) → K (12, [.ref 4, .int p0, .ref p1, .ref p2, .null, .null], [], σ))))
      refine ⟨rfl, g1, ⟨fun q => absurd q c2, fun _ => ?_⟩⟩
      obtain rfl := Option.some.inj h
      refine hw 2 _ ?_
      show Qa 0 σ
      refine hQ
  · cases h
theorem h_X3_levelOf : shp [.ref 4] 6 F_X3_levelOf := by
  intro As σ r σ' h
  unfold F_X3_levelOf at h
  split at h
  · exact ⟨by simp [Value.category], Nat.le_of_ble_eq_true rfl⟩
  · cases h
set_option maxHeartbeats 4000000 in
set_option maxRecDepth 100000 in
theorem c_X3_levelOf (l : Launch) (D : va_G) (cI cZ cA cL : ClassId) (ad : Nat → Nat) (hi : adI ad) : CtI l yX3_levelOf wsX3_levelOf { frames := 0, cells := 0, slots := 0, locals := 0 } D cI cZ cA cL ad [.ref 4] F_X3_levelOf := by
  refine mk_I [.ref 4] F_X3_levelOf T_X3_levelOf (by decide +kernel) rfl ?_ h_X3_levelOf s_X3_levelOf
  intro p e s m args below meth c Qa ⟨hx, hb, hml, hown, hts, hr, hlocks, hK, hN⟩
  have hin3 : ∀ w ∈ u_ws RX3 TX3 9, w ∈ wsX3_levelOf := by decide +kernel
  have hl30 : (Cond.fieldLink RX3 30 RX3 (TX3 6).2.1 (TX3 6).2.2.1) ∈ wsX3_levelOf := by decide +kernel
  refine ruL_c (n := 0) (n2 := 1) rfl (ru_aload_n (k := 0) hx hb dX3_levelOf_0) ?_
  refine ruL_c (n := 1) (n2 := 2) rfl (ru_getR (own := RX3) (j := 6) (T := TX3) hx hb hown hK hts hin3 (by decide) rfl rfl (by decide) rfl hl30 dX3_levelOf_1) ?_
  refine ruL_c (n := 2) (n2 := 3) rfl (ru_bot) ?_
  refine ruL_c (n := 3) (n2 := 4) rfl (ru_bot) ?_
  refine ruL_c (n := 4) (n2 := 5) rfl (ru_iload_n (k := 1) hx hb dX3_levelOf_4) ?_
  refine ruL_c (n := 5) (n2 := 6) rfl (ru_iald hx hb hK dX3_levelOf_5) ?_
  refine ruL_c (n := 6) (n2 := 7) rfl (ru_sipush hx hb dX3_levelOf_6 rfl) ?_
  refine ruL_c (n := 7) (n2 := 8) rfl (ru_bot) ?_
  refine ruL_c (n := 8) (n2 := 9) rfl (ru_bot) ?_
  refine ruL_c (n := 9) (n2 := 10) rfl (ru_icmplt hx hb dX3_levelOf_9 (by decide)) ?_
  refine ruL_c (n := 10) (n2 := 11) rfl (ru_bot) ?_
  refine ruL_c (n := 11) (n2 := 12) rfl (ru_bot) ?_
  refine ruL_c (n := 12) (n2 := 13) rfl (ru_iconst hx hb dX3_levelOf_12 rfl) ?_
  refine ruL_c (n := 13) (n2 := 14) rfl (ru_iret hx hb hK hr hlocks dX3_levelOf_13) ?_
  refine ruL_c (n := 14) (n2 := 15) rfl (ru_iconst hx hb dX3_levelOf_14 rfl) ?_
  refine ruL_c (n := 15) (n2 := 16) rfl (ru_istore hx hb dX3_levelOf_15) ?_
  refine ruL_c (n := 16) (n2 := 17) rfl (ru_bot) ?_
  refine ruL_c (n := 17) (n2 := 18) rfl (ru_iconst hx hb dX3_levelOf_17 rfl) ?_
  refine ruL_c (n := 18) (n2 := 19) rfl (ru_istore hx hb dX3_levelOf_18) ?_
  refine ruL_c (n := 19) (n2 := 20) rfl (ru_bot) ?_
  refine ruL_c (n := 20) (n2 := 21) rfl (ru_iload hx hb dX3_levelOf_20) ?_
  refine ruL_c (n := 21) (n2 := 22) rfl (ru_bot) ?_
  refine ruL_c (n := 22) (n2 := 23) rfl (ru_bipush hx hb dX3_levelOf_22 rfl) ?_
  refine ruL_c (n := 23) (n2 := 24) rfl (ru_bot) ?_
  refine ruL_c (n := 24) (n2 := 25) rfl (ru_icmpge hx hb dX3_levelOf_24 (by decide)) ?_
  refine ruL_c (n := 25) (n2 := 26) rfl (ru_bot) ?_
  refine ruL_c (n := 26) (n2 := 27) rfl (ru_bot) ?_
  refine ruL_c (n := 27) (n2 := 28) rfl (ru_aload_n (k := 2) hx hb dX3_levelOf_27) ?_
  refine ruL_c (n := 28) (n2 := 29) rfl (ru_iload hx hb dX3_levelOf_28) ?_
  refine ruL_c (n := 29) (n2 := 30) rfl (ru_bot) ?_
  refine ruL_c (n := 30) (n2 := 31) rfl (ru_iald hx hb hK dX3_levelOf_30) ?_
  refine ruL_c (n := 31) (n2 := 32) rfl (ru_iload_n (k := 1) hx hb dX3_levelOf_31) ?_
  refine ruL_c (n := 32) (n2 := 33) rfl (ru_ishr hx hb dX3_levelOf_32) ?_
  refine ruL_c (n := 33) (n2 := 34) rfl (ru_iconst hx hb dX3_levelOf_33 rfl) ?_
  refine ruL_c (n := 34) (n2 := 35) rfl (ru_iand hx hb dX3_levelOf_34) ?_
  refine ruL_c (n := 35) (n2 := 36) rfl (ru_ifeq hx hb dX3_levelOf_35 (by decide)) ?_
  refine ruL_c (n := 36) (n2 := 37) rfl (ru_bot) ?_
  refine ruL_c (n := 37) (n2 := 38) rfl (ru_bot) ?_
  refine ruL_c (n := 38) (n2 := 39) rfl (ru_aload_n (k := 3) hx hb dX3_levelOf_38) ?_
  refine ruL_c (n := 39) (n2 := 40) rfl (ru_iload hx hb dX3_levelOf_39) ?_
  refine ruL_c (n := 40) (n2 := 41) rfl (ru_bot) ?_
  refine ruL_c (n := 41) (n2 := 42) rfl (ru_iald hx hb hK dX3_levelOf_41) ?_
  refine ruL_c (n := 42) (n2 := 43) rfl (ru_iload hx hb dX3_levelOf_42) ?_
  refine ruL_c (n := 43) (n2 := 44) rfl (ru_bot) ?_
  refine ruL_c (n := 44) (n2 := 45) rfl (ru_icmple hx hb dX3_levelOf_44 (by decide)) ?_
  refine ruL_c (n := 45) (n2 := 46) rfl (ru_bot) ?_
  refine ruL_c (n := 46) (n2 := 47) rfl (ru_bot) ?_
  refine ruL_c (n := 47) (n2 := 48) rfl (ru_aload_n (k := 3) hx hb dX3_levelOf_47) ?_
  refine ruL_c (n := 48) (n2 := 49) rfl (ru_iload hx hb dX3_levelOf_48) ?_
  refine ruL_c (n := 49) (n2 := 50) rfl (ru_bot) ?_
  refine ruL_c (n := 50) (n2 := 51) rfl (ru_iald hx hb hK dX3_levelOf_50) ?_
  refine ruL_c (n := 51) (n2 := 52) rfl (ru_istore hx hb dX3_levelOf_51) ?_
  refine ruL_c (n := 52) (n2 := 53) rfl (ru_bot) ?_
  refine ruL_c (n := 53) (n2 := 54) rfl (ru_iinc hx hb dX3_levelOf_53 rfl) ?_
  refine ruL_c (n := 54) (n2 := 55) rfl (ru_bot) ?_
  refine ruL_c (n := 55) (n2 := 56) rfl (ru_bot) ?_
  refine ruL_c (n := 56) (n2 := 57) rfl (ru_goto hx hb dX3_levelOf_56 (by decide)) ?_
  refine ruL_c (n := 57) (n2 := 58) rfl (ru_bot) ?_
  refine ruL_c (n := 58) (n2 := 59) rfl (ru_bot) ?_
  refine ruL_c (n := 59) (n2 := 60) rfl (ru_iload hx hb dX3_levelOf_59) ?_
  refine ruL_c (n := 60) (n2 := 61) rfl (ru_bot) ?_
  refine ruL_c (n := 61) (n2 := 62) rfl (ru_iret hx hb hK hr hlocks dX3_levelOf_61) ?_
  exact trivial

-- CueTour$Rig.lightOf
def l_X3_lightOf_6 (x1 : Int32) (x2 : Int32) (a3 : Nat) (a4 : Nat) : Nat → Int32 → Int32 → aM → (Int32 → Int32 → aM → Option (Int32 × aM)) → Option (Int32 × aM)
  | 0, _, _, _, _ => none
  | n + 1, v5, v6, σ7, k => if (σ7 4 8) ≤ v6 then k v5 v6 σ7 else bnd (f_X3_isFor v6 x1 x2 σ7) (fun r9 σ10 => if r9 = 0 then l_X3_lightOf_6 x1 x2 a3 a4 n v5 (v6 + 1) σ10 k else bnd (f_X3_levelOf v6 a3 a4 σ10) (fun r13 σ14 => if inb v6 20 = true then l_X3_lightOf_6 x1 x2 a3 a4 n (v5 + ((r13 * (σ14 21 (ix v6))) / 100)) (v6 + 1) σ14 k else none))
def f_X3_lightOf (p0 : Int32) (p1 : Int32) (p2 : Nat) (p3 : Nat) (σ : aM) : Option (Int32 × aM) := l_X3_lightOf_6 p0 p1 p2 p3 lf 0 0 σ (fun v17 v18 σ19 => if 100 ≤ v17 then some (100, σ19) else some (v17, σ19))
def F_X3_lightOf : aF := fun As σ => match As with
  | [.int p0, .int p1, .ref p2, .ref p3] => f_X3_lightOf p0 p1 p2 p3 σ
  | _ => none
def T_X3_lightOf (Qa : Int32 → aM → Prop) : List aI := [I_const 0 1, I_istore 5 2, I_bot, I_const 0 1, I_istore 6 2, I_bot, I_iload 6 2, I_bot, I_aload 0 1, I_getI 4 8, I_bot, I_bot, I_icmp (fun x y => y ≤ x) 57, I_bot, I_bot, I_aload 0 1, I_iload 6 2, I_bot, I_iload 1 1, I_iload 2 1, I_callV 4 3 F_X3_isFor, I_bot, I_bot, I_if (fun x => x = 0) 51, I_bot, I_bot, I_iload 5 2, I_bot, I_aload 0 1, I_iload 6 2, I_bot, I_aload 3 1, I_aload 4 2, I_bot, I_callV 4 3 F_X3_levelOf, I_bot, I_bot, I_aload 0 1, I_getR 4 21, I_bot, I_bot, I_iload 6 2, I_bot, I_iald, I_bin fun x y => x * y, I_const (100) 2, I_bot, I_div fun x y => x / y, I_bin fun x y => x + y, I_istore 5 2, I_bot, I_iinc 6 (1), I_bot, I_bot, I_goto 6, I_bot, I_bot, I_iload 5 2, I_bot, I_const (100) 2, I_bot, I_icmp (fun x y => y ≤ x) 69, I_bot, I_bot, I_iload 5 2, I_bot, I_goto 71, I_bot, I_bot, I_const (100) 2, I_bot, I_iret Qa]
set_option maxHeartbeats 4000000 in
set_option maxRecDepth 100000 in
theorem t_X3_lightOf_6 {Qa : Int32 → aM → Prop} {K : aS → Prop} (hw : ∀ k x, wp (T_X3_lightOf Qa) k K x → K x) (hf : ∀ pc L i st σ, K (pc, L.set i .null, st, σ) → K (pc, L, st, σ)) (x1 : Int32) (x2 : Int32) (a3 : Nat) (a4 : Nat) (y : Int32 × aM) (k : Int32 → Int32 → aM → Option (Int32 × aM)) :
    ∀ (n : Nat) (v5 : Int32) (v6 : Int32) (σ7 : aM), l_X3_lightOf_6 x1 x2 a3 a4 n v5 v6 σ7 k = some y → (∀ (w0 : Int32) (w1 : Int32) (τ : aM), k w0 w1 τ = some y → K (57, [.ref 4, .int x1, .int x2, .ref a3, .ref a4, .int w0, .int w1], [], τ)) → K (6, [.ref 4, .int x1, .int x2, .ref a3, .ref a4, .int v5, .int v6], [], σ7) := by
  intro n
  induction n with
  | zero =>
    intro v5 v6 σ7 h hk
    exact absurd h (by simp [l_X3_lightOf_6])
  | succ n ih =>
    intro v5 v6 σ7 h hk
    unfold l_X3_lightOf_6 at h
    rcases ite_cases h with ⟨c8, h⟩ | ⟨c8, h⟩
    · refine hw 4 _ ?_
      show (((σ7 4 8) ≤ v6) → K (57, [.ref 4, .int x1, .int x2, .ref a3, .ref a4, .int v5, .int v6], [], σ7)) ∧ (¬ ((σ7 4 8) ≤ v6) → K (15, [.ref 4, .int x1, .int x2, .ref a3, .ref a4, .int v5, .int v6], [], σ7))
      refine ⟨fun _ => ?_, fun q => absurd c8 q⟩
      exact hk v5 v6 σ7 h
    · refine hw 4 _ ?_
      show (((σ7 4 8) ≤ v6) → K (57, [.ref 4, .int x1, .int x2, .ref a3, .ref a4, .int v5, .int v6], [], σ7)) ∧ (¬ ((σ7 4 8) ≤ v6) → K (15, [.ref 4, .int x1, .int x2, .ref a3, .ref a4, .int v5, .int v6], [], σ7))
      refine ⟨fun q => absurd q c8, fun _ => ?_⟩
      obtain ⟨r9, σ10, e11, h⟩ := bnd_some h
      refine hw 5 _ ?_
      show ∃ r9 σ10, f_X3_isFor v6 x1 x2 σ7 = some (r9, σ10) ∧ K (23, [.ref 4, .int x1, .int x2, .ref a3, .ref a4, .int v5, .int v6], [.int r9], σ10)
      refine ⟨r9, σ10, e11, ?_⟩
      rcases ite_cases h with ⟨c12, h⟩ | ⟨c12, h⟩
      · refine hw 1 _ ?_
        show ((r9 = 0) → K (51, [.ref 4, .int x1, .int x2, .ref a3, .ref a4, .int v5, .int v6], [], σ10)) ∧ (¬ (r9 = 0) → K (26, [.ref 4, .int x1, .int x2, .ref a3, .ref a4, .int v5, .int v6], [], σ10))
        refine ⟨fun _ => ?_, fun q => absurd c12 q⟩
        refine hw 2 _ ?_
        show K (6, [.ref 4, .int x1, .int x2, .ref a3, .ref a4, .int v5, .int (v6 + 1)], [], σ10)
        exact ih v5 (v6 + 1) σ10 h hk
      · refine hw 1 _ ?_
        show ((r9 = 0) → K (51, [.ref 4, .int x1, .int x2, .ref a3, .ref a4, .int v5, .int v6], [], σ10)) ∧ (¬ (r9 = 0) → K (26, [.ref 4, .int x1, .int x2, .ref a3, .ref a4, .int v5, .int v6], [], σ10))
        refine ⟨fun q => absurd q c12, fun _ => ?_⟩
        obtain ⟨r13, σ14, e15, h⟩ := bnd_some h
        refine hw 6 _ ?_
        show ∃ r13 σ14, f_X3_levelOf v6 a3 a4 σ10 = some (r13, σ14) ∧ K (37, [.ref 4, .int x1, .int x2, .ref a3, .ref a4, .int v5, .int v6], [.int r13, .int v5], σ14)
        refine ⟨r13, σ14, e15, ?_⟩
        obtain ⟨g16, h⟩ := ite_some h
        refine hw 11 _ ?_
        show kd 21 = 1 ∧ (inb v6 20 = true ∧ (¬ 100 = (0 : Int32) ∧ (K (6, [.ref 4, .int x1, .int x2, .ref a3, .ref a4, .int (v5 + ((r13 * (σ14 21 (ix v6))) / 100)), .int (v6 + 1)], [], σ14))))
        refine ⟨rfl, g16, by decide, ?_⟩
        exact ih (v5 + ((r13 * (σ14 21 (ix v6))) / 100)) (v6 + 1) σ14 h hk

set_option maxHeartbeats 4000000 in
set_option maxRecDepth 100000 in
theorem s_X3_lightOf : runs T_X3_lightOf [.ref 4] 7 F_X3_lightOf := by
  intro Qa K hw hf As σ r σ' h hQ
  unfold F_X3_lightOf at h
  split at h
  · rename_i p0 p1 p2 p3
    unfold f_X3_lightOf at h
    have hQ : Qa (r, σ').1 (r, σ').2 := hQ
    generalize (r, σ') = y at h hQ
    show K (0, [.ref 4, .int p0, .int p1, .ref p2, .ref p3, .null, .null], [], σ)
    refine hw 4 _ ?_
    show K (6, [.ref 4, .int p0, .int p1, .ref p2, .ref p3, .int 0, .int 0], [], σ)
    refine t_X3_lightOf_6 hw hf p0 p1 p2 p3 _ _ lf 0 0 σ h (fun v17 v18 σ19 h => ?_)
    show K (57, [.ref 4, .int p0, .int p1, .ref p2, .ref p3, .int v17, .int v18], [], σ19)
    rcases ite_cases h with ⟨c20, h⟩ | ⟨c20, h⟩
    · refine hw 3 _ ?_
      show ((100 ≤ v17) → K (69, [.ref 4, .int p0, .int p1, .ref p2, .ref p3, .int v17, .int v18], [], σ19)) ∧ (¬ (100 ≤ v17) → K (64, [.ref 4, .int p0, .int p1, .ref p2, .ref p3, .int v17, .int v18], [], σ19))
      refine ⟨fun _ => ?_, fun q => absurd c20 q⟩
      obtain rfl := Option.some.inj h
      refine hw 2 _ ?_
      show Qa 100 σ19
      refine hQ
    · refine hw 3 _ ?_
      show ((100 ≤ v17) → K (69, [.ref 4, .int p0, .int p1, .ref p2, .ref p3, .int v17, .int v18], [], σ19)) ∧ (¬ (100 ≤ v17) → K (64, [.ref 4, .int p0, .int p1, .ref p2, .ref p3, .int v17, .int v18], [], σ19))
      refine ⟨fun q => absurd q c20, fun _ => ?_⟩
      obtain rfl := Option.some.inj h
      refine hw 3 _ ?_
      show Qa v17 σ19
      refine hQ
  · cases h
theorem h_X3_lightOf : shp [.ref 4] 7 F_X3_lightOf := by
  intro As σ r σ' h
  unfold F_X3_lightOf at h
  split at h
  · exact ⟨by simp [Value.category], Nat.le_of_ble_eq_true rfl⟩
  · cases h
set_option maxHeartbeats 4000000 in
set_option maxRecDepth 100000 in
theorem c_X3_lightOf (l : Launch) (D : va_G) (cI cZ cA cL : ClassId) (ad : Nat → Nat) (hi : adI ad) : CtI l yX3_lightOf wsX3_lightOf { frames := 1, cells := 0, slots := 0, locals := 25 } D cI cZ cA cL ad [.ref 4] F_X3_lightOf := by
  refine mk_I [.ref 4] F_X3_lightOf T_X3_lightOf (by decide +kernel) rfl ?_ h_X3_lightOf s_X3_lightOf
  intro p e s m args below meth c Qa ⟨hx, hb, hml, hown, hts, hr, hlocks, hK, hN⟩
  have hin3 : ∀ w ∈ u_ws RX3 TX3 9, w ∈ wsX3_lightOf := by decide +kernel
  have hl36 : (Cond.fieldLink RX3 36 RX3 (TX3 8).2.1 (TX3 8).2.2.1) ∈ wsX3_lightOf := by decide +kernel
  have hl21 : (Cond.fieldLink RX3 21 RX3 (TX3 3).2.1 (TX3 3).2.2.1) ∈ wsX3_lightOf := by decide +kernel
  refine ruL_c (n := 0) (n2 := 1) rfl (ru_iconst hx hb dX3_lightOf_0 rfl) ?_
  refine ruL_c (n := 1) (n2 := 2) rfl (ru_istore hx hb dX3_lightOf_1) ?_
  refine ruL_c (n := 2) (n2 := 3) rfl (ru_bot) ?_
  refine ruL_c (n := 3) (n2 := 4) rfl (ru_iconst hx hb dX3_lightOf_3 rfl) ?_
  refine ruL_c (n := 4) (n2 := 5) rfl (ru_istore hx hb dX3_lightOf_4) ?_
  refine ruL_c (n := 5) (n2 := 6) rfl (ru_bot) ?_
  refine ruL_c (n := 6) (n2 := 7) rfl (ru_iload hx hb dX3_lightOf_6) ?_
  refine ruL_c (n := 7) (n2 := 8) rfl (ru_bot) ?_
  refine ruL_c (n := 8) (n2 := 9) rfl (ru_aload_n (k := 0) hx hb dX3_lightOf_8) ?_
  refine ruL_c (n := 9) (n2 := 10) rfl (ru_getI (own := RX3) (j := 8) (T := TX3) hx hb hown hK hts hin3 (by decide) rfl rfl (by decide) rfl hl36 dX3_lightOf_9) ?_
  refine ruL_c (n := 10) (n2 := 11) rfl (ru_bot) ?_
  refine ruL_c (n := 11) (n2 := 12) rfl (ru_bot) ?_
  refine ruL_c (n := 12) (n2 := 13) rfl (ru_icmpge hx hb dX3_lightOf_12 (by decide)) ?_
  refine ruL_c (n := 13) (n2 := 14) rfl (ru_bot) ?_
  refine ruL_c (n := 14) (n2 := 15) rfl (ru_bot) ?_
  refine ruL_c (n := 15) (n2 := 16) rfl (ru_aload_n (k := 0) hx hb dX3_lightOf_15) ?_
  refine ruL_c (n := 16) (n2 := 17) rfl (ru_iload hx hb dX3_lightOf_16) ?_
  refine ruL_c (n := 17) (n2 := 18) rfl (ru_bot) ?_
  refine ruL_c (n := 18) (n2 := 19) rfl (ru_iload_n (k := 1) hx hb dX3_lightOf_18) ?_
  refine ruL_c (n := 19) (n2 := 20) rfl (ru_iload_n (k := 2) hx hb dX3_lightOf_19) ?_
  refine ruL_c (n := 20) (n2 := 21) rfl (ru_callV hx hb hml hown hts hK hN (by decide) rfl (c_X3_isFor l D cI cZ cA cL ad hi) (cwV 3 hts gX3_lightOf_X3_isFor rfl rfl rfl (by decide +kernel) ⟨Nat.le_of_ble_eq_true rfl, Nat.le_of_ble_eq_true rfl⟩) dX3_lightOf_20 ⟨Nat.zero_le _, Nat.zero_le _⟩) ?_
  refine ruL_c (n := 21) (n2 := 22) rfl (ru_bot) ?_
  refine ruL_c (n := 22) (n2 := 23) rfl (ru_bot) ?_
  refine ruL_c (n := 23) (n2 := 24) rfl (ru_ifeq hx hb dX3_lightOf_23 (by decide)) ?_
  refine ruL_c (n := 24) (n2 := 25) rfl (ru_bot) ?_
  refine ruL_c (n := 25) (n2 := 26) rfl (ru_bot) ?_
  refine ruL_c (n := 26) (n2 := 27) rfl (ru_iload hx hb dX3_lightOf_26) ?_
  refine ruL_c (n := 27) (n2 := 28) rfl (ru_bot) ?_
  refine ruL_c (n := 28) (n2 := 29) rfl (ru_aload_n (k := 0) hx hb dX3_lightOf_28) ?_
  refine ruL_c (n := 29) (n2 := 30) rfl (ru_iload hx hb dX3_lightOf_29) ?_
  refine ruL_c (n := 30) (n2 := 31) rfl (ru_bot) ?_
  refine ruL_c (n := 31) (n2 := 32) rfl (ru_aload_n (k := 3) hx hb dX3_lightOf_31) ?_
  refine ruL_c (n := 32) (n2 := 33) rfl (ru_aload hx hb dX3_lightOf_32) ?_
  refine ruL_c (n := 33) (n2 := 34) rfl (ru_bot) ?_
  refine ruL_c (n := 34) (n2 := 35) rfl (ru_callV hx hb hml hown hts hK hN (by decide) rfl (c_X3_levelOf l D cI cZ cA cL ad hi) (cwV 3 hts gX3_lightOf_X3_levelOf rfl rfl rfl (by decide +kernel) ⟨Nat.le_of_ble_eq_true rfl, Nat.le_of_ble_eq_true rfl⟩) dX3_lightOf_34 ⟨Nat.zero_le _, Nat.zero_le _⟩) ?_
  refine ruL_c (n := 35) (n2 := 36) rfl (ru_bot) ?_
  refine ruL_c (n := 36) (n2 := 37) rfl (ru_bot) ?_
  refine ruL_c (n := 37) (n2 := 38) rfl (ru_aload_n (k := 0) hx hb dX3_lightOf_37) ?_
  refine ruL_c (n := 38) (n2 := 39) rfl (ru_getR (own := RX3) (j := 3) (T := TX3) hx hb hown hK hts hin3 (by decide) rfl rfl (by decide) rfl hl21 dX3_lightOf_38) ?_
  refine ruL_c (n := 39) (n2 := 40) rfl (ru_bot) ?_
  refine ruL_c (n := 40) (n2 := 41) rfl (ru_bot) ?_
  refine ruL_c (n := 41) (n2 := 42) rfl (ru_iload hx hb dX3_lightOf_41) ?_
  refine ruL_c (n := 42) (n2 := 43) rfl (ru_bot) ?_
  refine ruL_c (n := 43) (n2 := 44) rfl (ru_iald hx hb hK dX3_lightOf_43) ?_
  refine ruL_c (n := 44) (n2 := 45) rfl (ru_imul hx hb dX3_lightOf_44) ?_
  refine ruL_c (n := 45) (n2 := 46) rfl (ru_bipush hx hb dX3_lightOf_45 rfl) ?_
  refine ruL_c (n := 46) (n2 := 47) rfl (ru_bot) ?_
  refine ruL_c (n := 47) (n2 := 48) rfl (ru_idiv hx hb dX3_lightOf_47) ?_
  refine ruL_c (n := 48) (n2 := 49) rfl (ru_iadd hx hb dX3_lightOf_48) ?_
  refine ruL_c (n := 49) (n2 := 50) rfl (ru_istore hx hb dX3_lightOf_49) ?_
  refine ruL_c (n := 50) (n2 := 51) rfl (ru_bot) ?_
  refine ruL_c (n := 51) (n2 := 52) rfl (ru_iinc hx hb dX3_lightOf_51 rfl) ?_
  refine ruL_c (n := 52) (n2 := 53) rfl (ru_bot) ?_
  refine ruL_c (n := 53) (n2 := 54) rfl (ru_bot) ?_
  refine ruL_c (n := 54) (n2 := 55) rfl (ru_goto hx hb dX3_lightOf_54 (by decide)) ?_
  refine ruL_c (n := 55) (n2 := 56) rfl (ru_bot) ?_
  refine ruL_c (n := 56) (n2 := 57) rfl (ru_bot) ?_
  refine ruL_c (n := 57) (n2 := 58) rfl (ru_iload hx hb dX3_lightOf_57) ?_
  refine ruL_c (n := 58) (n2 := 59) rfl (ru_bot) ?_
  refine ruL_c (n := 59) (n2 := 60) rfl (ru_bipush hx hb dX3_lightOf_59 rfl) ?_
  refine ruL_c (n := 60) (n2 := 61) rfl (ru_bot) ?_
  refine ruL_c (n := 61) (n2 := 62) rfl (ru_icmpge hx hb dX3_lightOf_61 (by decide)) ?_
  refine ruL_c (n := 62) (n2 := 63) rfl (ru_bot) ?_
  refine ruL_c (n := 63) (n2 := 64) rfl (ru_bot) ?_
  refine ruL_c (n := 64) (n2 := 65) rfl (ru_iload hx hb dX3_lightOf_64) ?_
  refine ruL_c (n := 65) (n2 := 66) rfl (ru_bot) ?_
  refine ruL_c (n := 66) (n2 := 67) rfl (ru_goto hx hb dX3_lightOf_66 (by decide)) ?_
  refine ruL_c (n := 67) (n2 := 68) rfl (ru_bot) ?_
  refine ruL_c (n := 68) (n2 := 69) rfl (ru_bot) ?_
  refine ruL_c (n := 69) (n2 := 70) rfl (ru_bipush hx hb dX3_lightOf_69 rfl) ?_
  refine ruL_c (n := 70) (n2 := 71) rfl (ru_bot) ?_
  refine ruL_c (n := 71) (n2 := 72) rfl (ru_iret hx hb hK hr hlocks dX3_lightOf_71) ?_
  exact trivial

-- CueTour$Rig.startBurning
def l_X3_startBurning_2 : Nat → Int32 → aM → (Int32 → aM → Option (Int32 × aM)) → Option (Int32 × aM)
  | 0, _, _, _ => none
  | n + 1, v1, σ2, k => if (σ2 4 8) ≤ v1 then k v1 σ2 else if inb v1 20 = true then l_X3_startBurning_2 n (v1 + 1) (mput σ2 25 (ix v1) 0) k else none
def f_X3_startBurning (σ : aM) : Option (Int32 × aM) := l_X3_startBurning_2 lf 0 σ (fun v5 σ6 => some (0, σ6))
def F_X3_startBurning : aF := fun As σ => match As with
  | [] => f_X3_startBurning σ
  | _ => none
def T_X3_startBurning (Qa : Int32 → aM → Prop) : List aI := [I_const 0 1, I_istore 1 1, I_iload 1 1, I_aload 0 1, I_getI 4 8, I_bot, I_bot, I_icmp (fun x y => y ≤ x) 23, I_bot, I_bot, I_aload 0 1, I_getR 4 25, I_bot, I_bot, I_iload 1 1, I_const 0 1, I_iast, I_iinc 1 (1), I_bot, I_bot, I_goto 2, I_bot, I_bot, I_vret Qa]
set_option maxHeartbeats 4000000 in
set_option maxRecDepth 100000 in
theorem t_X3_startBurning_2 {Qa : Int32 → aM → Prop} {K : aS → Prop} (hw : ∀ k x, wp (T_X3_startBurning Qa) k K x → K x) (hf : ∀ pc L i st σ, K (pc, L.set i .null, st, σ) → K (pc, L, st, σ)) (y : Int32 × aM) (k : Int32 → aM → Option (Int32 × aM)) :
    ∀ (n : Nat) (v1 : Int32) (σ2 : aM), l_X3_startBurning_2 n v1 σ2 k = some y → (∀ (w0 : Int32) (τ : aM), k w0 τ = some y → K (23, [.ref 4, .int w0], [], τ)) → K (2, [.ref 4, .int v1], [], σ2) := by
  intro n
  induction n with
  | zero =>
    intro v1 σ2 h hk
    exact absurd h (by simp [l_X3_startBurning_2])
  | succ n ih =>
    intro v1 σ2 h hk
    unfold l_X3_startBurning_2 at h
    rcases ite_cases h with ⟨c3, h⟩ | ⟨c3, h⟩
    · refine hw 4 _ ?_
      show (((σ2 4 8) ≤ v1) → K (23, [.ref 4, .int v1], [], σ2)) ∧ (¬ ((σ2 4 8) ≤ v1) → K (10, [.ref 4, .int v1], [], σ2))
      refine ⟨fun _ => ?_, fun q => absurd c3 q⟩
      exact hk v1 σ2 h
    · refine hw 4 _ ?_
      show (((σ2 4 8) ≤ v1) → K (23, [.ref 4, .int v1], [], σ2)) ∧ (¬ ((σ2 4 8) ≤ v1) → K (10, [.ref 4, .int v1], [], σ2))
      refine ⟨fun q => absurd q c3, fun _ => ?_⟩
      obtain ⟨g4, h⟩ := ite_some h
      refine hw 7 _ ?_
      show kd 25 = 1 ∧ (inb v1 20 = true ∧ (K (2, [.ref 4, .int (v1 + 1)], [], mput σ2 25 (ix v1) 0)))
      refine ⟨rfl, g4, ?_⟩
      exact ih (v1 + 1) (mput σ2 25 (ix v1) 0) h hk

set_option maxHeartbeats 4000000 in
set_option maxRecDepth 100000 in
theorem s_X3_startBurning : runs T_X3_startBurning [.ref 4] 2 F_X3_startBurning := by
  intro Qa K hw hf As σ r σ' h hQ
  unfold F_X3_startBurning at h
  split at h
  · unfold f_X3_startBurning at h
    have hQ : Qa (r, σ').1 (r, σ').2 := hQ
    generalize (r, σ') = y at h hQ
    show K (0, [.ref 4, .null], [], σ)
    refine hw 2 _ ?_
    show K (2, [.ref 4, .int 0], [], σ)
    refine t_X3_startBurning_2 hw hf _ _ lf 0 σ h (fun v5 σ6 h => ?_)
    show K (23, [.ref 4, .int v5], [], σ6)
    obtain rfl := Option.some.inj h
    refine hw 1 _ ?_
    show Qa 0 σ6
    refine hQ
  · cases h
theorem h_X3_startBurning : shp [.ref 4] 2 F_X3_startBurning := by
  intro As σ r σ' h
  unfold F_X3_startBurning at h
  split at h
  · exact ⟨by simp [Value.category], Nat.le_of_ble_eq_true rfl⟩
  · cases h
set_option maxHeartbeats 4000000 in
set_option maxRecDepth 100000 in
theorem c_X3_startBurning (l : Launch) (D : va_G) (cI cZ cA cL : ClassId) (ad : Nat → Nat) (hi : adI ad) : CtV l yX3_startBurning wsX3_startBurning { frames := 0, cells := 0, slots := 0, locals := 0 } D cI cZ cA cL ad [.ref 4] F_X3_startBurning := by
  refine mk_V [.ref 4] F_X3_startBurning T_X3_startBurning (by decide +kernel) rfl ?_ h_X3_startBurning s_X3_startBurning
  intro p e s m args below meth c Qa ⟨hx, hb, hml, hown, hts, hr, hlocks, hK, hN⟩
  have hin3 : ∀ w ∈ u_ws RX3 TX3 9, w ∈ wsX3_startBurning := by decide +kernel
  have hl36 : (Cond.fieldLink RX3 36 RX3 (TX3 8).2.1 (TX3 8).2.2.1) ∈ wsX3_startBurning := by decide +kernel
  have hl33 : (Cond.fieldLink RX3 33 RX3 (TX3 7).2.1 (TX3 7).2.2.1) ∈ wsX3_startBurning := by decide +kernel
  refine ruL_c (n := 0) (n2 := 1) rfl (ru_iconst hx hb dX3_startBurning_0 rfl) ?_
  refine ruL_c (n := 1) (n2 := 2) rfl (ru_istore_n (k := 1) hx hb dX3_startBurning_1) ?_
  refine ruL_c (n := 2) (n2 := 3) rfl (ru_iload_n (k := 1) hx hb dX3_startBurning_2) ?_
  refine ruL_c (n := 3) (n2 := 4) rfl (ru_aload_n (k := 0) hx hb dX3_startBurning_3) ?_
  refine ruL_c (n := 4) (n2 := 5) rfl (ru_getI (own := RX3) (j := 8) (T := TX3) hx hb hown hK hts hin3 (by decide) rfl rfl (by decide) rfl hl36 dX3_startBurning_4) ?_
  refine ruL_c (n := 5) (n2 := 6) rfl (ru_bot) ?_
  refine ruL_c (n := 6) (n2 := 7) rfl (ru_bot) ?_
  refine ruL_c (n := 7) (n2 := 8) rfl (ru_icmpge hx hb dX3_startBurning_7 (by decide)) ?_
  refine ruL_c (n := 8) (n2 := 9) rfl (ru_bot) ?_
  refine ruL_c (n := 9) (n2 := 10) rfl (ru_bot) ?_
  refine ruL_c (n := 10) (n2 := 11) rfl (ru_aload_n (k := 0) hx hb dX3_startBurning_10) ?_
  refine ruL_c (n := 11) (n2 := 12) rfl (ru_getR (own := RX3) (j := 7) (T := TX3) hx hb hown hK hts hin3 (by decide) rfl rfl (by decide) rfl hl33 dX3_startBurning_11) ?_
  refine ruL_c (n := 12) (n2 := 13) rfl (ru_bot) ?_
  refine ruL_c (n := 13) (n2 := 14) rfl (ru_bot) ?_
  refine ruL_c (n := 14) (n2 := 15) rfl (ru_iload_n (k := 1) hx hb dX3_startBurning_14) ?_
  refine ruL_c (n := 15) (n2 := 16) rfl (ru_iconst hx hb dX3_startBurning_15 rfl) ?_
  refine ruL_c (n := 16) (n2 := 17) rfl (ru_iast hx hb hK hi dX3_startBurning_16) ?_
  refine ruL_c (n := 17) (n2 := 18) rfl (ru_iinc hx hb dX3_startBurning_17 rfl) ?_
  refine ruL_c (n := 18) (n2 := 19) rfl (ru_bot) ?_
  refine ruL_c (n := 19) (n2 := 20) rfl (ru_bot) ?_
  refine ruL_c (n := 20) (n2 := 21) rfl (ru_goto hx hb dX3_startBurning_20 (by decide)) ?_
  refine ruL_c (n := 21) (n2 := 22) rfl (ru_bot) ?_
  refine ruL_c (n := 22) (n2 := 23) rfl (ru_bot) ?_
  refine ruL_c (n := 23) (n2 := 24) rfl (ru_vret hx hb hK hr hlocks dX3_startBurning_23) ?_
  exact trivial

-- CueTour$Rig.burn
def l_X3_burn_3 (x1 : Int32) (a2 : Nat) (a3 : Nat) : Nat → Int32 → aM → (Int32 → aM → Option (Int32 × aM)) → Option (Int32 × aM)
  | 0, _, _, _ => none
  | n + 1, v4, σ5, k => if (σ5 4 8) ≤ v4 then k v4 σ5 else if inb v4 20 = true then if ¬ (σ5 22 (ix v4)) = x1 then l_X3_burn_3 x1 a2 a3 n (v4 + 1) σ5 k else bnd (f_X3_levelOf v4 a2 a3 σ5) (fun r9 σ10 => if r9 ≤ 0 then l_X3_burn_3 x1 a2 a3 n (v4 + 1) σ10 k else if inb v4 20 = true then if inb v4 20 = true then l_X3_burn_3 x1 a2 a3 n (v4 + 1) (mput σ10 25 (ix v4) ((σ10 25 (ix v4)) + 1)) k else none else none) else none
def f_X3_burn (p0 : Int32) (p1 : Nat) (p2 : Nat) (σ : aM) : Option (Int32 × aM) := l_X3_burn_3 p0 p1 p2 lf 0 σ (fun v15 σ16 => some (0, σ16))
def F_X3_burn : aF := fun As σ => match As with
  | [.int p0, .ref p1, .ref p2] => f_X3_burn p0 p1 p2 σ
  | _ => none
def T_X3_burn (Qa : Int32 → aM → Prop) : List aI := [I_const 0 1, I_istore 4 2, I_bot, I_iload 4 2, I_bot, I_aload 0 1, I_getI 4 8, I_bot, I_bot, I_icmp (fun x y => y ≤ x) 51, I_bot, I_bot, I_aload 0 1, I_getR 4 22, I_bot, I_bot, I_iload 4 2, I_bot, I_iald, I_iload 1 1, I_icmp (fun x y => ¬ x = y) 45, I_bot, I_bot, I_aload 0 1, I_iload 4 2, I_bot, I_aload 2 1, I_aload 3 1, I_callV 4 3 F_X3_levelOf, I_bot, I_bot, I_if (fun x => x ≤ 0) 45, I_bot, I_bot, I_aload 0 1, I_getR 4 25, I_bot, I_bot, I_iload 4 2, I_bot, I_dup2, I_iald, I_const 1 1, I_bin fun x y => x + y, I_iast, I_iinc 4 (1), I_bot, I_bot, I_goto 3, I_bot, I_bot, I_vret Qa]
set_option maxHeartbeats 4000000 in
set_option maxRecDepth 100000 in
theorem t_X3_burn_3 {Qa : Int32 → aM → Prop} {K : aS → Prop} (hw : ∀ k x, wp (T_X3_burn Qa) k K x → K x) (hf : ∀ pc L i st σ, K (pc, L.set i .null, st, σ) → K (pc, L, st, σ)) (x1 : Int32) (a2 : Nat) (a3 : Nat) (y : Int32 × aM) (k : Int32 → aM → Option (Int32 × aM)) :
    ∀ (n : Nat) (v4 : Int32) (σ5 : aM), l_X3_burn_3 x1 a2 a3 n v4 σ5 k = some y → (∀ (w0 : Int32) (τ : aM), k w0 τ = some y → K (51, [.ref 4, .int x1, .ref a2, .ref a3, .int w0], [], τ)) → K (3, [.ref 4, .int x1, .ref a2, .ref a3, .int v4], [], σ5) := by
  intro n
  induction n with
  | zero =>
    intro v4 σ5 h hk
    exact absurd h (by simp [l_X3_burn_3])
  | succ n ih =>
    intro v4 σ5 h hk
    unfold l_X3_burn_3 at h
    rcases ite_cases h with ⟨c6, h⟩ | ⟨c6, h⟩
    · refine hw 4 _ ?_
      show (((σ5 4 8) ≤ v4) → K (51, [.ref 4, .int x1, .ref a2, .ref a3, .int v4], [], σ5)) ∧ (¬ ((σ5 4 8) ≤ v4) → K (12, [.ref 4, .int x1, .ref a2, .ref a3, .int v4], [], σ5))
      refine ⟨fun _ => ?_, fun q => absurd c6 q⟩
      exact hk v4 σ5 h
    · refine hw 4 _ ?_
      show (((σ5 4 8) ≤ v4) → K (51, [.ref 4, .int x1, .ref a2, .ref a3, .int v4], [], σ5)) ∧ (¬ ((σ5 4 8) ≤ v4) → K (12, [.ref 4, .int x1, .ref a2, .ref a3, .int v4], [], σ5))
      refine ⟨fun q => absurd q c6, fun _ => ?_⟩
      obtain ⟨g7, h⟩ := ite_some h
      rcases ite_cases h with ⟨c8, h⟩ | ⟨c8, h⟩
      · refine hw 6 _ ?_
        show kd 22 = 1 ∧ (inb v4 20 = true ∧ (((¬ (σ5 22 (ix v4)) = x1) → K (45, [.ref 4, .int x1, .ref a2, .ref a3, .int v4], [], σ5)) ∧ (¬ (¬ (σ5 22 (ix v4)) = x1) → K (23, [.ref 4, .int x1, .ref a2, .ref a3, .int v4], [], σ5))))
        refine ⟨rfl, g7, ⟨fun _ => ?_, fun q => absurd c8 q⟩⟩
        refine hw 2 _ ?_
        show K (3, [.ref 4, .int x1, .ref a2, .ref a3, .int (v4 + 1)], [], σ5)
        exact ih (v4 + 1) σ5 h hk
      · refine hw 6 _ ?_
        show kd 22 = 1 ∧ (inb v4 20 = true ∧ (((¬ (σ5 22 (ix v4)) = x1) → K (45, [.ref 4, .int x1, .ref a2, .ref a3, .int v4], [], σ5)) ∧ (¬ (¬ (σ5 22 (ix v4)) = x1) → K (23, [.ref 4, .int x1, .ref a2, .ref a3, .int v4], [], σ5))))
        refine ⟨rfl, g7, ⟨fun q => absurd q c8, fun _ => ?_⟩⟩
        obtain ⟨r9, σ10, e11, h⟩ := bnd_some h
        refine hw 5 _ ?_
        show ∃ r9 σ10, f_X3_levelOf v4 a2 a3 σ5 = some (r9, σ10) ∧ K (31, [.ref 4, .int x1, .ref a2, .ref a3, .int v4], [.int r9], σ10)
        refine ⟨r9, σ10, e11, ?_⟩
        rcases ite_cases h with ⟨c12, h⟩ | ⟨c12, h⟩
        · refine hw 1 _ ?_
          show ((r9 ≤ 0) → K (45, [.ref 4, .int x1, .ref a2, .ref a3, .int v4], [], σ10)) ∧ (¬ (r9 ≤ 0) → K (34, [.ref 4, .int x1, .ref a2, .ref a3, .int v4], [], σ10))
          refine ⟨fun _ => ?_, fun q => absurd c12 q⟩
          refine hw 2 _ ?_
          show K (3, [.ref 4, .int x1, .ref a2, .ref a3, .int (v4 + 1)], [], σ10)
          exact ih (v4 + 1) σ10 h hk
        · refine hw 1 _ ?_
          show ((r9 ≤ 0) → K (45, [.ref 4, .int x1, .ref a2, .ref a3, .int v4], [], σ10)) ∧ (¬ (r9 ≤ 0) → K (34, [.ref 4, .int x1, .ref a2, .ref a3, .int v4], [], σ10))
          refine ⟨fun q => absurd q c12, fun _ => ?_⟩
          obtain ⟨g13, h⟩ := ite_some h
          obtain ⟨g14, h⟩ := ite_some h
          refine hw 10 _ ?_
          show kd 25 = 1 ∧ (inb v4 20 = true ∧ (kd 25 = 1 ∧ (inb v4 20 = true ∧ (K (3, [.ref 4, .int x1, .ref a2, .ref a3, .int (v4 + 1)], [], mput σ10 25 (ix v4) ((σ10 25 (ix v4)) + 1))))))
          refine ⟨rfl, g13, rfl, g14, ?_⟩
          exact ih (v4 + 1) (mput σ10 25 (ix v4) ((σ10 25 (ix v4)) + 1)) h hk

set_option maxHeartbeats 4000000 in
set_option maxRecDepth 100000 in
theorem s_X3_burn : runs T_X3_burn [.ref 4] 5 F_X3_burn := by
  intro Qa K hw hf As σ r σ' h hQ
  unfold F_X3_burn at h
  split at h
  · rename_i p0 p1 p2
    unfold f_X3_burn at h
    have hQ : Qa (r, σ').1 (r, σ').2 := hQ
    generalize (r, σ') = y at h hQ
    show K (0, [.ref 4, .int p0, .ref p1, .ref p2, .null], [], σ)
    refine hw 2 _ ?_
    show K (3, [.ref 4, .int p0, .ref p1, .ref p2, .int 0], [], σ)
    refine t_X3_burn_3 hw hf p0 p1 p2 _ _ lf 0 σ h (fun v15 σ16 h => ?_)
    show K (51, [.ref 4, .int p0, .ref p1, .ref p2, .int v15], [], σ16)
    obtain rfl := Option.some.inj h
    refine hw 1 _ ?_
    show Qa 0 σ16
    refine hQ
  · cases h
theorem h_X3_burn : shp [.ref 4] 5 F_X3_burn := by
  intro As σ r σ' h
  unfold F_X3_burn at h
  split at h
  · exact ⟨by simp [Value.category], Nat.le_of_ble_eq_true rfl⟩
  · cases h
set_option maxHeartbeats 4000000 in
set_option maxRecDepth 100000 in
theorem c_X3_burn (l : Launch) (D : va_G) (cI cZ cA cL : ClassId) (ad : Nat → Nat) (hi : adI ad) : CtV l yX3_burn wsX3_burn { frames := 1, cells := 0, slots := 0, locals := 25 } D cI cZ cA cL ad [.ref 4] F_X3_burn := by
  refine mk_V [.ref 4] F_X3_burn T_X3_burn (by decide +kernel) rfl ?_ h_X3_burn s_X3_burn
  intro p e s m args below meth c Qa ⟨hx, hb, hml, hown, hts, hr, hlocks, hK, hN⟩
  have hin3 : ∀ w ∈ u_ws RX3 TX3 9, w ∈ wsX3_burn := by decide +kernel
  have hl36 : (Cond.fieldLink RX3 36 RX3 (TX3 8).2.1 (TX3 8).2.2.1) ∈ wsX3_burn := by decide +kernel
  have hl24 : (Cond.fieldLink RX3 24 RX3 (TX3 4).2.1 (TX3 4).2.2.1) ∈ wsX3_burn := by decide +kernel
  have hl33 : (Cond.fieldLink RX3 33 RX3 (TX3 7).2.1 (TX3 7).2.2.1) ∈ wsX3_burn := by decide +kernel
  refine ruL_c (n := 0) (n2 := 1) rfl (ru_iconst hx hb dX3_burn_0 rfl) ?_
  refine ruL_c (n := 1) (n2 := 2) rfl (ru_istore hx hb dX3_burn_1) ?_
  refine ruL_c (n := 2) (n2 := 3) rfl (ru_bot) ?_
  refine ruL_c (n := 3) (n2 := 4) rfl (ru_iload hx hb dX3_burn_3) ?_
  refine ruL_c (n := 4) (n2 := 5) rfl (ru_bot) ?_
  refine ruL_c (n := 5) (n2 := 6) rfl (ru_aload_n (k := 0) hx hb dX3_burn_5) ?_
  refine ruL_c (n := 6) (n2 := 7) rfl (ru_getI (own := RX3) (j := 8) (T := TX3) hx hb hown hK hts hin3 (by decide) rfl rfl (by decide) rfl hl36 dX3_burn_6) ?_
  refine ruL_c (n := 7) (n2 := 8) rfl (ru_bot) ?_
  refine ruL_c (n := 8) (n2 := 9) rfl (ru_bot) ?_
  refine ruL_c (n := 9) (n2 := 10) rfl (ru_icmpge hx hb dX3_burn_9 (by decide)) ?_
  refine ruL_c (n := 10) (n2 := 11) rfl (ru_bot) ?_
  refine ruL_c (n := 11) (n2 := 12) rfl (ru_bot) ?_
  refine ruL_c (n := 12) (n2 := 13) rfl (ru_aload_n (k := 0) hx hb dX3_burn_12) ?_
  refine ruL_c (n := 13) (n2 := 14) rfl (ru_getR (own := RX3) (j := 4) (T := TX3) hx hb hown hK hts hin3 (by decide) rfl rfl (by decide) rfl hl24 dX3_burn_13) ?_
  refine ruL_c (n := 14) (n2 := 15) rfl (ru_bot) ?_
  refine ruL_c (n := 15) (n2 := 16) rfl (ru_bot) ?_
  refine ruL_c (n := 16) (n2 := 17) rfl (ru_iload hx hb dX3_burn_16) ?_
  refine ruL_c (n := 17) (n2 := 18) rfl (ru_bot) ?_
  refine ruL_c (n := 18) (n2 := 19) rfl (ru_iald hx hb hK dX3_burn_18) ?_
  refine ruL_c (n := 19) (n2 := 20) rfl (ru_iload_n (k := 1) hx hb dX3_burn_19) ?_
  refine ruL_c (n := 20) (n2 := 21) rfl (ru_icmpne hx hb dX3_burn_20 (by decide)) ?_
  refine ruL_c (n := 21) (n2 := 22) rfl (ru_bot) ?_
  refine ruL_c (n := 22) (n2 := 23) rfl (ru_bot) ?_
  refine ruL_c (n := 23) (n2 := 24) rfl (ru_aload_n (k := 0) hx hb dX3_burn_23) ?_
  refine ruL_c (n := 24) (n2 := 25) rfl (ru_iload hx hb dX3_burn_24) ?_
  refine ruL_c (n := 25) (n2 := 26) rfl (ru_bot) ?_
  refine ruL_c (n := 26) (n2 := 27) rfl (ru_aload_n (k := 2) hx hb dX3_burn_26) ?_
  refine ruL_c (n := 27) (n2 := 28) rfl (ru_aload_n (k := 3) hx hb dX3_burn_27) ?_
  refine ruL_c (n := 28) (n2 := 29) rfl (ru_callV hx hb hml hown hts hK hN (by decide) rfl (c_X3_levelOf l D cI cZ cA cL ad hi) (cwV 3 hts gX3_burn_X3_levelOf rfl rfl rfl (by decide +kernel) ⟨Nat.le_of_ble_eq_true rfl, Nat.le_of_ble_eq_true rfl⟩) dX3_burn_28 ⟨Nat.zero_le _, Nat.zero_le _⟩) ?_
  refine ruL_c (n := 29) (n2 := 30) rfl (ru_bot) ?_
  refine ruL_c (n := 30) (n2 := 31) rfl (ru_bot) ?_
  refine ruL_c (n := 31) (n2 := 32) rfl (ru_ifle hx hb dX3_burn_31 (by decide)) ?_
  refine ruL_c (n := 32) (n2 := 33) rfl (ru_bot) ?_
  refine ruL_c (n := 33) (n2 := 34) rfl (ru_bot) ?_
  refine ruL_c (n := 34) (n2 := 35) rfl (ru_aload_n (k := 0) hx hb dX3_burn_34) ?_
  refine ruL_c (n := 35) (n2 := 36) rfl (ru_getR (own := RX3) (j := 7) (T := TX3) hx hb hown hK hts hin3 (by decide) rfl rfl (by decide) rfl hl33 dX3_burn_35) ?_
  refine ruL_c (n := 36) (n2 := 37) rfl (ru_bot) ?_
  refine ruL_c (n := 37) (n2 := 38) rfl (ru_bot) ?_
  refine ruL_c (n := 38) (n2 := 39) rfl (ru_iload hx hb dX3_burn_38) ?_
  refine ruL_c (n := 39) (n2 := 40) rfl (ru_bot) ?_
  refine ruL_c (n := 40) (n2 := 41) rfl (ru_dup2 hx hb dX3_burn_40) ?_
  refine ruL_c (n := 41) (n2 := 42) rfl (ru_iald hx hb hK dX3_burn_41) ?_
  refine ruL_c (n := 42) (n2 := 43) rfl (ru_iconst hx hb dX3_burn_42 rfl) ?_
  refine ruL_c (n := 43) (n2 := 44) rfl (ru_iadd hx hb dX3_burn_43) ?_
  refine ruL_c (n := 44) (n2 := 45) rfl (ru_iast hx hb hK hi dX3_burn_44) ?_
  refine ruL_c (n := 45) (n2 := 46) rfl (ru_iinc hx hb dX3_burn_45 rfl) ?_
  refine ruL_c (n := 46) (n2 := 47) rfl (ru_bot) ?_
  refine ruL_c (n := 47) (n2 := 48) rfl (ru_bot) ?_
  refine ruL_c (n := 48) (n2 := 49) rfl (ru_goto hx hb dX3_burn_48 (by decide)) ?_
  refine ruL_c (n := 49) (n2 := 50) rfl (ru_bot) ?_
  refine ruL_c (n := 50) (n2 := 51) rfl (ru_bot) ?_
  refine ruL_c (n := 51) (n2 := 52) rfl (ru_vret hx hb hK hr hlocks dX3_burn_51) ?_
  exact trivial

-- CueTour$Rig.addBurnt
def l_X3_addBurnt_2 : Nat → Int32 → aM → (Int32 → aM → Option (Int32 × aM)) → Option (Int32 × aM)
  | 0, _, _, _ => none
  | n + 1, v1, σ2, k => if (σ2 4 8) ≤ v1 then k v1 σ2 else if inb v1 20 = true then if inb v1 20 = true then if inb v1 20 = true then l_X3_addBurnt_2 n (v1 + 1) (mput σ2 24 (ix v1) ((σ2 24 (ix v1)) + (σ2 25 (ix v1)))) k else none else none else none
def f_X3_addBurnt (σ : aM) : Option (Int32 × aM) := l_X3_addBurnt_2 lf 0 σ (fun v7 σ8 => some (0, σ8))
def F_X3_addBurnt : aF := fun As σ => match As with
  | [] => f_X3_addBurnt σ
  | _ => none
def T_X3_addBurnt (Qa : Int32 → aM → Prop) : List aI := [I_const 0 1, I_istore 1 1, I_iload 1 1, I_aload 0 1, I_getI 4 8, I_bot, I_bot, I_icmp (fun x y => y ≤ x) 31, I_bot, I_bot, I_aload 0 1, I_getR 4 24, I_bot, I_bot, I_iload 1 1, I_dup2, I_iald, I_aload 0 1, I_getR 4 25, I_bot, I_bot, I_iload 1 1, I_iald, I_bin fun x y => x + y, I_iast, I_iinc 1 (1), I_bot, I_bot, I_goto 2, I_bot, I_bot, I_vret Qa]
set_option maxHeartbeats 4000000 in
set_option maxRecDepth 100000 in
theorem t_X3_addBurnt_2 {Qa : Int32 → aM → Prop} {K : aS → Prop} (hw : ∀ k x, wp (T_X3_addBurnt Qa) k K x → K x) (hf : ∀ pc L i st σ, K (pc, L.set i .null, st, σ) → K (pc, L, st, σ)) (y : Int32 × aM) (k : Int32 → aM → Option (Int32 × aM)) :
    ∀ (n : Nat) (v1 : Int32) (σ2 : aM), l_X3_addBurnt_2 n v1 σ2 k = some y → (∀ (w0 : Int32) (τ : aM), k w0 τ = some y → K (31, [.ref 4, .int w0], [], τ)) → K (2, [.ref 4, .int v1], [], σ2) := by
  intro n
  induction n with
  | zero =>
    intro v1 σ2 h hk
    exact absurd h (by simp [l_X3_addBurnt_2])
  | succ n ih =>
    intro v1 σ2 h hk
    unfold l_X3_addBurnt_2 at h
    rcases ite_cases h with ⟨c3, h⟩ | ⟨c3, h⟩
    · refine hw 4 _ ?_
      show (((σ2 4 8) ≤ v1) → K (31, [.ref 4, .int v1], [], σ2)) ∧ (¬ ((σ2 4 8) ≤ v1) → K (10, [.ref 4, .int v1], [], σ2))
      refine ⟨fun _ => ?_, fun q => absurd c3 q⟩
      exact hk v1 σ2 h
    · refine hw 4 _ ?_
      show (((σ2 4 8) ≤ v1) → K (31, [.ref 4, .int v1], [], σ2)) ∧ (¬ ((σ2 4 8) ≤ v1) → K (10, [.ref 4, .int v1], [], σ2))
      refine ⟨fun q => absurd q c3, fun _ => ?_⟩
      obtain ⟨g4, h⟩ := ite_some h
      obtain ⟨g5, h⟩ := ite_some h
      obtain ⟨g6, h⟩ := ite_some h
      refine hw 13 _ ?_
      show kd 24 = 1 ∧ (inb v1 20 = true ∧ (kd 25 = 1 ∧ (inb v1 20 = true ∧ (kd 24 = 1 ∧ (inb v1 20 = true ∧ (K (2, [.ref 4, .int (v1 + 1)], [], mput σ2 24 (ix v1) ((σ2 24 (ix v1)) + (σ2 25 (ix v1))))))))))
      refine ⟨rfl, g4, rfl, g5, rfl, g6, ?_⟩
      exact ih (v1 + 1) (mput σ2 24 (ix v1) ((σ2 24 (ix v1)) + (σ2 25 (ix v1)))) h hk

set_option maxHeartbeats 4000000 in
set_option maxRecDepth 100000 in
theorem s_X3_addBurnt : runs T_X3_addBurnt [.ref 4] 2 F_X3_addBurnt := by
  intro Qa K hw hf As σ r σ' h hQ
  unfold F_X3_addBurnt at h
  split at h
  · unfold f_X3_addBurnt at h
    have hQ : Qa (r, σ').1 (r, σ').2 := hQ
    generalize (r, σ') = y at h hQ
    show K (0, [.ref 4, .null], [], σ)
    refine hw 2 _ ?_
    show K (2, [.ref 4, .int 0], [], σ)
    refine t_X3_addBurnt_2 hw hf _ _ lf 0 σ h (fun v7 σ8 h => ?_)
    show K (31, [.ref 4, .int v7], [], σ8)
    obtain rfl := Option.some.inj h
    refine hw 1 _ ?_
    show Qa 0 σ8
    refine hQ
  · cases h
theorem h_X3_addBurnt : shp [.ref 4] 2 F_X3_addBurnt := by
  intro As σ r σ' h
  unfold F_X3_addBurnt at h
  split at h
  · exact ⟨by simp [Value.category], Nat.le_of_ble_eq_true rfl⟩
  · cases h
set_option maxHeartbeats 4000000 in
set_option maxRecDepth 100000 in
theorem c_X3_addBurnt (l : Launch) (D : va_G) (cI cZ cA cL : ClassId) (ad : Nat → Nat) (hi : adI ad) : CtV l yX3_addBurnt wsX3_addBurnt { frames := 0, cells := 0, slots := 0, locals := 0 } D cI cZ cA cL ad [.ref 4] F_X3_addBurnt := by
  refine mk_V [.ref 4] F_X3_addBurnt T_X3_addBurnt (by decide +kernel) rfl ?_ h_X3_addBurnt s_X3_addBurnt
  intro p e s m args below meth c Qa ⟨hx, hb, hml, hown, hts, hr, hlocks, hK, hN⟩
  have hin3 : ∀ w ∈ u_ws RX3 TX3 9, w ∈ wsX3_addBurnt := by decide +kernel
  have hl36 : (Cond.fieldLink RX3 36 RX3 (TX3 8).2.1 (TX3 8).2.2.1) ∈ wsX3_addBurnt := by decide +kernel
  have hl30 : (Cond.fieldLink RX3 30 RX3 (TX3 6).2.1 (TX3 6).2.2.1) ∈ wsX3_addBurnt := by decide +kernel
  have hl33 : (Cond.fieldLink RX3 33 RX3 (TX3 7).2.1 (TX3 7).2.2.1) ∈ wsX3_addBurnt := by decide +kernel
  refine ruL_c (n := 0) (n2 := 1) rfl (ru_iconst hx hb dX3_addBurnt_0 rfl) ?_
  refine ruL_c (n := 1) (n2 := 2) rfl (ru_istore_n (k := 1) hx hb dX3_addBurnt_1) ?_
  refine ruL_c (n := 2) (n2 := 3) rfl (ru_iload_n (k := 1) hx hb dX3_addBurnt_2) ?_
  refine ruL_c (n := 3) (n2 := 4) rfl (ru_aload_n (k := 0) hx hb dX3_addBurnt_3) ?_
  refine ruL_c (n := 4) (n2 := 5) rfl (ru_getI (own := RX3) (j := 8) (T := TX3) hx hb hown hK hts hin3 (by decide) rfl rfl (by decide) rfl hl36 dX3_addBurnt_4) ?_
  refine ruL_c (n := 5) (n2 := 6) rfl (ru_bot) ?_
  refine ruL_c (n := 6) (n2 := 7) rfl (ru_bot) ?_
  refine ruL_c (n := 7) (n2 := 8) rfl (ru_icmpge hx hb dX3_addBurnt_7 (by decide)) ?_
  refine ruL_c (n := 8) (n2 := 9) rfl (ru_bot) ?_
  refine ruL_c (n := 9) (n2 := 10) rfl (ru_bot) ?_
  refine ruL_c (n := 10) (n2 := 11) rfl (ru_aload_n (k := 0) hx hb dX3_addBurnt_10) ?_
  refine ruL_c (n := 11) (n2 := 12) rfl (ru_getR (own := RX3) (j := 6) (T := TX3) hx hb hown hK hts hin3 (by decide) rfl rfl (by decide) rfl hl30 dX3_addBurnt_11) ?_
  refine ruL_c (n := 12) (n2 := 13) rfl (ru_bot) ?_
  refine ruL_c (n := 13) (n2 := 14) rfl (ru_bot) ?_
  refine ruL_c (n := 14) (n2 := 15) rfl (ru_iload_n (k := 1) hx hb dX3_addBurnt_14) ?_
  refine ruL_c (n := 15) (n2 := 16) rfl (ru_dup2 hx hb dX3_addBurnt_15) ?_
  refine ruL_c (n := 16) (n2 := 17) rfl (ru_iald hx hb hK dX3_addBurnt_16) ?_
  refine ruL_c (n := 17) (n2 := 18) rfl (ru_aload_n (k := 0) hx hb dX3_addBurnt_17) ?_
  refine ruL_c (n := 18) (n2 := 19) rfl (ru_getR (own := RX3) (j := 7) (T := TX3) hx hb hown hK hts hin3 (by decide) rfl rfl (by decide) rfl hl33 dX3_addBurnt_18) ?_
  refine ruL_c (n := 19) (n2 := 20) rfl (ru_bot) ?_
  refine ruL_c (n := 20) (n2 := 21) rfl (ru_bot) ?_
  refine ruL_c (n := 21) (n2 := 22) rfl (ru_iload_n (k := 1) hx hb dX3_addBurnt_21) ?_
  refine ruL_c (n := 22) (n2 := 23) rfl (ru_iald hx hb hK dX3_addBurnt_22) ?_
  refine ruL_c (n := 23) (n2 := 24) rfl (ru_iadd hx hb dX3_addBurnt_23) ?_
  refine ruL_c (n := 24) (n2 := 25) rfl (ru_iast hx hb hK hi dX3_addBurnt_24) ?_
  refine ruL_c (n := 25) (n2 := 26) rfl (ru_iinc hx hb dX3_addBurnt_25 rfl) ?_
  refine ruL_c (n := 26) (n2 := 27) rfl (ru_bot) ?_
  refine ruL_c (n := 27) (n2 := 28) rfl (ru_bot) ?_
  refine ruL_c (n := 28) (n2 := 29) rfl (ru_goto hx hb dX3_addBurnt_28 (by decide)) ?_
  refine ruL_c (n := 29) (n2 := 30) rfl (ru_bot) ?_
  refine ruL_c (n := 30) (n2 := 31) rfl (ru_bot) ?_
  refine ruL_c (n := 31) (n2 := 32) rfl (ru_vret hx hb hK hr hlocks dX3_addBurnt_31) ?_
  exact trivial

