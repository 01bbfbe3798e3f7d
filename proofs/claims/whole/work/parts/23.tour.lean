-- CueTour.readEndOf
def f_X5_readEndOf (p0 : Int32) (σ : aM) : Option (Int32 × aM) := if inb p0 30 = true then if ¬ (σ 8 (ix p0)) = 0 then some (0, σ) else bnd (f_X4_lastSecondOf p0 σ) (fun r3 σ4 => if inb p0 30 = true then bnd (f_X1_fillLevels r3 (128 + ix p0) σ4) (fun r7 σ8 => some (0, σ8)) else none) else none
def F_X5_readEndOf : aF := fun As σ => match As with
  | [.int p0] => f_X5_readEndOf p0 σ
  | _ => none
def T_X5_readEndOf (Qa : Int32 → aM → Prop) : List aI := [I_aload 0 1, I_getR 0 1, I_bot, I_bot, I_getR 1 8, I_bot, I_bot, I_iload 1 1, I_zald, I_if (fun x => ¬ x = 0) 33, I_bot, I_bot, I_aload 0 1, I_getR 0 3, I_bot, I_bot, I_aload 0 1, I_getR 0 1, I_bot, I_bot, I_iload 1 1, I_callV 1 1 F_X4_lastSecondOf, I_bot, I_bot, I_aload 0 1, I_getR 0 56, I_bot, I_bot, I_iload 1 1, I_aald, I_callVv 3 2 F_X1_fillLevels, I_bot, I_bot, I_vret Qa]
set_option maxHeartbeats 4000000 in
set_option maxRecDepth 100000 in
theorem s_X5_readEndOf : runs T_X5_readEndOf [.ref 0] 2 F_X5_readEndOf := by
  intro Qa K hw hf As σ r σ' h hQ
  unfold F_X5_readEndOf at h
  split at h
  · rename_i p0
    unfold f_X5_readEndOf at h
    have hQ : Qa (r, σ').1 (r, σ').2 := hQ
    generalize (r, σ') = y at h hQ
    show K (0, [.ref 0, .int p0], [], σ)
    obtain ⟨g1, h⟩ := ite_some h
    rcases ite_cases h with ⟨c2, h⟩ | ⟨c2, h⟩
    · refine hw 6 _ ?_
      show kd 8 = 2 ∧ (inb p0 30 = true ∧ (((¬ (σ 8 (ix p0)) = 0) → K (33, [.ref 0, .int p0], [], σ)) ∧ (¬ (¬ (σ 8 (ix p0)) = 0) → K (12, [.ref 0, .int p0], [], σ))))
      refine ⟨rfl, g1, ⟨fun _ => ?_, fun q => absurd c2 q⟩⟩
      obtain rfl := Option.some.inj h
      refine hw 1 _ ?_
      show Qa 0 σ
      refine hQ
    · refine hw 6 _ ?_
      show kd 8 = 2 ∧ (inb p0 30 = true ∧ (((¬ (σ 8 (ix p0)) = 0) → K (33, [.ref 0, .int p0], [], σ)) ∧ (¬ (¬ (σ 8 (ix p0)) = 0) → K (12, [.ref 0, .int p0], [], σ))))
      refine ⟨rfl, g1, ⟨fun q => absurd q c2, fun _ => ?_⟩⟩
      obtain ⟨r3, σ4, e5, h⟩ := bnd_some h
      refine hw 6 _ ?_
      show ∃ r3 σ4, f_X4_lastSecondOf p0 σ = some (r3, σ4) ∧ K (24, [.ref 0, .int p0], [.int r3, .ref 3], σ4)
      refine ⟨r3, σ4, e5, ?_⟩
      obtain ⟨g6, h⟩ := ite_some h
      obtain ⟨r7, σ8, e9, h⟩ := bnd_some h
      refine hw 5 _ ?_
      show kd 56 = 3 ∧ (inb p0 30 = true ∧ (∃ r7 σ8, f_X1_fillLevels r3 (128 + ix p0) σ4 = some (r7, σ8) ∧ K (33, [.ref 0, .int p0], [], σ8)))
      refine ⟨rfl, g6, ⟨r7, σ8, e9, ?_⟩⟩
      obtain rfl := Option.some.inj h
      refine hw 1 _ ?_
      show Qa 0 σ8
      refine hQ
  · cases h
theorem h_X5_readEndOf : shp [.ref 0] 2 F_X5_readEndOf := by
  intro As σ r σ' h
  unfold F_X5_readEndOf at h
  split at h
  · exact ⟨by simp [Value.category], Nat.le_of_ble_eq_true rfl⟩
  · cases h
set_option maxHeartbeats 4000000 in
set_option maxRecDepth 100000 in
theorem c_X5_readEndOf (l : Launch) (D : va_G) (cI cZ cA cL : ClassId) (ad : Nat → Nat) (hi : adI ad) : CtV l yX5_readEndOf wsX5_readEndOf { frames := 3, cells := 0, slots := 0, locals := 74 } D cI cZ cA cL ad [.ref 0] F_X5_readEndOf := by
  refine mk_V [.ref 0] F_X5_readEndOf T_X5_readEndOf (by decide +kernel) rfl ?_ h_X5_readEndOf s_X5_readEndOf
  intro p e s m args below meth c Qa ⟨hx, hb, hml, hown, hts, hr, hlocks, hK, hN⟩
  have hin5 : ∀ w ∈ u_ws RX5 TX5 8, w ∈ wsX5_readEndOf := by decide +kernel
  have hl10 : (Cond.fieldLink RX5 10 RX5 (TX5 0).2.1 (TX5 0).2.2.1) ∈ wsX5_readEndOf := by decide +kernel
  have hin4 : ∀ w ∈ u_ws RX4 TX4 4, w ∈ wsX5_readEndOf := by decide +kernel
  have hl78 : (Cond.fieldLinkNest RX5 78 RX4 (TX4 1).2.1 (TX4 1).2.2.1 "CueTour") ∈ nwL := by decide +kernel
  have hl26 : (Cond.fieldLink RX5 26 RX5 (TX5 2).2.1 (TX5 2).2.2.1) ∈ wsX5_readEndOf := by decide +kernel
  have hl53 : (Cond.fieldLink RX5 53 RX5 (TX5 7).2.1 (TX5 7).2.2.1) ∈ wsX5_readEndOf := by decide +kernel
  refine ruL_c (n := 0) (n2 := 1) rfl (ru_aload_n (k := 0) hx hb dX5_readEndOf_0) ?_
  refine ruL_c (n := 1) (n2 := 2) rfl (ru_getR (own := RX5) (j := 0) (T := TX5) hx hb hown hK hts hin5 (by decide) rfl rfl (by decide) rfl hl10 dX5_readEndOf_1) ?_
  refine ruL_c (n := 2) (n2 := 3) rfl (ru_bot) ?_
  refine ruL_c (n := 3) (n2 := 4) rfl (ru_bot) ?_
  refine ruL_c (n := 4) (n2 := 5) rfl (ru_getRN (own := RX5) (j := 1) (T := TX4) hx hb hown hK hN hts hin4 (by decide) rfl rfl (by decide) rfl hl78 dX5_readEndOf_4) ?_
  refine ruL_c (n := 5) (n2 := 6) rfl (ru_bot) ?_
  refine ruL_c (n := 6) (n2 := 7) rfl (ru_bot) ?_
  refine ruL_c (n := 7) (n2 := 8) rfl (ru_iload_n (k := 1) hx hb dX5_readEndOf_7) ?_
  refine ruL_c (n := 8) (n2 := 9) rfl (ru_zald hx hb hK dX5_readEndOf_8) ?_
  refine ruL_c (n := 9) (n2 := 10) rfl (ru_ifne hx hb dX5_readEndOf_9 (by decide)) ?_
  refine ruL_c (n := 10) (n2 := 11) rfl (ru_bot) ?_
  refine ruL_c (n := 11) (n2 := 12) rfl (ru_bot) ?_
  refine ruL_c (n := 12) (n2 := 13) rfl (ru_aload_n (k := 0) hx hb dX5_readEndOf_12) ?_
  refine ruL_c (n := 13) (n2 := 14) rfl (ru_getR (own := RX5) (j := 2) (T := TX5) hx hb hown hK hts hin5 (by decide) rfl rfl (by decide) rfl hl26 dX5_readEndOf_13) ?_
  refine ruL_c (n := 14) (n2 := 15) rfl (ru_bot) ?_
  refine ruL_c (n := 15) (n2 := 16) rfl (ru_bot) ?_
  refine ruL_c (n := 16) (n2 := 17) rfl (ru_aload_n (k := 0) hx hb dX5_readEndOf_16) ?_
  refine ruL_c (n := 17) (n2 := 18) rfl (ru_getR (own := RX5) (j := 0) (T := TX5) hx hb hown hK hts hin5 (by decide) rfl rfl (by decide) rfl hl10 dX5_readEndOf_17) ?_
  refine ruL_c (n := 18) (n2 := 19) rfl (ru_bot) ?_
  refine ruL_c (n := 19) (n2 := 20) rfl (ru_bot) ?_
  refine ruL_c (n := 20) (n2 := 21) rfl (ru_iload_n (k := 1) hx hb dX5_readEndOf_20) ?_
  refine ruL_c (n := 21) (n2 := 22) rfl (ru_callV hx hb hml hown hts hK hN (by decide) rfl (c_X4_lastSecondOf l D cI cZ cA cL ad hi) (cwV 1 hts gX5_readEndOf_X4_lastSecondOf rfl rfl rfl (by decide +kernel) ⟨Nat.le_of_ble_eq_true rfl, Nat.le_of_ble_eq_true rfl⟩) dX5_readEndOf_21 ⟨Nat.zero_le _, Nat.zero_le _⟩) ?_
  refine ruL_c (n := 22) (n2 := 23) rfl (ru_bot) ?_
  refine ruL_c (n := 23) (n2 := 24) rfl (ru_bot) ?_
  refine ruL_c (n := 24) (n2 := 25) rfl (ru_aload_n (k := 0) hx hb dX5_readEndOf_24) ?_
  refine ruL_c (n := 25) (n2 := 26) rfl (ru_getR (own := RX5) (j := 7) (T := TX5) hx hb hown hK hts hin5 (by decide) rfl rfl (by decide) rfl hl53 dX5_readEndOf_25) ?_
  refine ruL_c (n := 26) (n2 := 27) rfl (ru_bot) ?_
  refine ruL_c (n := 27) (n2 := 28) rfl (ru_bot) ?_
  refine ruL_c (n := 28) (n2 := 29) rfl (ru_iload_n (k := 1) hx hb dX5_readEndOf_28) ?_
  refine ruL_c (n := 29) (n2 := 30) rfl (ru_aald hx hb hK dX5_readEndOf_29) ?_
  refine ruL_c (n := 30) (n2 := 31) rfl (ru_callVv hx hb hml hown hts hK hN (by decide) rfl (c_X1_fillLevels l D cI cZ cA cL ad hi) (cwV 2 hts gX5_readEndOf_X1_fillLevels rfl rfl rfl (by decide +kernel) ⟨Nat.le_of_ble_eq_true rfl, Nat.le_of_ble_eq_true rfl⟩) dX5_readEndOf_30 ⟨Nat.zero_le _, Nat.zero_le _⟩) ?_
  refine ruL_c (n := 31) (n2 := 32) rfl (ru_bot) ?_
  refine ruL_c (n := 32) (n2 := 33) rfl (ru_bot) ?_
  refine ruL_c (n := 33) (n2 := 34) rfl (ru_vret hx hb hK hr hlocks dX5_readEndOf_33) ?_
  exact trivial

-- CueTour.readEnds
def l_X5_readEnds_2 : Nat → Int32 → aM → (Int32 → aM → Option (Int32 × aM)) → Option (Int32 × aM)
  | 0, _, _, _ => none
  | n + 1, v1, σ2, k => if (σ2 1 3) ≤ v1 then k v1 σ2 else bnd (f_X5_readEndOf v1 σ2) (fun r4 σ5 => l_X5_readEnds_2 n (v1 + 1) σ5 k)
def f_X5_readEnds (σ : aM) : Option (Int32 × aM) := l_X5_readEnds_2 lf 0 σ (fun v7 σ8 => some (0, σ8))
def F_X5_readEnds : aF := fun As σ => match As with
  | [] => f_X5_readEnds σ
  | _ => none
def T_X5_readEnds (Qa : Int32 → aM → Prop) : List aI := [I_const 0 1, I_istore 1 1, I_iload 1 1, I_aload 0 1, I_getR 0 1, I_bot, I_bot, I_getI 1 3, I_bot, I_bot, I_icmp (fun x y => y ≤ x) 24, I_bot, I_bot, I_aload 0 1, I_iload 1 1, I_callVv 0 1 F_X5_readEndOf, I_bot, I_bot, I_iinc 1 (1), I_bot, I_bot, I_goto 2, I_bot, I_bot, I_vret Qa]
set_option maxHeartbeats 4000000 in
set_option maxRecDepth 100000 in
theorem t_X5_readEnds_2 {Qa : Int32 → aM → Prop} {K : aS → Prop} (hw : ∀ k x, wp (T_X5_readEnds Qa) k K x → K x) (hf : ∀ pc L i st σ, K (pc, L.set i .null, st, σ) → K (pc, L, st, σ)) (y : Int32 × aM) (k : Int32 → aM → Option (Int32 × aM)) :
    ∀ (n : Nat) (v1 : Int32) (σ2 : aM), l_X5_readEnds_2 n v1 σ2 k = some y → (∀ (w0 : Int32) (τ : aM), k w0 τ = some y → K (24, [.ref 0, .int w0], [], τ)) → K (2, [.ref 0, .int v1], [], σ2) := by
  intro n
  induction n with
  | zero =>
    intro v1 σ2 h hk
    exact absurd h (by simp [l_X5_readEnds_2])
  | succ n ih =>
    intro v1 σ2 h hk
    unfold l_X5_readEnds_2 at h
    rcases ite_cases h with ⟨c3, h⟩ | ⟨c3, h⟩
    · refine hw 5 _ ?_
      show (((σ2 1 3) ≤ v1) → K (24, [.ref 0, .int v1], [], σ2)) ∧ (¬ ((σ2 1 3) ≤ v1) → K (13, [.ref 0, .int v1], [], σ2))
      refine ⟨fun _ => ?_, fun q => absurd c3 q⟩
      exact hk v1 σ2 h
    · refine hw 5 _ ?_
      show (((σ2 1 3) ≤ v1) → K (24, [.ref 0, .int v1], [], σ2)) ∧ (¬ ((σ2 1 3) ≤ v1) → K (13, [.ref 0, .int v1], [], σ2))
      refine ⟨fun q => absurd q c3, fun _ => ?_⟩
      obtain ⟨r4, σ5, e6, h⟩ := bnd_some h
      refine hw 3 _ ?_
      show ∃ r4 σ5, f_X5_readEndOf v1 σ2 = some (r4, σ5) ∧ K (18, [.ref 0, .int v1], [], σ5)
      refine ⟨r4, σ5, e6, ?_⟩
      refine hw 2 _ ?_
      show K (2, [.ref 0, .int (v1 + 1)], [], σ5)
      exact ih (v1 + 1) σ5 h hk

set_option maxHeartbeats 4000000 in
set_option maxRecDepth 100000 in
theorem s_X5_readEnds : runs T_X5_readEnds [.ref 0] 2 F_X5_readEnds := by
  intro Qa K hw hf As σ r σ' h hQ
  unfold F_X5_readEnds at h
  split at h
  · unfold f_X5_readEnds at h
    have hQ : Qa (r, σ').1 (r, σ').2 := hQ
    generalize (r, σ') = y at h hQ
    show K (0, [.ref 0, .null], [], σ)
    refine hw 2 _ ?_
    show K (2, [.ref 0, .int 0], [], σ)
    refine t_X5_readEnds_2 hw hf _ _ lf 0 σ h (fun v7 σ8 h => ?_)
    show K (24, [.ref 0, .int v7], [], σ8)
    obtain rfl := Option.some.inj h
    refine hw 1 _ ?_
    show Qa 0 σ8
    refine hQ
  · cases h
theorem h_X5_readEnds : shp [.ref 0] 2 F_X5_readEnds := by
  intro As σ r σ' h
  unfold F_X5_readEnds at h
  split at h
  · exact ⟨by simp [Value.category], Nat.le_of_ble_eq_true rfl⟩
  · cases h
set_option maxHeartbeats 4000000 in
set_option maxRecDepth 100000 in
theorem c_X5_readEnds (l : Launch) (D : va_G) (cI cZ cA cL : ClassId) (ad : Nat → Nat) (hi : adI ad) : CtV l yX5_readEnds wsX5_readEnds { frames := 4, cells := 0, slots := 0, locals := 95 } D cI cZ cA cL ad [.ref 0] F_X5_readEnds := by
  refine mk_V [.ref 0] F_X5_readEnds T_X5_readEnds (by decide +kernel) rfl ?_ h_X5_readEnds s_X5_readEnds
  intro p e s m args below meth c Qa ⟨hx, hb, hml, hown, hts, hr, hlocks, hK, hN⟩
  have hin5 : ∀ w ∈ u_ws RX5 TX5 8, w ∈ wsX5_readEnds := by decide +kernel
  have hl10 : (Cond.fieldLink RX5 10 RX5 (TX5 0).2.1 (TX5 0).2.2.1) ∈ wsX5_readEnds := by decide +kernel
  have hin4 : ∀ w ∈ u_ws RX4 TX4 4, w ∈ wsX5_readEnds := by decide +kernel
  have hl60 : (Cond.fieldLinkNest RX5 60 RX4 (TX4 3).2.1 (TX4 3).2.2.1 "CueTour") ∈ nwL := by decide +kernel
  refine ruL_c (n := 0) (n2 := 1) rfl (ru_iconst hx hb dX5_readEnds_0 rfl) ?_
  refine ruL_c (n := 1) (n2 := 2) rfl (ru_istore_n (k := 1) hx hb dX5_readEnds_1) ?_
  refine ruL_c (n := 2) (n2 := 3) rfl (ru_iload_n (k := 1) hx hb dX5_readEnds_2) ?_
  refine ruL_c (n := 3) (n2 := 4) rfl (ru_aload_n (k := 0) hx hb dX5_readEnds_3) ?_
  refine ruL_c (n := 4) (n2 := 5) rfl (ru_getR (own := RX5) (j := 0) (T := TX5) hx hb hown hK hts hin5 (by decide) rfl rfl (by decide) rfl hl10 dX5_readEnds_4) ?_
  refine ruL_c (n := 5) (n2 := 6) rfl (ru_bot) ?_
  refine ruL_c (n := 6) (n2 := 7) rfl (ru_bot) ?_
  refine ruL_c (n := 7) (n2 := 8) rfl (ru_getIN (own := RX5) (j := 3) (T := TX4) hx hb hown hK hN hts hin4 (by decide) rfl rfl (by decide) rfl hl60 dX5_readEnds_7) ?_
  refine ruL_c (n := 8) (n2 := 9) rfl (ru_bot) ?_
  refine ruL_c (n := 9) (n2 := 10) rfl (ru_bot) ?_
  refine ruL_c (n := 10) (n2 := 11) rfl (ru_icmpge hx hb dX5_readEnds_10 (by decide)) ?_
  refine ruL_c (n := 11) (n2 := 12) rfl (ru_bot) ?_
  refine ruL_c (n := 12) (n2 := 13) rfl (ru_bot) ?_
  refine ruL_c (n := 13) (n2 := 14) rfl (ru_aload_n (k := 0) hx hb dX5_readEnds_13) ?_
  refine ruL_c (n := 14) (n2 := 15) rfl (ru_iload_n (k := 1) hx hb dX5_readEnds_14) ?_
  refine ruL_c (n := 15) (n2 := 16) rfl (ru_callVv hx hb hml hown hts hK hN (by decide) rfl (c_X5_readEndOf l D cI cZ cA cL ad hi) (cwV 1 hts gX5_readEnds_X5_readEndOf rfl rfl rfl (by decide +kernel) ⟨Nat.le_of_ble_eq_true rfl, Nat.le_of_ble_eq_true rfl⟩) dX5_readEnds_15 ⟨Nat.zero_le _, Nat.zero_le _⟩) ?_
  refine ruL_c (n := 16) (n2 := 17) rfl (ru_bot) ?_
  refine ruL_c (n := 17) (n2 := 18) rfl (ru_bot) ?_
  refine ruL_c (n := 18) (n2 := 19) rfl (ru_iinc hx hb dX5_readEnds_18 rfl) ?_
  refine ruL_c (n := 19) (n2 := 20) rfl (ru_bot) ?_
  refine ruL_c (n := 20) (n2 := 21) rfl (ru_bot) ?_
  refine ruL_c (n := 21) (n2 := 22) rfl (ru_goto hx hb dX5_readEnds_21 (by decide)) ?_
  refine ruL_c (n := 22) (n2 := 23) rfl (ru_bot) ?_
  refine ruL_c (n := 23) (n2 := 24) rfl (ru_bot) ?_
  refine ruL_c (n := 24) (n2 := 25) rfl (ru_vret hx hb hK hr hlocks dX5_readEnds_24) ?_
  exact trivial

-- CueTour.shortAreas
def l_X5_shortAreas_19 (x3 : Int32) (x4 : Int32) : Nat → Int32 → Int32 → aM → (Int32 → Int32 → aM → Option (Int32 × aM)) → Option (Int32 × aM)
  | 0, _, _, _, _ => none
  | n + 1, v5, v6, σ7, k => if 4 ≤ v6 then k v5 v6 σ7 else if inb x4 30 = true then bnd (f_X3_lightOf x3 v6 28 (128 + ix x4) σ7) (fun r10 σ11 => if inb x4 30 = true then if inb v6 4 = true then if (σ11 (58 + ix x4) (ix v6)) ≤ r10 then l_X5_shortAreas_19 x3 x4 n v5 (v6 + 1) σ11 k else l_X5_shortAreas_19 x3 x4 n (v5 ||| (1 <<< (v6 &&& 31))) (v6 + 1) σ11 k else none else none) else none
def f_X5_shortAreas (p0 : Int32) (p1 : Int32) (σ : aM) : Option (Int32 × aM) := if inb p1 30 = true then if (σ 8 (ix p1)) = 0 then l_X5_shortAreas_19 p0 p1 lf 0 0 σ (fun v16 v17 σ18 => some (v16, σ18)) else some (0, σ) else none
def F_X5_shortAreas : aF := fun As σ => match As with
  | [.int p0, .int p1] => f_X5_shortAreas p0 p1 σ
  | _ => none
def T_X5_shortAreas (Qa : Int32 → aM → Prop) : List aI := [I_aload 0 1, I_getR 0 1, I_bot, I_bot, I_getR 1 8, I_bot, I_bot, I_iload 2 1, I_zald, I_if (fun x => x = 0) 14, I_bot, I_bot, I_const 0 1, I_iret Qa, I_const 0 1, I_istore 3 1, I_const 0 1, I_istore 4 2, I_bot, I_iload 4 2, I_bot, I_const 4 1, I_icmp (fun x y => y ≤ x) 73, I_bot, I_bot, I_aload 0 1, I_getR 0 4, I_bot, I_bot, I_iload 1 1, I_iload 4 2, I_bot, I_aload 0 1, I_getR 0 28, I_bot, I_bot, I_aload 0 1, I_getR 0 56, I_bot, I_bot, I_iload 2 1, I_aald, I_callV 4 4 F_X3_lightOf, I_bot, I_bot, I_aload 0 1, I_getR 0 1, I_bot, I_bot, I_getR 1 53, I_bot, I_bot, I_iload 2 1, I_aald, I_iload 4 2, I_bot, I_iald, I_icmp (fun x y => y ≤ x) 67, I_bot, I_bot, I_iload 3 1, I_const 1 1, I_iload 4 2, I_bot, I_bin fun x y => x <<< (y &&& 31), I_bin fun x y => x ||| y, I_istore 3 1, I_iinc 4 (1), I_bot, I_bot, I_goto 19, I_bot, I_bot, I_iload 3 1, I_iret Qa]
set_option maxHeartbeats 4000000 in
set_option maxRecDepth 100000 in
theorem t_X5_shortAreas_19 {Qa : Int32 → aM → Prop} {K : aS → Prop} (hw : ∀ k x, wp (T_X5_shortAreas Qa) k K x → K x) (hf : ∀ pc L i st σ, K (pc, L.set i .null, st, σ) → K (pc, L, st, σ)) (x3 : Int32) (x4 : Int32) (y : Int32 × aM) (k : Int32 → Int32 → aM → Option (Int32 × aM)) :
    ∀ (n : Nat) (v5 : Int32) (v6 : Int32) (σ7 : aM), l_X5_shortAreas_19 x3 x4 n v5 v6 σ7 k = some y → (∀ (w0 : Int32) (w1 : Int32) (τ : aM), k w0 w1 τ = some y → K (73, [.ref 0, .int x3, .int x4, .int w0, .int w1], [], τ)) → K (19, [.ref 0, .int x3, .int x4, .int v5, .int v6], [], σ7) := by
  intro n
  induction n with
  | zero =>
    intro v5 v6 σ7 h hk
    exact absurd h (by simp [l_X5_shortAreas_19])
  | succ n ih =>
    intro v5 v6 σ7 h hk
    unfold l_X5_shortAreas_19 at h
    rcases ite_cases h with ⟨c8, h⟩ | ⟨c8, h⟩
    · refine hw 3 _ ?_
      show ((4 ≤ v6) → K (73, [.ref 0, .int x3, .int x4, .int v5, .int v6], [], σ7)) ∧ (¬ (4 ≤ v6) → K (25, [.ref 0, .int x3, .int x4, .int v5, .int v6], [], σ7))
      refine ⟨fun _ => ?_, fun q => absurd c8 q⟩
      exact hk v5 v6 σ7 h
    · refine hw 3 _ ?_
      show ((4 ≤ v6) → K (73, [.ref 0, .int x3, .int x4, .int v5, .int v6], [], σ7)) ∧ (¬ (4 ≤ v6) → K (25, [.ref 0, .int x3, .int x4, .int v5, .int v6], [], σ7))
      refine ⟨fun q => absurd q c8, fun _ => ?_⟩
      obtain ⟨g9, h⟩ := ite_some h
      obtain ⟨r10, σ11, e12, h⟩ := bnd_some h
      refine hw 11 _ ?_
      show kd 56 = 3 ∧ (inb x4 30 = true ∧ (∃ r10 σ11, f_X3_lightOf x3 v6 28 (128 + ix x4) σ7 = some (r10, σ11) ∧ K (45, [.ref 0, .int x3, .int x4, .int v5, .int v6], [.int r10], σ11)))
      refine ⟨rfl, g9, ⟨r10, σ11, e12, ?_⟩⟩
      obtain ⟨g13, h⟩ := ite_some h
      obtain ⟨g14, h⟩ := ite_some h
      rcases ite_cases h with ⟨c15, h⟩ | ⟨c15, h⟩
      · refine hw 8 _ ?_
        show kd 53 = 3 ∧ (inb x4 30 = true ∧ (kd (58 + ix x4) = 1 ∧ (inb v6 (ln (58 + ix x4)) = true ∧ ((((σ11 (58 + ix x4) (ix v6)) ≤ r10) → K (67, [.ref 0, .int x3, .int x4, .int v5, .int v6], [], σ11)) ∧ (¬ ((σ11 (58 + ix x4) (ix v6)) ≤ r10) → K (60, [.ref 0, .int x3, .int x4, .int v5, .int v6], [], σ11))))))
        refine ⟨rfl, g13, (row53_kd g13), (by rw [row53_ln g13]; exact g14), ⟨fun _ => ?_, fun q => absurd c15 q⟩⟩
        refine hw 2 _ ?_
        show K (19, [.ref 0, .int x3, .int x4, .int v5, .int (v6 + 1)], [], σ11)
        exact ih v5 (v6 + 1) σ11 h hk
      · refine hw 8 _ ?_
        show kd 53 = 3 ∧ (inb x4 30 = true ∧ (kd (58 + ix x4) = 1 ∧ (inb v6 (ln (58 + ix x4)) = true ∧ ((((σ11 (58 + ix x4) (ix v6)) ≤ r10) → K (67, [.ref 0, .int x3, .int x4, .int v5, .int v6], [], σ11)) ∧ (¬ ((σ11 (58 + ix x4) (ix v6)) ≤ r10) → K (60, [.ref 0, .int x3, .int x4, .int v5, .int v6], [], σ11))))))
        refine ⟨rfl, g13, (row53_kd g13), (by rw [row53_ln g13]; exact g14), ⟨fun q => absurd q c15, fun _ => ?_⟩⟩
        refine hw 8 _ ?_
        show K (19, [.ref 0, .int x3, .int x4, .int (v5 ||| (1 <<< (v6 &&& 31))), .int (v6 + 1)], [], σ11)
        exact ih (v5 ||| (1 <<< (v6 &&& 31))) (v6 + 1) σ11 h hk

set_option maxHeartbeats 4000000 in
set_option maxRecDepth 100000 in
theorem s_X5_shortAreas : runs T_X5_shortAreas [.ref 0] 5 F_X5_shortAreas := by
  intro Qa K hw hf As σ r σ' h hQ
  unfold F_X5_shortAreas at h
  split at h
  · rename_i p0 p1
    unfold f_X5_shortAreas at h
    have hQ : Qa (r, σ').1 (r, σ').2 := hQ
    generalize (r, σ') = y at h hQ
    show K (0, [.ref 0, .int p0, .int p1, .null, .null], [], σ)
    obtain ⟨g1, h⟩ := ite_some h
    rcases ite_cases h with ⟨c2, h⟩ | ⟨c2, h⟩
    · refine hw 6 _ ?_
      show kd 8 = 2 ∧ (inb p1 30 = true ∧ ((((σ 8 (ix p1)) = 0) → K (14, [.ref 0, .int p0, .int p1, .null, .null], [], σ)) ∧ (¬ ((σ 8 (ix p1)) = 0) → K (12, [.ref 0, .int p0, .int p1, .null, .null], [], σ))))
      refine ⟨rfl, g1, ⟨fun _ => ?_, fun q => absurd c2 q⟩⟩
      refine hw 4 _ ?_
      show K (19, [.ref 0, .int p0, .int p1, .int 0, .int 0], [], σ)
      refine t_X5_shortAreas_19 hw hf p0 p1 _ _ lf 0 0 σ h (fun v16 v17 σ18 h => ?_)
      show K (73, [.ref 0, .int p0, .int p1, .int v16, .int v17], [], σ18)
      obtain rfl := Option.some.inj h
      refine hw 2 _ ?_
      show Qa v16 σ18
      refine hQ
    · refine hw 6 _ ?_
      show kd 8 = 2 ∧ (inb p1 30 = true ∧ ((((σ 8 (ix p1)) = 0) → K (14, [.ref 0, .int p0, .int p1, .null, .null], [], σ)) ∧ (¬ ((σ 8 (ix p1)) = 0) → K (12, [.ref 0, .int p0, .int p1, .null, .null], [], σ))))
      refine ⟨rfl, g1, ⟨fun q => absurd q c2, fun _ => ?_⟩⟩
      obtain rfl := Option.some.inj h
      refine hw 2 _ ?_
      show Qa 0 σ
      refine hQ
  · cases h
theorem h_X5_shortAreas : shp [.ref 0] 5 F_X5_shortAreas := by
  intro As σ r σ' h
  unfold F_X5_shortAreas at h
  split at h
  · exact ⟨by simp [Value.category], Nat.le_of_ble_eq_true rfl⟩
  · cases h
set_option maxHeartbeats 4000000 in
set_option maxRecDepth 100000 in
theorem c_X5_shortAreas (l : Launch) (D : va_G) (cI cZ cA cL : ClassId) (ad : Nat → Nat) (hi : adI ad) : CtI l yX5_shortAreas wsX5_shortAreas { frames := 2, cells := 0, slots := 0, locals := 51 } D cI cZ cA cL ad [.ref 0] F_X5_shortAreas := by
  refine mk_I [.ref 0] F_X5_shortAreas T_X5_shortAreas (by decide +kernel) rfl ?_ h_X5_shortAreas s_X5_shortAreas
  intro p e s m args below meth c Qa ⟨hx, hb, hml, hown, hts, hr, hlocks, hK, hN⟩
  have hin5 : ∀ w ∈ u_ws RX5 TX5 8, w ∈ wsX5_shortAreas := by decide +kernel
  have hl10 : (Cond.fieldLink RX5 10 RX5 (TX5 0).2.1 (TX5 0).2.2.1) ∈ wsX5_shortAreas := by decide +kernel
  have hin4 : ∀ w ∈ u_ws RX4 TX4 4, w ∈ wsX5_shortAreas := by decide +kernel
  have hl78 : (Cond.fieldLinkNest RX5 78 RX4 (TX4 1).2.1 (TX4 1).2.2.1 "CueTour") ∈ nwL := by decide +kernel
  have hl33 : (Cond.fieldLink RX5 33 RX5 (TX5 3).2.1 (TX5 3).2.2.1) ∈ wsX5_shortAreas := by decide +kernel
  have hl48 : (Cond.fieldLink RX5 48 RX5 (TX5 6).2.1 (TX5 6).2.2.1) ∈ wsX5_shortAreas := by decide +kernel
  have hl53 : (Cond.fieldLink RX5 53 RX5 (TX5 7).2.1 (TX5 7).2.2.1) ∈ wsX5_shortAreas := by decide +kernel
  have hl75 : (Cond.fieldLinkNest RX5 75 RX4 (TX4 2).2.1 (TX4 2).2.2.1 "CueTour") ∈ nwL := by decide +kernel
  refine ruL_c (n := 0) (n2 := 1) rfl (ru_aload_n (k := 0) hx hb dX5_shortAreas_0) ?_
  refine ruL_c (n := 1) (n2 := 2) rfl (ru_getR (own := RX5) (j := 0) (T := TX5) hx hb hown hK hts hin5 (by decide) rfl rfl (by decide) rfl hl10 dX5_shortAreas_1) ?_
  refine ruL_c (n := 2) (n2 := 3) rfl (ru_bot) ?_
  refine ruL_c (n := 3) (n2 := 4) rfl (ru_bot) ?_
  refine ruL_c (n := 4) (n2 := 5) rfl (ru_getRN (own := RX5) (j := 1) (T := TX4) hx hb hown hK hN hts hin4 (by decide) rfl rfl (by decide) rfl hl78 dX5_shortAreas_4) ?_
  refine ruL_c (n := 5) (n2 := 6) rfl (ru_bot) ?_
  refine ruL_c (n := 6) (n2 := 7) rfl (ru_bot) ?_
  refine ruL_c (n := 7) (n2 := 8) rfl (ru_iload_n (k := 2) hx hb dX5_shortAreas_7) ?_
  refine ruL_c (n := 8) (n2 := 9) rfl (ru_zald hx hb hK dX5_shortAreas_8) ?_
  refine ruL_c (n := 9) (n2 := 10) rfl (ru_ifeq hx hb dX5_shortAreas_9 (by decide)) ?_
  refine ruL_c (n := 10) (n2 := 11) rfl (ru_bot) ?_
  refine ruL_c (n := 11) (n2 := 12) rfl (ru_bot) ?_
  refine ruL_c (n := 12) (n2 := 13) rfl (ru_iconst hx hb dX5_shortAreas_12 rfl) ?_
  refine ruL_c (n := 13) (n2 := 14) rfl (ru_iret hx hb hK hr hlocks dX5_shortAreas_13) ?_
  refine ruL_c (n := 14) (n2 := 15) rfl (ru_iconst hx hb dX5_shortAreas_14 rfl) ?_
  refine ruL_c (n := 15) (n2 := 16) rfl (ru_istore_n (k := 3) hx hb dX5_shortAreas_15) ?_
  refine ruL_c (n := 16) (n2 := 17) rfl (ru_iconst hx hb dX5_shortAreas_16 rfl) ?_
  refine ruL_c (n := 17) (n2 := 18) rfl (ru_istore hx hb dX5_shortAreas_17) ?_
  refine ruL_c (n := 18) (n2 := 19) rfl (ru_bot) ?_
  refine ruL_c (n := 19) (n2 := 20) rfl (ru_iload hx hb dX5_shortAreas_19) ?_
  refine ruL_c (n := 20) (n2 := 21) rfl (ru_bot) ?_
  refine ruL_c (n := 21) (n2 := 22) rfl (ru_iconst hx hb dX5_shortAreas_21 rfl) ?_
  refine ruL_c (n := 22) (n2 := 23) rfl (ru_icmpge hx hb dX5_shortAreas_22 (by decide)) ?_
  refine ruL_c (n := 23) (n2 := 24) rfl (ru_bot) ?_
  refine ruL_c (n := 24) (n2 := 25) rfl (ru_bot) ?_
  refine ruL_c (n := 25) (n2 := 26) rfl (ru_aload_n (k := 0) hx hb dX5_shortAreas_25) ?_
  refine ruL_c (n := 26) (n2 := 27) rfl (ru_getR (own := RX5) (j := 3) (T := TX5) hx hb hown hK hts hin5 (by decide) rfl rfl (by decide) rfl hl33 dX5_shortAreas_26) ?_
  refine ruL_c (n := 27) (n2 := 28) rfl (ru_bot) ?_
  refine ruL_c (n := 28) (n2 := 29) rfl (ru_bot) ?_
  refine ruL_c (n := 29) (n2 := 30) rfl (ru_iload_n (k := 1) hx hb dX5_shortAreas_29) ?_
  refine ruL_c (n := 30) (n2 := 31) rfl (ru_iload hx hb dX5_shortAreas_30) ?_
  refine ruL_c (n := 31) (n2 := 32) rfl (ru_bot) ?_
  refine ruL_c (n := 32) (n2 := 33) rfl (ru_aload_n (k := 0) hx hb dX5_shortAreas_32) ?_
  refine ruL_c (n := 33) (n2 := 34) rfl (ru_getR (own := RX5) (j := 6) (T := TX5) hx hb hown hK hts hin5 (by decide) rfl rfl (by decide) rfl hl48 dX5_shortAreas_33) ?_
  refine ruL_c (n := 34) (n2 := 35) rfl (ru_bot) ?_
  refine ruL_c (n := 35) (n2 := 36) rfl (ru_bot) ?_
  refine ruL_c (n := 36) (n2 := 37) rfl (ru_aload_n (k := 0) hx hb dX5_shortAreas_36) ?_
  refine ruL_c (n := 37) (n2 := 38) rfl (ru_getR (own := RX5) (j := 7) (T := TX5) hx hb hown hK hts hin5 (by decide) rfl rfl (by decide) rfl hl53 dX5_shortAreas_37) ?_
  refine ruL_c (n := 38) (n2 := 39) rfl (ru_bot) ?_
  refine ruL_c (n := 39) (n2 := 40) rfl (ru_bot) ?_
  refine ruL_c (n := 40) (n2 := 41) rfl (ru_iload_n (k := 2) hx hb dX5_shortAreas_40) ?_
  refine ruL_c (n := 41) (n2 := 42) rfl (ru_aald hx hb hK dX5_shortAreas_41) ?_
  refine ruL_c (n := 42) (n2 := 43) rfl (ru_callV hx hb hml hown hts hK hN (by decide) rfl (c_X3_lightOf l D cI cZ cA cL ad hi) (cwV 4 hts gX5_shortAreas_X3_lightOf rfl rfl rfl (by decide +kernel) ⟨Nat.le_of_ble_eq_true rfl, Nat.le_of_ble_eq_true rfl⟩) dX5_shortAreas_42 ⟨Nat.zero_le _, Nat.zero_le _⟩) ?_
  refine ruL_c (n := 43) (n2 := 44) rfl (ru_bot) ?_
  refine ruL_c (n := 44) (n2 := 45) rfl (ru_bot) ?_
  refine ruL_c (n := 45) (n2 := 46) rfl (ru_aload_n (k := 0) hx hb dX5_shortAreas_45) ?_
  refine ruL_c (n := 46) (n2 := 47) rfl (ru_getR (own := RX5) (j := 0) (T := TX5) hx hb hown hK hts hin5 (by decide) rfl rfl (by decide) rfl hl10 dX5_shortAreas_46) ?_
  refine ruL_c (n := 47) (n2 := 48) rfl (ru_bot) ?_
  refine ruL_c (n := 48) (n2 := 49) rfl (ru_bot) ?_
  refine ruL_c (n := 49) (n2 := 50) rfl (ru_getRN (own := RX5) (j := 2) (T := TX4) hx hb hown hK hN hts hin4 (by decide) rfl rfl (by decide) rfl hl75 dX5_shortAreas_49) ?_
  refine ruL_c (n := 50) (n2 := 51) rfl (ru_bot) ?_
  refine ruL_c (n := 51) (n2 := 52) rfl (ru_bot) ?_
  refine ruL_c (n := 52) (n2 := 53) rfl (ru_iload_n (k := 2) hx hb dX5_shortAreas_52) ?_
  refine ruL_c (n := 53) (n2 := 54) rfl (ru_aald hx hb hK dX5_shortAreas_53) ?_
  refine ruL_c (n := 54) (n2 := 55) rfl (ru_iload hx hb dX5_shortAreas_54) ?_
  refine ruL_c (n := 55) (n2 := 56) rfl (ru_bot) ?_
  refine ruL_c (n := 56) (n2 := 57) rfl (ru_iald hx hb hK dX5_shortAreas_56) ?_
  refine ruL_c (n := 57) (n2 := 58) rfl (ru_icmpge hx hb dX5_shortAreas_57 (by decide)) ?_
  refine ruL_c (n := 58) (n2 := 59) rfl (ru_bot) ?_
  refine ruL_c (n := 59) (n2 := 60) rfl (ru_bot) ?_
  refine ruL_c (n := 60) (n2 := 61) rfl (ru_iload_n (k := 3) hx hb dX5_shortAreas_60) ?_
  refine ruL_c (n := 61) (n2 := 62) rfl (ru_iconst hx hb dX5_shortAreas_61 rfl) ?_
  refine ruL_c (n := 62) (n2 := 63) rfl (ru_iload hx hb dX5_shortAreas_62) ?_
  refine ruL_c (n := 63) (n2 := 64) rfl (ru_bot) ?_
  refine ruL_c (n := 64) (n2 := 65) rfl (ru_ishl hx hb dX5_shortAreas_64) ?_
  refine ruL_c (n := 65) (n2 := 66) rfl (ru_ior hx hb dX5_shortAreas_65) ?_
  refine ruL_c (n := 66) (n2 := 67) rfl (ru_istore_n (k := 3) hx hb dX5_shortAreas_66) ?_
  refine ruL_c (n := 67) (n2 := 68) rfl (ru_iinc hx hb dX5_shortAreas_67 rfl) ?_
  refine ruL_c (n := 68) (n2 := 69) rfl (ru_bot) ?_
  refine ruL_c (n := 69) (n2 := 70) rfl (ru_bot) ?_
  refine ruL_c (n := 70) (n2 := 71) rfl (ru_goto hx hb dX5_shortAreas_70 (by decide)) ?_
  refine ruL_c (n := 71) (n2 := 72) rfl (ru_bot) ?_
  refine ruL_c (n := 72) (n2 := 73) rfl (ru_bot) ?_
  refine ruL_c (n := 73) (n2 := 74) rfl (ru_iload_n (k := 3) hx hb dX5_shortAreas_73) ?_
  refine ruL_c (n := 74) (n2 := 75) rfl (ru_iret hx hb hK hr hlocks dX5_shortAreas_74) ?_
  exact trivial

-- CueTour.countShort
def l_X5_countShort_20 (x4 : Int32) : Nat → Int32 → Int32 → aM → (Int32 → Int32 → aM → Option (Int32 × aM)) → Option (Int32 × aM)
  | 0, _, _, _, _ => none
  | n + 1, v5, v6, σ7, k => if (σ7 1 3) ≤ v6 then k v5 v6 σ7 else bnd (f_X5_shortAreas x4 v6 σ7) (fun r9 σ10 => if r9 = 0 then l_X5_countShort_20 x4 n v5 (v6 + 1) σ10 k else l_X5_countShort_20 x4 n (v5 + 1) (v6 + 1) σ10 k)
def f_X5_countShort (p0 : Int32) (σ : aM) : Option (Int32 × aM) := bnd (f_X3_lay p0 28 σ) (fun r1 σ2 => l_X5_countShort_20 p0 lf 0 0 σ2 (fun v13 v14 σ15 => some (v13, σ15)))
def F_X5_countShort : aF := fun As σ => match As with
  | [.int p0] => f_X5_countShort p0 σ
  | _ => none
def T_X5_countShort (Qa : Int32 → aM → Prop) : List aI := [I_aload 0 1, I_getR 0 4, I_bot, I_bot, I_iload 1 1, I_aload 0 1, I_getR 0 2, I_bot, I_bot, I_aload 0 1, I_getR 0 28, I_bot, I_bot, I_callVv 4 3 F_X3_lay, I_bot, I_bot, I_const 0 1, I_istore 2 1, I_const 0 1, I_istore 3 1, I_iload 3 1, I_aload 0 1, I_getR 0 1, I_bot, I_bot, I_getI 1 3, I_bot, I_bot, I_icmp (fun x y => y ≤ x) 49, I_bot, I_bot, I_aload 0 1, I_iload 1 1, I_iload 3 1, I_callV 0 2 F_X5_shortAreas, I_bot, I_bot, I_if (fun x => x = 0) 43, I_bot, I_bot, I_iinc 2 (1), I_bot, I_bot, I_iinc 3 (1), I_bot, I_bot, I_goto 20, I_bot, I_bot, I_iload 2 1, I_iret Qa]
set_option maxHeartbeats 4000000 in
set_option maxRecDepth 100000 in
theorem t_X5_countShort_20 {Qa : Int32 → aM → Prop} {K : aS → Prop} (hw : ∀ k x, wp (T_X5_countShort Qa) k K x → K x) (hf : ∀ pc L i st σ, K (pc, L.set i .null, st, σ) → K (pc, L, st, σ)) (x4 : Int32) (y : Int32 × aM) (k : Int32 → Int32 → aM → Option (Int32 × aM)) :
    ∀ (n : Nat) (v5 : Int32) (v6 : Int32) (σ7 : aM), l_X5_countShort_20 x4 n v5 v6 σ7 k = some y → (∀ (w0 : Int32) (w1 : Int32) (τ : aM), k w0 w1 τ = some y → K (49, [.ref 0, .int x4, .int w0, .int w1], [], τ)) → K (20, [.ref 0, .int x4, .int v5, .int v6], [], σ7) := by
  intro n
  induction n with
  | zero =>
    intro v5 v6 σ7 h hk
    exact absurd h (by simp [l_X5_countShort_20])
  | succ n ih =>
    intro v5 v6 σ7 h hk
    unfold l_X5_countShort_20 at h
    rcases ite_cases h with ⟨c8, h⟩ | ⟨c8, h⟩
    · refine hw 5 _ ?_
      show (((σ7 1 3) ≤ v6) → K (49, [.ref 0, .int x4, .int v5, .int v6], [], σ7)) ∧ (¬ ((σ7 1 3) ≤ v6) → K (31, [.ref 0, .int x4, .int v5, .int v6], [], σ7))
      refine ⟨fun _ => ?_, fun q => absurd c8 q⟩
      exact hk v5 v6 σ7 h
    · refine hw 5 _ ?_
      show (((σ7 1 3) ≤ v6) → K (49, [.ref 0, .int x4, .int v5, .int v6], [], σ7)) ∧ (¬ ((σ7 1 3) ≤ v6) → K (31, [.ref 0, .int x4, .int v5, .int v6], [], σ7))
      refine ⟨fun q => absurd q c8, fun _ => ?_⟩
      obtain ⟨r9, σ10, e11, h⟩ := bnd_some h
      refine hw 4 _ ?_
      show ∃ r9 σ10, f_X5_shortAreas x4 v6 σ7 = some (r9, σ10) ∧ K (37, [.ref 0, .int x4, .int v5, .int v6], [.int r9], σ10)
      refine ⟨r9, σ10, e11, ?_⟩
      rcases ite_cases h with ⟨c12, h⟩ | ⟨c12, h⟩
      · refine hw 1 _ ?_
        show ((r9 = 0) → K (43, [.ref 0, .int x4, .int v5, .int v6], [], σ10)) ∧ (¬ (r9 = 0) → K (40, [.ref 0, .int x4, .int v5, .int v6], [], σ10))
        refine ⟨fun _ => ?_, fun q => absurd c12 q⟩
        refine hw 2 _ ?_
        show K (20, [.ref 0, .int x4, .int v5, .int (v6 + 1)], [], σ10)
        exact ih v5 (v6 + 1) σ10 h hk
      · refine hw 1 _ ?_
        show ((r9 = 0) → K (43, [.ref 0, .int x4, .int v5, .int v6], [], σ10)) ∧ (¬ (r9 = 0) → K (40, [.ref 0, .int x4, .int v5, .int v6], [], σ10))
        refine ⟨fun q => absurd q c12, fun _ => ?_⟩
        refine hw 3 _ ?_
        show K (20, [.ref 0, .int x4, .int (v5 + 1), .int (v6 + 1)], [], σ10)
        exact ih (v5 + 1) (v6 + 1) σ10 h hk

set_option maxHeartbeats 4000000 in
set_option maxRecDepth 100000 in
theorem s_X5_countShort : runs T_X5_countShort [.ref 0] 4 F_X5_countShort := by
  intro Qa K hw hf As σ r σ' h hQ
  unfold F_X5_countShort at h
  split at h
  · rename_i p0
    unfold f_X5_countShort at h
    have hQ : Qa (r, σ').1 (r, σ').2 := hQ
    generalize (r, σ') = y at h hQ
    show K (0, [.ref 0, .int p0, .null, .null], [], σ)
    obtain ⟨r1, σ2, e3, h⟩ := bnd_some h
    refine hw 8 _ ?_
    show ∃ r1 σ2, f_X3_lay p0 28 σ = some (r1, σ2) ∧ K (16, [.ref 0, .int p0, .null, .null], [], σ2)
    refine ⟨r1, σ2, e3, ?_⟩
    refine hw 4 _ ?_
    show K (20, [.ref 0, .int p0, .int 0, .int 0], [], σ2)
    refine t_X5_countShort_20 hw hf p0 _ _ lf 0 0 σ2 h (fun v13 v14 σ15 h => ?_)
    show K (49, [.ref 0, .int p0, .int v13, .int v14], [], σ15)
    obtain rfl := Option.some.inj h
    refine hw 2 _ ?_
    show Qa v13 σ15
    refine hQ
  · cases h
theorem h_X5_countShort : shp [.ref 0] 4 F_X5_countShort := by
  intro As σ r σ' h
  unfold F_X5_countShort at h
  split at h
  · exact ⟨by simp [Value.category], Nat.le_of_ble_eq_true rfl⟩
  · cases h
set_option maxHeartbeats 4000000 in
set_option maxRecDepth 100000 in
theorem c_X5_countShort (l : Launch) (D : va_G) (cI cZ cA cL : ClassId) (ad : Nat → Nat) (hi : adI ad) : CtI l yX5_countShort wsX5_countShort { frames := 3, cells := 0, slots := 0, locals := 75 } D cI cZ cA cL ad [.ref 0] F_X5_countShort := by
  refine mk_I [.ref 0] F_X5_countShort T_X5_countShort (by decide +kernel) rfl ?_ h_X5_countShort s_X5_countShort
  intro p e s m args below meth c Qa ⟨hx, hb, hml, hown, hts, hr, hlocks, hK, hN⟩
  have hin5 : ∀ w ∈ u_ws RX5 TX5 8, w ∈ wsX5_countShort := by decide +kernel
  have hl33 : (Cond.fieldLink RX5 33 RX5 (TX5 3).2.1 (TX5 3).2.2.1) ∈ wsX5_countShort := by decide +kernel
  have hl19 : (Cond.fieldLink RX5 19 RX5 (TX5 1).2.1 (TX5 1).2.2.1) ∈ wsX5_countShort := by decide +kernel
  have hl48 : (Cond.fieldLink RX5 48 RX5 (TX5 6).2.1 (TX5 6).2.2.1) ∈ wsX5_countShort := by decide +kernel
  have hl10 : (Cond.fieldLink RX5 10 RX5 (TX5 0).2.1 (TX5 0).2.2.1) ∈ wsX5_countShort := by decide +kernel
  have hin4 : ∀ w ∈ u_ws RX4 TX4 4, w ∈ wsX5_countShort := by decide +kernel
  have hl60 : (Cond.fieldLinkNest RX5 60 RX4 (TX4 3).2.1 (TX4 3).2.2.1 "CueTour") ∈ nwL := by decide +kernel
  refine ruL_c (n := 0) (n2 := 1) rfl (ru_aload_n (k := 0) hx hb dX5_countShort_0) ?_
  refine ruL_c (n := 1) (n2 := 2) rfl (ru_getR (own := RX5) (j := 3) (T := TX5) hx hb hown hK hts hin5 (by decide) rfl rfl (by decide) rfl hl33 dX5_countShort_1) ?_
  refine ruL_c (n := 2) (n2 := 3) rfl (ru_bot) ?_
  refine ruL_c (n := 3) (n2 := 4) rfl (ru_bot) ?_
  refine ruL_c (n := 4) (n2 := 5) rfl (ru_iload_n (k := 1) hx hb dX5_countShort_4) ?_
  refine ruL_c (n := 5) (n2 := 6) rfl (ru_aload_n (k := 0) hx hb dX5_countShort_5) ?_
  refine ruL_c (n := 6) (n2 := 7) rfl (ru_getR (own := RX5) (j := 1) (T := TX5) hx hb hown hK hts hin5 (by decide) rfl rfl (by decide) rfl hl19 dX5_countShort_6) ?_
  refine ruL_c (n := 7) (n2 := 8) rfl (ru_bot) ?_
  refine ruL_c (n := 8) (n2 := 9) rfl (ru_bot) ?_
  refine ruL_c (n := 9) (n2 := 10) rfl (ru_aload_n (k := 0) hx hb dX5_countShort_9) ?_
  refine ruL_c (n := 10) (n2 := 11) rfl (ru_getR (own := RX5) (j := 6) (T := TX5) hx hb hown hK hts hin5 (by decide) rfl rfl (by decide) rfl hl48 dX5_countShort_10) ?_
  refine ruL_c (n := 11) (n2 := 12) rfl (ru_bot) ?_
  refine ruL_c (n := 12) (n2 := 13) rfl (ru_bot) ?_
  refine ruL_c (n := 13) (n2 := 14) rfl (ru_callVv hx hb hml hown hts hK hN (by decide) rfl (c_X3_lay l D cI cZ cA cL ad hi) (cwV 3 hts gX5_countShort_X3_lay rfl rfl rfl (by decide +kernel) ⟨Nat.le_of_ble_eq_true rfl, Nat.le_of_ble_eq_true rfl⟩) dX5_countShort_13 ⟨Nat.zero_le _, Nat.zero_le _⟩) ?_
  refine ruL_c (n := 14) (n2 := 15) rfl (ru_bot) ?_
  refine ruL_c (n := 15) (n2 := 16) rfl (ru_bot) ?_
  refine ruL_c (n := 16) (n2 := 17) rfl (ru_iconst hx hb dX5_countShort_16 rfl) ?_
  refine ruL_c (n := 17) (n2 := 18) rfl (ru_istore_n (k := 2) hx hb dX5_countShort_17) ?_
  refine ruL_c (n := 18) (n2 := 19) rfl (ru_iconst hx hb dX5_countShort_18 rfl) ?_
  refine ruL_c (n := 19) (n2 := 20) rfl (ru_istore_n (k := 3) hx hb dX5_countShort_19) ?_
  refine ruL_c (n := 20) (n2 := 21) rfl (ru_iload_n (k := 3) hx hb dX5_countShort_20) ?_
  refine ruL_c (n := 21) (n2 := 22) rfl (ru_aload_n (k := 0) hx hb dX5_countShort_21) ?_
  refine ruL_c (n := 22) (n2 := 23) rfl (ru_getR (own := RX5) (j := 0) (T := TX5) hx hb hown hK hts hin5 (by decide) rfl rfl (by decide) rfl hl10 dX5_countShort_22) ?_
  refine ruL_c (n := 23) (n2 := 24) rfl (ru_bot) ?_
  refine ruL_c (n := 24) (n2 := 25) rfl (ru_bot) ?_
  refine ruL_c (n := 25) (n2 := 26) rfl (ru_getIN (own := RX5) (j := 3) (T := TX4) hx hb hown hK hN hts hin4 (by decide) rfl rfl (by decide) rfl hl60 dX5_countShort_25) ?_
  refine ruL_c (n := 26) (n2 := 27) rfl (ru_bot) ?_
  refine ruL_c (n := 27) (n2 := 28) rfl (ru_bot) ?_
  refine ruL_c (n := 28) (n2 := 29) rfl (ru_icmpge hx hb dX5_countShort_28 (by decide)) ?_
  refine ruL_c (n := 29) (n2 := 30) rfl (ru_bot) ?_
  refine ruL_c (n := 30) (n2 := 31) rfl (ru_bot) ?_
  refine ruL_c (n := 31) (n2 := 32) rfl (ru_aload_n (k := 0) hx hb dX5_countShort_31) ?_
  refine ruL_c (n := 32) (n2 := 33) rfl (ru_iload_n (k := 1) hx hb dX5_countShort_32) ?_
  refine ruL_c (n := 33) (n2 := 34) rfl (ru_iload_n (k := 3) hx hb dX5_countShort_33) ?_
  refine ruL_c (n := 34) (n2 := 35) rfl (ru_callV hx hb hml hown hts hK hN (by decide) rfl (c_X5_shortAreas l D cI cZ cA cL ad hi) (cwV 2 hts gX5_countShort_X5_shortAreas rfl rfl rfl (by decide +kernel) ⟨Nat.le_of_ble_eq_true rfl, Nat.le_of_ble_eq_true rfl⟩) dX5_countShort_34 ⟨Nat.zero_le _, Nat.zero_le _⟩) ?_
  refine ruL_c (n := 35) (n2 := 36) rfl (ru_bot) ?_
  refine ruL_c (n := 36) (n2 := 37) rfl (ru_bot) ?_
  refine ruL_c (n := 37) (n2 := 38) rfl (ru_ifeq hx hb dX5_countShort_37 (by decide)) ?_
  refine ruL_c (n := 38) (n2 := 39) rfl (ru_bot) ?_
  refine ruL_c (n := 39) (n2 := 40) rfl (ru_bot) ?_
  refine ruL_c (n := 40) (n2 := 41) rfl (ru_iinc hx hb dX5_countShort_40 rfl) ?_
  refine ruL_c (n := 41) (n2 := 42) rfl (ru_bot) ?_
  refine ruL_c (n := 42) (n2 := 43) rfl (ru_bot) ?_
  refine ruL_c (n := 43) (n2 := 44) rfl (ru_iinc hx hb dX5_countShort_43 rfl) ?_
  refine ruL_c (n := 44) (n2 := 45) rfl (ru_bot) ?_
  refine ruL_c (n := 45) (n2 := 46) rfl (ru_bot) ?_
  refine ruL_c (n := 46) (n2 := 47) rfl (ru_goto hx hb dX5_countShort_46 (by decide)) ?_
  refine ruL_c (n := 47) (n2 := 48) rfl (ru_bot) ?_
  refine ruL_c (n := 48) (n2 := 49) rfl (ru_bot) ?_
  refine ruL_c (n := 49) (n2 := 50) rfl (ru_iload_n (k := 2) hx hb dX5_countShort_49) ?_
  refine ruL_c (n := 50) (n2 := 51) rfl (ru_iret hx hb hK hr hlocks dX5_countShort_50) ?_
  exact trivial

-- CueTour.countShortWith
def f_X5_countShortWith (p0 : Int32) (p1 : Int32) (p2 : Int32) (σ : aM) : Option (Int32 × aM) := bnd (f_X3_put p0 p1 p2 σ) (fun r1 σ2 => bnd (f_X5_countShort p1 σ2) (fun r4 σ5 => bnd (f_X3_putHome p0 σ5) (fun r7 σ8 => some (r4, σ8))))
def F_X5_countShortWith : aF := fun As σ => match As with
  | [.int p0, .int p1, .int p2] => f_X5_countShortWith p0 p1 p2 σ
  | _ => none
def T_X5_countShortWith (Qa : Int32 → aM → Prop) : List aI := [I_aload 0 1, I_getR 0 4, I_bot, I_bot, I_iload 1 1, I_iload 2 1, I_iload 3 1, I_callVv 4 3 F_X3_put, I_bot, I_bot, I_aload 0 1, I_iload 2 1, I_callV 0 1 F_X5_countShort, I_bot, I_bot, I_istore 4 2, I_bot, I_aload 0 1, I_getR 0 4, I_bot, I_bot, I_iload 1 1, I_callVv 4 1 F_X3_putHome, I_bot, I_bot, I_iload 4 2, I_bot, I_iret Qa]
set_option maxHeartbeats 4000000 in
set_option maxRecDepth 100000 in
theorem s_X5_countShortWith : runs T_X5_countShortWith [.ref 0] 5 F_X5_countShortWith := by
  intro Qa K hw hf As σ r σ' h hQ
  unfold F_X5_countShortWith at h
  split at h
  · rename_i p0 p1 p2
    unfold f_X5_countShortWith at h
    have hQ : Qa (r, σ').1 (r, σ').2 := hQ
    generalize (r, σ') = y at h hQ
    show K (0, [.ref 0, .int p0, .int p1, .int p2, .null], [], σ)
    obtain ⟨r1, σ2, e3, h⟩ := bnd_some h
    refine hw 6 _ ?_
    show ∃ r1 σ2, f_X3_put p0 p1 p2 σ = some (r1, σ2) ∧ K (10, [.ref 0, .int p0, .int p1, .int p2, .null], [], σ2)
    refine ⟨r1, σ2, e3, ?_⟩
    obtain ⟨r4, σ5, e6, h⟩ := bnd_some h
    refine hw 3 _ ?_
    show ∃ r4 σ5, f_X5_countShort p1 σ2 = some (r4, σ5) ∧ K (15, [.ref 0, .int p0, .int p1, .int p2, .null], [.int r4], σ5)
    refine ⟨r4, σ5, e6, ?_⟩
    obtain ⟨r7, σ8, e9, h⟩ := bnd_some h
    refine hw 5 _ ?_
    show ∃ r7 σ8, f_X3_putHome p0 σ5 = some (r7, σ8) ∧ K (25, [.ref 0, .int p0, .int p1, .int p2, .int r4], [], σ8)
    refine ⟨r7, σ8, e9, ?_⟩
    obtain rfl := Option.some.inj h
    refine hw 2 _ ?_
    show Qa r4 σ8
    refine hQ
  · cases h
theorem h_X5_countShortWith : shp [.ref 0] 5 F_X5_countShortWith := by
  intro As σ r σ' h
  unfold F_X5_countShortWith at h
  split at h
  · exact ⟨by simp [Value.category], Nat.le_of_ble_eq_true rfl⟩
  · cases h
set_option maxHeartbeats 4000000 in
set_option maxRecDepth 100000 in
theorem c_X5_countShortWith (l : Launch) (D : va_G) (cI cZ cA cL : ClassId) (ad : Nat → Nat) (hi : adI ad) : CtI l yX5_countShortWith wsX5_countShortWith { frames := 4, cells := 0, slots := 0, locals := 98 } D cI cZ cA cL ad [.ref 0] F_X5_countShortWith := by
  refine mk_I [.ref 0] F_X5_countShortWith T_X5_countShortWith (by decide +kernel) rfl ?_ h_X5_countShortWith s_X5_countShortWith
  intro p e s m args below meth c Qa ⟨hx, hb, hml, hown, hts, hr, hlocks, hK, hN⟩
  have hin5 : ∀ w ∈ u_ws RX5 TX5 8, w ∈ wsX5_countShortWith := by decide +kernel
  have hl33 : (Cond.fieldLink RX5 33 RX5 (TX5 3).2.1 (TX5 3).2.2.1) ∈ wsX5_countShortWith := by decide +kernel
  refine ruL_c (n := 0) (n2 := 1) rfl (ru_aload_n (k := 0) hx hb dX5_countShortWith_0) ?_
  refine ruL_c (n := 1) (n2 := 2) rfl (ru_getR (own := RX5) (j := 3) (T := TX5) hx hb hown hK hts hin5 (by decide) rfl rfl (by decide) rfl hl33 dX5_countShortWith_1) ?_
  refine ruL_c (n := 2) (n2 := 3) rfl (ru_bot) ?_
  refine ruL_c (n := 3) (n2 := 4) rfl (ru_bot) ?_
  refine ruL_c (n := 4) (n2 := 5) rfl (ru_iload_n (k := 1) hx hb dX5_countShortWith_4) ?_
  refine ruL_c (n := 5) (n2 := 6) rfl (ru_iload_n (k := 2) hx hb dX5_countShortWith_5) ?_
  refine ruL_c (n := 6) (n2 := 7) rfl (ru_iload_n (k := 3) hx hb dX5_countShortWith_6) ?_
  refine ruL_c (n := 7) (n2 := 8) rfl (ru_callVv hx hb hml hown hts hK hN (by decide) rfl (c_X3_put l D cI cZ cA cL ad hi) (cwV 3 hts gX5_countShortWith_X3_put rfl rfl rfl (by decide +kernel) ⟨Nat.le_of_ble_eq_true rfl, Nat.le_of_ble_eq_true rfl⟩) dX5_countShortWith_7 ⟨Nat.zero_le _, Nat.zero_le _⟩) ?_
  refine ruL_c (n := 8) (n2 := 9) rfl (ru_bot) ?_
  refine ruL_c (n := 9) (n2 := 10) rfl (ru_bot) ?_
  refine ruL_c (n := 10) (n2 := 11) rfl (ru_aload_n (k := 0) hx hb dX5_countShortWith_10) ?_
  refine ruL_c (n := 11) (n2 := 12) rfl (ru_iload_n (k := 2) hx hb dX5_countShortWith_11) ?_
  refine ruL_c (n := 12) (n2 := 13) rfl (ru_callV hx hb hml hown hts hK hN (by decide) rfl (c_X5_countShort l D cI cZ cA cL ad hi) (cwV 1 hts gX5_countShortWith_X5_countShort rfl rfl rfl (by decide +kernel) ⟨Nat.le_of_ble_eq_true rfl, Nat.le_of_ble_eq_true rfl⟩) dX5_countShortWith_12 ⟨Nat.zero_le _, Nat.zero_le _⟩) ?_
  refine ruL_c (n := 13) (n2 := 14) rfl (ru_bot) ?_
  refine ruL_c (n := 14) (n2 := 15) rfl (ru_bot) ?_
  refine ruL_c (n := 15) (n2 := 16) rfl (ru_istore hx hb dX5_countShortWith_15) ?_
  refine ruL_c (n := 16) (n2 := 17) rfl (ru_bot) ?_
  refine ruL_c (n := 17) (n2 := 18) rfl (ru_aload_n (k := 0) hx hb dX5_countShortWith_17) ?_
  refine ruL_c (n := 18) (n2 := 19) rfl (ru_getR (own := RX5) (j := 3) (T := TX5) hx hb hown hK hts hin5 (by decide) rfl rfl (by decide) rfl hl33 dX5_countShortWith_18) ?_
  refine ruL_c (n := 19) (n2 := 20) rfl (ru_bot) ?_
  refine ruL_c (n := 20) (n2 := 21) rfl (ru_bot) ?_
  refine ruL_c (n := 21) (n2 := 22) rfl (ru_iload_n (k := 1) hx hb dX5_countShortWith_21) ?_
  refine ruL_c (n := 22) (n2 := 23) rfl (ru_callVv hx hb hml hown hts hK hN (by decide) rfl (c_X3_putHome l D cI cZ cA cL ad hi) (cwV 1 hts gX5_countShortWith_X3_putHome rfl rfl rfl (by decide +kernel) ⟨Nat.le_of_ble_eq_true rfl, Nat.le_of_ble_eq_true rfl⟩) dX5_countShortWith_22 ⟨Nat.zero_le _, Nat.zero_le _⟩) ?_
  refine ruL_c (n := 23) (n2 := 24) rfl (ru_bot) ?_
  refine ruL_c (n := 24) (n2 := 25) rfl (ru_bot) ?_
  refine ruL_c (n := 25) (n2 := 26) rfl (ru_iload hx hb dX5_countShortWith_25) ?_
  refine ruL_c (n := 26) (n2 := 27) rfl (ru_bot) ?_
  refine ruL_c (n := 27) (n2 := 28) rfl (ru_iret hx hb hK hr hlocks dX5_countShortWith_27) ?_
  exact trivial

-- CueTour.writeLog
def l_X5_writeLog_11 (x4 : Int32) (x5 : Int32) : Nat → Int32 → aM → (Int32 → aM → Option (Int32 × aM)) → Option (Int32 × aM)
  | 0, _, _, _ => none
  | n + 1, v6, σ7, k => if (σ7 1 3) ≤ v6 then k v6 σ7 else if inb x5 20 = true then bnd (f_X5_shortAreas x4 v6 σ7) (fun r10 σ11 => if inb v6 30 = true then l_X5_writeLog_11 x4 x5 n (v6 + 1) (mput σ11 (158 + ix x5) (ix v6) r10) k else none) else none
def f_X5_writeLog (p0 : Int32) (σ : aM) : Option (Int32 × aM) := bnd (f_X0_append p0 σ) (fun r1 σ2 => l_X5_writeLog_11 p0 r1 lf 0 σ2 (fun v14 σ15 => some (0, σ15)))
def F_X5_writeLog : aF := fun As σ => match As with
  | [.int p0] => f_X5_writeLog p0 σ
  | _ => none
def T_X5_writeLog (Qa : Int32 → aM → Prop) : List aI := [I_aload 0 1, I_getR 0 5, I_bot, I_bot, I_iload 1 1, I_callV 5 1 F_X0_append, I_bot, I_bot, I_istore 2 1, I_const 0 1, I_istore 3 1, I_iload 3 1, I_aload 0 1, I_getR 0 1, I_bot, I_bot, I_getI 1 3, I_bot, I_bot, I_icmp (fun x y => y ≤ x) 45, I_bot, I_bot, I_aload 0 1, I_getR 0 5, I_bot, I_bot, I_getR 5 57, I_bot, I_bot, I_iload 2 1, I_aald, I_iload 3 1, I_aload 0 1, I_iload 1 1, I_iload 3 1, I_callV 0 2 F_X5_shortAreas, I_bot, I_bot, I_iast, I_iinc 3 (1), I_bot, I_bot, I_goto 11, I_bot, I_bot, I_vret Qa]
set_option maxHeartbeats 4000000 in
set_option maxRecDepth 100000 in
theorem t_X5_writeLog_11 {Qa : Int32 → aM → Prop} {K : aS → Prop} (hw : ∀ k x, wp (T_X5_writeLog Qa) k K x → K x) (hf : ∀ pc L i st σ, K (pc, L.set i .null, st, σ) → K (pc, L, st, σ)) (x4 : Int32) (x5 : Int32) (y : Int32 × aM) (k : Int32 → aM → Option (Int32 × aM)) :
    ∀ (n : Nat) (v6 : Int32) (σ7 : aM), l_X5_writeLog_11 x4 x5 n v6 σ7 k = some y → (∀ (w0 : Int32) (τ : aM), k w0 τ = some y → K (45, [.ref 0, .int x4, .int x5, .int w0], [], τ)) → K (11, [.ref 0, .int x4, .int x5, .int v6], [], σ7) := by
  intro n
  induction n with
  | zero =>
    intro v6 σ7 h hk
    exact absurd h (by simp [l_X5_writeLog_11])
  | succ n ih =>
    intro v6 σ7 h hk
    unfold l_X5_writeLog_11 at h
    rcases ite_cases h with ⟨c8, h⟩ | ⟨c8, h⟩
    · refine hw 5 _ ?_
      show (((σ7 1 3) ≤ v6) → K (45, [.ref 0, .int x4, .int x5, .int v6], [], σ7)) ∧ (¬ ((σ7 1 3) ≤ v6) → K (22, [.ref 0, .int x4, .int x5, .int v6], [], σ7))
      refine ⟨fun _ => ?_, fun q => absurd c8 q⟩
      exact hk v6 σ7 h
    · refine hw 5 _ ?_
      show (((σ7 1 3) ≤ v6) → K (45, [.ref 0, .int x4, .int x5, .int v6], [], σ7)) ∧ (¬ ((σ7 1 3) ≤ v6) → K (22, [.ref 0, .int x4, .int x5, .int v6], [], σ7))
      refine ⟨fun q => absurd q c8, fun _ => ?_⟩
      obtain ⟨g9, h⟩ := ite_some h
      obtain ⟨r10, σ11, e12, h⟩ := bnd_some h
      refine hw 10 _ ?_
      show kd 57 = 3 ∧ (inb x5 20 = true ∧ (∃ r10 σ11, f_X5_shortAreas x4 v6 σ7 = some (r10, σ11) ∧ K (38, [.ref 0, .int x4, .int x5, .int v6], [.int r10, .int v6, .ref (158 + ix x5)], σ11)))
      refine ⟨rfl, g9, ⟨r10, σ11, e12, ?_⟩⟩
      obtain ⟨g13, h⟩ := ite_some h
      refine hw 3 _ ?_
      show kd (158 + ix x5) = 1 ∧ (inb v6 (ln (158 + ix x5)) = true ∧ (K (11, [.ref 0, .int x4, .int x5, .int (v6 + 1)], [], mput σ11 (158 + ix x5) (ix v6) r10)))
      refine ⟨(row57_kd g9), (by rw [row57_ln g9]; exact g13), ?_⟩
      exact ih (v6 + 1) (mput σ11 (158 + ix x5) (ix v6) r10) h hk

set_option maxHeartbeats 4000000 in
set_option maxRecDepth 100000 in
theorem s_X5_writeLog : runs T_X5_writeLog [.ref 0] 4 F_X5_writeLog := by
  intro Qa K hw hf As σ r σ' h hQ
  unfold F_X5_writeLog at h
  split at h
  · rename_i p0
    unfold f_X5_writeLog at h
    have hQ : Qa (r, σ').1 (r, σ').2 := hQ
    generalize (r, σ') = y at h hQ
    show K (0, [.ref 0, .int p0, .null, .null], [], σ)
    obtain ⟨r1, σ2, e3, h⟩ := bnd_some h
    refine hw 4 _ ?_
    show ∃ r1 σ2, f_X0_append p0 σ = some (r1, σ2) ∧ K (8, [.ref 0, .int p0, .null, .null], [.int r1], σ2)
    refine ⟨r1, σ2, e3, ?_⟩
    refine hw 3 _ ?_
    show K (11, [.ref 0, .int p0, .int r1, .int 0], [], σ2)
    refine t_X5_writeLog_11 hw hf p0 r1 _ _ lf 0 σ2 h (fun v14 σ15 h => ?_)
    show K (45, [.ref 0, .int p0, .int r1, .int v14], [], σ15)
    obtain rfl := Option.some.inj h
    refine hw 1 _ ?_
    show Qa 0 σ15
    refine hQ
  · cases h
theorem h_X5_writeLog : shp [.ref 0] 4 F_X5_writeLog := by
  intro As σ r σ' h
  unfold F_X5_writeLog at h
  split at h
  · exact ⟨by simp [Value.category], Nat.le_of_ble_eq_true rfl⟩
  · cases h
set_option maxHeartbeats 4000000 in
set_option maxRecDepth 100000 in
theorem c_X5_writeLog (l : Launch) (D : va_G) (cI cZ cA cL : ClassId) (ad : Nat → Nat) (hi : adI ad) : CtV l yX5_writeLog wsX5_writeLog { frames := 3, cells := 0, slots := 0, locals := 75 } D cI cZ cA cL ad [.ref 0] F_X5_writeLog := by
  refine mk_V [.ref 0] F_X5_writeLog T_X5_writeLog (by decide +kernel) rfl ?_ h_X5_writeLog s_X5_writeLog
  intro p e s m args below meth c Qa ⟨hx, hb, hml, hown, hts, hr, hlocks, hK, hN⟩
  have hin5 : ∀ w ∈ u_ws RX5 TX5 8, w ∈ wsX5_writeLog := by decide +kernel
  have hl40 : (Cond.fieldLink RX5 40 RX5 (TX5 4).2.1 (TX5 4).2.2.1) ∈ wsX5_writeLog := by decide +kernel
  have hl10 : (Cond.fieldLink RX5 10 RX5 (TX5 0).2.1 (TX5 0).2.2.1) ∈ wsX5_writeLog := by decide +kernel
  have hin4 : ∀ w ∈ u_ws RX4 TX4 4, w ∈ wsX5_writeLog := by decide +kernel
  have hl60 : (Cond.fieldLinkNest RX5 60 RX4 (TX4 3).2.1 (TX4 3).2.2.1 "CueTour") ∈ nwL := by decide +kernel
  have hin0 : ∀ w ∈ u_ws RX0 TX0 3, w ∈ wsX5_writeLog := by decide +kernel
  have hl206 : (Cond.fieldLinkNest RX5 206 RX0 (TX0 1).2.1 (TX0 1).2.2.1 "CueTour") ∈ nwL := by decide +kernel
  refine ruL_c (n := 0) (n2 := 1) rfl (ru_aload_n (k := 0) hx hb dX5_writeLog_0) ?_
  refine ruL_c (n := 1) (n2 := 2) rfl (ru_getR (own := RX5) (j := 4) (T := TX5) hx hb hown hK hts hin5 (by decide) rfl rfl (by decide) rfl hl40 dX5_writeLog_1) ?_
  refine ruL_c (n := 2) (n2 := 3) rfl (ru_bot) ?_
  refine ruL_c (n := 3) (n2 := 4) rfl (ru_bot) ?_
  refine ruL_c (n := 4) (n2 := 5) rfl (ru_iload_n (k := 1) hx hb dX5_writeLog_4) ?_
  refine ruL_c (n := 5) (n2 := 6) rfl (ru_callV hx hb hml hown hts hK hN (by decide) rfl (c_X0_append l D cI cZ cA cL ad hi) (cwV 1 hts gX5_writeLog_X0_append rfl rfl rfl (by decide +kernel) ⟨Nat.le_of_ble_eq_true rfl, Nat.le_of_ble_eq_true rfl⟩) dX5_writeLog_5 ⟨Nat.zero_le _, Nat.zero_le _⟩) ?_
  refine ruL_c (n := 6) (n2 := 7) rfl (ru_bot) ?_
  refine ruL_c (n := 7) (n2 := 8) rfl (ru_bot) ?_
  refine ruL_c (n := 8) (n2 := 9) rfl (ru_istore_n (k := 2) hx hb dX5_writeLog_8) ?_
  refine ruL_c (n := 9) (n2 := 10) rfl (ru_iconst hx hb dX5_writeLog_9 rfl) ?_
  refine ruL_c (n := 10) (n2 := 11) rfl (ru_istore_n (k := 3) hx hb dX5_writeLog_10) ?_
  refine ruL_c (n := 11) (n2 := 12) rfl (ru_iload_n (k := 3) hx hb dX5_writeLog_11) ?_
  refine ruL_c (n := 12) (n2 := 13) rfl (ru_aload_n (k := 0) hx hb dX5_writeLog_12) ?_
  refine ruL_c (n := 13) (n2 := 14) rfl (ru_getR (own := RX5) (j := 0) (T := TX5) hx hb hown hK hts hin5 (by decide) rfl rfl (by decide) rfl hl10 dX5_writeLog_13) ?_
  refine ruL_c (n := 14) (n2 := 15) rfl (ru_bot) ?_
  refine ruL_c (n := 15) (n2 := 16) rfl (ru_bot) ?_
  refine ruL_c (n := 16) (n2 := 17) rfl (ru_getIN (own := RX5) (j := 3) (T := TX4) hx hb hown hK hN hts hin4 (by decide) rfl rfl (by decide) rfl hl60 dX5_writeLog_16) ?_
  refine ruL_c (n := 17) (n2 := 18) rfl (ru_bot) ?_
  refine ruL_c (n := 18) (n2 := 19) rfl (ru_bot) ?_
  refine ruL_c (n := 19) (n2 := 20) rfl (ru_icmpge hx hb dX5_writeLog_19 (by decide)) ?_
  refine ruL_c (n := 20) (n2 := 21) rfl (ru_bot) ?_
  refine ruL_c (n := 21) (n2 := 22) rfl (ru_bot) ?_
  refine ruL_c (n := 22) (n2 := 23) rfl (ru_aload_n (k := 0) hx hb dX5_writeLog_22) ?_
  refine ruL_c (n := 23) (n2 := 24) rfl (ru_getR (own := RX5) (j := 4) (T := TX5) hx hb hown hK hts hin5 (by decide) rfl rfl (by decide) rfl hl40 dX5_writeLog_23) ?_
  refine ruL_c (n := 24) (n2 := 25) rfl (ru_bot) ?_
  refine ruL_c (n := 25) (n2 := 26) rfl (ru_bot) ?_
  refine ruL_c (n := 26) (n2 := 27) rfl (ru_getRN (own := RX5) (j := 1) (T := TX0) hx hb hown hK hN hts hin0 (by decide) rfl rfl (by decide) rfl hl206 dX5_writeLog_26) ?_
  refine ruL_c (n := 27) (n2 := 28) rfl (ru_bot) ?_
  refine ruL_c (n := 28) (n2 := 29) rfl (ru_bot) ?_
  refine ruL_c (n := 29) (n2 := 30) rfl (ru_iload_n (k := 2) hx hb dX5_writeLog_29) ?_
  refine ruL_c (n := 30) (n2 := 31) rfl (ru_aald hx hb hK dX5_writeLog_30) ?_
  refine ruL_c (n := 31) (n2 := 32) rfl (ru_iload_n (k := 3) hx hb dX5_writeLog_31) ?_
  refine ruL_c (n := 32) (n2 := 33) rfl (ru_aload_n (k := 0) hx hb dX5_writeLog_32) ?_
  refine ruL_c (n := 33) (n2 := 34) rfl (ru_iload_n (k := 1) hx hb dX5_writeLog_33) ?_
  refine ruL_c (n := 34) (n2 := 35) rfl (ru_iload_n (k := 3) hx hb dX5_writeLog_34) ?_
  refine ruL_c (n := 35) (n2 := 36) rfl (ru_callV hx hb hml hown hts hK hN (by decide) rfl (c_X5_shortAreas l D cI cZ cA cL ad hi) (cwV 2 hts gX5_writeLog_X5_shortAreas rfl rfl rfl (by decide +kernel) ⟨Nat.le_of_ble_eq_true rfl, Nat.le_of_ble_eq_true rfl⟩) dX5_writeLog_35 ⟨Nat.zero_le _, Nat.zero_le _⟩) ?_
  refine ruL_c (n := 36) (n2 := 37) rfl (ru_bot) ?_
  refine ruL_c (n := 37) (n2 := 38) rfl (ru_bot) ?_
  refine ruL_c (n := 38) (n2 := 39) rfl (ru_iast hx hb hK hi dX5_writeLog_38) ?_
  refine ruL_c (n := 39) (n2 := 40) rfl (ru_iinc hx hb dX5_writeLog_39 rfl) ?_
  refine ruL_c (n := 40) (n2 := 41) rfl (ru_bot) ?_
  refine ruL_c (n := 41) (n2 := 42) rfl (ru_bot) ?_
  refine ruL_c (n := 42) (n2 := 43) rfl (ru_goto hx hb dX5_writeLog_42 (by decide)) ?_
  refine ruL_c (n := 43) (n2 := 44) rfl (ru_bot) ?_
  refine ruL_c (n := 44) (n2 := 45) rfl (ru_bot) ?_
  refine ruL_c (n := 45) (n2 := 46) rfl (ru_vret hx hb hK hr hlocks dX5_writeLog_45) ?_
  exact trivial

-- CueTour.wearOut
def l_X5_wearOut_17 (x7 : Int32) (x8 : Int32) : Nat → Int32 → aM → (Int32 → aM → Option (Int32 × aM)) → Option (Int32 × aM)
  | 0, _, _, _ => none
  | n + 1, v9, σ10, k => if x8 ≤ v9 then k v9 σ10 else bnd (f_X1_fillLevels v9 27 σ10) (fun r12 σ13 => bnd (f_X3_burn x7 28 27 σ13) (fun r15 σ16 => l_X5_wearOut_17 x7 x8 n (v9 + 1) σ16 k))
def f_X5_wearOut (p0 : Int32) (σ : aM) : Option (Int32 × aM) := bnd (f_X4_total σ) (fun r1 σ2 => bnd (f_X3_startBurning σ2) (fun r4 σ5 => l_X5_wearOut_17 p0 r1 lf 0 σ5 (fun v18 σ19 => bnd (f_X3_addBurnt σ19) (fun r20 σ21 => some (0, σ21)))))
def F_X5_wearOut : aF := fun As σ => match As with
  | [.int p0] => f_X5_wearOut p0 σ
  | _ => none
def T_X5_wearOut (Qa : Int32 → aM → Prop) : List aI := [I_aload 0 1, I_getR 0 1, I_bot, I_bot, I_callV 1 0 F_X4_total, I_bot, I_bot, I_istore 2 1, I_aload 0 1, I_getR 0 4, I_bot, I_bot, I_callVv 4 0 F_X3_startBurning, I_bot, I_bot, I_const 0 1, I_istore 3 1, I_iload 3 1, I_iload 2 1, I_icmp (fun x y => y ≤ x) 56, I_bot, I_bot, I_aload 0 1, I_getR 0 3, I_bot, I_bot, I_iload 3 1, I_aload 0 1, I_getR 0 27, I_bot, I_bot, I_callVv 3 2 F_X1_fillLevels, I_bot, I_bot, I_aload 0 1, I_getR 0 4, I_bot, I_bot, I_iload 1 1, I_aload 0 1, I_getR 0 28, I_bot, I_bot, I_aload 0 1, I_getR 0 27, I_bot, I_bot, I_callVv 4 3 F_X3_burn, I_bot, I_bot, I_iinc 3 (1), I_bot, I_bot, I_goto 17, I_bot, I_bot, I_aload 0 1, I_getR 0 4, I_bot, I_bot, I_callVv 4 0 F_X3_addBurnt, I_bot, I_bot, I_vret Qa]
set_option maxHeartbeats 4000000 in
set_option maxRecDepth 100000 in
theorem t_X5_wearOut_17 {Qa : Int32 → aM → Prop} {K : aS → Prop} (hw : ∀ k x, wp (T_X5_wearOut Qa) k K x → K x) (hf : ∀ pc L i st σ, K (pc, L.set i .null, st, σ) → K (pc, L, st, σ)) (x7 : Int32) (x8 : Int32) (y : Int32 × aM) (k : Int32 → aM → Option (Int32 × aM)) :
    ∀ (n : Nat) (v9 : Int32) (σ10 : aM), l_X5_wearOut_17 x7 x8 n v9 σ10 k = some y → (∀ (w0 : Int32) (τ : aM), k w0 τ = some y → K (56, [.ref 0, .int x7, .int x8, .int w0], [], τ)) → K (17, [.ref 0, .int x7, .int x8, .int v9], [], σ10) := by
  intro n
  induction n with
  | zero =>
    intro v9 σ10 h hk
    exact absurd h (by simp [l_X5_wearOut_17])
  | succ n ih =>
    intro v9 σ10 h hk
    unfold l_X5_wearOut_17 at h
    rcases ite_cases h with ⟨c11, h⟩ | ⟨c11, h⟩
    · refine hw 3 _ ?_
      show ((x8 ≤ v9) → K (56, [.ref 0, .int x7, .int x8, .int v9], [], σ10)) ∧ (¬ (x8 ≤ v9) → K (22, [.ref 0, .int x7, .int x8, .int v9], [], σ10))
      refine ⟨fun _ => ?_, fun q => absurd c11 q⟩
      exact hk v9 σ10 h
    · refine hw 3 _ ?_
      show ((x8 ≤ v9) → K (56, [.ref 0, .int x7, .int x8, .int v9], [], σ10)) ∧ (¬ (x8 ≤ v9) → K (22, [.ref 0, .int x7, .int x8, .int v9], [], σ10))
      refine ⟨fun q => absurd q c11, fun _ => ?_⟩
      obtain ⟨r12, σ13, e14, h⟩ := bnd_some h
      refine hw 6 _ ?_
      show ∃ r12 σ13, f_X1_fillLevels v9 27 σ10 = some (r12, σ13) ∧ K (34, [.ref 0, .int x7, .int x8, .int v9], [], σ13)
      refine ⟨r12, σ13, e14, ?_⟩
      obtain ⟨r15, σ16, e17, h⟩ := bnd_some h
      refine hw 8 _ ?_
      show ∃ r15 σ16, f_X3_burn x7 28 27 σ13 = some (r15, σ16) ∧ K (50, [.ref 0, .int x7, .int x8, .int v9], [], σ16)
      refine ⟨r15, σ16, e17, ?_⟩
      refine hw 2 _ ?_
      show K (17, [.ref 0, .int x7, .int x8, .int (v9 + 1)], [], σ16)
      exact ih (v9 + 1) σ16 h hk

set_option maxHeartbeats 4000000 in
set_option maxRecDepth 100000 in
theorem s_X5_wearOut : runs T_X5_wearOut [.ref 0] 4 F_X5_wearOut := by
  intro Qa K hw hf As σ r σ' h hQ
  unfold F_X5_wearOut at h
  split at h
  · rename_i p0
    unfold f_X5_wearOut at h
    have hQ : Qa (r, σ').1 (r, σ').2 := hQ
    generalize (r, σ') = y at h hQ
    show K (0, [.ref 0, .int p0, .null, .null], [], σ)
    obtain ⟨r1, σ2, e3, h⟩ := bnd_some h
    refine hw 3 _ ?_
    show ∃ r1 σ2, f_X4_total σ = some (r1, σ2) ∧ K (7, [.ref 0, .int p0, .null, .null], [.int r1], σ2)
    refine ⟨r1, σ2, e3, ?_⟩
    obtain ⟨r4, σ5, e6, h⟩ := bnd_some h
    refine hw 4 _ ?_
    show ∃ r4 σ5, f_X3_startBurning σ2 = some (r4, σ5) ∧ K (15, [.ref 0, .int p0, .int r1, .null], [], σ5)
    refine ⟨r4, σ5, e6, ?_⟩
    refine hw 2 _ ?_
    show K (17, [.ref 0, .int p0, .int r1, .int 0], [], σ5)
    refine t_X5_wearOut_17 hw hf p0 r1 _ _ lf 0 σ5 h (fun v18 σ19 h => ?_)
    show K (56, [.ref 0, .int p0, .int r1, .int v18], [], σ19)
    obtain ⟨r20, σ21, e22, h⟩ := bnd_some h
    refine hw 3 _ ?_
    show ∃ r20 σ21, f_X3_addBurnt σ19 = some (r20, σ21) ∧ K (63, [.ref 0, .int p0, .int r1, .int v18], [], σ21)
    refine ⟨r20, σ21, e22, ?_⟩
    obtain rfl := Option.some.inj h
    refine hw 1 _ ?_
    show Qa 0 σ21
    refine hQ
  · cases h
theorem h_X5_wearOut : shp [.ref 0] 4 F_X5_wearOut := by
  intro As σ r σ' h
  unfold F_X5_wearOut at h
  split at h
  · exact ⟨by simp [Value.category], Nat.le_of_ble_eq_true rfl⟩
  · cases h
set_option maxHeartbeats 4000000 in
set_option maxRecDepth 100000 in
theorem c_X5_wearOut (l : Launch) (D : va_G) (cI cZ cA cL : ClassId) (ad : Nat → Nat) (hi : adI ad) : CtV l yX5_wearOut wsX5_wearOut { frames := 3, cells := 0, slots := 0, locals := 74 } D cI cZ cA cL ad [.ref 0] F_X5_wearOut := by
  refine mk_V [.ref 0] F_X5_wearOut T_X5_wearOut (by decide +kernel) rfl ?_ h_X5_wearOut s_X5_wearOut
  intro p e s m args below meth c Qa ⟨hx, hb, hml, hown, hts, hr, hlocks, hK, hN⟩
  have hin5 : ∀ w ∈ u_ws RX5 TX5 8, w ∈ wsX5_wearOut := by decide +kernel
  have hl10 : (Cond.fieldLink RX5 10 RX5 (TX5 0).2.1 (TX5 0).2.2.1) ∈ wsX5_wearOut := by decide +kernel
  have hl33 : (Cond.fieldLink RX5 33 RX5 (TX5 3).2.1 (TX5 3).2.2.1) ∈ wsX5_wearOut := by decide +kernel
  have hl26 : (Cond.fieldLink RX5 26 RX5 (TX5 2).2.1 (TX5 2).2.2.1) ∈ wsX5_wearOut := by decide +kernel
  have hl44 : (Cond.fieldLink RX5 44 RX5 (TX5 5).2.1 (TX5 5).2.2.1) ∈ wsX5_wearOut := by decide +kernel
  have hl48 : (Cond.fieldLink RX5 48 RX5 (TX5 6).2.1 (TX5 6).2.2.1) ∈ wsX5_wearOut := by decide +kernel
  refine ruL_c (n := 0) (n2 := 1) rfl (ru_aload_n (k := 0) hx hb dX5_wearOut_0) ?_
  refine ruL_c (n := 1) (n2 := 2) rfl (ru_getR (own := RX5) (j := 0) (T := TX5) hx hb hown hK hts hin5 (by decide) rfl rfl (by decide) rfl hl10 dX5_wearOut_1) ?_
  refine ruL_c (n := 2) (n2 := 3) rfl (ru_bot) ?_
  refine ruL_c (n := 3) (n2 := 4) rfl (ru_bot) ?_
  refine ruL_c (n := 4) (n2 := 5) rfl (ru_callV hx hb hml hown hts hK hN (by decide) rfl (c_X4_total l D cI cZ cA cL ad hi) (cwV 0 hts gX5_wearOut_X4_total rfl rfl rfl (by decide +kernel) ⟨Nat.le_of_ble_eq_true rfl, Nat.le_of_ble_eq_true rfl⟩) dX5_wearOut_4 ⟨Nat.zero_le _, Nat.zero_le _⟩) ?_
  refine ruL_c (n := 5) (n2 := 6) rfl (ru_bot) ?_
  refine ruL_c (n := 6) (n2 := 7) rfl (ru_bot) ?_
  refine ruL_c (n := 7) (n2 := 8) rfl (ru_istore_n (k := 2) hx hb dX5_wearOut_7) ?_
  refine ruL_c (n := 8) (n2 := 9) rfl (ru_aload_n (k := 0) hx hb dX5_wearOut_8) ?_
  refine ruL_c (n := 9) (n2 := 10) rfl (ru_getR (own := RX5) (j := 3) (T := TX5) hx hb hown hK hts hin5 (by decide) rfl rfl (by decide) rfl hl33 dX5_wearOut_9) ?_
  refine ruL_c (n := 10) (n2 := 11) rfl (ru_bot) ?_
  refine ruL_c (n := 11) (n2 := 12) rfl (ru_bot) ?_
  refine ruL_c (n := 12) (n2 := 13) rfl (ru_callVv hx hb hml hown hts hK hN (by decide) rfl (c_X3_startBurning l D cI cZ cA cL ad hi) (cwV 0 hts gX5_wearOut_X3_startBurning rfl rfl rfl (by decide +kernel) ⟨Nat.le_of_ble_eq_true rfl, Nat.le_of_ble_eq_true rfl⟩) dX5_wearOut_12 ⟨Nat.zero_le _, Nat.zero_le _⟩) ?_
  refine ruL_c (n := 13) (n2 := 14) rfl (ru_bot) ?_
  refine ruL_c (n := 14) (n2 := 15) rfl (ru_bot) ?_
  refine ruL_c (n := 15) (n2 := 16) rfl (ru_iconst hx hb dX5_wearOut_15 rfl) ?_
  refine ruL_c (n := 16) (n2 := 17) rfl (ru_istore_n (k := 3) hx hb dX5_wearOut_16) ?_
  refine ruL_c (n := 17) (n2 := 18) rfl (ru_iload_n (k := 3) hx hb dX5_wearOut_17) ?_
  refine ruL_c (n := 18) (n2 := 19) rfl (ru_iload_n (k := 2) hx hb dX5_wearOut_18) ?_
  refine ruL_c (n := 19) (n2 := 20) rfl (ru_icmpge hx hb dX5_wearOut_19 (by decide)) ?_
  refine ruL_c (n := 20) (n2 := 21) rfl (ru_bot) ?_
  refine ruL_c (n := 21) (n2 := 22) rfl (ru_bot) ?_
  refine ruL_c (n := 22) (n2 := 23) rfl (ru_aload_n (k := 0) hx hb dX5_wearOut_22) ?_
  refine ruL_c (n := 23) (n2 := 24) rfl (ru_getR (own := RX5) (j := 2) (T := TX5) hx hb hown hK hts hin5 (by decide) rfl rfl (by decide) rfl hl26 dX5_wearOut_23) ?_
  refine ruL_c (n := 24) (n2 := 25) rfl (ru_bot) ?_
  refine ruL_c (n := 25) (n2 := 26) rfl (ru_bot) ?_
  refine ruL_c (n := 26) (n2 := 27) rfl (ru_iload_n (k := 3) hx hb dX5_wearOut_26) ?_
  refine ruL_c (n := 27) (n2 := 28) rfl (ru_aload_n (k := 0) hx hb dX5_wearOut_27) ?_
  refine ruL_c (n := 28) (n2 := 29) rfl (ru_getR (own := RX5) (j := 5) (T := TX5) hx hb hown hK hts hin5 (by decide) rfl rfl (by decide) rfl hl44 dX5_wearOut_28) ?_
  refine ruL_c (n := 29) (n2 := 30) rfl (ru_bot) ?_
  refine ruL_c (n := 30) (n2 := 31) rfl (ru_bot) ?_
  refine ruL_c (n := 31) (n2 := 32) rfl (ru_callVv hx hb hml hown hts hK hN (by decide) rfl (c_X1_fillLevels l D cI cZ cA cL ad hi) (cwV 2 hts gX5_wearOut_X1_fillLevels rfl rfl rfl (by decide +kernel) ⟨Nat.le_of_ble_eq_true rfl, Nat.le_of_ble_eq_true rfl⟩) dX5_wearOut_31 ⟨Nat.zero_le _, Nat.zero_le _⟩) ?_
  refine ruL_c (n := 32) (n2 := 33) rfl (ru_bot) ?_
  refine ruL_c (n := 33) (n2 := 34) rfl (ru_bot) ?_
  refine ruL_c (n := 34) (n2 := 35) rfl (ru_aload_n (k := 0) hx hb dX5_wearOut_34) ?_
  refine ruL_c (n := 35) (n2 := 36) rfl (ru_getR (own := RX5) (j := 3) (T := TX5) hx hb hown hK hts hin5 (by decide) rfl rfl (by decide) rfl hl33 dX5_wearOut_35) ?_
  refine ruL_c (n := 36) (n2 := 37) rfl (ru_bot) ?_
  refine ruL_c (n := 37) (n2 := 38) rfl (ru_bot) ?_
  refine ruL_c (n := 38) (n2 := 39) rfl (ru_iload_n (k := 1) hx hb dX5_wearOut_38) ?_
  refine ruL_c (n := 39) (n2 := 40) rfl (ru_aload_n (k := 0) hx hb dX5_wearOut_39) ?_
  refine ruL_c (n := 40) (n2 := 41) rfl (ru_getR (own := RX5) (j := 6) (T := TX5) hx hb hown hK hts hin5 (by decide) rfl rfl (by decide) rfl hl48 dX5_wearOut_40) ?_
  refine ruL_c (n := 41) (n2 := 42) rfl (ru_bot) ?_
  refine ruL_c (n := 42) (n2 := 43) rfl (ru_bot) ?_
  refine ruL_c (n := 43) (n2 := 44) rfl (ru_aload_n (k := 0) hx hb dX5_wearOut_43) ?_
  refine ruL_c (n := 44) (n2 := 45) rfl (ru_getR (own := RX5) (j := 5) (T := TX5) hx hb hown hK hts hin5 (by decide) rfl rfl (by decide) rfl hl44 dX5_wearOut_44) ?_
  refine ruL_c (n := 45) (n2 := 46) rfl (ru_bot) ?_
  refine ruL_c (n := 46) (n2 := 47) rfl (ru_bot) ?_
  refine ruL_c (n := 47) (n2 := 48) rfl (ru_callVv hx hb hml hown hts hK hN (by decide) rfl (c_X3_burn l D cI cZ cA cL ad hi) (cwV 3 hts gX5_wearOut_X3_burn rfl rfl rfl (by decide +kernel) ⟨Nat.le_of_ble_eq_true rfl, Nat.le_of_ble_eq_true rfl⟩) dX5_wearOut_47 ⟨Nat.zero_le _, Nat.zero_le _⟩) ?_
  refine ruL_c (n := 48) (n2 := 49) rfl (ru_bot) ?_
  refine ruL_c (n := 49) (n2 := 50) rfl (ru_bot) ?_
  refine ruL_c (n := 50) (n2 := 51) rfl (ru_iinc hx hb dX5_wearOut_50 rfl) ?_
  refine ruL_c (n := 51) (n2 := 52) rfl (ru_bot) ?_
  refine ruL_c (n := 52) (n2 := 53) rfl (ru_bot) ?_
  refine ruL_c (n := 53) (n2 := 54) rfl (ru_goto hx hb dX5_wearOut_53 (by decide)) ?_
  refine ruL_c (n := 54) (n2 := 55) rfl (ru_bot) ?_
  refine ruL_c (n := 55) (n2 := 56) rfl (ru_bot) ?_
  refine ruL_c (n := 56) (n2 := 57) rfl (ru_aload_n (k := 0) hx hb dX5_wearOut_56) ?_
  refine ruL_c (n := 57) (n2 := 58) rfl (ru_getR (own := RX5) (j := 3) (T := TX5) hx hb hown hK hts hin5 (by decide) rfl rfl (by decide) rfl hl33 dX5_wearOut_57) ?_
  refine ruL_c (n := 58) (n2 := 59) rfl (ru_bot) ?_
  refine ruL_c (n := 59) (n2 := 60) rfl (ru_bot) ?_
  refine ruL_c (n := 60) (n2 := 61) rfl (ru_callVv hx hb hml hown hts hK hN (by decide) rfl (c_X3_addBurnt l D cI cZ cA cL ad hi) (cwV 0 hts gX5_wearOut_X3_addBurnt rfl rfl rfl (by decide +kernel) ⟨Nat.le_of_ble_eq_true rfl, Nat.le_of_ble_eq_true rfl⟩) dX5_wearOut_60 ⟨Nat.zero_le _, Nat.zero_le _⟩) ?_
  refine ruL_c (n := 61) (n2 := 62) rfl (ru_bot) ?_
  refine ruL_c (n := 62) (n2 := 63) rfl (ru_bot) ?_
  refine ruL_c (n := 63) (n2 := 64) rfl (ru_vret hx hb hK hr hlocks dX5_wearOut_63) ?_
  exact trivial

