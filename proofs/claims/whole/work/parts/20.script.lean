-- CueTour$Script.secondsAhead
def l_X4_secondsAhead_4 (x1 : Int32) : Nat → Int32 → Int32 → aM → (Int32 → Int32 → aM → Option (Int32 × aM)) → Option (Int32 × aM)
  | 0, _, _, _, _ => none
  | n + 1, v2, v3, σ4, k => if x1 ≤ v3 then k v2 v3 σ4 else if inb v3 30 = true then if ¬ (σ4 8 (ix v3)) = 0 then l_X4_secondsAhead_4 x1 n v2 (v3 + 1) σ4 k else if inb v3 30 = true then l_X4_secondsAhead_4 x1 n (v2 + (σ4 7 (ix v3))) (v3 + 1) σ4 k else none else none
def f_X4_secondsAhead (p0 : Int32) (σ : aM) : Option (Int32 × aM) := l_X4_secondsAhead_4 p0 lf 0 0 σ (fun v9 v10 σ11 => some (v9, σ11))
def F_X4_secondsAhead : aF := fun As σ => match As with
  | [.int p0] => f_X4_secondsAhead p0 σ
  | _ => none
def T_X4_secondsAhead (Qa : Int32 → aM → Prop) : List aI := [I_const 0 1, I_istore 2 1, I_const 0 1, I_istore 3 1, I_iload 3 1, I_iload 1 1, I_icmp (fun x y => y ≤ x) 33, I_bot, I_bot, I_aload 0 1, I_getR 1 8, I_bot, I_bot, I_iload 3 1, I_zald, I_if (fun x => ¬ x = 0) 27, I_bot, I_bot, I_iload 2 1, I_aload 0 1, I_getR 1 7, I_bot, I_bot, I_iload 3 1, I_iald, I_bin fun x y => x + y, I_istore 2 1, I_iinc 3 (1), I_bot, I_bot, I_goto 4, I_bot, I_bot, I_iload 2 1, I_iret Qa]
set_option maxHeartbeats 4000000 in
set_option maxRecDepth 100000 in
theorem t_X4_secondsAhead_4 {Qa : Int32 → aM → Prop} {K : aS → Prop} (hw : ∀ k x, wp (T_X4_secondsAhead Qa) k K x → K x) (hf : ∀ pc L i st σ, K (pc, L.set i .null, st, σ) → K (pc, L, st, σ)) (x1 : Int32) (y : Int32 × aM) (k : Int32 → Int32 → aM → Option (Int32 × aM)) :
    ∀ (n : Nat) (v2 : Int32) (v3 : Int32) (σ4 : aM), l_X4_secondsAhead_4 x1 n v2 v3 σ4 k = some y → (∀ (w0 : Int32) (w1 : Int32) (τ : aM), k w0 w1 τ = some y → K (33, [.ref 1, .int x1, .int w0, .int w1], [], τ)) → K (4, [.ref 1, .int x1, .int v2, .int v3], [], σ4) := by
  intro n
  induction n with
  | zero =>
    intro v2 v3 σ4 h hk
    exact absurd h (by simp [l_X4_secondsAhead_4])
  | succ n ih =>
    intro v2 v3 σ4 h hk
    unfold l_X4_secondsAhead_4 at h
    rcases ite_cases h with ⟨c5, h⟩ | ⟨c5, h⟩
    · refine hw 3 _ ?_
      show ((x1 ≤ v3) → K (33, [.ref 1, .int x1, .int v2, .int v3], [], σ4)) ∧ (¬ (x1 ≤ v3) → K (9, [.ref 1, .int x1, .int v2, .int v3], [], σ4))
      refine ⟨fun _ => ?_, fun q => absurd c5 q⟩
      exact hk v2 v3 σ4 h
    · refine hw 3 _ ?_
      show ((x1 ≤ v3) → K (33, [.ref 1, .int x1, .int v2, .int v3], [], σ4)) ∧ (¬ (x1 ≤ v3) → K (9, [.ref 1, .int x1, .int v2, .int v3], [], σ4))
      refine ⟨fun q => absurd q c5, fun _ => ?_⟩
      obtain ⟨g6, h⟩ := ite_some h
      rcases ite_cases h with ⟨c7, h⟩ | ⟨c7, h⟩
      · refine hw 5 _ ?_
        show kd 8 = 2 ∧ (inb v3 30 = true ∧ (((¬ (σ4 8 (ix v3)) = 0) → K (27, [.ref 1, .int x1, .int v2, .int v3], [], σ4)) ∧ (¬ (¬ (σ4 8 (ix v3)) = 0) → K (18, [.ref 1, .int x1, .int v2, .int v3], [], σ4))))
        refine ⟨rfl, g6, ⟨fun _ => ?_, fun q => absurd c7 q⟩⟩
        refine hw 2 _ ?_
        show K (4, [.ref 1, .int x1, .int v2, .int (v3 + 1)], [], σ4)
        exact ih v2 (v3 + 1) σ4 h hk
      · refine hw 5 _ ?_
        show kd 8 = 2 ∧ (inb v3 30 = true ∧ (((¬ (σ4 8 (ix v3)) = 0) → K (27, [.ref 1, .int x1, .int v2, .int v3], [], σ4)) ∧ (¬ (¬ (σ4 8 (ix v3)) = 0) → K (18, [.ref 1, .int x1, .int v2, .int v3], [], σ4))))
        refine ⟨rfl, g6, ⟨fun q => absurd q c7, fun _ => ?_⟩⟩
        obtain ⟨g8, h⟩ := ite_some h
        refine hw 9 _ ?_
        show kd 7 = 1 ∧ (inb v3 30 = true ∧ (K (4, [.ref 1, .int x1, .int (v2 + (σ4 7 (ix v3))), .int (v3 + 1)], [], σ4)))
        refine ⟨rfl, g8, ?_⟩
        exact ih (v2 + (σ4 7 (ix v3))) (v3 + 1) σ4 h hk

set_option maxHeartbeats 4000000 in
set_option maxRecDepth 100000 in
theorem s_X4_secondsAhead : runs T_X4_secondsAhead [.ref 1] 4 F_X4_secondsAhead := by
  intro Qa K hw hf As σ r σ' h hQ
  unfold F_X4_secondsAhead at h
  split at h
  · rename_i p0
    unfold f_X4_secondsAhead at h
    have hQ : Qa (r, σ').1 (r, σ').2 := hQ
    generalize (r, σ') = y at h hQ
    show K (0, [.ref 1, .int p0, .null, .null], [], σ)
    refine hw 4 _ ?_
    show K (4, [.ref 1, .int p0, .int 0, .int 0], [], σ)
    refine t_X4_secondsAhead_4 hw hf p0 _ _ lf 0 0 σ h (fun v9 v10 σ11 h => ?_)
    show K (33, [.ref 1, .int p0, .int v9, .int v10], [], σ11)
    obtain rfl := Option.some.inj h
    refine hw 2 _ ?_
    show Qa v9 σ11
    refine hQ
  · cases h
theorem h_X4_secondsAhead : shp [.ref 1] 4 F_X4_secondsAhead := by
  intro As σ r σ' h
  unfold F_X4_secondsAhead at h
  split at h
  · exact ⟨by simp [Value.category], Nat.le_of_ble_eq_true rfl⟩
  · cases h
set_option maxHeartbeats 4000000 in
set_option maxRecDepth 100000 in
theorem c_X4_secondsAhead (l : Launch) (D : va_G) (cI cZ cA cL : ClassId) (ad : Nat → Nat) (hi : adI ad) : CtI l yX4_secondsAhead wsX4_secondsAhead { frames := 0, cells := 0, slots := 0, locals := 0 } D cI cZ cA cL ad [.ref 1] F_X4_secondsAhead := by
  refine mk_I [.ref 1] F_X4_secondsAhead T_X4_secondsAhead (by decide +kernel) rfl ?_ h_X4_secondsAhead s_X4_secondsAhead
  intro p e s m args below meth c Qa ⟨hx, hb, hml, hown, hts, hr, hlocks, hK, hN⟩
  have hin4 : ∀ w ∈ u_ws RX4 TX4 4, w ∈ wsX4_secondsAhead := by decide +kernel
  have hl15 : (Cond.fieldLink RX4 15 RX4 (TX4 1).2.1 (TX4 1).2.2.1) ∈ wsX4_secondsAhead := by decide +kernel
  have hl9 : (Cond.fieldLink RX4 9 RX4 (TX4 0).2.1 (TX4 0).2.2.1) ∈ wsX4_secondsAhead := by decide +kernel
  refine ruL_c (n := 0) (n2 := 1) rfl (ru_iconst hx hb dX4_secondsAhead_0 rfl) ?_
  refine ruL_c (n := 1) (n2 := 2) rfl (ru_istore_n (k := 2) hx hb dX4_secondsAhead_1) ?_
  refine ruL_c (n := 2) (n2 := 3) rfl (ru_iconst hx hb dX4_secondsAhead_2 rfl) ?_
  refine ruL_c (n := 3) (n2 := 4) rfl (ru_istore_n (k := 3) hx hb dX4_secondsAhead_3) ?_
  refine ruL_c (n := 4) (n2 := 5) rfl (ru_iload_n (k := 3) hx hb dX4_secondsAhead_4) ?_
  refine ruL_c (n := 5) (n2 := 6) rfl (ru_iload_n (k := 1) hx hb dX4_secondsAhead_5) ?_
  refine ruL_c (n := 6) (n2 := 7) rfl (ru_icmpge hx hb dX4_secondsAhead_6 (by decide)) ?_
  refine ruL_c (n := 7) (n2 := 8) rfl (ru_bot) ?_
  refine ruL_c (n := 8) (n2 := 9) rfl (ru_bot) ?_
  refine ruL_c (n := 9) (n2 := 10) rfl (ru_aload_n (k := 0) hx hb dX4_secondsAhead_9) ?_
  refine ruL_c (n := 10) (n2 := 11) rfl (ru_getR (own := RX4) (j := 1) (T := TX4) hx hb hown hK hts hin4 (by decide) rfl rfl (by decide) rfl hl15 dX4_secondsAhead_10) ?_
  refine ruL_c (n := 11) (n2 := 12) rfl (ru_bot) ?_
  refine ruL_c (n := 12) (n2 := 13) rfl (ru_bot) ?_
  refine ruL_c (n := 13) (n2 := 14) rfl (ru_iload_n (k := 3) hx hb dX4_secondsAhead_13) ?_
  refine ruL_c (n := 14) (n2 := 15) rfl (ru_zald hx hb hK dX4_secondsAhead_14) ?_
  refine ruL_c (n := 15) (n2 := 16) rfl (ru_ifne hx hb dX4_secondsAhead_15 (by decide)) ?_
  refine ruL_c (n := 16) (n2 := 17) rfl (ru_bot) ?_
  refine ruL_c (n := 17) (n2 := 18) rfl (ru_bot) ?_
  refine ruL_c (n := 18) (n2 := 19) rfl (ru_iload_n (k := 2) hx hb dX4_secondsAhead_18) ?_
  refine ruL_c (n := 19) (n2 := 20) rfl (ru_aload_n (k := 0) hx hb dX4_secondsAhead_19) ?_
  refine ruL_c (n := 20) (n2 := 21) rfl (ru_getR (own := RX4) (j := 0) (T := TX4) hx hb hown hK hts hin4 (by decide) rfl rfl (by decide) rfl hl9 dX4_secondsAhead_20) ?_
  refine ruL_c (n := 21) (n2 := 22) rfl (ru_bot) ?_
  refine ruL_c (n := 22) (n2 := 23) rfl (ru_bot) ?_
  refine ruL_c (n := 23) (n2 := 24) rfl (ru_iload_n (k := 3) hx hb dX4_secondsAhead_23) ?_
  refine ruL_c (n := 24) (n2 := 25) rfl (ru_iald hx hb hK dX4_secondsAhead_24) ?_
  refine ruL_c (n := 25) (n2 := 26) rfl (ru_iadd hx hb dX4_secondsAhead_25) ?_
  refine ruL_c (n := 26) (n2 := 27) rfl (ru_istore_n (k := 2) hx hb dX4_secondsAhead_26) ?_
  refine ruL_c (n := 27) (n2 := 28) rfl (ru_iinc hx hb dX4_secondsAhead_27 rfl) ?_
  refine ruL_c (n := 28) (n2 := 29) rfl (ru_bot) ?_
  refine ruL_c (n := 29) (n2 := 30) rfl (ru_bot) ?_
  refine ruL_c (n := 30) (n2 := 31) rfl (ru_goto hx hb dX4_secondsAhead_30 (by decide)) ?_
  refine ruL_c (n := 31) (n2 := 32) rfl (ru_bot) ?_
  refine ruL_c (n := 32) (n2 := 33) rfl (ru_bot) ?_
  refine ruL_c (n := 33) (n2 := 34) rfl (ru_iload_n (k := 2) hx hb dX4_secondsAhead_33) ?_
  refine ruL_c (n := 34) (n2 := 35) rfl (ru_iret hx hb hK hr hlocks dX4_secondsAhead_34) ?_
  exact trivial

-- CueTour$Script.lastSecondOf
def f_X4_lastSecondOf (p0 : Int32) (σ : aM) : Option (Int32 × aM) := bnd (f_X4_secondsAhead p0 σ) (fun r1 σ2 => if inb p0 30 = true then some ((r1 + (σ2 7 (ix p0))) - 1, σ2) else none)
def F_X4_lastSecondOf : aF := fun As σ => match As with
  | [.int p0] => f_X4_lastSecondOf p0 σ
  | _ => none
def T_X4_lastSecondOf (Qa : Int32 → aM → Prop) : List aI := [I_aload 0 1, I_iload 1 1, I_callV 1 1 F_X4_secondsAhead, I_bot, I_bot, I_aload 0 1, I_getR 1 7, I_bot, I_bot, I_iload 1 1, I_iald, I_bin fun x y => x + y, I_const 1 1, I_bin fun x y => x - y, I_iret Qa]
set_option maxHeartbeats 4000000 in
set_option maxRecDepth 100000 in
theorem s_X4_lastSecondOf : runs T_X4_lastSecondOf [.ref 1] 2 F_X4_lastSecondOf := by
  intro Qa K hw hf As σ r σ' h hQ
  unfold F_X4_lastSecondOf at h
  split at h
  · rename_i p0
    unfold f_X4_lastSecondOf at h
    have hQ : Qa (r, σ').1 (r, σ').2 := hQ
    generalize (r, σ') = y at h hQ
    show K (0, [.ref 1, .int p0], [], σ)
    obtain ⟨r1, σ2, e3, h⟩ := bnd_some h
    refine hw 3 _ ?_
    show ∃ r1 σ2, f_X4_secondsAhead p0 σ = some (r1, σ2) ∧ K (5, [.ref 1, .int p0], [.int r1], σ2)
    refine ⟨r1, σ2, e3, ?_⟩
    obtain ⟨g4, h⟩ := ite_some h
    obtain rfl := Option.some.inj h
    refine hw 8 _ ?_
    show kd 7 = 1 ∧ (inb p0 30 = true ∧ (Qa ((r1 + (σ2 7 (ix p0))) - 1) σ2))
    refine ⟨rfl, g4, hQ⟩
  · cases h
theorem h_X4_lastSecondOf : shp [.ref 1] 2 F_X4_lastSecondOf := by
  intro As σ r σ' h
  unfold F_X4_lastSecondOf at h
  split at h
  · exact ⟨by simp [Value.category], Nat.le_of_ble_eq_true rfl⟩
  · cases h
set_option maxHeartbeats 4000000 in
set_option maxRecDepth 100000 in
theorem c_X4_lastSecondOf (l : Launch) (D : va_G) (cI cZ cA cL : ClassId) (ad : Nat → Nat) (hi : adI ad) : CtI l yX4_lastSecondOf wsX4_lastSecondOf { frames := 1, cells := 0, slots := 0, locals := 23 } D cI cZ cA cL ad [.ref 1] F_X4_lastSecondOf := by
  refine mk_I [.ref 1] F_X4_lastSecondOf T_X4_lastSecondOf (by decide +kernel) rfl ?_ h_X4_lastSecondOf s_X4_lastSecondOf
  intro p e s m args below meth c Qa ⟨hx, hb, hml, hown, hts, hr, hlocks, hK, hN⟩
  have hin4 : ∀ w ∈ u_ws RX4 TX4 4, w ∈ wsX4_lastSecondOf := by decide +kernel
  have hl9 : (Cond.fieldLink RX4 9 RX4 (TX4 0).2.1 (TX4 0).2.2.1) ∈ wsX4_lastSecondOf := by decide +kernel
  refine ruL_c (n := 0) (n2 := 1) rfl (ru_aload_n (k := 0) hx hb dX4_lastSecondOf_0) ?_
  refine ruL_c (n := 1) (n2 := 2) rfl (ru_iload_n (k := 1) hx hb dX4_lastSecondOf_1) ?_
  refine ruL_c (n := 2) (n2 := 3) rfl (ru_callV hx hb hml hown hts hK hN (by decide) rfl (c_X4_secondsAhead l D cI cZ cA cL ad hi) (cwV 1 hts gX4_lastSecondOf_X4_secondsAhead rfl rfl rfl (by decide +kernel) ⟨Nat.le_of_ble_eq_true rfl, Nat.le_of_ble_eq_true rfl⟩) dX4_lastSecondOf_2 ⟨Nat.zero_le _, Nat.zero_le _⟩) ?_
  refine ruL_c (n := 3) (n2 := 4) rfl (ru_bot) ?_
  refine ruL_c (n := 4) (n2 := 5) rfl (ru_bot) ?_
  refine ruL_c (n := 5) (n2 := 6) rfl (ru_aload_n (k := 0) hx hb dX4_lastSecondOf_5) ?_
  refine ruL_c (n := 6) (n2 := 7) rfl (ru_getR (own := RX4) (j := 0) (T := TX4) hx hb hown hK hts hin4 (by decide) rfl rfl (by decide) rfl hl9 dX4_lastSecondOf_6) ?_
  refine ruL_c (n := 7) (n2 := 8) rfl (ru_bot) ?_
  refine ruL_c (n := 8) (n2 := 9) rfl (ru_bot) ?_
  refine ruL_c (n := 9) (n2 := 10) rfl (ru_iload_n (k := 1) hx hb dX4_lastSecondOf_9) ?_
  refine ruL_c (n := 10) (n2 := 11) rfl (ru_iald hx hb hK dX4_lastSecondOf_10) ?_
  refine ruL_c (n := 11) (n2 := 12) rfl (ru_iadd hx hb dX4_lastSecondOf_11) ?_
  refine ruL_c (n := 12) (n2 := 13) rfl (ru_iconst hx hb dX4_lastSecondOf_12 rfl) ?_
  refine ruL_c (n := 13) (n2 := 14) rfl (ru_isub hx hb dX4_lastSecondOf_13) ?_
  refine ruL_c (n := 14) (n2 := 15) rfl (ru_iret hx hb hK hr hlocks dX4_lastSecondOf_14) ?_
  exact trivial

-- CueTour$Script.total
def f_X4_total (σ : aM) : Option (Int32 × aM) := bnd (f_X4_secondsAhead (σ 1 3) σ) (fun r1 σ2 => some (r1, σ2))
def F_X4_total : aF := fun As σ => match As with
  | [] => f_X4_total σ
  | _ => none
def T_X4_total (Qa : Int32 → aM → Prop) : List aI := [I_aload 0 1, I_aload 0 1, I_getI 1 3, I_bot, I_bot, I_callV 1 1 F_X4_secondsAhead, I_bot, I_bot, I_iret Qa]
set_option maxHeartbeats 4000000 in
set_option maxRecDepth 100000 in
theorem s_X4_total : runs T_X4_total [.ref 1] 1 F_X4_total := by
  intro Qa K hw hf As σ r σ' h hQ
  unfold F_X4_total at h
  split at h
  · unfold f_X4_total at h
    have hQ : Qa (r, σ').1 (r, σ').2 := hQ
    generalize (r, σ') = y at h hQ
    show K (0, [.ref 1], [], σ)
    obtain ⟨r1, σ2, e3, h⟩ := bnd_some h
    refine hw 4 _ ?_
    show ∃ r1 σ2, f_X4_secondsAhead (σ 1 3) σ = some (r1, σ2) ∧ K (8, [.ref 1], [.int r1], σ2)
    refine ⟨r1, σ2, e3, ?_⟩
    obtain rfl := Option.some.inj h
    refine hw 1 _ ?_
    show Qa r1 σ2
    refine hQ
  · cases h
theorem h_X4_total : shp [.ref 1] 1 F_X4_total := by
  intro As σ r σ' h
  unfold F_X4_total at h
  split at h
  · exact ⟨by simp [Value.category], Nat.le_of_ble_eq_true rfl⟩
  · cases h
set_option maxHeartbeats 4000000 in
set_option maxRecDepth 100000 in
theorem c_X4_total (l : Launch) (D : va_G) (cI cZ cA cL : ClassId) (ad : Nat → Nat) (hi : adI ad) : CtI l yX4_total wsX4_total { frames := 1, cells := 0, slots := 0, locals := 23 } D cI cZ cA cL ad [.ref 1] F_X4_total := by
  refine mk_I [.ref 1] F_X4_total T_X4_total (by decide +kernel) rfl ?_ h_X4_total s_X4_total
  intro p e s m args below meth c Qa ⟨hx, hb, hml, hown, hts, hr, hlocks, hK, hN⟩
  have hin4 : ∀ w ∈ u_ws RX4 TX4 4, w ∈ wsX4_total := by decide +kernel
  have hl24 : (Cond.fieldLink RX4 24 RX4 (TX4 3).2.1 (TX4 3).2.2.1) ∈ wsX4_total := by decide +kernel
  refine ruL_c (n := 0) (n2 := 1) rfl (ru_aload_n (k := 0) hx hb dX4_total_0) ?_
  refine ruL_c (n := 1) (n2 := 2) rfl (ru_aload_n (k := 0) hx hb dX4_total_1) ?_
  refine ruL_c (n := 2) (n2 := 3) rfl (ru_getI (own := RX4) (j := 3) (T := TX4) hx hb hown hK hts hin4 (by decide) rfl rfl (by decide) rfl hl24 dX4_total_2) ?_
  refine ruL_c (n := 3) (n2 := 4) rfl (ru_bot) ?_
  refine ruL_c (n := 4) (n2 := 5) rfl (ru_bot) ?_
  refine ruL_c (n := 5) (n2 := 6) rfl (ru_callV hx hb hml hown hts hK hN (by decide) rfl (c_X4_secondsAhead l D cI cZ cA cL ad hi) (cwV 1 hts gX4_total_X4_secondsAhead rfl rfl rfl (by decide +kernel) ⟨Nat.le_of_ble_eq_true rfl, Nat.le_of_ble_eq_true rfl⟩) dX4_total_5 ⟨Nat.zero_le _, Nat.zero_le _⟩) ?_
  refine ruL_c (n := 6) (n2 := 7) rfl (ru_bot) ?_
  refine ruL_c (n := 7) (n2 := 8) rfl (ru_bot) ?_
  refine ruL_c (n := 8) (n2 := 9) rfl (ru_iret hx hb hK hr hlocks dX4_total_8) ?_
  exact trivial

-- CueTour$Script.append
def f_X4_append (p0 : Int32) (σ : aM) : Option (Int32 × aM) := if inb (σ 1 3) 30 = true then some (((σ 1 3) + 1) - 1, mput (mput σ 7 (ix (σ 1 3)) p0) 1 3 ((σ 1 3) + 1)) else none
def F_X4_append : aF := fun As σ => match As with
  | [.int p0] => f_X4_append p0 σ
  | _ => none
def T_X4_append (Qa : Int32 → aM → Prop) : List aI := [I_aload 0 1, I_getR 1 7, I_bot, I_bot, I_aload 0 1, I_getI 1 3, I_bot, I_bot, I_iload 1 1, I_iast, I_aload 0 1, I_dup, I_getI 1 3, I_bot, I_bot, I_const 1 1, I_bin fun x y => x + y, I_putI 1 3, I_bot, I_bot, I_aload 0 1, I_getI 1 3, I_bot, I_bot, I_const 1 1, I_bin fun x y => x - y, I_iret Qa]
set_option maxHeartbeats 4000000 in
set_option maxRecDepth 100000 in
theorem s_X4_append : runs T_X4_append [.ref 1] 2 F_X4_append := by
  intro Qa K hw hf As σ r σ' h hQ
  unfold F_X4_append at h
  split at h
  · rename_i p0
    unfold f_X4_append at h
    have hQ : Qa (r, σ').1 (r, σ').2 := hQ
    generalize (r, σ') = y at h hQ
    show K (0, [.ref 1, .int p0], [], σ)
    obtain ⟨g1, h⟩ := ite_some h
    obtain rfl := Option.some.inj h
    refine hw 17 _ ?_
    show kd 7 = 1 ∧ (inb (σ 1 3) 30 = true ∧ (Qa (((σ 1 3) + 1) - 1) (mput (mput σ 7 (ix (σ 1 3)) p0) 1 3 ((σ 1 3) + 1))))
    refine ⟨rfl, g1, hQ⟩
  · cases h
theorem h_X4_append : shp [.ref 1] 2 F_X4_append := by
  intro As σ r σ' h
  unfold F_X4_append at h
  split at h
  · exact ⟨by simp [Value.category], Nat.le_of_ble_eq_true rfl⟩
  · cases h
set_option maxHeartbeats 4000000 in
set_option maxRecDepth 100000 in
theorem c_X4_append (l : Launch) (D : va_G) (cI cZ cA cL : ClassId) (ad : Nat → Nat) (hi : adI ad) : CtI l yX4_append wsX4_append { frames := 0, cells := 0, slots := 0, locals := 0 } D cI cZ cA cL ad [.ref 1] F_X4_append := by
  refine mk_I [.ref 1] F_X4_append T_X4_append (by decide +kernel) rfl ?_ h_X4_append s_X4_append
  intro p e s m args below meth c Qa ⟨hx, hb, hml, hown, hts, hr, hlocks, hK, hN⟩
  have hin4 : ∀ w ∈ u_ws RX4 TX4 4, w ∈ wsX4_append := by decide +kernel
  have hl9 : (Cond.fieldLink RX4 9 RX4 (TX4 0).2.1 (TX4 0).2.2.1) ∈ wsX4_append := by decide +kernel
  have hl24 : (Cond.fieldLink RX4 24 RX4 (TX4 3).2.1 (TX4 3).2.2.1) ∈ wsX4_append := by decide +kernel
  refine ruL_c (n := 0) (n2 := 1) rfl (ru_aload_n (k := 0) hx hb dX4_append_0) ?_
  refine ruL_c (n := 1) (n2 := 2) rfl (ru_getR (own := RX4) (j := 0) (T := TX4) hx hb hown hK hts hin4 (by decide) rfl rfl (by decide) rfl hl9 dX4_append_1) ?_
  refine ruL_c (n := 2) (n2 := 3) rfl (ru_bot) ?_
  refine ruL_c (n := 3) (n2 := 4) rfl (ru_bot) ?_
  refine ruL_c (n := 4) (n2 := 5) rfl (ru_aload_n (k := 0) hx hb dX4_append_4) ?_
  refine ruL_c (n := 5) (n2 := 6) rfl (ru_getI (own := RX4) (j := 3) (T := TX4) hx hb hown hK hts hin4 (by decide) rfl rfl (by decide) rfl hl24 dX4_append_5) ?_
  refine ruL_c (n := 6) (n2 := 7) rfl (ru_bot) ?_
  refine ruL_c (n := 7) (n2 := 8) rfl (ru_bot) ?_
  refine ruL_c (n := 8) (n2 := 9) rfl (ru_iload_n (k := 1) hx hb dX4_append_8) ?_
  refine ruL_c (n := 9) (n2 := 10) rfl (ru_iast hx hb hK hi dX4_append_9) ?_
  refine ruL_c (n := 10) (n2 := 11) rfl (ru_aload_n (k := 0) hx hb dX4_append_10) ?_
  refine ruL_c (n := 11) (n2 := 12) rfl (ru_dup hx hb dX4_append_11) ?_
  refine ruL_c (n := 12) (n2 := 13) rfl (ru_getI (own := RX4) (j := 3) (T := TX4) hx hb hown hK hts hin4 (by decide) rfl rfl (by decide) rfl hl24 dX4_append_12) ?_
  refine ruL_c (n := 13) (n2 := 14) rfl (ru_bot) ?_
  refine ruL_c (n := 14) (n2 := 15) rfl (ru_bot) ?_
  refine ruL_c (n := 15) (n2 := 16) rfl (ru_iconst hx hb dX4_append_15 rfl) ?_
  refine ruL_c (n := 16) (n2 := 17) rfl (ru_iadd hx hb dX4_append_16) ?_
  refine ruL_c (n := 17) (n2 := 18) rfl (ru_putI (own := RX4) (j := 3) (T := TX4) hx hb hown hK hi hts hin4 tyX4 tyX4_ok nmX4 (by decide) rfl rfl (by decide) rfl hl24 rfl (by decide +kernel) dX4_append_17) ?_
  refine ruL_c (n := 18) (n2 := 19) rfl (ru_bot) ?_
  refine ruL_c (n := 19) (n2 := 20) rfl (ru_bot) ?_
  refine ruL_c (n := 20) (n2 := 21) rfl (ru_aload_n (k := 0) hx hb dX4_append_20) ?_
  refine ruL_c (n := 21) (n2 := 22) rfl (ru_getI (own := RX4) (j := 3) (T := TX4) hx hb hown hK hts hin4 (by decide) rfl rfl (by decide) rfl hl24 dX4_append_21) ?_
  refine ruL_c (n := 22) (n2 := 23) rfl (ru_bot) ?_
  refine ruL_c (n := 23) (n2 := 24) rfl (ru_bot) ?_
  refine ruL_c (n := 24) (n2 := 25) rfl (ru_iconst hx hb dX4_append_24 rfl) ?_
  refine ruL_c (n := 25) (n2 := 26) rfl (ru_isub hx hb dX4_append_25) ?_
  refine ruL_c (n := 26) (n2 := 27) rfl (ru_iret hx hb hK hr hlocks dX4_append_26) ?_
  exact trivial

