-- CueTour$CueList.append
def l_X1_append_2 : Nat → Int32 → aM → (Int32 → aM → Option (Int32 × aM)) → Option (Int32 × aM)
  | 0, _, _, _ => none
  | n + 1, v1, σ2, k => if 10 ≤ v1 then k v1 σ2 else if inb (σ2 3 4) 20 = true then if inb v1 10 = true then l_X1_append_2 n (v1 + 1) (mput σ2 (88 + ix (σ2 3 4)) (ix v1) ((-1))) k else none else none
def f_X1_append (σ : aM) : Option (Int32 × aM) := l_X1_append_2 lf 0 σ (fun v6 σ7 => some (((σ7 3 4) + 1) - 1, mput σ7 3 4 ((σ7 3 4) + 1)))
def F_X1_append : aF := fun As σ => match As with
  | [] => f_X1_append σ
  | _ => none
def T_X1_append (Qa : Int32 → aM → Prop) : List aI := [I_const 0 1, I_istore 1 1, I_iload 1 1, I_const (10) 2, I_bot, I_icmp (fun x y => y ≤ x) 26, I_bot, I_bot, I_aload 0 1, I_getR 3 54, I_bot, I_bot, I_aload 0 1, I_getI 3 4, I_bot, I_bot, I_aald, I_iload 1 1, I_const (-1) 1, I_iast, I_iinc 1 (1), I_bot, I_bot, I_goto 2, I_bot, I_bot, I_aload 0 1, I_dup, I_getI 3 4, I_bot, I_bot, I_const 1 1, I_bin fun x y => x + y, I_putI 3 4, I_bot, I_bot, I_aload 0 1, I_getI 3 4, I_bot, I_bot, I_const 1 1, I_bin fun x y => x - y, I_iret Qa]
set_option maxHeartbeats 4000000 in
set_option maxRecDepth 100000 in
theorem t_X1_append_2 {Qa : Int32 → aM → Prop} {K : aS → Prop} (hw : ∀ k x, wp (T_X1_append Qa) k K x → K x) (hf : ∀ pc L i st σ, K (pc, L.set i .null, st, σ) → K (pc, L, st, σ)) (y : Int32 × aM) (k : Int32 → aM → Option (Int32 × aM)) :
    ∀ (n : Nat) (v1 : Int32) (σ2 : aM), l_X1_append_2 n v1 σ2 k = some y → (∀ (w0 : Int32) (τ : aM), k w0 τ = some y → K (26, [.ref 3, .int w0], [], τ)) → K (2, [.ref 3, .int v1], [], σ2) := by
  intro n
  induction n with
  | zero =>
    intro v1 σ2 h hk
    exact absurd h (by simp [l_X1_append_2])
  | succ n ih =>
    intro v1 σ2 h hk
    unfold l_X1_append_2 at h
    rcases ite_cases h with ⟨c3, h⟩ | ⟨c3, h⟩
    · refine hw 3 _ ?_
      show ((10 ≤ v1) → K (26, [.ref 3, .int v1], [], σ2)) ∧ (¬ (10 ≤ v1) → K (8, [.ref 3, .int v1], [], σ2))
      refine ⟨fun _ => ?_, fun q => absurd c3 q⟩
      exact hk v1 σ2 h
    · refine hw 3 _ ?_
      show ((10 ≤ v1) → K (26, [.ref 3, .int v1], [], σ2)) ∧ (¬ (10 ≤ v1) → K (8, [.ref 3, .int v1], [], σ2))
      refine ⟨fun q => absurd q c3, fun _ => ?_⟩
      obtain ⟨g4, h⟩ := ite_some h
      obtain ⟨g5, h⟩ := ite_some h
      refine hw 10 _ ?_
      show kd 54 = 3 ∧ (inb (σ2 3 4) 20 = true ∧ (kd (88 + ix (σ2 3 4)) = 1 ∧ (inb v1 (ln (88 + ix (σ2 3 4))) = true ∧ (K (2, [.ref 3, .int (v1 + 1)], [], mput σ2 (88 + ix (σ2 3 4)) (ix v1) ((-1)))))))
      refine ⟨rfl, g4, (row54_kd g4), (by rw [row54_ln g4]; exact g5), ?_⟩
      exact ih (v1 + 1) (mput σ2 (88 + ix (σ2 3 4)) (ix v1) ((-1))) h hk

set_option maxHeartbeats 4000000 in
set_option maxRecDepth 100000 in
theorem s_X1_append : runs T_X1_append [.ref 3] 2 F_X1_append := by
  intro Qa K hw hf As σ r σ' h hQ
  unfold F_X1_append at h
  split at h
  · unfold f_X1_append at h
    have hQ : Qa (r, σ').1 (r, σ').2 := hQ
    generalize (r, σ') = y at h hQ
    show K (0, [.ref 3, .null], [], σ)
    refine hw 2 _ ?_
    show K (2, [.ref 3, .int 0], [], σ)
    refine t_X1_append_2 hw hf _ _ lf 0 σ h (fun v6 σ7 h => ?_)
    show K (26, [.ref 3, .int v6], [], σ7)
    obtain rfl := Option.some.inj h
    refine hw 11 _ ?_
    show Qa (((σ7 3 4) + 1) - 1) (mput σ7 3 4 ((σ7 3 4) + 1))
    refine hQ
  · cases h
theorem h_X1_append : shp [.ref 3] 2 F_X1_append := by
  intro As σ r σ' h
  unfold F_X1_append at h
  split at h
  · exact ⟨by simp [Value.category], Nat.le_of_ble_eq_true rfl⟩
  · cases h
set_option maxHeartbeats 4000000 in
set_option maxRecDepth 100000 in
theorem c_X1_append (l : Launch) (D : va_G) (cI cZ cA cL : ClassId) (ad : Nat → Nat) (hi : adI ad) : CtI l yX1_append wsX1_append { frames := 0, cells := 0, slots := 0, locals := 0 } D cI cZ cA cL ad [.ref 3] F_X1_append := by
  refine mk_I [.ref 3] F_X1_append T_X1_append (by decide +kernel) rfl ?_ h_X1_append s_X1_append
  intro p e s m args below meth c Qa ⟨hx, hb, hml, hown, hts, hr, hlocks, hK, hN⟩
  have hin1 : ∀ w ∈ u_ws RX1 TX1 11, w ∈ wsX1_append := by decide +kernel
  have hl23 : (Cond.fieldLink RX1 23 RX1 (TX1 3).2.1 (TX1 3).2.2.1) ∈ wsX1_append := by decide +kernel
  have hl26 : (Cond.fieldLink RX1 26 RX1 (TX1 4).2.1 (TX1 4).2.2.1) ∈ wsX1_append := by decide +kernel
  refine ruL_c (n := 0) (n2 := 1) rfl (ru_iconst hx hb dX1_append_0 rfl) ?_
  refine ruL_c (n := 1) (n2 := 2) rfl (ru_istore_n (k := 1) hx hb dX1_append_1) ?_
  refine ruL_c (n := 2) (n2 := 3) rfl (ru_iload_n (k := 1) hx hb dX1_append_2) ?_
  refine ruL_c (n := 3) (n2 := 4) rfl (ru_bipush hx hb dX1_append_3 rfl) ?_
  refine ruL_c (n := 4) (n2 := 5) rfl (ru_bot) ?_
  refine ruL_c (n := 5) (n2 := 6) rfl (ru_icmpge hx hb dX1_append_5 (by decide)) ?_
  refine ruL_c (n := 6) (n2 := 7) rfl (ru_bot) ?_
  refine ruL_c (n := 7) (n2 := 8) rfl (ru_bot) ?_
  refine ruL_c (n := 8) (n2 := 9) rfl (ru_aload_n (k := 0) hx hb dX1_append_8) ?_
  refine ruL_c (n := 9) (n2 := 10) rfl (ru_getR (own := RX1) (j := 3) (T := TX1) hx hb hown hK hts hin1 (by decide) rfl rfl (by decide) rfl hl23 dX1_append_9) ?_
  refine ruL_c (n := 10) (n2 := 11) rfl (ru_bot) ?_
  refine ruL_c (n := 11) (n2 := 12) rfl (ru_bot) ?_
  refine ruL_c (n := 12) (n2 := 13) rfl (ru_aload_n (k := 0) hx hb dX1_append_12) ?_
  refine ruL_c (n := 13) (n2 := 14) rfl (ru_getI (own := RX1) (j := 4) (T := TX1) hx hb hown hK hts hin1 (by decide) rfl rfl (by decide) rfl hl26 dX1_append_13) ?_
  refine ruL_c (n := 14) (n2 := 15) rfl (ru_bot) ?_
  refine ruL_c (n := 15) (n2 := 16) rfl (ru_bot) ?_
  refine ruL_c (n := 16) (n2 := 17) rfl (ru_aald hx hb hK dX1_append_16) ?_
  refine ruL_c (n := 17) (n2 := 18) rfl (ru_iload_n (k := 1) hx hb dX1_append_17) ?_
  refine ruL_c (n := 18) (n2 := 19) rfl (ru_iconst hx hb dX1_append_18 rfl) ?_
  refine ruL_c (n := 19) (n2 := 20) rfl (ru_iast hx hb hK hi dX1_append_19) ?_
  refine ruL_c (n := 20) (n2 := 21) rfl (ru_iinc hx hb dX1_append_20 rfl) ?_
  refine ruL_c (n := 21) (n2 := 22) rfl (ru_bot) ?_
  refine ruL_c (n := 22) (n2 := 23) rfl (ru_bot) ?_
  refine ruL_c (n := 23) (n2 := 24) rfl (ru_goto hx hb dX1_append_23 (by decide)) ?_
  refine ruL_c (n := 24) (n2 := 25) rfl (ru_bot) ?_
  refine ruL_c (n := 25) (n2 := 26) rfl (ru_bot) ?_
  refine ruL_c (n := 26) (n2 := 27) rfl (ru_aload_n (k := 0) hx hb dX1_append_26) ?_
  refine ruL_c (n := 27) (n2 := 28) rfl (ru_dup hx hb dX1_append_27) ?_
  refine ruL_c (n := 28) (n2 := 29) rfl (ru_getI (own := RX1) (j := 4) (T := TX1) hx hb hown hK hts hin1 (by decide) rfl rfl (by decide) rfl hl26 dX1_append_28) ?_
  refine ruL_c (n := 29) (n2 := 30) rfl (ru_bot) ?_
  refine ruL_c (n := 30) (n2 := 31) rfl (ru_bot) ?_
  refine ruL_c (n := 31) (n2 := 32) rfl (ru_iconst hx hb dX1_append_31 rfl) ?_
  refine ruL_c (n := 32) (n2 := 33) rfl (ru_iadd hx hb dX1_append_32) ?_
  refine ruL_c (n := 33) (n2 := 34) rfl (ru_putI (own := RX1) (j := 4) (T := TX1) hx hb hown hK hi hts hin1 tyX1 tyX1_ok nmX1 (by decide) rfl rfl (by decide) rfl hl26 rfl (by decide +kernel) dX1_append_33) ?_
  refine ruL_c (n := 34) (n2 := 35) rfl (ru_bot) ?_
  refine ruL_c (n := 35) (n2 := 36) rfl (ru_bot) ?_
  refine ruL_c (n := 36) (n2 := 37) rfl (ru_aload_n (k := 0) hx hb dX1_append_36) ?_
  refine ruL_c (n := 37) (n2 := 38) rfl (ru_getI (own := RX1) (j := 4) (T := TX1) hx hb hown hK hts hin1 (by decide) rfl rfl (by decide) rfl hl26 dX1_append_37) ?_
  refine ruL_c (n := 38) (n2 := 39) rfl (ru_bot) ?_
  refine ruL_c (n := 39) (n2 := 40) rfl (ru_bot) ?_
  refine ruL_c (n := 40) (n2 := 41) rfl (ru_iconst hx hb dX1_append_40 rfl) ?_
  refine ruL_c (n := 41) (n2 := 42) rfl (ru_isub hx hb dX1_append_41) ?_
  refine ruL_c (n := 42) (n2 := 43) rfl (ru_iret hx hb hK hr hlocks dX1_append_42) ?_
  exact trivial

-- CueTour$CueList.place
def f_X1_place (p0 : Int32) (p1 : Int32) (p2 : Int32) (p3 : Int32) (σ : aM) : Option (Int32 × aM) := if inb p0 20 = true then if inb p0 20 = true then if inb p0 20 = true then some (0, mput (mput (mput σ 11 (ix p0) p1) 12 (ix p0) p2) 13 (ix p0) p3) else none else none else none
def F_X1_place : aF := fun As σ => match As with
  | [.int p0, .int p1, .int p2, .int p3] => f_X1_place p0 p1 p2 p3 σ
  | _ => none
def T_X1_place (Qa : Int32 → aM → Prop) : List aI := [I_aload 0 1, I_getR 3 11, I_bot, I_bot, I_iload 1 1, I_iload 2 1, I_iast, I_aload 0 1, I_getR 3 12, I_bot, I_bot, I_iload 1 1, I_iload 3 1, I_iast, I_aload 0 1, I_getR 3 13, I_bot, I_bot, I_iload 1 1, I_iload 4 2, I_bot, I_iast, I_vret Qa]
set_option maxHeartbeats 4000000 in
set_option maxRecDepth 100000 in
theorem s_X1_place : runs T_X1_place [.ref 3] 5 F_X1_place := by
  intro Qa K hw hf As σ r σ' h hQ
  unfold F_X1_place at h
  split at h
  · rename_i p0 p1 p2 p3
    unfold f_X1_place at h
    have hQ : Qa (r, σ').1 (r, σ').2 := hQ
    generalize (r, σ') = y at h hQ
    show K (0, [.ref 3, .int p0, .int p1, .int p2, .int p3], [], σ)
    obtain ⟨g1, h⟩ := ite_some h
    obtain ⟨g2, h⟩ := ite_some h
    obtain ⟨g3, h⟩ := ite_some h
    obtain rfl := Option.some.inj h
    refine hw 16 _ ?_
    show kd 11 = 1 ∧ (inb p0 20 = true ∧ (kd 12 = 1 ∧ (inb p0 20 = true ∧ (kd 13 = 1 ∧ (inb p0 20 = true ∧ (Qa 0 (mput (mput (mput σ 11 (ix p0) p1) 12 (ix p0) p2) 13 (ix p0) p3)))))))
    refine ⟨rfl, g1, rfl, g2, rfl, g3, hQ⟩
  · cases h
theorem h_X1_place : shp [.ref 3] 5 F_X1_place := by
  intro As σ r σ' h
  unfold F_X1_place at h
  split at h
  · exact ⟨by simp [Value.category], Nat.le_of_ble_eq_true rfl⟩
  · cases h
set_option maxHeartbeats 4000000 in
set_option maxRecDepth 100000 in
theorem c_X1_place (l : Launch) (D : va_G) (cI cZ cA cL : ClassId) (ad : Nat → Nat) (hi : adI ad) : CtV l yX1_place wsX1_place { frames := 0, cells := 0, slots := 0, locals := 0 } D cI cZ cA cL ad [.ref 3] F_X1_place := by
  refine mk_V [.ref 3] F_X1_place T_X1_place (by decide +kernel) rfl ?_ h_X1_place s_X1_place
  intro p e s m args below meth c Qa ⟨hx, hb, hml, hown, hts, hr, hlocks, hK, hN⟩
  have hin1 : ∀ w ∈ u_ws RX1 TX1 11, w ∈ wsX1_place := by decide +kernel
  have hl9 : (Cond.fieldLink RX1 9 RX1 (TX1 0).2.1 (TX1 0).2.2.1) ∈ wsX1_place := by decide +kernel
  have hl15 : (Cond.fieldLink RX1 15 RX1 (TX1 1).2.1 (TX1 1).2.2.1) ∈ wsX1_place := by decide +kernel
  have hl18 : (Cond.fieldLink RX1 18 RX1 (TX1 2).2.1 (TX1 2).2.2.1) ∈ wsX1_place := by decide +kernel
  refine ruL_c (n := 0) (n2 := 1) rfl (ru_aload_n (k := 0) hx hb dX1_place_0) ?_
  refine ruL_c (n := 1) (n2 := 2) rfl (ru_getR (own := RX1) (j := 0) (T := TX1) hx hb hown hK hts hin1 (by decide) rfl rfl (by decide) rfl hl9 dX1_place_1) ?_
  refine ruL_c (n := 2) (n2 := 3) rfl (ru_bot) ?_
  refine ruL_c (n := 3) (n2 := 4) rfl (ru_bot) ?_
  refine ruL_c (n := 4) (n2 := 5) rfl (ru_iload_n (k := 1) hx hb dX1_place_4) ?_
  refine ruL_c (n := 5) (n2 := 6) rfl (ru_iload_n (k := 2) hx hb dX1_place_5) ?_
  refine ruL_c (n := 6) (n2 := 7) rfl (ru_iast hx hb hK hi dX1_place_6) ?_
  refine ruL_c (n := 7) (n2 := 8) rfl (ru_aload_n (k := 0) hx hb dX1_place_7) ?_
  refine ruL_c (n := 8) (n2 := 9) rfl (ru_getR (own := RX1) (j := 1) (T := TX1) hx hb hown hK hts hin1 (by decide) rfl rfl (by decide) rfl hl15 dX1_place_8) ?_
  refine ruL_c (n := 9) (n2 := 10) rfl (ru_bot) ?_
  refine ruL_c (n := 10) (n2 := 11) rfl (ru_bot) ?_
  refine ruL_c (n := 11) (n2 := 12) rfl (ru_iload_n (k := 1) hx hb dX1_place_11) ?_
  refine ruL_c (n := 12) (n2 := 13) rfl (ru_iload_n (k := 3) hx hb dX1_place_12) ?_
  refine ruL_c (n := 13) (n2 := 14) rfl (ru_iast hx hb hK hi dX1_place_13) ?_
  refine ruL_c (n := 14) (n2 := 15) rfl (ru_aload_n (k := 0) hx hb dX1_place_14) ?_
  refine ruL_c (n := 15) (n2 := 16) rfl (ru_getR (own := RX1) (j := 2) (T := TX1) hx hb hown hK hts hin1 (by decide) rfl rfl (by decide) rfl hl18 dX1_place_15) ?_
  refine ruL_c (n := 16) (n2 := 17) rfl (ru_bot) ?_
  refine ruL_c (n := 17) (n2 := 18) rfl (ru_bot) ?_
  refine ruL_c (n := 18) (n2 := 19) rfl (ru_iload_n (k := 1) hx hb dX1_place_18) ?_
  refine ruL_c (n := 19) (n2 := 20) rfl (ru_iload hx hb dX1_place_19) ?_
  refine ruL_c (n := 20) (n2 := 21) rfl (ru_bot) ?_
  refine ruL_c (n := 21) (n2 := 22) rfl (ru_iast hx hb hK hi dX1_place_21) ?_
  refine ruL_c (n := 22) (n2 := 23) rfl (ru_vret hx hb hK hr hlocks dX1_place_22) ?_
  exact trivial

-- CueTour$CueList.comesAhead
def f_X1_comesAhead (p0 : Int32) (p1 : Int32) (σ : aM) : Option (Int32 × aM) := if inb p0 20 = true then if inb p1 20 = true then if (σ 11 (ix p0)) = (σ 11 (ix p1)) then if inb p0 20 = true then if inb p1 20 = true then if (σ 12 (ix p1)) ≤ (σ 12 (ix p0)) then some (0, σ) else some (1, σ) else none else none else if inb p0 20 = true then if inb p1 20 = true then if (σ 11 (ix p1)) ≤ (σ 11 (ix p0)) then some (0, σ) else some (1, σ) else none else none else none else none
def F_X1_comesAhead : aF := fun As σ => match As with
  | [.int p0, .int p1] => f_X1_comesAhead p0 p1 σ
  | _ => none
def T_X1_comesAhead (Qa : Int32 → aM → Prop) : List aI := [I_aload 0 1, I_getR 3 11, I_bot, I_bot, I_iload 1 1, I_iald, I_aload 0 1, I_getR 3 11, I_bot, I_bot, I_iload 2 1, I_iald, I_icmp (fun x y => x = y) 36, I_bot, I_bot, I_aload 0 1, I_getR 3 11, I_bot, I_bot, I_iload 1 1, I_iald, I_aload 0 1, I_getR 3 11, I_bot, I_bot, I_iload 2 1, I_iald, I_icmp (fun x y => y ≤ x) 34, I_bot, I_bot, I_const 1 1, I_goto 35, I_bot, I_bot, I_const 0 1, I_zret Qa, I_aload 0 1, I_getR 3 12, I_bot, I_bot, I_iload 1 1, I_iald, I_aload 0 1, I_getR 3 12, I_bot, I_bot, I_iload 2 1, I_iald, I_icmp (fun x y => y ≤ x) 55, I_bot, I_bot, I_const 1 1, I_goto 56, I_bot, I_bot, I_const 0 1, I_zret Qa]
set_option maxHeartbeats 4000000 in
set_option maxRecDepth 100000 in
theorem s_X1_comesAhead : runs T_X1_comesAhead [.ref 3] 3 F_X1_comesAhead := by
  intro Qa K hw hf As σ r σ' h hQ
  unfold F_X1_comesAhead at h
  split at h
  · rename_i p0 p1
    unfold f_X1_comesAhead at h
    have hQ : Qa (r, σ').1 (r, σ').2 := hQ
    generalize (r, σ') = y at h hQ
    show K (0, [.ref 3, .int p0, .int p1], [], σ)
    obtain ⟨g1, h⟩ := ite_some h
    obtain ⟨g2, h⟩ := ite_some h
    rcases ite_cases h with ⟨c3, h⟩ | ⟨c3, h⟩
    · refine hw 9 _ ?_
      show kd 11 = 1 ∧ (inb p0 20 = true ∧ (kd 11 = 1 ∧ (inb p1 20 = true ∧ ((((σ 11 (ix p0)) = (σ 11 (ix p1))) → K (36, [.ref 3, .int p0, .int p1], [], σ)) ∧ (¬ ((σ 11 (ix p0)) = (σ 11 (ix p1))) → K (15, [.ref 3, .int p0, .int p1], [], σ))))))
      refine ⟨rfl, g1, rfl, g2, ⟨fun _ => ?_, fun q => absurd c3 q⟩⟩
      obtain ⟨g4, h⟩ := ite_some h
      obtain ⟨g5, h⟩ := ite_some h
      rcases ite_cases h with ⟨c6, h⟩ | ⟨c6, h⟩
      · refine hw 9 _ ?_
        show kd 12 = 1 ∧ (inb p0 20 = true ∧ (kd 12 = 1 ∧ (inb p1 20 = true ∧ ((((σ 12 (ix p1)) ≤ (σ 12 (ix p0))) → K (55, [.ref 3, .int p0, .int p1], [], σ)) ∧ (¬ ((σ 12 (ix p1)) ≤ (σ 12 (ix p0))) → K (51, [.ref 3, .int p0, .int p1], [], σ))))))
        refine ⟨rfl, g4, rfl, g5, ⟨fun _ => ?_, fun q => absurd c6 q⟩⟩
        obtain rfl := Option.some.inj h
        refine hw 2 _ ?_
        show (0 = (0:Int32) ∨ 0 = (1:Int32)) ∧ (Qa 0 σ)
        refine ⟨Or.inl rfl, hQ⟩
      · refine hw 9 _ ?_
        show kd 12 = 1 ∧ (inb p0 20 = true ∧ (kd 12 = 1 ∧ (inb p1 20 = true ∧ ((((σ 12 (ix p1)) ≤ (σ 12 (ix p0))) → K (55, [.ref 3, .int p0, .int p1], [], σ)) ∧ (¬ ((σ 12 (ix p1)) ≤ (σ 12 (ix p0))) → K (51, [.ref 3, .int p0, .int p1], [], σ))))))
        refine ⟨rfl, g4, rfl, g5, ⟨fun q => absurd q c6, fun _ => ?_⟩⟩
        obtain rfl := Option.some.inj h
        refine hw 3 _ ?_
        show (1 = (0:Int32) ∨ 1 = (1:Int32)) ∧ (Qa 1 σ)
        refine ⟨Or.inr rfl, hQ⟩
    · refine hw 9 _ ?_
      show kd 11 = 1 ∧ (inb p0 20 = true ∧ (kd 11 = 1 ∧ (inb p1 20 = true ∧ ((((σ 11 (ix p0)) = (σ 11 (ix p1))) → K (36, [.ref 3, .int p0, .int p1], [], σ)) ∧ (¬ ((σ 11 (ix p0)) = (σ 11 (ix p1))) → K (15, [.ref 3, .int p0, .int p1], [], σ))))))
      refine ⟨rfl, g1, rfl, g2, ⟨fun q => absurd q c3, fun _ => ?_⟩⟩
      obtain ⟨g7, h⟩ := ite_some h
      obtain ⟨g8, h⟩ := ite_some h
      rcases ite_cases h with ⟨c9, h⟩ | ⟨c9, h⟩
      · refine hw 9 _ ?_
        show kd 11 = 1 ∧ (inb p0 20 = true ∧ (kd 11 = 1 ∧ (inb p1 20 = true ∧ ((((σ 11 (ix p1)) ≤ (σ 11 (ix p0))) → K (34, [.ref 3, .int p0, .int p1], [], σ)) ∧ (¬ ((σ 11 (ix p1)) ≤ (σ 11 (ix p0))) → K (30, [.ref 3, .int p0, .int p1], [], σ))))))
        refine ⟨rfl, g7, rfl, g8, ⟨fun _ => ?_, fun q => absurd c9 q⟩⟩
        obtain rfl := Option.some.inj h
        refine hw 2 _ ?_
        show (0 = (0:Int32) ∨ 0 = (1:Int32)) ∧ (Qa 0 σ)
        refine ⟨Or.inl rfl, hQ⟩
      · refine hw 9 _ ?_
        show kd 11 = 1 ∧ (inb p0 20 = true ∧ (kd 11 = 1 ∧ (inb p1 20 = true ∧ ((((σ 11 (ix p1)) ≤ (σ 11 (ix p0))) → K (34, [.ref 3, .int p0, .int p1], [], σ)) ∧ (¬ ((σ 11 (ix p1)) ≤ (σ 11 (ix p0))) → K (30, [.ref 3, .int p0, .int p1], [], σ))))))
        refine ⟨rfl, g7, rfl, g8, ⟨fun q => absurd q c9, fun _ => ?_⟩⟩
        obtain rfl := Option.some.inj h
        refine hw 3 _ ?_
        show (1 = (0:Int32) ∨ 1 = (1:Int32)) ∧ (Qa 1 σ)
        refine ⟨Or.inr rfl, hQ⟩
  · cases h
theorem h_X1_comesAhead : shp [.ref 3] 3 F_X1_comesAhead := by
  intro As σ r σ' h
  unfold F_X1_comesAhead at h
  split at h
  · exact ⟨by simp [Value.category], Nat.le_of_ble_eq_true rfl⟩
  · cases h
set_option maxHeartbeats 4000000 in
set_option maxRecDepth 100000 in
theorem c_X1_comesAhead (l : Launch) (D : va_G) (cI cZ cA cL : ClassId) (ad : Nat → Nat) (hi : adI ad) : CtI l yX1_comesAhead wsX1_comesAhead { frames := 0, cells := 0, slots := 0, locals := 0 } D cI cZ cA cL ad [.ref 3] F_X1_comesAhead := by
  refine mk_I [.ref 3] F_X1_comesAhead T_X1_comesAhead (by decide +kernel) rfl ?_ h_X1_comesAhead s_X1_comesAhead
  intro p e s m args below meth c Qa ⟨hx, hb, hml, hown, hts, hr, hlocks, hK, hN⟩
  have hin1 : ∀ w ∈ u_ws RX1 TX1 11, w ∈ wsX1_comesAhead := by decide +kernel
  have hl9 : (Cond.fieldLink RX1 9 RX1 (TX1 0).2.1 (TX1 0).2.2.1) ∈ wsX1_comesAhead := by decide +kernel
  have hl15 : (Cond.fieldLink RX1 15 RX1 (TX1 1).2.1 (TX1 1).2.2.1) ∈ wsX1_comesAhead := by decide +kernel
  refine ruL_c (n := 0) (n2 := 1) rfl (ru_aload_n (k := 0) hx hb dX1_comesAhead_0) ?_
  refine ruL_c (n := 1) (n2 := 2) rfl (ru_getR (own := RX1) (j := 0) (T := TX1) hx hb hown hK hts hin1 (by decide) rfl rfl (by decide) rfl hl9 dX1_comesAhead_1) ?_
  refine ruL_c (n := 2) (n2 := 3) rfl (ru_bot) ?_
  refine ruL_c (n := 3) (n2 := 4) rfl (ru_bot) ?_
  refine ruL_c (n := 4) (n2 := 5) rfl (ru_iload_n (k := 1) hx hb dX1_comesAhead_4) ?_
  refine ruL_c (n := 5) (n2 := 6) rfl (ru_iald hx hb hK dX1_comesAhead_5) ?_
  refine ruL_c (n := 6) (n2 := 7) rfl (ru_aload_n (k := 0) hx hb dX1_comesAhead_6) ?_
  refine ruL_c (n := 7) (n2 := 8) rfl (ru_getR (own := RX1) (j := 0) (T := TX1) hx hb hown hK hts hin1 (by decide) rfl rfl (by decide) rfl hl9 dX1_comesAhead_7) ?_
  refine ruL_c (n := 8) (n2 := 9) rfl (ru_bot) ?_
  refine ruL_c (n := 9) (n2 := 10) rfl (ru_bot) ?_
  refine ruL_c (n := 10) (n2 := 11) rfl (ru_iload_n (k := 2) hx hb dX1_comesAhead_10) ?_
  refine ruL_c (n := 11) (n2 := 12) rfl (ru_iald hx hb hK dX1_comesAhead_11) ?_
  refine ruL_c (n := 12) (n2 := 13) rfl (ru_icmpeq hx hb dX1_comesAhead_12 (by decide)) ?_
  refine ruL_c (n := 13) (n2 := 14) rfl (ru_bot) ?_
  refine ruL_c (n := 14) (n2 := 15) rfl (ru_bot) ?_
  refine ruL_c (n := 15) (n2 := 16) rfl (ru_aload_n (k := 0) hx hb dX1_comesAhead_15) ?_
  refine ruL_c (n := 16) (n2 := 17) rfl (ru_getR (own := RX1) (j := 0) (T := TX1) hx hb hown hK hts hin1 (by decide) rfl rfl (by decide) rfl hl9 dX1_comesAhead_16) ?_
  refine ruL_c (n := 17) (n2 := 18) rfl (ru_bot) ?_
  refine ruL_c (n := 18) (n2 := 19) rfl (ru_bot) ?_
  refine ruL_c (n := 19) (n2 := 20) rfl (ru_iload_n (k := 1) hx hb dX1_comesAhead_19) ?_
  refine ruL_c (n := 20) (n2 := 21) rfl (ru_iald hx hb hK dX1_comesAhead_20) ?_
  refine ruL_c (n := 21) (n2 := 22) rfl (ru_aload_n (k := 0) hx hb dX1_comesAhead_21) ?_
  refine ruL_c (n := 22) (n2 := 23) rfl (ru_getR (own := RX1) (j := 0) (T := TX1) hx hb hown hK hts hin1 (by decide) rfl rfl (by decide) rfl hl9 dX1_comesAhead_22) ?_
  refine ruL_c (n := 23) (n2 := 24) rfl (ru_bot) ?_
  refine ruL_c (n := 24) (n2 := 25) rfl (ru_bot) ?_
  refine ruL_c (n := 25) (n2 := 26) rfl (ru_iload_n (k := 2) hx hb dX1_comesAhead_25) ?_
  refine ruL_c (n := 26) (n2 := 27) rfl (ru_iald hx hb hK dX1_comesAhead_26) ?_
  refine ruL_c (n := 27) (n2 := 28) rfl (ru_icmpge hx hb dX1_comesAhead_27 (by decide)) ?_
  refine ruL_c (n := 28) (n2 := 29) rfl (ru_bot) ?_
  refine ruL_c (n := 29) (n2 := 30) rfl (ru_bot) ?_
  refine ruL_c (n := 30) (n2 := 31) rfl (ru_iconst hx hb dX1_comesAhead_30 rfl) ?_
  refine ruL_c (n := 31) (n2 := 32) rfl (ru_goto hx hb dX1_comesAhead_31 (by decide)) ?_
  refine ruL_c (n := 32) (n2 := 33) rfl (ru_bot) ?_
  refine ruL_c (n := 33) (n2 := 34) rfl (ru_bot) ?_
  refine ruL_c (n := 34) (n2 := 35) rfl (ru_iconst hx hb dX1_comesAhead_34 rfl) ?_
  refine ruL_c (n := 35) (n2 := 36) rfl (ru_zret hx hb hK hr hlocks dX1_comesAhead_35) ?_
  refine ruL_c (n := 36) (n2 := 37) rfl (ru_aload_n (k := 0) hx hb dX1_comesAhead_36) ?_
  refine ruL_c (n := 37) (n2 := 38) rfl (ru_getR (own := RX1) (j := 1) (T := TX1) hx hb hown hK hts hin1 (by decide) rfl rfl (by decide) rfl hl15 dX1_comesAhead_37) ?_
  refine ruL_c (n := 38) (n2 := 39) rfl (ru_bot) ?_
  refine ruL_c (n := 39) (n2 := 40) rfl (ru_bot) ?_
  refine ruL_c (n := 40) (n2 := 41) rfl (ru_iload_n (k := 1) hx hb dX1_comesAhead_40) ?_
  refine ruL_c (n := 41) (n2 := 42) rfl (ru_iald hx hb hK dX1_comesAhead_41) ?_
  refine ruL_c (n := 42) (n2 := 43) rfl (ru_aload_n (k := 0) hx hb dX1_comesAhead_42) ?_
  refine ruL_c (n := 43) (n2 := 44) rfl (ru_getR (own := RX1) (j := 1) (T := TX1) hx hb hown hK hts hin1 (by decide) rfl rfl (by decide) rfl hl15 dX1_comesAhead_43) ?_
  refine ruL_c (n := 44) (n2 := 45) rfl (ru_bot) ?_
  refine ruL_c (n := 45) (n2 := 46) rfl (ru_bot) ?_
  refine ruL_c (n := 46) (n2 := 47) rfl (ru_iload_n (k := 2) hx hb dX1_comesAhead_46) ?_
  refine ruL_c (n := 47) (n2 := 48) rfl (ru_iald hx hb hK dX1_comesAhead_47) ?_
  refine ruL_c (n := 48) (n2 := 49) rfl (ru_icmpge hx hb dX1_comesAhead_48 (by decide)) ?_
  refine ruL_c (n := 49) (n2 := 50) rfl (ru_bot) ?_
  refine ruL_c (n := 50) (n2 := 51) rfl (ru_bot) ?_
  refine ruL_c (n := 51) (n2 := 52) rfl (ru_iconst hx hb dX1_comesAhead_51 rfl) ?_
  refine ruL_c (n := 52) (n2 := 53) rfl (ru_goto hx hb dX1_comesAhead_52 (by decide)) ?_
  refine ruL_c (n := 53) (n2 := 54) rfl (ru_bot) ?_
  refine ruL_c (n := 54) (n2 := 55) rfl (ru_bot) ?_
  refine ruL_c (n := 55) (n2 := 56) rfl (ru_iconst hx hb dX1_comesAhead_55 rfl) ?_
  refine ruL_c (n := 56) (n2 := 57) rfl (ru_zret hx hb hK hr hlocks dX1_comesAhead_56) ?_
  exact trivial

-- CueTour$CueList.sortCues
def l_X1_sortCues_12 (x4 : Int32) : Nat → Int32 → aM → (Int32 → aM → Option (Int32 × aM)) → Option (Int32 × aM)
  | 0, _, _, _ => none
  | n + 1, v5, σ6, k => if v5 ≤ 0 then k v5 σ6 else if inb (v5 - 1) 20 = true then bnd (f_X1_comesAhead x4 (σ6 14 (ix (v5 - 1))) σ6) (fun r9 σ10 => if r9 = 0 then k v5 σ10 else if inb (v5 - 1) 20 = true then if inb v5 20 = true then l_X1_sortCues_12 x4 n (v5 + (-1)) (mput σ10 14 (ix v5) (σ10 14 (ix (v5 - 1)))) k else none else none) else none
def l_X1_sortCues_2 : Nat → Int32 → aM → (Int32 → aM → Option (Int32 × aM)) → Option (Int32 × aM)
  | 0, _, _, _ => none
  | n + 1, v1, σ2, k => if (σ2 3 4) ≤ v1 then k v1 σ2 else l_X1_sortCues_12 v1 lf v1 σ2 (fun v15 σ16 => if inb v15 20 = true then l_X1_sortCues_2 n (v1 + 1) (mput σ16 14 (ix v15) v1) k else none)
def f_X1_sortCues (σ : aM) : Option (Int32 × aM) := l_X1_sortCues_2 lf 0 σ (fun v18 σ19 => some (0, σ19))
def F_X1_sortCues : aF := fun As σ => match As with
  | [] => f_X1_sortCues σ
  | _ => none
def T_X1_sortCues (Qa : Int32 → aM → Prop) : List aI := [I_const 0 1, I_istore 1 1, I_iload 1 1, I_aload 0 1, I_getI 3 4, I_bot, I_bot, I_icmp (fun x y => y ≤ x) 65, I_bot, I_bot, I_iload 1 1, I_istore 2 1, I_iload 2 1, I_if (fun x => x ≤ 0) 52, I_bot, I_bot, I_aload 0 1, I_iload 1 1, I_aload 0 1, I_getR 3 14, I_bot, I_bot, I_iload 2 1, I_const 1 1, I_bin fun x y => x - y, I_iald, I_callV 3 2 F_X1_comesAhead, I_bot, I_bot, I_if (fun x => x = 0) 52, I_bot, I_bot, I_aload 0 1, I_getR 3 14, I_bot, I_bot, I_iload 2 1, I_aload 0 1, I_getR 3 14, I_bot, I_bot, I_iload 2 1, I_const 1 1, I_bin fun x y => x - y, I_iald, I_iast, I_iinc 2 (-1), I_bot, I_bot, I_goto 12, I_bot, I_bot, I_aload 0 1, I_getR 3 14, I_bot, I_bot, I_iload 2 1, I_iload 1 1, I_iast, I_iinc 1 (1), I_bot, I_bot, I_goto 2, I_bot, I_bot, I_vret Qa]
set_option maxHeartbeats 4000000 in
set_option maxRecDepth 100000 in
theorem t_X1_sortCues_12 {Qa : Int32 → aM → Prop} {K : aS → Prop} (hw : ∀ k x, wp (T_X1_sortCues Qa) k K x → K x) (hf : ∀ pc L i st σ, K (pc, L.set i .null, st, σ) → K (pc, L, st, σ)) (x4 : Int32) (y : Int32 × aM) (k : Int32 → aM → Option (Int32 × aM)) :
    ∀ (n : Nat) (v5 : Int32) (σ6 : aM), l_X1_sortCues_12 x4 n v5 σ6 k = some y → (∀ (w0 : Int32) (τ : aM), k w0 τ = some y → K (52, [.ref 3, .int x4, .int w0], [], τ)) → K (12, [.ref 3, .int x4, .int v5], [], σ6) := by
  intro n
  induction n with
  | zero =>
    intro v5 σ6 h hk
    exact absurd h (by simp [l_X1_sortCues_12])
  | succ n ih =>
    intro v5 σ6 h hk
    unfold l_X1_sortCues_12 at h
    rcases ite_cases h with ⟨c7, h⟩ | ⟨c7, h⟩
    · refine hw 2 _ ?_
      show ((v5 ≤ 0) → K (52, [.ref 3, .int x4, .int v5], [], σ6)) ∧ (¬ (v5 ≤ 0) → K (16, [.ref 3, .int x4, .int v5], [], σ6))
      refine ⟨fun _ => ?_, fun q => absurd c7 q⟩
      exact hk v5 σ6 h
    · refine hw 2 _ ?_
      show ((v5 ≤ 0) → K (52, [.ref 3, .int x4, .int v5], [], σ6)) ∧ (¬ (v5 ≤ 0) → K (16, [.ref 3, .int x4, .int v5], [], σ6))
      refine ⟨fun q => absurd q c7, fun _ => ?_⟩
      obtain ⟨g8, h⟩ := ite_some h
      obtain ⟨r9, σ10, e11, h⟩ := bnd_some h
      refine hw 9 _ ?_
      show kd 14 = 1 ∧ (inb (v5 - 1) 20 = true ∧ (∃ r9 σ10, f_X1_comesAhead x4 (σ6 14 (ix (v5 - 1))) σ6 = some (r9, σ10) ∧ K (29, [.ref 3, .int x4, .int v5], [.int r9], σ10)))
      refine ⟨rfl, g8, ⟨r9, σ10, e11, ?_⟩⟩
      rcases ite_cases h with ⟨c12, h⟩ | ⟨c12, h⟩
      · refine hw 1 _ ?_
        show ((r9 = 0) → K (52, [.ref 3, .int x4, .int v5], [], σ10)) ∧ (¬ (r9 = 0) → K (32, [.ref 3, .int x4, .int v5], [], σ10))
        refine ⟨fun _ => ?_, fun q => absurd c12 q⟩
        exact hk v5 σ10 h
      · refine hw 1 _ ?_
        show ((r9 = 0) → K (52, [.ref 3, .int x4, .int v5], [], σ10)) ∧ (¬ (r9 = 0) → K (32, [.ref 3, .int x4, .int v5], [], σ10))
        refine ⟨fun q => absurd q c12, fun _ => ?_⟩
        obtain ⟨g13, h⟩ := ite_some h
        obtain ⟨g14, h⟩ := ite_some h
        refine hw 12 _ ?_
        show kd 14 = 1 ∧ (inb (v5 - 1) 20 = true ∧ (kd 14 = 1 ∧ (inb v5 20 = true ∧ (K (12, [.ref 3, .int x4, .int (v5 + (-1))], [], mput σ10 14 (ix v5) (σ10 14 (ix (v5 - 1))))))))
        refine ⟨rfl, g13, rfl, g14, ?_⟩
        exact ih (v5 + (-1)) (mput σ10 14 (ix v5) (σ10 14 (ix (v5 - 1)))) h hk

set_option maxHeartbeats 4000000 in
set_option maxRecDepth 100000 in
theorem t_X1_sortCues_2 {Qa : Int32 → aM → Prop} {K : aS → Prop} (hw : ∀ k x, wp (T_X1_sortCues Qa) k K x → K x) (hf : ∀ pc L i st σ, K (pc, L.set i .null, st, σ) → K (pc, L, st, σ)) (y : Int32 × aM) (k : Int32 → aM → Option (Int32 × aM)) :
    ∀ (n : Nat) (v1 : Int32) (σ2 : aM), l_X1_sortCues_2 n v1 σ2 k = some y → (∀ (w0 : Int32) (τ : aM), k w0 τ = some y → K (65, [.ref 3, .int w0, .null], [], τ)) → K (2, [.ref 3, .int v1, .null], [], σ2) := by
  intro n
  induction n with
  | zero =>
    intro v1 σ2 h hk
    exact absurd h (by simp [l_X1_sortCues_2])
  | succ n ih =>
    intro v1 σ2 h hk
    unfold l_X1_sortCues_2 at h
    rcases ite_cases h with ⟨c3, h⟩ | ⟨c3, h⟩
    · refine hw 4 _ ?_
      show (((σ2 3 4) ≤ v1) → K (65, [.ref 3, .int v1, .null], [], σ2)) ∧ (¬ ((σ2 3 4) ≤ v1) → K (10, [.ref 3, .int v1, .null], [], σ2))
      refine ⟨fun _ => ?_, fun q => absurd c3 q⟩
      exact hk v1 σ2 h
    · refine hw 4 _ ?_
      show (((σ2 3 4) ≤ v1) → K (65, [.ref 3, .int v1, .null], [], σ2)) ∧ (¬ ((σ2 3 4) ≤ v1) → K (10, [.ref 3, .int v1, .null], [], σ2))
      refine ⟨fun q => absurd q c3, fun _ => ?_⟩
      refine hw 2 _ ?_
      show K (12, [.ref 3, .int v1, .int v1], [], σ2)
      refine t_X1_sortCues_12 hw hf v1 _ _ lf v1 σ2 h (fun v15 σ16 h => ?_)
      show K (52, [.ref 3, .int v1, .int v15], [], σ16)
      obtain ⟨g17, h⟩ := ite_some h
      refine hw 7 _ ?_
      show kd 14 = 1 ∧ (inb v15 20 = true ∧ (K (2, [.ref 3, .int (v1 + 1), .int v15], [], mput σ16 14 (ix v15) v1)))
      refine ⟨rfl, g17, ?_⟩
      refine hf _ _ 2 _ _ ?_
      show K (2, [.ref 3, .int (v1 + 1), .null], [], mput σ16 14 (ix v15) v1)
      exact ih (v1 + 1) (mput σ16 14 (ix v15) v1) h hk

set_option maxHeartbeats 4000000 in
set_option maxRecDepth 100000 in
theorem s_X1_sortCues : runs T_X1_sortCues [.ref 3] 3 F_X1_sortCues := by
  intro Qa K hw hf As σ r σ' h hQ
  unfold F_X1_sortCues at h
  split at h
  · unfold f_X1_sortCues at h
    have hQ : Qa (r, σ').1 (r, σ').2 := hQ
    generalize (r, σ') = y at h hQ
    show K (0, [.ref 3, .null, .null], [], σ)
    refine hw 2 _ ?_
    show K (2, [.ref 3, .int 0, .null], [], σ)
    refine t_X1_sortCues_2 hw hf _ _ lf 0 σ h (fun v18 σ19 h => ?_)
    show K (65, [.ref 3, .int v18, .null], [], σ19)
    obtain rfl := Option.some.inj h
    refine hw 1 _ ?_
    show Qa 0 σ19
    refine hQ
  · cases h
theorem h_X1_sortCues : shp [.ref 3] 3 F_X1_sortCues := by
  intro As σ r σ' h
  unfold F_X1_sortCues at h
  split at h
  · exact ⟨by simp [Value.category], Nat.le_of_ble_eq_true rfl⟩
  · cases h
set_option maxHeartbeats 4000000 in
set_option maxRecDepth 100000 in
theorem c_X1_sortCues (l : Launch) (D : va_G) (cI cZ cA cL : ClassId) (ad : Nat → Nat) (hi : adI ad) : CtV l yX1_sortCues wsX1_sortCues { frames := 1, cells := 0, slots := 0, locals := 22 } D cI cZ cA cL ad [.ref 3] F_X1_sortCues := by
  refine mk_V [.ref 3] F_X1_sortCues T_X1_sortCues (by decide +kernel) rfl ?_ h_X1_sortCues s_X1_sortCues
  intro p e s m args below meth c Qa ⟨hx, hb, hml, hown, hts, hr, hlocks, hK, hN⟩
  have hin1 : ∀ w ∈ u_ws RX1 TX1 11, w ∈ wsX1_sortCues := by decide +kernel
  have hl26 : (Cond.fieldLink RX1 26 RX1 (TX1 4).2.1 (TX1 4).2.2.1) ∈ wsX1_sortCues := by decide +kernel
  have hl30 : (Cond.fieldLink RX1 30 RX1 (TX1 5).2.1 (TX1 5).2.2.1) ∈ wsX1_sortCues := by decide +kernel
  refine ruL_c (n := 0) (n2 := 1) rfl (ru_iconst hx hb dX1_sortCues_0 rfl) ?_
  refine ruL_c (n := 1) (n2 := 2) rfl (ru_istore_n (k := 1) hx hb dX1_sortCues_1) ?_
  refine ruL_c (n := 2) (n2 := 3) rfl (ru_iload_n (k := 1) hx hb dX1_sortCues_2) ?_
  refine ruL_c (n := 3) (n2 := 4) rfl (ru_aload_n (k := 0) hx hb dX1_sortCues_3) ?_
  refine ruL_c (n := 4) (n2 := 5) rfl (ru_getI (own := RX1) (j := 4) (T := TX1) hx hb hown hK hts hin1 (by decide) rfl rfl (by decide) rfl hl26 dX1_sortCues_4) ?_
  refine ruL_c (n := 5) (n2 := 6) rfl (ru_bot) ?_
  refine ruL_c (n := 6) (n2 := 7) rfl (ru_bot) ?_
  refine ruL_c (n := 7) (n2 := 8) rfl (ru_icmpge hx hb dX1_sortCues_7 (by decide)) ?_
  refine ruL_c (n := 8) (n2 := 9) rfl (ru_bot) ?_
  refine ruL_c (n := 9) (n2 := 10) rfl (ru_bot) ?_
  refine ruL_c (n := 10) (n2 := 11) rfl (ru_iload_n (k := 1) hx hb dX1_sortCues_10) ?_
  refine ruL_c (n := 11) (n2 := 12) rfl (ru_istore_n (k := 2) hx hb dX1_sortCues_11) ?_
  refine ruL_c (n := 12) (n2 := 13) rfl (ru_iload_n (k := 2) hx hb dX1_sortCues_12) ?_
  refine ruL_c (n := 13) (n2 := 14) rfl (ru_ifle hx hb dX1_sortCues_13 (by decide)) ?_
  refine ruL_c (n := 14) (n2 := 15) rfl (ru_bot) ?_
  refine ruL_c (n := 15) (n2 := 16) rfl (ru_bot) ?_
  refine ruL_c (n := 16) (n2 := 17) rfl (ru_aload_n (k := 0) hx hb dX1_sortCues_16) ?_
  refine ruL_c (n := 17) (n2 := 18) rfl (ru_iload_n (k := 1) hx hb dX1_sortCues_17) ?_
  refine ruL_c (n := 18) (n2 := 19) rfl (ru_aload_n (k := 0) hx hb dX1_sortCues_18) ?_
  refine ruL_c (n := 19) (n2 := 20) rfl (ru_getR (own := RX1) (j := 5) (T := TX1) hx hb hown hK hts hin1 (by decide) rfl rfl (by decide) rfl hl30 dX1_sortCues_19) ?_
  refine ruL_c (n := 20) (n2 := 21) rfl (ru_bot) ?_
  refine ruL_c (n := 21) (n2 := 22) rfl (ru_bot) ?_
  refine ruL_c (n := 22) (n2 := 23) rfl (ru_iload_n (k := 2) hx hb dX1_sortCues_22) ?_
  refine ruL_c (n := 23) (n2 := 24) rfl (ru_iconst hx hb dX1_sortCues_23 rfl) ?_
  refine ruL_c (n := 24) (n2 := 25) rfl (ru_isub hx hb dX1_sortCues_24) ?_
  refine ruL_c (n := 25) (n2 := 26) rfl (ru_iald hx hb hK dX1_sortCues_25) ?_
  refine ruL_c (n := 26) (n2 := 27) rfl (ru_callV hx hb hml hown hts hK hN (by decide) rfl (c_X1_comesAhead l D cI cZ cA cL ad hi) (cwV 2 hts gX1_sortCues_X1_comesAhead rfl rfl rfl (by decide +kernel) ⟨Nat.le_of_ble_eq_true rfl, Nat.le_of_ble_eq_true rfl⟩) dX1_sortCues_26 ⟨Nat.zero_le _, Nat.zero_le _⟩) ?_
  refine ruL_c (n := 27) (n2 := 28) rfl (ru_bot) ?_
  refine ruL_c (n := 28) (n2 := 29) rfl (ru_bot) ?_
  refine ruL_c (n := 29) (n2 := 30) rfl (ru_ifeq hx hb dX1_sortCues_29 (by decide)) ?_
  refine ruL_c (n := 30) (n2 := 31) rfl (ru_bot) ?_
  refine ruL_c (n := 31) (n2 := 32) rfl (ru_bot) ?_
  refine ruL_c (n := 32) (n2 := 33) rfl (ru_aload_n (k := 0) hx hb dX1_sortCues_32) ?_
  refine ruL_c (n := 33) (n2 := 34) rfl (ru_getR (own := RX1) (j := 5) (T := TX1) hx hb hown hK hts hin1 (by decide) rfl rfl (by decide) rfl hl30 dX1_sortCues_33) ?_
  refine ruL_c (n := 34) (n2 := 35) rfl (ru_bot) ?_
  refine ruL_c (n := 35) (n2 := 36) rfl (ru_bot) ?_
  refine ruL_c (n := 36) (n2 := 37) rfl (ru_iload_n (k := 2) hx hb dX1_sortCues_36) ?_
  refine ruL_c (n := 37) (n2 := 38) rfl (ru_aload_n (k := 0) hx hb dX1_sortCues_37) ?_
  refine ruL_c (n := 38) (n2 := 39) rfl (ru_getR (own := RX1) (j := 5) (T := TX1) hx hb hown hK hts hin1 (by decide) rfl rfl (by decide) rfl hl30 dX1_sortCues_38) ?_
  refine ruL_c (n := 39) (n2 := 40) rfl (ru_bot) ?_
  refine ruL_c (n := 40) (n2 := 41) rfl (ru_bot) ?_
  refine ruL_c (n := 41) (n2 := 42) rfl (ru_iload_n (k := 2) hx hb dX1_sortCues_41) ?_
  refine ruL_c (n := 42) (n2 := 43) rfl (ru_iconst hx hb dX1_sortCues_42 rfl) ?_
  refine ruL_c (n := 43) (n2 := 44) rfl (ru_isub hx hb dX1_sortCues_43) ?_
  refine ruL_c (n := 44) (n2 := 45) rfl (ru_iald hx hb hK dX1_sortCues_44) ?_
  refine ruL_c (n := 45) (n2 := 46) rfl (ru_iast hx hb hK hi dX1_sortCues_45) ?_
  refine ruL_c (n := 46) (n2 := 47) rfl (ru_iinc hx hb dX1_sortCues_46 rfl) ?_
  refine ruL_c (n := 47) (n2 := 48) rfl (ru_bot) ?_
  refine ruL_c (n := 48) (n2 := 49) rfl (ru_bot) ?_
  refine ruL_c (n := 49) (n2 := 50) rfl (ru_goto hx hb dX1_sortCues_49 (by decide)) ?_
  refine ruL_c (n := 50) (n2 := 51) rfl (ru_bot) ?_
  refine ruL_c (n := 51) (n2 := 52) rfl (ru_bot) ?_
  refine ruL_c (n := 52) (n2 := 53) rfl (ru_aload_n (k := 0) hx hb dX1_sortCues_52) ?_
  refine ruL_c (n := 53) (n2 := 54) rfl (ru_getR (own := RX1) (j := 5) (T := TX1) hx hb hown hK hts hin1 (by decide) rfl rfl (by decide) rfl hl30 dX1_sortCues_53) ?_
  refine ruL_c (n := 54) (n2 := 55) rfl (ru_bot) ?_
  refine ruL_c (n := 55) (n2 := 56) rfl (ru_bot) ?_
  refine ruL_c (n := 56) (n2 := 57) rfl (ru_iload_n (k := 2) hx hb dX1_sortCues_56) ?_
  refine ruL_c (n := 57) (n2 := 58) rfl (ru_iload_n (k := 1) hx hb dX1_sortCues_57) ?_
  refine ruL_c (n := 58) (n2 := 59) rfl (ru_iast hx hb hK hi dX1_sortCues_58) ?_
  refine ruL_c (n := 59) (n2 := 60) rfl (ru_iinc hx hb dX1_sortCues_59 rfl) ?_
  refine ruL_c (n := 60) (n2 := 61) rfl (ru_bot) ?_
  refine ruL_c (n := 61) (n2 := 62) rfl (ru_bot) ?_
  refine ruL_c (n := 62) (n2 := 63) rfl (ru_goto hx hb dX1_sortCues_62 (by decide)) ?_
  refine ruL_c (n := 63) (n2 := 64) rfl (ru_bot) ?_
  refine ruL_c (n := 64) (n2 := 65) rfl (ru_bot) ?_
  refine ruL_c (n := 65) (n2 := 66) rfl (ru_vret hx hb hK hr hlocks dX1_sortCues_65) ?_
  exact trivial

-- CueTour$CueList.setTimes
def l_X1_setTimes_2 : Nat → Int32 → aM → (Int32 → aM → Option (Int32 × aM)) → Option (Int32 × aM)
  | 0, _, _, _ => none
  | n + 1, v1, σ2, k => if (σ2 3 4) ≤ v1 then k v1 σ2 else if inb v1 20 = true then if inb (σ2 11 (ix v1)) 30 = true then if (σ2 8 (ix (σ2 11 (ix v1)))) = 0 then bnd (f_X4_secondsAhead (σ2 11 (ix v1)) σ2) (fun r7 σ8 => if inb v1 20 = true then if inb v1 20 = true then l_X1_setTimes_2 n (v1 + 1) (mput σ8 15 (ix v1) (r7 + (σ8 12 (ix v1)))) k else none else none) else if inb v1 20 = true then l_X1_setTimes_2 n (v1 + 1) (mput σ2 15 (ix v1) ((-1))) k else none else none else none
def f_X1_setTimes (σ : aM) : Option (Int32 × aM) := l_X1_setTimes_2 lf 0 σ (fun v13 σ14 => some (0, σ14))
def F_X1_setTimes : aF := fun As σ => match As with
  | [.ref 1] => f_X1_setTimes σ
  | _ => none
def T_X1_setTimes (Qa : Int32 → aM → Prop) : List aI := [I_const 0 1, I_istore 2 1, I_iload 2 1, I_aload 0 1, I_getI 3 4, I_bot, I_bot, I_icmp (fun x y => y ≤ x) 54, I_bot, I_bot, I_aload 0 1, I_getR 3 11, I_bot, I_bot, I_iload 2 1, I_iald, I_istore 3 1, I_aload 0 1, I_getR 3 15, I_bot, I_bot, I_iload 2 1, I_aload 1 1, I_getR 1 8, I_bot, I_bot, I_iload 3 1, I_zald, I_if (fun x => x = 0) 35, I_bot, I_bot, I_const (-1) 1, I_goto 47, I_bot, I_bot, I_aload 1 1, I_iload 3 1, I_callV 1 1 F_X4_secondsAhead, I_bot, I_bot, I_aload 0 1, I_getR 3 12, I_bot, I_bot, I_iload 2 1, I_iald, I_bin fun x y => x + y, I_iast, I_iinc 2 (1), I_bot, I_bot, I_goto 2, I_bot, I_bot, I_vret Qa]
set_option maxHeartbeats 4000000 in
set_option maxRecDepth 100000 in
theorem t_X1_setTimes_2 {Qa : Int32 → aM → Prop} {K : aS → Prop} (hw : ∀ k x, wp (T_X1_setTimes Qa) k K x → K x) (hf : ∀ pc L i st σ, K (pc, L.set i .null, st, σ) → K (pc, L, st, σ)) (y : Int32 × aM) (k : Int32 → aM → Option (Int32 × aM)) :
    ∀ (n : Nat) (v1 : Int32) (σ2 : aM), l_X1_setTimes_2 n v1 σ2 k = some y → (∀ (w0 : Int32) (τ : aM), k w0 τ = some y → K (54, [.ref 3, .ref 1, .int w0, .null], [], τ)) → K (2, [.ref 3, .ref 1, .int v1, .null], [], σ2) := by
  intro n
  induction n with
  | zero =>
    intro v1 σ2 h hk
    exact absurd h (by simp [l_X1_setTimes_2])
  | succ n ih =>
    intro v1 σ2 h hk
    unfold l_X1_setTimes_2 at h
    rcases ite_cases h with ⟨c3, h⟩ | ⟨c3, h⟩
    · refine hw 4 _ ?_
      show (((σ2 3 4) ≤ v1) → K (54, [.ref 3, .ref 1, .int v1, .null], [], σ2)) ∧ (¬ ((σ2 3 4) ≤ v1) → K (10, [.ref 3, .ref 1, .int v1, .null], [], σ2))
      refine ⟨fun _ => ?_, fun q => absurd c3 q⟩
      exact hk v1 σ2 h
    · refine hw 4 _ ?_
      show (((σ2 3 4) ≤ v1) → K (54, [.ref 3, .ref 1, .int v1, .null], [], σ2)) ∧ (¬ ((σ2 3 4) ≤ v1) → K (10, [.ref 3, .ref 1, .int v1, .null], [], σ2))
      refine ⟨fun q => absurd q c3, fun _ => ?_⟩
      obtain ⟨g4, h⟩ := ite_some h
      obtain ⟨g5, h⟩ := ite_some h
      rcases ite_cases h with ⟨c6, h⟩ | ⟨c6, h⟩
      · refine hw 13 _ ?_
        show kd 11 = 1 ∧ (inb v1 20 = true ∧ (kd 8 = 2 ∧ (inb (σ2 11 (ix v1)) 30 = true ∧ ((((σ2 8 (ix (σ2 11 (ix v1)))) = 0) → K (35, [.ref 3, .ref 1, .int v1, .int (σ2 11 (ix v1))], [.int v1, .ref 15], σ2)) ∧ (¬ ((σ2 8 (ix (σ2 11 (ix v1)))) = 0) → K (31, [.ref 3, .ref 1, .int v1, .int (σ2 11 (ix v1))], [.int v1, .ref 15], σ2))))))
        refine ⟨rfl, g4, rfl, g5, ⟨fun _ => ?_, fun q => absurd c6 q⟩⟩
        obtain ⟨r7, σ8, e9, h⟩ := bnd_some h
        refine hw 3 _ ?_
        show ∃ r7 σ8, f_X4_secondsAhead (σ2 11 (ix v1)) σ2 = some (r7, σ8) ∧ K (40, [.ref 3, .ref 1, .int v1, .int (σ2 11 (ix v1))], [.int r7, .int v1, .ref 15], σ8)
        refine ⟨r7, σ8, e9, ?_⟩
        obtain ⟨g10, h⟩ := ite_some h
        obtain ⟨g11, h⟩ := ite_some h
        refine hw 8 _ ?_
        show kd 12 = 1 ∧ (inb v1 20 = true ∧ (kd 15 = 1 ∧ (inb v1 20 = true ∧ (K (2, [.ref 3, .ref 1, .int (v1 + 1), .int (σ2 11 (ix v1))], [], mput σ8 15 (ix v1) (r7 + (σ8 12 (ix v1))))))))
        refine ⟨rfl, g10, rfl, g11, ?_⟩
        refine hf _ _ 3 _ _ ?_
        show K (2, [.ref 3, .ref 1, .int (v1 + 1), .null], [], mput σ8 15 (ix v1) (r7 + (σ8 12 (ix v1))))
        exact ih (v1 + 1) (mput σ8 15 (ix v1) (r7 + (σ8 12 (ix v1)))) h hk
      · refine hw 13 _ ?_
        show kd 11 = 1 ∧ (inb v1 20 = true ∧ (kd 8 = 2 ∧ (inb (σ2 11 (ix v1)) 30 = true ∧ ((((σ2 8 (ix (σ2 11 (ix v1)))) = 0) → K (35, [.ref 3, .ref 1, .int v1, .int (σ2 11 (ix v1))], [.int v1, .ref 15], σ2)) ∧ (¬ ((σ2 8 (ix (σ2 11 (ix v1)))) = 0) → K (31, [.ref 3, .ref 1, .int v1, .int (σ2 11 (ix v1))], [.int v1, .ref 15], σ2))))))
        refine ⟨rfl, g4, rfl, g5, ⟨fun q => absurd q c6, fun _ => ?_⟩⟩
        obtain ⟨g12, h⟩ := ite_some h
        refine hw 5 _ ?_
        show kd 15 = 1 ∧ (inb v1 20 = true ∧ (K (2, [.ref 3, .ref 1, .int (v1 + 1), .int (σ2 11 (ix v1))], [], mput σ2 15 (ix v1) ((-1)))))
        refine ⟨rfl, g12, ?_⟩
        refine hf _ _ 3 _ _ ?_
        show K (2, [.ref 3, .ref 1, .int (v1 + 1), .null], [], mput σ2 15 (ix v1) ((-1)))
        exact ih (v1 + 1) (mput σ2 15 (ix v1) ((-1))) h hk

set_option maxHeartbeats 4000000 in
set_option maxRecDepth 100000 in
theorem s_X1_setTimes : runs T_X1_setTimes [.ref 3] 4 F_X1_setTimes := by
  intro Qa K hw hf As σ r σ' h hQ
  unfold F_X1_setTimes at h
  split at h
  · unfold f_X1_setTimes at h
    have hQ : Qa (r, σ').1 (r, σ').2 := hQ
    generalize (r, σ') = y at h hQ
    show K (0, [.ref 3, .ref 1, .null, .null], [], σ)
    refine hw 2 _ ?_
    show K (2, [.ref 3, .ref 1, .int 0, .null], [], σ)
    refine t_X1_setTimes_2 hw hf _ _ lf 0 σ h (fun v13 σ14 h => ?_)
    show K (54, [.ref 3, .ref 1, .int v13, .null], [], σ14)
    obtain rfl := Option.some.inj h
    refine hw 1 _ ?_
    show Qa 0 σ14
    refine hQ
  · cases h
theorem h_X1_setTimes : shp [.ref 3] 4 F_X1_setTimes := by
  intro As σ r σ' h
  unfold F_X1_setTimes at h
  split at h
  · exact ⟨by simp [Value.category], Nat.le_of_ble_eq_true rfl⟩
  · cases h
set_option maxHeartbeats 4000000 in
set_option maxRecDepth 100000 in
theorem c_X1_setTimes (l : Launch) (D : va_G) (cI cZ cA cL : ClassId) (ad : Nat → Nat) (hi : adI ad) : CtV l yX1_setTimes wsX1_setTimes { frames := 1, cells := 0, slots := 0, locals := 23 } D cI cZ cA cL ad [.ref 3] F_X1_setTimes := by
  refine mk_V [.ref 3] F_X1_setTimes T_X1_setTimes (by decide +kernel) rfl ?_ h_X1_setTimes s_X1_setTimes
  intro p e s m args below meth c Qa ⟨hx, hb, hml, hown, hts, hr, hlocks, hK, hN⟩
  have hin1 : ∀ w ∈ u_ws RX1 TX1 11, w ∈ wsX1_setTimes := by decide +kernel
  have hl26 : (Cond.fieldLink RX1 26 RX1 (TX1 4).2.1 (TX1 4).2.2.1) ∈ wsX1_setTimes := by decide +kernel
  have hl9 : (Cond.fieldLink RX1 9 RX1 (TX1 0).2.1 (TX1 0).2.2.1) ∈ wsX1_setTimes := by decide +kernel
  have hl33 : (Cond.fieldLink RX1 33 RX1 (TX1 6).2.1 (TX1 6).2.2.1) ∈ wsX1_setTimes := by decide +kernel
  have hin4 : ∀ w ∈ u_ws RX4 TX4 4, w ∈ wsX1_setTimes := by decide +kernel
  have hl65 : (Cond.fieldLinkNest RX1 65 RX4 (TX4 1).2.1 (TX4 1).2.2.1 "CueTour") ∈ nwL := by decide +kernel
  have hl15 : (Cond.fieldLink RX1 15 RX1 (TX1 1).2.1 (TX1 1).2.2.1) ∈ wsX1_setTimes := by decide +kernel
  refine ruL_c (n := 0) (n2 := 1) rfl (ru_iconst hx hb dX1_setTimes_0 rfl) ?_
  refine ruL_c (n := 1) (n2 := 2) rfl (ru_istore_n (k := 2) hx hb dX1_setTimes_1) ?_
  refine ruL_c (n := 2) (n2 := 3) rfl (ru_iload_n (k := 2) hx hb dX1_setTimes_2) ?_
  refine ruL_c (n := 3) (n2 := 4) rfl (ru_aload_n (k := 0) hx hb dX1_setTimes_3) ?_
  refine ruL_c (n := 4) (n2 := 5) rfl (ru_getI (own := RX1) (j := 4) (T := TX1) hx hb hown hK hts hin1 (by decide) rfl rfl (by decide) rfl hl26 dX1_setTimes_4) ?_
  refine ruL_c (n := 5) (n2 := 6) rfl (ru_bot) ?_
  refine ruL_c (n := 6) (n2 := 7) rfl (ru_bot) ?_
  refine ruL_c (n := 7) (n2 := 8) rfl (ru_icmpge hx hb dX1_setTimes_7 (by decide)) ?_
  refine ruL_c (n := 8) (n2 := 9) rfl (ru_bot) ?_
  refine ruL_c (n := 9) (n2 := 10) rfl (ru_bot) ?_
  refine ruL_c (n := 10) (n2 := 11) rfl (ru_aload_n (k := 0) hx hb dX1_setTimes_10) ?_
  refine ruL_c (n := 11) (n2 := 12) rfl (ru_getR (own := RX1) (j := 0) (T := TX1) hx hb hown hK hts hin1 (by decide) rfl rfl (by decide) rfl hl9 dX1_setTimes_11) ?_
  refine ruL_c (n := 12) (n2 := 13) rfl (ru_bot) ?_
  refine ruL_c (n := 13) (n2 := 14) rfl (ru_bot) ?_
  refine ruL_c (n := 14) (n2 := 15) rfl (ru_iload_n (k := 2) hx hb dX1_setTimes_14) ?_
  refine ruL_c (n := 15) (n2 := 16) rfl (ru_iald hx hb hK dX1_setTimes_15) ?_
  refine ruL_c (n := 16) (n2 := 17) rfl (ru_istore_n (k := 3) hx hb dX1_setTimes_16) ?_
  refine ruL_c (n := 17) (n2 := 18) rfl (ru_aload_n (k := 0) hx hb dX1_setTimes_17) ?_
  refine ruL_c (n := 18) (n2 := 19) rfl (ru_getR (own := RX1) (j := 6) (T := TX1) hx hb hown hK hts hin1 (by decide) rfl rfl (by decide) rfl hl33 dX1_setTimes_18) ?_
  refine ruL_c (n := 19) (n2 := 20) rfl (ru_bot) ?_
  refine ruL_c (n := 20) (n2 := 21) rfl (ru_bot) ?_
  refine ruL_c (n := 21) (n2 := 22) rfl (ru_iload_n (k := 2) hx hb dX1_setTimes_21) ?_
  refine ruL_c (n := 22) (n2 := 23) rfl (ru_aload_n (k := 1) hx hb dX1_setTimes_22) ?_
  refine ruL_c (n := 23) (n2 := 24) rfl (ru_getRN (own := RX1) (j := 1) (T := TX4) hx hb hown hK hN hts hin4 (by decide) rfl rfl (by decide) rfl hl65 dX1_setTimes_23) ?_
  refine ruL_c (n := 24) (n2 := 25) rfl (ru_bot) ?_
  refine ruL_c (n := 25) (n2 := 26) rfl (ru_bot) ?_
  refine ruL_c (n := 26) (n2 := 27) rfl (ru_iload_n (k := 3) hx hb dX1_setTimes_26) ?_
  refine ruL_c (n := 27) (n2 := 28) rfl (ru_zald hx hb hK dX1_setTimes_27) ?_
  refine ruL_c (n := 28) (n2 := 29) rfl (ru_ifeq hx hb dX1_setTimes_28 (by decide)) ?_
  refine ruL_c (n := 29) (n2 := 30) rfl (ru_bot) ?_
  refine ruL_c (n := 30) (n2 := 31) rfl (ru_bot) ?_
  refine ruL_c (n := 31) (n2 := 32) rfl (ru_iconst hx hb dX1_setTimes_31 rfl) ?_
  refine ruL_c (n := 32) (n2 := 33) rfl (ru_goto hx hb dX1_setTimes_32 (by decide)) ?_
  refine ruL_c (n := 33) (n2 := 34) rfl (ru_bot) ?_
  refine ruL_c (n := 34) (n2 := 35) rfl (ru_bot) ?_
  refine ruL_c (n := 35) (n2 := 36) rfl (ru_aload_n (k := 1) hx hb dX1_setTimes_35) ?_
  refine ruL_c (n := 36) (n2 := 37) rfl (ru_iload_n (k := 3) hx hb dX1_setTimes_36) ?_
  refine ruL_c (n := 37) (n2 := 38) rfl (ru_callV hx hb hml hown hts hK hN (by decide) rfl (c_X4_secondsAhead l D cI cZ cA cL ad hi) (cwV 1 hts gX1_setTimes_X4_secondsAhead rfl rfl rfl (by decide +kernel) ⟨Nat.le_of_ble_eq_true rfl, Nat.le_of_ble_eq_true rfl⟩) dX1_setTimes_37 ⟨Nat.zero_le _, Nat.zero_le _⟩) ?_
  refine ruL_c (n := 38) (n2 := 39) rfl (ru_bot) ?_
  refine ruL_c (n := 39) (n2 := 40) rfl (ru_bot) ?_
  refine ruL_c (n := 40) (n2 := 41) rfl (ru_aload_n (k := 0) hx hb dX1_setTimes_40) ?_
  refine ruL_c (n := 41) (n2 := 42) rfl (ru_getR (own := RX1) (j := 1) (T := TX1) hx hb hown hK hts hin1 (by decide) rfl rfl (by decide) rfl hl15 dX1_setTimes_41) ?_
  refine ruL_c (n := 42) (n2 := 43) rfl (ru_bot) ?_
  refine ruL_c (n := 43) (n2 := 44) rfl (ru_bot) ?_
  refine ruL_c (n := 44) (n2 := 45) rfl (ru_iload_n (k := 2) hx hb dX1_setTimes_44) ?_
  refine ruL_c (n := 45) (n2 := 46) rfl (ru_iald hx hb hK dX1_setTimes_45) ?_
  refine ruL_c (n := 46) (n2 := 47) rfl (ru_iadd hx hb dX1_setTimes_46) ?_
  refine ruL_c (n := 47) (n2 := 48) rfl (ru_iast hx hb hK hi dX1_setTimes_47) ?_
  refine ruL_c (n := 48) (n2 := 49) rfl (ru_iinc hx hb dX1_setTimes_48 rfl) ?_
  refine ruL_c (n := 49) (n2 := 50) rfl (ru_bot) ?_
  refine ruL_c (n := 50) (n2 := 51) rfl (ru_bot) ?_
  refine ruL_c (n := 51) (n2 := 52) rfl (ru_goto hx hb dX1_setTimes_51 (by decide)) ?_
  refine ruL_c (n := 52) (n2 := 53) rfl (ru_bot) ?_
  refine ruL_c (n := 53) (n2 := 54) rfl (ru_bot) ?_
  refine ruL_c (n := 54) (n2 := 55) rfl (ru_vret hx hb hK hr hlocks dX1_setTimes_54) ?_
  exact trivial

-- CueTour$CueList.forget
def l_X1_forget_2 (x1 : Int32) : Nat → Int32 → aM → (Int32 → aM → Option (Int32 × aM)) → Option (Int32 × aM)
  | 0, _, _, _ => none
  | n + 1, v2, σ3, k => if 10 ≤ v2 then k v2 σ3 else if inb x1 20 = true then if inb v2 10 = true then l_X1_forget_2 x1 n (v2 + 1) (mput σ3 (108 + ix x1) (ix v2) ((-1))) k else none else none
def f_X1_forget (p0 : Int32) (σ : aM) : Option (Int32 × aM) := l_X1_forget_2 p0 lf 0 σ (fun v7 σ8 => some (0, σ8))
def F_X1_forget : aF := fun As σ => match As with
  | [.int p0] => f_X1_forget p0 σ
  | _ => none
def T_X1_forget (Qa : Int32 → aM → Prop) : List aI := [I_const 0 1, I_istore 2 1, I_iload 2 1, I_const (10) 2, I_bot, I_icmp (fun x y => y ≤ x) 23, I_bot, I_bot, I_aload 0 1, I_getR 3 55, I_bot, I_bot, I_iload 1 1, I_aald, I_iload 2 1, I_const (-1) 1, I_iast, I_iinc 2 (1), I_bot, I_bot, I_goto 2, I_bot, I_bot, I_vret Qa]
set_option maxHeartbeats 4000000 in
set_option maxRecDepth 100000 in
theorem t_X1_forget_2 {Qa : Int32 → aM → Prop} {K : aS → Prop} (hw : ∀ k x, wp (T_X1_forget Qa) k K x → K x) (hf : ∀ pc L i st σ, K (pc, L.set i .null, st, σ) → K (pc, L, st, σ)) (x1 : Int32) (y : Int32 × aM) (k : Int32 → aM → Option (Int32 × aM)) :
    ∀ (n : Nat) (v2 : Int32) (σ3 : aM), l_X1_forget_2 x1 n v2 σ3 k = some y → (∀ (w0 : Int32) (τ : aM), k w0 τ = some y → K (23, [.ref 3, .int x1, .int w0], [], τ)) → K (2, [.ref 3, .int x1, .int v2], [], σ3) := by
  intro n
  induction n with
  | zero =>
    intro v2 σ3 h hk
    exact absurd h (by simp [l_X1_forget_2])
  | succ n ih =>
    intro v2 σ3 h hk
    unfold l_X1_forget_2 at h
    rcases ite_cases h with ⟨c4, h⟩ | ⟨c4, h⟩
    · refine hw 3 _ ?_
      show ((10 ≤ v2) → K (23, [.ref 3, .int x1, .int v2], [], σ3)) ∧ (¬ (10 ≤ v2) → K (8, [.ref 3, .int x1, .int v2], [], σ3))
      refine ⟨fun _ => ?_, fun q => absurd c4 q⟩
      exact hk v2 σ3 h
    · refine hw 3 _ ?_
      show ((10 ≤ v2) → K (23, [.ref 3, .int x1, .int v2], [], σ3)) ∧ (¬ (10 ≤ v2) → K (8, [.ref 3, .int x1, .int v2], [], σ3))
      refine ⟨fun q => absurd q c4, fun _ => ?_⟩
      obtain ⟨g5, h⟩ := ite_some h
      obtain ⟨g6, h⟩ := ite_some h
      refine hw 9 _ ?_
      show kd 55 = 3 ∧ (inb x1 20 = true ∧ (kd (108 + ix x1) = 1 ∧ (inb v2 (ln (108 + ix x1)) = true ∧ (K (2, [.ref 3, .int x1, .int (v2 + 1)], [], mput σ3 (108 + ix x1) (ix v2) ((-1)))))))
      refine ⟨rfl, g5, (row55_kd g5), (by rw [row55_ln g5]; exact g6), ?_⟩
      exact ih (v2 + 1) (mput σ3 (108 + ix x1) (ix v2) ((-1))) h hk

set_option maxHeartbeats 4000000 in
set_option maxRecDepth 100000 in
theorem s_X1_forget : runs T_X1_forget [.ref 3] 3 F_X1_forget := by
  intro Qa K hw hf As σ r σ' h hQ
  unfold F_X1_forget at h
  split at h
  · rename_i p0
    unfold f_X1_forget at h
    have hQ : Qa (r, σ').1 (r, σ').2 := hQ
    generalize (r, σ') = y at h hQ
    show K (0, [.ref 3, .int p0, .null], [], σ)
    refine hw 2 _ ?_
    show K (2, [.ref 3, .int p0, .int 0], [], σ)
    refine t_X1_forget_2 hw hf p0 _ _ lf 0 σ h (fun v7 σ8 h => ?_)
    show K (23, [.ref 3, .int p0, .int v7], [], σ8)
    obtain rfl := Option.some.inj h
    refine hw 1 _ ?_
    show Qa 0 σ8
    refine hQ
  · cases h
theorem h_X1_forget : shp [.ref 3] 3 F_X1_forget := by
  intro As σ r σ' h
  unfold F_X1_forget at h
  split at h
  · exact ⟨by simp [Value.category], Nat.le_of_ble_eq_true rfl⟩
  · cases h
set_option maxHeartbeats 4000000 in
set_option maxRecDepth 100000 in
theorem c_X1_forget (l : Launch) (D : va_G) (cI cZ cA cL : ClassId) (ad : Nat → Nat) (hi : adI ad) : CtV l yX1_forget wsX1_forget { frames := 0, cells := 0, slots := 0, locals := 0 } D cI cZ cA cL ad [.ref 3] F_X1_forget := by
  refine mk_V [.ref 3] F_X1_forget T_X1_forget (by decide +kernel) rfl ?_ h_X1_forget s_X1_forget
  intro p e s m args below meth c Qa ⟨hx, hb, hml, hown, hts, hr, hlocks, hK, hN⟩
  have hin1 : ∀ w ∈ u_ws RX1 TX1 11, w ∈ wsX1_forget := by decide +kernel
  have hl39 : (Cond.fieldLink RX1 39 RX1 (TX1 8).2.1 (TX1 8).2.2.1) ∈ wsX1_forget := by decide +kernel
  refine ruL_c (n := 0) (n2 := 1) rfl (ru_iconst hx hb dX1_forget_0 rfl) ?_
  refine ruL_c (n := 1) (n2 := 2) rfl (ru_istore_n (k := 2) hx hb dX1_forget_1) ?_
  refine ruL_c (n := 2) (n2 := 3) rfl (ru_iload_n (k := 2) hx hb dX1_forget_2) ?_
  refine ruL_c (n := 3) (n2 := 4) rfl (ru_bipush hx hb dX1_forget_3 rfl) ?_
  refine ruL_c (n := 4) (n2 := 5) rfl (ru_bot) ?_
  refine ruL_c (n := 5) (n2 := 6) rfl (ru_icmpge hx hb dX1_forget_5 (by decide)) ?_
  refine ruL_c (n := 6) (n2 := 7) rfl (ru_bot) ?_
  refine ruL_c (n := 7) (n2 := 8) rfl (ru_bot) ?_
  refine ruL_c (n := 8) (n2 := 9) rfl (ru_aload_n (k := 0) hx hb dX1_forget_8) ?_
  refine ruL_c (n := 9) (n2 := 10) rfl (ru_getR (own := RX1) (j := 8) (T := TX1) hx hb hown hK hts hin1 (by decide) rfl rfl (by decide) rfl hl39 dX1_forget_9) ?_
  refine ruL_c (n := 10) (n2 := 11) rfl (ru_bot) ?_
  refine ruL_c (n := 11) (n2 := 12) rfl (ru_bot) ?_
  refine ruL_c (n := 12) (n2 := 13) rfl (ru_iload_n (k := 1) hx hb dX1_forget_12) ?_
  refine ruL_c (n := 13) (n2 := 14) rfl (ru_aald hx hb hK dX1_forget_13) ?_
  refine ruL_c (n := 14) (n2 := 15) rfl (ru_iload_n (k := 2) hx hb dX1_forget_14) ?_
  refine ruL_c (n := 15) (n2 := 16) rfl (ru_iconst hx hb dX1_forget_15 rfl) ?_
  refine ruL_c (n := 16) (n2 := 17) rfl (ru_iast hx hb hK hi dX1_forget_16) ?_
  refine ruL_c (n := 17) (n2 := 18) rfl (ru_iinc hx hb dX1_forget_17 rfl) ?_
  refine ruL_c (n := 18) (n2 := 19) rfl (ru_bot) ?_
  refine ruL_c (n := 19) (n2 := 20) rfl (ru_bot) ?_
  refine ruL_c (n := 20) (n2 := 21) rfl (ru_goto hx hb dX1_forget_20 (by decide)) ?_
  refine ruL_c (n := 21) (n2 := 22) rfl (ru_bot) ?_
  refine ruL_c (n := 22) (n2 := 23) rfl (ru_bot) ?_
  refine ruL_c (n := 23) (n2 := 24) rfl (ru_vret hx hb hK hr hlocks dX1_forget_23) ?_
  exact trivial

-- CueTour$CueList.fillIn
def l_X1_fillIn_2 (x1 : Int32) (x2 : Int32) : Nat → Int32 → aM → (Int32 → aM → Option (Int32 × aM)) → Option (Int32 × aM)
  | 0, _, _, _ => none
  | n + 1, v3, σ4, k => if 10 ≤ v3 then k v3 σ4 else if inb x1 20 = true then if inb v3 10 = true then if ¬ (σ4 (108 + ix x1) (ix v3)) = ((-1)) then l_X1_fillIn_2 x1 x2 n (v3 + 1) σ4 k else if inb x1 20 = true then if inb x2 20 = true then if inb v3 10 = true then if inb v3 10 = true then l_X1_fillIn_2 x1 x2 n (v3 + 1) (mput σ4 (108 + ix x1) (ix v3) (σ4 (88 + ix x2) (ix v3))) k else none else none else none else none else none else none
def f_X1_fillIn (p0 : Int32) (p1 : Int32) (σ : aM) : Option (Int32 × aM) := l_X1_fillIn_2 p0 p1 lf 0 σ (fun v13 σ14 => some (0, σ14))
def F_X1_fillIn : aF := fun As σ => match As with
  | [.int p0, .int p1] => f_X1_fillIn p0 p1 σ
  | _ => none
def T_X1_fillIn (Qa : Int32 → aM → Prop) : List aI := [I_const 0 1, I_istore 3 1, I_iload 3 1, I_const (10) 2, I_bot, I_icmp (fun x y => y ≤ x) 42, I_bot, I_bot, I_aload 0 1, I_getR 3 55, I_bot, I_bot, I_iload 1 1, I_aald, I_iload 3 1, I_iald, I_const (-1) 1, I_icmp (fun x y => ¬ x = y) 36, I_bot, I_bot, I_aload 0 1, I_getR 3 55, I_bot, I_bot, I_iload 1 1, I_aald, I_iload 3 1, I_aload 0 1, I_getR 3 54, I_bot, I_bot, I_iload 2 1, I_aald, I_iload 3 1, I_iald, I_iast, I_iinc 3 (1), I_bot, I_bot, I_goto 2, I_bot, I_bot, I_vret Qa]
set_option maxHeartbeats 4000000 in
set_option maxRecDepth 100000 in
theorem t_X1_fillIn_2 {Qa : Int32 → aM → Prop} {K : aS → Prop} (hw : ∀ k x, wp (T_X1_fillIn Qa) k K x → K x) (hf : ∀ pc L i st σ, K (pc, L.set i .null, st, σ) → K (pc, L, st, σ)) (x1 : Int32) (x2 : Int32) (y : Int32 × aM) (k : Int32 → aM → Option (Int32 × aM)) :
    ∀ (n : Nat) (v3 : Int32) (σ4 : aM), l_X1_fillIn_2 x1 x2 n v3 σ4 k = some y → (∀ (w0 : Int32) (τ : aM), k w0 τ = some y → K (42, [.ref 3, .int x1, .int x2, .int w0], [], τ)) → K (2, [.ref 3, .int x1, .int x2, .int v3], [], σ4) := by
  intro n
  induction n with
  | zero =>
    intro v3 σ4 h hk
    exact absurd h (by simp [l_X1_fillIn_2])
  | succ n ih =>
    intro v3 σ4 h hk
    unfold l_X1_fillIn_2 at h
    rcases ite_cases h with ⟨c5, h⟩ | ⟨c5, h⟩
    · refine hw 3 _ ?_
      show ((10 ≤ v3) → K (42, [.ref 3, .int x1, .int x2, .int v3], [], σ4)) ∧ (¬ (10 ≤ v3) → K (8, [.ref 3, .int x1, .int x2, .int v3], [], σ4))
      refine ⟨fun _ => ?_, fun q => absurd c5 q⟩
      exact hk v3 σ4 h
    · refine hw 3 _ ?_
      show ((10 ≤ v3) → K (42, [.ref 3, .int x1, .int x2, .int v3], [], σ4)) ∧ (¬ (10 ≤ v3) → K (8, [.ref 3, .int x1, .int x2, .int v3], [], σ4))
      refine ⟨fun q => absurd q c5, fun _ => ?_⟩
      obtain ⟨g6, h⟩ := ite_some h
      obtain ⟨g7, h⟩ := ite_some h
      rcases ite_cases h with ⟨c8, h⟩ | ⟨c8, h⟩
      · refine hw 8 _ ?_
        show kd 55 = 3 ∧ (inb x1 20 = true ∧ (kd (108 + ix x1) = 1 ∧ (inb v3 (ln (108 + ix x1)) = true ∧ (((¬ (σ4 (108 + ix x1) (ix v3)) = ((-1))) → K (36, [.ref 3, .int x1, .int x2, .int v3], [], σ4)) ∧ (¬ (¬ (σ4 (108 + ix x1) (ix v3)) = ((-1))) → K (20, [.ref 3, .int x1, .int x2, .int v3], [], σ4))))))
        refine ⟨rfl, g6, (row55_kd g6), (by rw [row55_ln g6]; exact g7), ⟨fun _ => ?_, fun q => absurd c8 q⟩⟩
        refine hw 2 _ ?_
        show K (2, [.ref 3, .int x1, .int x2, .int (v3 + 1)], [], σ4)
        exact ih (v3 + 1) σ4 h hk
      · refine hw 8 _ ?_
        show kd 55 = 3 ∧ (inb x1 20 = true ∧ (kd (108 + ix x1) = 1 ∧ (inb v3 (ln (108 + ix x1)) = true ∧ (((¬ (σ4 (108 + ix x1) (ix v3)) = ((-1))) → K (36, [.ref 3, .int x1, .int x2, .int v3], [], σ4)) ∧ (¬ (¬ (σ4 (108 + ix x1) (ix v3)) = ((-1))) → K (20, [.ref 3, .int x1, .int x2, .int v3], [], σ4))))))
        refine ⟨rfl, g6, (row55_kd g6), (by rw [row55_ln g6]; exact g7), ⟨fun q => absurd q c8, fun _ => ?_⟩⟩
        obtain ⟨g9, h⟩ := ite_some h
        obtain ⟨g10, h⟩ := ite_some h
        obtain ⟨g11, h⟩ := ite_some h
        obtain ⟨g12, h⟩ := ite_some h
        refine hw 14 _ ?_
        show kd 55 = 3 ∧ (inb x1 20 = true ∧ (kd 54 = 3 ∧ (inb x2 20 = true ∧ (kd (88 + ix x2) = 1 ∧ (inb v3 (ln (88 + ix x2)) = true ∧ (kd (108 + ix x1) = 1 ∧ (inb v3 (ln (108 + ix x1)) = true ∧ (K (2, [.ref 3, .int x1, .int x2, .int (v3 + 1)], [], mput σ4 (108 + ix x1) (ix v3) (σ4 (88 + ix x2) (ix v3)))))))))))
        refine ⟨rfl, g9, rfl, g10, (row54_kd g10), (by rw [row54_ln g10]; exact g11), (row55_kd g9), (by rw [row55_ln g9]; exact g12), ?_⟩
        exact ih (v3 + 1) (mput σ4 (108 + ix x1) (ix v3) (σ4 (88 + ix x2) (ix v3))) h hk

set_option maxHeartbeats 4000000 in
set_option maxRecDepth 100000 in
theorem s_X1_fillIn : runs T_X1_fillIn [.ref 3] 4 F_X1_fillIn := by
  intro Qa K hw hf As σ r σ' h hQ
  unfold F_X1_fillIn at h
  split at h
  · rename_i p0 p1
    unfold f_X1_fillIn at h
    have hQ : Qa (r, σ').1 (r, σ').2 := hQ
    generalize (r, σ') = y at h hQ
    show K (0, [.ref 3, .int p0, .int p1, .null], [], σ)
    refine hw 2 _ ?_
    show K (2, [.ref 3, .int p0, .int p1, .int 0], [], σ)
    refine t_X1_fillIn_2 hw hf p0 p1 _ _ lf 0 σ h (fun v13 σ14 h => ?_)
    show K (42, [.ref 3, .int p0, .int p1, .int v13], [], σ14)
    obtain rfl := Option.some.inj h
    refine hw 1 _ ?_
    show Qa 0 σ14
    refine hQ
  · cases h
theorem h_X1_fillIn : shp [.ref 3] 4 F_X1_fillIn := by
  intro As σ r σ' h
  unfold F_X1_fillIn at h
  split at h
  · exact ⟨by simp [Value.category], Nat.le_of_ble_eq_true rfl⟩
  · cases h
set_option maxHeartbeats 4000000 in
set_option maxRecDepth 100000 in
theorem c_X1_fillIn (l : Launch) (D : va_G) (cI cZ cA cL : ClassId) (ad : Nat → Nat) (hi : adI ad) : CtV l yX1_fillIn wsX1_fillIn { frames := 0, cells := 0, slots := 0, locals := 0 } D cI cZ cA cL ad [.ref 3] F_X1_fillIn := by
  refine mk_V [.ref 3] F_X1_fillIn T_X1_fillIn (by decide +kernel) rfl ?_ h_X1_fillIn s_X1_fillIn
  intro p e s m args below meth c Qa ⟨hx, hb, hml, hown, hts, hr, hlocks, hK, hN⟩
  have hin1 : ∀ w ∈ u_ws RX1 TX1 11, w ∈ wsX1_fillIn := by decide +kernel
  have hl39 : (Cond.fieldLink RX1 39 RX1 (TX1 8).2.1 (TX1 8).2.2.1) ∈ wsX1_fillIn := by decide +kernel
  have hl23 : (Cond.fieldLink RX1 23 RX1 (TX1 3).2.1 (TX1 3).2.2.1) ∈ wsX1_fillIn := by decide +kernel
  refine ruL_c (n := 0) (n2 := 1) rfl (ru_iconst hx hb dX1_fillIn_0 rfl) ?_
  refine ruL_c (n := 1) (n2 := 2) rfl (ru_istore_n (k := 3) hx hb dX1_fillIn_1) ?_
  refine ruL_c (n := 2) (n2 := 3) rfl (ru_iload_n (k := 3) hx hb dX1_fillIn_2) ?_
  refine ruL_c (n := 3) (n2 := 4) rfl (ru_bipush hx hb dX1_fillIn_3 rfl) ?_
  refine ruL_c (n := 4) (n2 := 5) rfl (ru_bot) ?_
  refine ruL_c (n := 5) (n2 := 6) rfl (ru_icmpge hx hb dX1_fillIn_5 (by decide)) ?_
  refine ruL_c (n := 6) (n2 := 7) rfl (ru_bot) ?_
  refine ruL_c (n := 7) (n2 := 8) rfl (ru_bot) ?_
  refine ruL_c (n := 8) (n2 := 9) rfl (ru_aload_n (k := 0) hx hb dX1_fillIn_8) ?_
  refine ruL_c (n := 9) (n2 := 10) rfl (ru_getR (own := RX1) (j := 8) (T := TX1) hx hb hown hK hts hin1 (by decide) rfl rfl (by decide) rfl hl39 dX1_fillIn_9) ?_
  refine ruL_c (n := 10) (n2 := 11) rfl (ru_bot) ?_
  refine ruL_c (n := 11) (n2 := 12) rfl (ru_bot) ?_
  refine ruL_c (n := 12) (n2 := 13) rfl (ru_iload_n (k := 1) hx hb dX1_fillIn_12) ?_
  refine ruL_c (n := 13) (n2 := 14) rfl (ru_aald hx hb hK dX1_fillIn_13) ?_
  refine ruL_c (n := 14) (n2 := 15) rfl (ru_iload_n (k := 3) hx hb dX1_fillIn_14) ?_
  refine ruL_c (n := 15) (n2 := 16) rfl (ru_iald hx hb hK dX1_fillIn_15) ?_
  refine ruL_c (n := 16) (n2 := 17) rfl (ru_iconst hx hb dX1_fillIn_16 rfl) ?_
  refine ruL_c (n := 17) (n2 := 18) rfl (ru_icmpne hx hb dX1_fillIn_17 (by decide)) ?_
  refine ruL_c (n := 18) (n2 := 19) rfl (ru_bot) ?_
  refine ruL_c (n := 19) (n2 := 20) rfl (ru_bot) ?_
  refine ruL_c (n := 20) (n2 := 21) rfl (ru_aload_n (k := 0) hx hb dX1_fillIn_20) ?_
  refine ruL_c (n := 21) (n2 := 22) rfl (ru_getR (own := RX1) (j := 8) (T := TX1) hx hb hown hK hts hin1 (by decide) rfl rfl (by decide) rfl hl39 dX1_fillIn_21) ?_
  refine ruL_c (n := 22) (n2 := 23) rfl (ru_bot) ?_
  refine ruL_c (n := 23) (n2 := 24) rfl (ru_bot) ?_
  refine ruL_c (n := 24) (n2 := 25) rfl (ru_iload_n (k := 1) hx hb dX1_fillIn_24) ?_
  refine ruL_c (n := 25) (n2 := 26) rfl (ru_aald hx hb hK dX1_fillIn_25) ?_
  refine ruL_c (n := 26) (n2 := 27) rfl (ru_iload_n (k := 3) hx hb dX1_fillIn_26) ?_
  refine ruL_c (n := 27) (n2 := 28) rfl (ru_aload_n (k := 0) hx hb dX1_fillIn_27) ?_
  refine ruL_c (n := 28) (n2 := 29) rfl (ru_getR (own := RX1) (j := 3) (T := TX1) hx hb hown hK hts hin1 (by decide) rfl rfl (by decide) rfl hl23 dX1_fillIn_28) ?_
  refine ruL_c (n := 29) (n2 := 30) rfl (ru_bot) ?_
  refine ruL_c (n := 30) (n2 := 31) rfl (ru_bot) ?_
  refine ruL_c (n := 31) (n2 := 32) rfl (ru_iload_n (k := 2) hx hb dX1_fillIn_31) ?_
  refine ruL_c (n := 32) (n2 := 33) rfl (ru_aald hx hb hK dX1_fillIn_32) ?_
  refine ruL_c (n := 33) (n2 := 34) rfl (ru_iload_n (k := 3) hx hb dX1_fillIn_33) ?_
  refine ruL_c (n := 34) (n2 := 35) rfl (ru_iald hx hb hK dX1_fillIn_34) ?_
  refine ruL_c (n := 35) (n2 := 36) rfl (ru_iast hx hb hK hi dX1_fillIn_35) ?_
  refine ruL_c (n := 36) (n2 := 37) rfl (ru_iinc hx hb dX1_fillIn_36 rfl) ?_
  refine ruL_c (n := 37) (n2 := 38) rfl (ru_bot) ?_
  refine ruL_c (n := 38) (n2 := 39) rfl (ru_bot) ?_
  refine ruL_c (n := 39) (n2 := 40) rfl (ru_goto hx hb dX1_fillIn_39 (by decide)) ?_
  refine ruL_c (n := 40) (n2 := 41) rfl (ru_bot) ?_
  refine ruL_c (n := 41) (n2 := 42) rfl (ru_bot) ?_
  refine ruL_c (n := 42) (n2 := 43) rfl (ru_vret hx hb hK hr hlocks dX1_fillIn_42) ?_
  exact trivial

-- CueTour$CueList.fold
def l_X1_fold_9 : Nat → Int32 → Int32 → aM → (Int32 → Int32 → aM → Option (Int32 × aM)) → Option (Int32 × aM)
  | 0, _, _, _, _ => none
  | n + 1, v1, v2, σ3, k => if v2 < 0 then k v1 v2 σ3 else if inb v2 20 = true then bnd (f_X1_forget (σ3 14 (ix v2)) σ3) (fun r6 σ7 => if inb (σ3 14 (ix v2)) 20 = true then if (σ7 15 (ix (σ3 14 (ix v2)))) = ((-1)) then if inb (σ3 14 (ix v2)) 20 = true then if v1 = ((-1)) then l_X1_fold_9 n v1 (v2 + (-1)) (mput σ7 16 (ix (σ3 14 (ix v2))) v1) k else bnd (f_X1_fillIn v1 (σ3 14 (ix v2)) (mput σ7 16 (ix (σ3 14 (ix v2))) v1)) (fun r13 σ14 => l_X1_fold_9 n v1 (v2 + (-1)) σ14 k) else none else if inb (σ3 14 (ix v2)) 20 = true then if (σ3 14 (ix v2)) = ((-1)) then l_X1_fold_9 n (σ3 14 (ix v2)) (v2 + (-1)) (mput σ7 16 (ix (σ3 14 (ix v2))) (σ3 14 (ix v2))) k else bnd (f_X1_fillIn (σ3 14 (ix v2)) (σ3 14 (ix v2)) (mput σ7 16 (ix (σ3 14 (ix v2))) (σ3 14 (ix v2)))) (fun r18 σ19 => l_X1_fold_9 n (σ3 14 (ix v2)) (v2 + (-1)) σ19 k) else none else none) else none
def f_X1_fold (σ : aM) : Option (Int32 × aM) := l_X1_fold_9 lf ((-1)) ((σ 3 4) - 1) σ (fun v21 v22 σ23 => some (0, σ23))
def F_X1_fold : aF := fun As σ => match As with
  | [] => f_X1_fold σ
  | _ => none
def T_X1_fold (Qa : Int32 → aM → Prop) : List aI := [I_const (-1) 1, I_istore 1 1, I_aload 0 1, I_getI 3 4, I_bot, I_bot, I_const 1 1, I_bin fun x y => x - y, I_istore 2 1, I_iload 2 1, I_if (fun x => x < 0) 61, I_bot, I_bot, I_aload 0 1, I_getR 3 14, I_bot, I_bot, I_iload 2 1, I_iald, I_istore 3 1, I_aload 0 1, I_iload 3 1, I_callVv 3 1 F_X1_forget, I_bot, I_bot, I_aload 0 1, I_getR 3 15, I_bot, I_bot, I_iload 3 1, I_iald, I_const (-1) 1, I_icmp (fun x y => x = y) 37, I_bot, I_bot, I_iload 3 1, I_istore 1 1, I_aload 0 1, I_getR 3 16, I_bot, I_bot, I_iload 3 1, I_iload 1 1, I_iast, I_iload 1 1, I_const (-1) 1, I_icmp (fun x y => x = y) 55, I_bot, I_bot, I_aload 0 1, I_iload 1 1, I_iload 3 1, I_callVv 3 2 F_X1_fillIn, I_bot, I_bot, I_iinc 2 (-1), I_bot, I_bot, I_goto 9, I_bot, I_bot, I_vret Qa]
set_option maxHeartbeats 4000000 in
set_option maxRecDepth 100000 in
theorem t_X1_fold_9 {Qa : Int32 → aM → Prop} {K : aS → Prop} (hw : ∀ k x, wp (T_X1_fold Qa) k K x → K x) (hf : ∀ pc L i st σ, K (pc, L.set i .null, st, σ) → K (pc, L, st, σ)) (y : Int32 × aM) (k : Int32 → Int32 → aM → Option (Int32 × aM)) :
    ∀ (n : Nat) (v1 : Int32) (v2 : Int32) (σ3 : aM), l_X1_fold_9 n v1 v2 σ3 k = some y → (∀ (w0 : Int32) (w1 : Int32) (τ : aM), k w0 w1 τ = some y → K (61, [.ref 3, .int w0, .int w1, .null], [], τ)) → K (9, [.ref 3, .int v1, .int v2, .null], [], σ3) := by
  intro n
  induction n with
  | zero =>
    intro v1 v2 σ3 h hk
    exact absurd h (by simp [l_X1_fold_9])
  | succ n ih =>
    intro v1 v2 σ3 h hk
    unfold l_X1_fold_9 at h
    rcases ite_cases h with ⟨c4, h⟩ | ⟨c4, h⟩
    · refine hw 2 _ ?_
      show ((v2 < 0) → K (61, [.ref 3, .int v1, .int v2, .null], [], σ3)) ∧ (¬ (v2 < 0) → K (13, [.ref 3, .int v1, .int v2, .null], [], σ3))
      refine ⟨fun _ => ?_, fun q => absurd c4 q⟩
      exact hk v1 v2 σ3 h
    · refine hw 2 _ ?_
      show ((v2 < 0) → K (61, [.ref 3, .int v1, .int v2, .null], [], σ3)) ∧ (¬ (v2 < 0) → K (13, [.ref 3, .int v1, .int v2, .null], [], σ3))
      refine ⟨fun q => absurd q c4, fun _ => ?_⟩
      obtain ⟨g5, h⟩ := ite_some h
      obtain ⟨r6, σ7, e8, h⟩ := bnd_some h
      refine hw 8 _ ?_
      show kd 14 = 1 ∧ (inb v2 20 = true ∧ (∃ r6 σ7, f_X1_forget (σ3 14 (ix v2)) σ3 = some (r6, σ7) ∧ K (25, [.ref 3, .int v1, .int v2, .int (σ3 14 (ix v2))], [], σ7)))
      refine ⟨rfl, g5, ⟨r6, σ7, e8, ?_⟩⟩
      obtain ⟨g9, h⟩ := ite_some h
      rcases ite_cases h with ⟨c10, h⟩ | ⟨c10, h⟩
      · refine hw 6 _ ?_
        show kd 15 = 1 ∧ (inb (σ3 14 (ix v2)) 20 = true ∧ ((((σ7 15 (ix (σ3 14 (ix v2)))) = ((-1))) → K (37, [.ref 3, .int v1, .int v2, .int (σ3 14 (ix v2))], [], σ7)) ∧ (¬ ((σ7 15 (ix (σ3 14 (ix v2)))) = ((-1))) → K (35, [.ref 3, .int v1, .int v2, .int (σ3 14 (ix v2))], [], σ7))))
        refine ⟨rfl, g9, ⟨fun _ => ?_, fun q => absurd c10 q⟩⟩
        obtain ⟨g11, h⟩ := ite_some h
        rcases ite_cases h with ⟨c12, h⟩ | ⟨c12, h⟩
        · refine hw 8 _ ?_
          show kd 16 = 1 ∧ (inb (σ3 14 (ix v2)) 20 = true ∧ (((v1 = ((-1))) → K (55, [.ref 3, .int v1, .int v2, .int (σ3 14 (ix v2))], [], mput σ7 16 (ix (σ3 14 (ix v2))) v1)) ∧ (¬ (v1 = ((-1))) → K (49, [.ref 3, .int v1, .int v2, .int (σ3 14 (ix v2))], [], mput σ7 16 (ix (σ3 14 (ix v2))) v1))))
          refine ⟨rfl, g11, ⟨fun _ => ?_, fun q => absurd c12 q⟩⟩
          refine hw 2 _ ?_
          show K (9, [.ref 3, .int v1, .int (v2 + (-1)), .int (σ3 14 (ix v2))], [], mput σ7 16 (ix (σ3 14 (ix v2))) v1)
          refine hf _ _ 3 _ _ ?_
          show K (9, [.ref 3, .int v1, .int (v2 + (-1)), .null], [], mput σ7 16 (ix (σ3 14 (ix v2))) v1)
          exact ih v1 (v2 + (-1)) (mput σ7 16 (ix (σ3 14 (ix v2))) v1) h hk
        · refine hw 8 _ ?_
          show kd 16 = 1 ∧ (inb (σ3 14 (ix v2)) 20 = true ∧ (((v1 = ((-1))) → K (55, [.ref 3, .int v1, .int v2, .int (σ3 14 (ix v2))], [], mput σ7 16 (ix (σ3 14 (ix v2))) v1)) ∧ (¬ (v1 = ((-1))) → K (49, [.ref 3, .int v1, .int v2, .int (σ3 14 (ix v2))], [], mput σ7 16 (ix (σ3 14 (ix v2))) v1))))
          refine ⟨rfl, g11, ⟨fun q => absurd q c12, fun _ => ?_⟩⟩
          obtain ⟨r13, σ14, e15, h⟩ := bnd_some h
          refine hw 4 _ ?_
          show ∃ r13 σ14, f_X1_fillIn v1 (σ3 14 (ix v2)) (mput σ7 16 (ix (σ3 14 (ix v2))) v1) = some (r13, σ14) ∧ K (55, [.ref 3, .int v1, .int v2, .int (σ3 14 (ix v2))], [], σ14)
          refine ⟨r13, σ14, e15, ?_⟩
          refine hw 2 _ ?_
          show K (9, [.ref 3, .int v1, .int (v2 + (-1)), .int (σ3 14 (ix v2))], [], σ14)
          refine hf _ _ 3 _ _ ?_
          show K (9, [.ref 3, .int v1, .int (v2 + (-1)), .null], [], σ14)
          exact ih v1 (v2 + (-1)) σ14 h hk
      · refine hw 6 _ ?_
        show kd 15 = 1 ∧ (inb (σ3 14 (ix v2)) 20 = true ∧ ((((σ7 15 (ix (σ3 14 (ix v2)))) = ((-1))) → K (37, [.ref 3, .int v1, .int v2, .int (σ3 14 (ix v2))], [], σ7)) ∧ (¬ ((σ7 15 (ix (σ3 14 (ix v2)))) = ((-1))) → K (35, [.ref 3, .int v1, .int v2, .int (σ3 14 (ix v2))], [], σ7))))
        refine ⟨rfl, g9, ⟨fun q => absurd q c10, fun _ => ?_⟩⟩
        obtain ⟨g16, h⟩ := ite_some h
        rcases ite_cases h with ⟨c17, h⟩ | ⟨c17, h⟩
        · refine hw 10 _ ?_
          show kd 16 = 1 ∧ (inb (σ3 14 (ix v2)) 20 = true ∧ ((((σ3 14 (ix v2)) = ((-1))) → K (55, [.ref 3, .int (σ3 14 (ix v2)), .int v2, .int (σ3 14 (ix v2))], [], mput σ7 16 (ix (σ3 14 (ix v2))) (σ3 14 (ix v2)))) ∧ (¬ ((σ3 14 (ix v2)) = ((-1))) → K (49, [.ref 3, .int (σ3 14 (ix v2)), .int v2, .int (σ3 14 (ix v2))], [], mput σ7 16 (ix (σ3 14 (ix v2))) (σ3 14 (ix v2))))))
          refine ⟨rfl, g16, ⟨fun _ => ?_, fun q => absurd c17 q⟩⟩
          refine hw 2 _ ?_
          show K (9, [.ref 3, .int (σ3 14 (ix v2)), .int (v2 + (-1)), .int (σ3 14 (ix v2))], [], mput σ7 16 (ix (σ3 14 (ix v2))) (σ3 14 (ix v2)))
          refine hf _ _ 3 _ _ ?_
          show K (9, [.ref 3, .int (σ3 14 (ix v2)), .int (v2 + (-1)), .null], [], mput σ7 16 (ix (σ3 14 (ix v2))) (σ3 14 (ix v2)))
          exact ih (σ3 14 (ix v2)) (v2 + (-1)) (mput σ7 16 (ix (σ3 14 (ix v2))) (σ3 14 (ix v2))) h hk
        · refine hw 10 _ ?_
          show kd 16 = 1 ∧ (inb (σ3 14 (ix v2)) 20 = true ∧ ((((σ3 14 (ix v2)) = ((-1))) → K (55, [.ref 3, .int (σ3 14 (ix v2)), .int v2, .int (σ3 14 (ix v2))], [], mput σ7 16 (ix (σ3 14 (ix v2))) (σ3 14 (ix v2)))) ∧ (¬ ((σ3 14 (ix v2)) = ((-1))) → K (49, [.ref 3, .int (σ3 14 (ix v2)), .int v2, .int (σ3 14 (ix v2))], [], mput σ7 16 (ix (σ3 14 (ix v2))) (σ3 14 (ix v2))))))
          refine ⟨rfl, g16, ⟨fun q => absurd q c17, fun _ => ?_⟩⟩
          obtain ⟨r18, σ19, e20, h⟩ := bnd_some h
          refine hw 4 _ ?_
          show ∃ r18 σ19, f_X1_fillIn (σ3 14 (ix v2)) (σ3 14 (ix v2)) (mput σ7 16 (ix (σ3 14 (ix v2))) (σ3 14 (ix v2))) = some (r18, σ19) ∧ K (55, [.ref 3, .int (σ3 14 (ix v2)), .int v2, .int (σ3 14 (ix v2))], [], σ19)
          refine ⟨r18, σ19, e20, ?_⟩
          refine hw 2 _ ?_
          show K (9, [.ref 3, .int (σ3 14 (ix v2)), .int (v2 + (-1)), .int (σ3 14 (ix v2))], [], σ19)
          refine hf _ _ 3 _ _ ?_
          show K (9, [.ref 3, .int (σ3 14 (ix v2)), .int (v2 + (-1)), .null], [], σ19)
          exact ih (σ3 14 (ix v2)) (v2 + (-1)) σ19 h hk

set_option maxHeartbeats 4000000 in
set_option maxRecDepth 100000 in
theorem s_X1_fold : runs T_X1_fold [.ref 3] 4 F_X1_fold := by
  intro Qa K hw hf As σ r σ' h hQ
  unfold F_X1_fold at h
  split at h
  · unfold f_X1_fold at h
    have hQ : Qa (r, σ').1 (r, σ').2 := hQ
    generalize (r, σ') = y at h hQ
    show K (0, [.ref 3, .null, .null, .null], [], σ)
    refine hw 7 _ ?_
    show K (9, [.ref 3, .int ((-1)), .int ((σ 3 4) - 1), .null], [], σ)
    refine t_X1_fold_9 hw hf _ _ lf ((-1)) ((σ 3 4) - 1) σ h (fun v21 v22 σ23 h => ?_)
    show K (61, [.ref 3, .int v21, .int v22, .null], [], σ23)
    obtain rfl := Option.some.inj h
    refine hw 1 _ ?_
    show Qa 0 σ23
    refine hQ
  · cases h
theorem h_X1_fold : shp [.ref 3] 4 F_X1_fold := by
  intro As σ r σ' h
  unfold F_X1_fold at h
  split at h
  · exact ⟨by simp [Value.category], Nat.le_of_ble_eq_true rfl⟩
  · cases h
set_option maxHeartbeats 4000000 in
set_option maxRecDepth 100000 in
theorem c_X1_fold (l : Launch) (D : va_G) (cI cZ cA cL : ClassId) (ad : Nat → Nat) (hi : adI ad) : CtV l yX1_fold wsX1_fold { frames := 1, cells := 0, slots := 0, locals := 23 } D cI cZ cA cL ad [.ref 3] F_X1_fold := by
  refine mk_V [.ref 3] F_X1_fold T_X1_fold (by decide +kernel) rfl ?_ h_X1_fold s_X1_fold
  intro p e s m args below meth c Qa ⟨hx, hb, hml, hown, hts, hr, hlocks, hK, hN⟩
  have hin1 : ∀ w ∈ u_ws RX1 TX1 11, w ∈ wsX1_fold := by decide +kernel
  have hl26 : (Cond.fieldLink RX1 26 RX1 (TX1 4).2.1 (TX1 4).2.2.1) ∈ wsX1_fold := by decide +kernel
  have hl30 : (Cond.fieldLink RX1 30 RX1 (TX1 5).2.1 (TX1 5).2.2.1) ∈ wsX1_fold := by decide +kernel
  have hl33 : (Cond.fieldLink RX1 33 RX1 (TX1 6).2.1 (TX1 6).2.2.1) ∈ wsX1_fold := by decide +kernel
  have hl36 : (Cond.fieldLink RX1 36 RX1 (TX1 7).2.1 (TX1 7).2.2.1) ∈ wsX1_fold := by decide +kernel
  refine ruL_c (n := 0) (n2 := 1) rfl (ru_iconst hx hb dX1_fold_0 rfl) ?_
  refine ruL_c (n := 1) (n2 := 2) rfl (ru_istore_n (k := 1) hx hb dX1_fold_1) ?_
  refine ruL_c (n := 2) (n2 := 3) rfl (ru_aload_n (k := 0) hx hb dX1_fold_2) ?_
  refine ruL_c (n := 3) (n2 := 4) rfl (ru_getI (own := RX1) (j := 4) (T := TX1) hx hb hown hK hts hin1 (by decide) rfl rfl (by decide) rfl hl26 dX1_fold_3) ?_
  refine ruL_c (n := 4) (n2 := 5) rfl (ru_bot) ?_
  refine ruL_c (n := 5) (n2 := 6) rfl (ru_bot) ?_
  refine ruL_c (n := 6) (n2 := 7) rfl (ru_iconst hx hb dX1_fold_6 rfl) ?_
  refine ruL_c (n := 7) (n2 := 8) rfl (ru_isub hx hb dX1_fold_7) ?_
  refine ruL_c (n := 8) (n2 := 9) rfl (ru_istore_n (k := 2) hx hb dX1_fold_8) ?_
  refine ruL_c (n := 9) (n2 := 10) rfl (ru_iload_n (k := 2) hx hb dX1_fold_9) ?_
  refine ruL_c (n := 10) (n2 := 11) rfl (ru_iflt hx hb dX1_fold_10 (by decide)) ?_
  refine ruL_c (n := 11) (n2 := 12) rfl (ru_bot) ?_
  refine ruL_c (n := 12) (n2 := 13) rfl (ru_bot) ?_
  refine ruL_c (n := 13) (n2 := 14) rfl (ru_aload_n (k := 0) hx hb dX1_fold_13) ?_
  refine ruL_c (n := 14) (n2 := 15) rfl (ru_getR (own := RX1) (j := 5) (T := TX1) hx hb hown hK hts hin1 (by decide) rfl rfl (by decide) rfl hl30 dX1_fold_14) ?_
  refine ruL_c (n := 15) (n2 := 16) rfl (ru_bot) ?_
  refine ruL_c (n := 16) (n2 := 17) rfl (ru_bot) ?_
  refine ruL_c (n := 17) (n2 := 18) rfl (ru_iload_n (k := 2) hx hb dX1_fold_17) ?_
  refine ruL_c (n := 18) (n2 := 19) rfl (ru_iald hx hb hK dX1_fold_18) ?_
  refine ruL_c (n := 19) (n2 := 20) rfl (ru_istore_n (k := 3) hx hb dX1_fold_19) ?_
  refine ruL_c (n := 20) (n2 := 21) rfl (ru_aload_n (k := 0) hx hb dX1_fold_20) ?_
  refine ruL_c (n := 21) (n2 := 22) rfl (ru_iload_n (k := 3) hx hb dX1_fold_21) ?_
  refine ruL_c (n := 22) (n2 := 23) rfl (ru_callVv hx hb hml hown hts hK hN (by decide) rfl (c_X1_forget l D cI cZ cA cL ad hi) (cwV 1 hts gX1_fold_X1_forget rfl rfl rfl (by decide +kernel) ⟨Nat.le_of_ble_eq_true rfl, Nat.le_of_ble_eq_true rfl⟩) dX1_fold_22 ⟨Nat.zero_le _, Nat.zero_le _⟩) ?_
  refine ruL_c (n := 23) (n2 := 24) rfl (ru_bot) ?_
  refine ruL_c (n := 24) (n2 := 25) rfl (ru_bot) ?_
  refine ruL_c (n := 25) (n2 := 26) rfl (ru_aload_n (k := 0) hx hb dX1_fold_25) ?_
  refine ruL_c (n := 26) (n2 := 27) rfl (ru_getR (own := RX1) (j := 6) (T := TX1) hx hb hown hK hts hin1 (by decide) rfl rfl (by decide) rfl hl33 dX1_fold_26) ?_
  refine ruL_c (n := 27) (n2 := 28) rfl (ru_bot) ?_
  refine ruL_c (n := 28) (n2 := 29) rfl (ru_bot) ?_
  refine ruL_c (n := 29) (n2 := 30) rfl (ru_iload_n (k := 3) hx hb dX1_fold_29) ?_
  refine ruL_c (n := 30) (n2 := 31) rfl (ru_iald hx hb hK dX1_fold_30) ?_
  refine ruL_c (n := 31) (n2 := 32) rfl (ru_iconst hx hb dX1_fold_31 rfl) ?_
  refine ruL_c (n := 32) (n2 := 33) rfl (ru_icmpeq hx hb dX1_fold_32 (by decide)) ?_
  refine ruL_c (n := 33) (n2 := 34) rfl (ru_bot) ?_
  refine ruL_c (n := 34) (n2 := 35) rfl (ru_bot) ?_
  refine ruL_c (n := 35) (n2 := 36) rfl (ru_iload_n (k := 3) hx hb dX1_fold_35) ?_
  refine ruL_c (n := 36) (n2 := 37) rfl (ru_istore_n (k := 1) hx hb dX1_fold_36) ?_
  refine ruL_c (n := 37) (n2 := 38) rfl (ru_aload_n (k := 0) hx hb dX1_fold_37) ?_
  refine ruL_c (n := 38) (n2 := 39) rfl (ru_getR (own := RX1) (j := 7) (T := TX1) hx hb hown hK hts hin1 (by decide) rfl rfl (by decide) rfl hl36 dX1_fold_38) ?_
  refine ruL_c (n := 39) (n2 := 40) rfl (ru_bot) ?_
  refine ruL_c (n := 40) (n2 := 41) rfl (ru_bot) ?_
  refine ruL_c (n := 41) (n2 := 42) rfl (ru_iload_n (k := 3) hx hb dX1_fold_41) ?_
  refine ruL_c (n := 42) (n2 := 43) rfl (ru_iload_n (k := 1) hx hb dX1_fold_42) ?_
  refine ruL_c (n := 43) (n2 := 44) rfl (ru_iast hx hb hK hi dX1_fold_43) ?_
  refine ruL_c (n := 44) (n2 := 45) rfl (ru_iload_n (k := 1) hx hb dX1_fold_44) ?_
  refine ruL_c (n := 45) (n2 := 46) rfl (ru_iconst hx hb dX1_fold_45 rfl) ?_
  refine ruL_c (n := 46) (n2 := 47) rfl (ru_icmpeq hx hb dX1_fold_46 (by decide)) ?_
  refine ruL_c (n := 47) (n2 := 48) rfl (ru_bot) ?_
  refine ruL_c (n := 48) (n2 := 49) rfl (ru_bot) ?_
  refine ruL_c (n := 49) (n2 := 50) rfl (ru_aload_n (k := 0) hx hb dX1_fold_49) ?_
  refine ruL_c (n := 50) (n2 := 51) rfl (ru_iload_n (k := 1) hx hb dX1_fold_50) ?_
  refine ruL_c (n := 51) (n2 := 52) rfl (ru_iload_n (k := 3) hx hb dX1_fold_51) ?_
  refine ruL_c (n := 52) (n2 := 53) rfl (ru_callVv hx hb hml hown hts hK hN (by decide) rfl (c_X1_fillIn l D cI cZ cA cL ad hi) (cwV 2 hts gX1_fold_X1_fillIn rfl rfl rfl (by decide +kernel) ⟨Nat.le_of_ble_eq_true rfl, Nat.le_of_ble_eq_true rfl⟩) dX1_fold_52 ⟨Nat.zero_le _, Nat.zero_le _⟩) ?_
  refine ruL_c (n := 53) (n2 := 54) rfl (ru_bot) ?_
  refine ruL_c (n := 54) (n2 := 55) rfl (ru_bot) ?_
  refine ruL_c (n := 55) (n2 := 56) rfl (ru_iinc hx hb dX1_fold_55 rfl) ?_
  refine ruL_c (n := 56) (n2 := 57) rfl (ru_bot) ?_
  refine ruL_c (n := 57) (n2 := 58) rfl (ru_bot) ?_
  refine ruL_c (n := 58) (n2 := 59) rfl (ru_goto hx hb dX1_fold_58 (by decide)) ?_
  refine ruL_c (n := 59) (n2 := 60) rfl (ru_bot) ?_
  refine ruL_c (n := 60) (n2 := 61) rfl (ru_bot) ?_
  refine ruL_c (n := 61) (n2 := 62) rfl (ru_vret hx hb hK hr hlocks dX1_fold_61) ?_
  exact trivial

-- CueTour$CueList.insertPlay
def l_X1_insertPlay_5 (x1 : Int32) : Nat → Int32 → aM → (Int32 → aM → Option (Int32 × aM)) → Option (Int32 × aM)
  | 0, _, _, _ => none
  | n + 1, v2, σ3, k => if v2 ≤ 0 then k v2 σ3 else if inb (v2 - 1) 20 = true then if inb (σ3 17 (ix (v2 - 1))) 20 = true then if inb x1 20 = true then if (σ3 15 (ix (σ3 17 (ix (v2 - 1))))) ≤ (σ3 15 (ix x1)) then k v2 σ3 else if inb (v2 - 1) 20 = true then if inb v2 20 = true then l_X1_insertPlay_5 x1 n (v2 + (-1)) (mput σ3 17 (ix v2) (σ3 17 (ix (v2 - 1)))) k else none else none else none else none else none
def f_X1_insertPlay (p0 : Int32) (σ : aM) : Option (Int32 × aM) := l_X1_insertPlay_5 p0 lf (σ 3 10) σ (fun v11 σ12 => if inb v11 20 = true then some (0, mput (mput σ12 17 (ix v11) p0) 3 10 ((σ12 3 10) + 1)) else none)
def F_X1_insertPlay : aF := fun As σ => match As with
  | [.int p0] => f_X1_insertPlay p0 σ
  | _ => none
def T_X1_insertPlay (Qa : Int32 → aM → Prop) : List aI := [I_aload 0 1, I_getI 3 10, I_bot, I_bot, I_istore 2 1, I_iload 2 1, I_if (fun x => x ≤ 0) 51, I_bot, I_bot, I_aload 0 1, I_getR 3 15, I_bot, I_bot, I_aload 0 1, I_getR 3 17, I_bot, I_bot, I_iload 2 1, I_const 1 1, I_bin fun x y => x - y, I_iald, I_iald, I_aload 0 1, I_getR 3 15, I_bot, I_bot, I_iload 1 1, I_iald, I_icmp (fun x y => x ≤ y) 51, I_bot, I_bot, I_aload 0 1, I_getR 3 17, I_bot, I_bot, I_iload 2 1, I_aload 0 1, I_getR 3 17, I_bot, I_bot, I_iload 2 1, I_const 1 1, I_bin fun x y => x - y, I_iald, I_iast, I_iinc 2 (-1), I_bot, I_bot, I_goto 5, I_bot, I_bot, I_aload 0 1, I_getR 3 17, I_bot, I_bot, I_iload 2 1, I_iload 1 1, I_iast, I_aload 0 1, I_dup, I_getI 3 10, I_bot, I_bot, I_const 1 1, I_bin fun x y => x + y, I_putI 3 10, I_bot, I_bot, I_vret Qa]
set_option maxHeartbeats 4000000 in
set_option maxRecDepth 100000 in
theorem t_X1_insertPlay_5 {Qa : Int32 → aM → Prop} {K : aS → Prop} (hw : ∀ k x, wp (T_X1_insertPlay Qa) k K x → K x) (hf : ∀ pc L i st σ, K (pc, L.set i .null, st, σ) → K (pc, L, st, σ)) (x1 : Int32) (y : Int32 × aM) (k : Int32 → aM → Option (Int32 × aM)) :
    ∀ (n : Nat) (v2 : Int32) (σ3 : aM), l_X1_insertPlay_5 x1 n v2 σ3 k = some y → (∀ (w0 : Int32) (τ : aM), k w0 τ = some y → K (51, [.ref 3, .int x1, .int w0], [], τ)) → K (5, [.ref 3, .int x1, .int v2], [], σ3) := by
  intro n
  induction n with
  | zero =>
    intro v2 σ3 h hk
    exact absurd h (by simp [l_X1_insertPlay_5])
  | succ n ih =>
    intro v2 σ3 h hk
    unfold l_X1_insertPlay_5 at h
    rcases ite_cases h with ⟨c4, h⟩ | ⟨c4, h⟩
    · refine hw 2 _ ?_
      show ((v2 ≤ 0) → K (51, [.ref 3, .int x1, .int v2], [], σ3)) ∧ (¬ (v2 ≤ 0) → K (9, [.ref 3, .int x1, .int v2], [], σ3))
      refine ⟨fun _ => ?_, fun q => absurd c4 q⟩
      exact hk v2 σ3 h
    · refine hw 2 _ ?_
      show ((v2 ≤ 0) → K (51, [.ref 3, .int x1, .int v2], [], σ3)) ∧ (¬ (v2 ≤ 0) → K (9, [.ref 3, .int x1, .int v2], [], σ3))
      refine ⟨fun q => absurd q c4, fun _ => ?_⟩
      obtain ⟨g5, h⟩ := ite_some h
      obtain ⟨g6, h⟩ := ite_some h
      obtain ⟨g7, h⟩ := ite_some h
      rcases ite_cases h with ⟨c8, h⟩ | ⟨c8, h⟩
      · refine hw 14 _ ?_
        show kd 17 = 1 ∧ (inb (v2 - 1) 20 = true ∧ (kd 15 = 1 ∧ (inb (σ3 17 (ix (v2 - 1))) 20 = true ∧ (kd 15 = 1 ∧ (inb x1 20 = true ∧ ((((σ3 15 (ix (σ3 17 (ix (v2 - 1))))) ≤ (σ3 15 (ix x1))) → K (51, [.ref 3, .int x1, .int v2], [], σ3)) ∧ (¬ ((σ3 15 (ix (σ3 17 (ix (v2 - 1))))) ≤ (σ3 15 (ix x1))) → K (31, [.ref 3, .int x1, .int v2], [], σ3))))))))
        refine ⟨rfl, g5, rfl, g6, rfl, g7, ⟨fun _ => ?_, fun q => absurd c8 q⟩⟩
        exact hk v2 σ3 h
      · refine hw 14 _ ?_
        show kd 17 = 1 ∧ (inb (v2 - 1) 20 = true ∧ (kd 15 = 1 ∧ (inb (σ3 17 (ix (v2 - 1))) 20 = true ∧ (kd 15 = 1 ∧ (inb x1 20 = true ∧ ((((σ3 15 (ix (σ3 17 (ix (v2 - 1))))) ≤ (σ3 15 (ix x1))) → K (51, [.ref 3, .int x1, .int v2], [], σ3)) ∧ (¬ ((σ3 15 (ix (σ3 17 (ix (v2 - 1))))) ≤ (σ3 15 (ix x1))) → K (31, [.ref 3, .int x1, .int v2], [], σ3))))))))
        refine ⟨rfl, g5, rfl, g6, rfl, g7, ⟨fun q => absurd q c8, fun _ => ?_⟩⟩
        obtain ⟨g9, h⟩ := ite_some h
        obtain ⟨g10, h⟩ := ite_some h
        refine hw 12 _ ?_
        show kd 17 = 1 ∧ (inb (v2 - 1) 20 = true ∧ (kd 17 = 1 ∧ (inb v2 20 = true ∧ (K (5, [.ref 3, .int x1, .int (v2 + (-1))], [], mput σ3 17 (ix v2) (σ3 17 (ix (v2 - 1))))))))
        refine ⟨rfl, g9, rfl, g10, ?_⟩
        exact ih (v2 + (-1)) (mput σ3 17 (ix v2) (σ3 17 (ix (v2 - 1)))) h hk

set_option maxHeartbeats 4000000 in
set_option maxRecDepth 100000 in
theorem s_X1_insertPlay : runs T_X1_insertPlay [.ref 3] 3 F_X1_insertPlay := by
  intro Qa K hw hf As σ r σ' h hQ
  unfold F_X1_insertPlay at h
  split at h
  · rename_i p0
    unfold f_X1_insertPlay at h
    have hQ : Qa (r, σ').1 (r, σ').2 := hQ
    generalize (r, σ') = y at h hQ
    show K (0, [.ref 3, .int p0, .null], [], σ)
    refine hw 3 _ ?_
    show K (5, [.ref 3, .int p0, .int (σ 3 10)], [], σ)
    refine t_X1_insertPlay_5 hw hf p0 _ _ lf (σ 3 10) σ h (fun v11 σ12 h => ?_)
    show K (51, [.ref 3, .int p0, .int v11], [], σ12)
    obtain ⟨g13, h⟩ := ite_some h
    obtain rfl := Option.some.inj h
    refine hw 12 _ ?_
    show kd 17 = 1 ∧ (inb v11 20 = true ∧ (Qa 0 (mput (mput σ12 17 (ix v11) p0) 3 10 ((σ12 3 10) + 1))))
    refine ⟨rfl, g13, hQ⟩
  · cases h
theorem h_X1_insertPlay : shp [.ref 3] 3 F_X1_insertPlay := by
  intro As σ r σ' h
  unfold F_X1_insertPlay at h
  split at h
  · exact ⟨by simp [Value.category], Nat.le_of_ble_eq_true rfl⟩
  · cases h
set_option maxHeartbeats 4000000 in
set_option maxRecDepth 100000 in
theorem c_X1_insertPlay (l : Launch) (D : va_G) (cI cZ cA cL : ClassId) (ad : Nat → Nat) (hi : adI ad) : CtV l yX1_insertPlay wsX1_insertPlay { frames := 0, cells := 0, slots := 0, locals := 0 } D cI cZ cA cL ad [.ref 3] F_X1_insertPlay := by
  refine mk_V [.ref 3] F_X1_insertPlay T_X1_insertPlay (by decide +kernel) rfl ?_ h_X1_insertPlay s_X1_insertPlay
  intro p e s m args below meth c Qa ⟨hx, hb, hml, hown, hts, hr, hlocks, hK, hN⟩
  have hin1 : ∀ w ∈ u_ws RX1 TX1 11, w ∈ wsX1_insertPlay := by decide +kernel
  have hl45 : (Cond.fieldLink RX1 45 RX1 (TX1 10).2.1 (TX1 10).2.2.1) ∈ wsX1_insertPlay := by decide +kernel
  have hl33 : (Cond.fieldLink RX1 33 RX1 (TX1 6).2.1 (TX1 6).2.2.1) ∈ wsX1_insertPlay := by decide +kernel
  have hl42 : (Cond.fieldLink RX1 42 RX1 (TX1 9).2.1 (TX1 9).2.2.1) ∈ wsX1_insertPlay := by decide +kernel
  refine ruL_c (n := 0) (n2 := 1) rfl (ru_aload_n (k := 0) hx hb dX1_insertPlay_0) ?_
  refine ruL_c (n := 1) (n2 := 2) rfl (ru_getI (own := RX1) (j := 10) (T := TX1) hx hb hown hK hts hin1 (by decide) rfl rfl (by decide) rfl hl45 dX1_insertPlay_1) ?_
  refine ruL_c (n := 2) (n2 := 3) rfl (ru_bot) ?_
  refine ruL_c (n := 3) (n2 := 4) rfl (ru_bot) ?_
  refine ruL_c (n := 4) (n2 := 5) rfl (ru_istore_n (k := 2) hx hb dX1_insertPlay_4) ?_
  refine ruL_c (n := 5) (n2 := 6) rfl (ru_iload_n (k := 2) hx hb dX1_insertPlay_5) ?_
  refine ruL_c (n := 6) (n2 := 7) rfl (ru_ifle hx hb dX1_insertPlay_6 (by decide)) ?_
  refine ruL_c (n := 7) (n2 := 8) rfl (ru_bot) ?_
  refine ruL_c (n := 8) (n2 := 9) rfl (ru_bot) ?_
  refine ruL_c (n := 9) (n2 := 10) rfl (ru_aload_n (k := 0) hx hb dX1_insertPlay_9) ?_
  refine ruL_c (n := 10) (n2 := 11) rfl (ru_getR (own := RX1) (j := 6) (T := TX1) hx hb hown hK hts hin1 (by decide) rfl rfl (by decide) rfl hl33 dX1_insertPlay_10) ?_
  refine ruL_c (n := 11) (n2 := 12) rfl (ru_bot) ?_
  refine ruL_c (n := 12) (n2 := 13) rfl (ru_bot) ?_
  refine ruL_c (n := 13) (n2 := 14) rfl (ru_aload_n (k := 0) hx hb dX1_insertPlay_13) ?_
  refine ruL_c (n := 14) (n2 := 15) rfl (ru_getR (own := RX1) (j := 9) (T := TX1) hx hb hown hK hts hin1 (by decide) rfl rfl (by decide) rfl hl42 dX1_insertPlay_14) ?_
  refine ruL_c (n := 15) (n2 := 16) rfl (ru_bot) ?_
  refine ruL_c (n := 16) (n2 := 17) rfl (ru_bot) ?_
  refine ruL_c (n := 17) (n2 := 18) rfl (ru_iload_n (k := 2) hx hb dX1_insertPlay_17) ?_
  refine ruL_c (n := 18) (n2 := 19) rfl (ru_iconst hx hb dX1_insertPlay_18 rfl) ?_
  refine ruL_c (n := 19) (n2 := 20) rfl (ru_isub hx hb dX1_insertPlay_19) ?_
  refine ruL_c (n := 20) (n2 := 21) rfl (ru_iald hx hb hK dX1_insertPlay_20) ?_
  refine ruL_c (n := 21) (n2 := 22) rfl (ru_iald hx hb hK dX1_insertPlay_21) ?_
  refine ruL_c (n := 22) (n2 := 23) rfl (ru_aload_n (k := 0) hx hb dX1_insertPlay_22) ?_
  refine ruL_c (n := 23) (n2 := 24) rfl (ru_getR (own := RX1) (j := 6) (T := TX1) hx hb hown hK hts hin1 (by decide) rfl rfl (by decide) rfl hl33 dX1_insertPlay_23) ?_
  refine ruL_c (n := 24) (n2 := 25) rfl (ru_bot) ?_
  refine ruL_c (n := 25) (n2 := 26) rfl (ru_bot) ?_
  refine ruL_c (n := 26) (n2 := 27) rfl (ru_iload_n (k := 1) hx hb dX1_insertPlay_26) ?_
  refine ruL_c (n := 27) (n2 := 28) rfl (ru_iald hx hb hK dX1_insertPlay_27) ?_
  refine ruL_c (n := 28) (n2 := 29) rfl (ru_icmple hx hb dX1_insertPlay_28 (by decide)) ?_
  refine ruL_c (n := 29) (n2 := 30) rfl (ru_bot) ?_
  refine ruL_c (n := 30) (n2 := 31) rfl (ru_bot) ?_
  refine ruL_c (n := 31) (n2 := 32) rfl (ru_aload_n (k := 0) hx hb dX1_insertPlay_31) ?_
  refine ruL_c (n := 32) (n2 := 33) rfl (ru_getR (own := RX1) (j := 9) (T := TX1) hx hb hown hK hts hin1 (by decide) rfl rfl (by decide) rfl hl42 dX1_insertPlay_32) ?_
  refine ruL_c (n := 33) (n2 := 34) rfl (ru_bot) ?_
  refine ruL_c (n := 34) (n2 := 35) rfl (ru_bot) ?_
  refine ruL_c (n := 35) (n2 := 36) rfl (ru_iload_n (k := 2) hx hb dX1_insertPlay_35) ?_
  refine ruL_c (n := 36) (n2 := 37) rfl (ru_aload_n (k := 0) hx hb dX1_insertPlay_36) ?_
  refine ruL_c (n := 37) (n2 := 38) rfl (ru_getR (own := RX1) (j := 9) (T := TX1) hx hb hown hK hts hin1 (by decide) rfl rfl (by decide) rfl hl42 dX1_insertPlay_37) ?_
  refine ruL_c (n := 38) (n2 := 39) rfl (ru_bot) ?_
  refine ruL_c (n := 39) (n2 := 40) rfl (ru_bot) ?_
  refine ruL_c (n := 40) (n2 := 41) rfl (ru_iload_n (k := 2) hx hb dX1_insertPlay_40) ?_
  refine ruL_c (n := 41) (n2 := 42) rfl (ru_iconst hx hb dX1_insertPlay_41 rfl) ?_
  refine ruL_c (n := 42) (n2 := 43) rfl (ru_isub hx hb dX1_insertPlay_42) ?_
  refine ruL_c (n := 43) (n2 := 44) rfl (ru_iald hx hb hK dX1_insertPlay_43) ?_
  refine ruL_c (n := 44) (n2 := 45) rfl (ru_iast hx hb hK hi dX1_insertPlay_44) ?_
  refine ruL_c (n := 45) (n2 := 46) rfl (ru_iinc hx hb dX1_insertPlay_45 rfl) ?_
  refine ruL_c (n := 46) (n2 := 47) rfl (ru_bot) ?_
  refine ruL_c (n := 47) (n2 := 48) rfl (ru_bot) ?_
  refine ruL_c (n := 48) (n2 := 49) rfl (ru_goto hx hb dX1_insertPlay_48 (by decide)) ?_
  refine ruL_c (n := 49) (n2 := 50) rfl (ru_bot) ?_
  refine ruL_c (n := 50) (n2 := 51) rfl (ru_bot) ?_
  refine ruL_c (n := 51) (n2 := 52) rfl (ru_aload_n (k := 0) hx hb dX1_insertPlay_51) ?_
  refine ruL_c (n := 52) (n2 := 53) rfl (ru_getR (own := RX1) (j := 9) (T := TX1) hx hb hown hK hts hin1 (by decide) rfl rfl (by decide) rfl hl42 dX1_insertPlay_52) ?_
  refine ruL_c (n := 53) (n2 := 54) rfl (ru_bot) ?_
  refine ruL_c (n := 54) (n2 := 55) rfl (ru_bot) ?_
  refine ruL_c (n := 55) (n2 := 56) rfl (ru_iload_n (k := 2) hx hb dX1_insertPlay_55) ?_
  refine ruL_c (n := 56) (n2 := 57) rfl (ru_iload_n (k := 1) hx hb dX1_insertPlay_56) ?_
  refine ruL_c (n := 57) (n2 := 58) rfl (ru_iast hx hb hK hi dX1_insertPlay_57) ?_
  refine ruL_c (n := 58) (n2 := 59) rfl (ru_aload_n (k := 0) hx hb dX1_insertPlay_58) ?_
  refine ruL_c (n := 59) (n2 := 60) rfl (ru_dup hx hb dX1_insertPlay_59) ?_
  refine ruL_c (n := 60) (n2 := 61) rfl (ru_getI (own := RX1) (j := 10) (T := TX1) hx hb hown hK hts hin1 (by decide) rfl rfl (by decide) rfl hl45 dX1_insertPlay_60) ?_
  refine ruL_c (n := 61) (n2 := 62) rfl (ru_bot) ?_
  refine ruL_c (n := 62) (n2 := 63) rfl (ru_bot) ?_
  refine ruL_c (n := 63) (n2 := 64) rfl (ru_iconst hx hb dX1_insertPlay_63 rfl) ?_
  refine ruL_c (n := 64) (n2 := 65) rfl (ru_iadd hx hb dX1_insertPlay_64) ?_
  refine ruL_c (n := 65) (n2 := 66) rfl (ru_putI (own := RX1) (j := 10) (T := TX1) hx hb hown hK hi hts hin1 tyX1 tyX1_ok nmX1 (by decide) rfl rfl (by decide) rfl hl45 rfl (by decide +kernel) dX1_insertPlay_65) ?_
  refine ruL_c (n := 66) (n2 := 67) rfl (ru_bot) ?_
  refine ruL_c (n := 67) (n2 := 68) rfl (ru_bot) ?_
  refine ruL_c (n := 68) (n2 := 69) rfl (ru_vret hx hb hK hr hlocks dX1_insertPlay_68) ?_
  exact trivial

-- CueTour$CueList.sortPlays
def l_X1_sortPlays_7 : Nat → Int32 → aM → (Int32 → aM → Option (Int32 × aM)) → Option (Int32 × aM)
  | 0, _, _, _ => none
  | n + 1, v1, σ2, k => if (σ2 3 4) ≤ v1 then k v1 σ2 else if inb v1 20 = true then if inb (σ2 14 (ix v1)) 20 = true then if (σ2 15 (ix (σ2 14 (ix v1)))) = ((-1)) then l_X1_sortPlays_7 n (v1 + 1) σ2 k else if inb v1 20 = true then bnd (f_X1_insertPlay (σ2 14 (ix v1)) σ2) (fun r8 σ9 => l_X1_sortPlays_7 n (v1 + 1) σ9 k) else none else none else none
def f_X1_sortPlays (σ : aM) : Option (Int32 × aM) := l_X1_sortPlays_7 lf 0 (mput σ 3 10 0) (fun v11 σ12 => some (0, σ12))
def F_X1_sortPlays : aF := fun As σ => match As with
  | [] => f_X1_sortPlays σ
  | _ => none
def T_X1_sortPlays (Qa : Int32 → aM → Prop) : List aI := [I_aload 0 1, I_const 0 1, I_putI 3 10, I_bot, I_bot, I_const 0 1, I_istore 1 1, I_iload 1 1, I_aload 0 1, I_getI 3 4, I_bot, I_bot, I_icmp (fun x y => y ≤ x) 46, I_bot, I_bot, I_aload 0 1, I_getR 3 15, I_bot, I_bot, I_aload 0 1, I_getR 3 14, I_bot, I_bot, I_iload 1 1, I_iald, I_iald, I_const (-1) 1, I_icmp (fun x y => x = y) 40, I_bot, I_bot, I_aload 0 1, I_aload 0 1, I_getR 3 14, I_bot, I_bot, I_iload 1 1, I_iald, I_callVv 3 1 F_X1_insertPlay, I_bot, I_bot, I_iinc 1 (1), I_bot, I_bot, I_goto 7, I_bot, I_bot, I_vret Qa]
set_option maxHeartbeats 4000000 in
set_option maxRecDepth 100000 in
theorem t_X1_sortPlays_7 {Qa : Int32 → aM → Prop} {K : aS → Prop} (hw : ∀ k x, wp (T_X1_sortPlays Qa) k K x → K x) (hf : ∀ pc L i st σ, K (pc, L.set i .null, st, σ) → K (pc, L, st, σ)) (y : Int32 × aM) (k : Int32 → aM → Option (Int32 × aM)) :
    ∀ (n : Nat) (v1 : Int32) (σ2 : aM), l_X1_sortPlays_7 n v1 σ2 k = some y → (∀ (w0 : Int32) (τ : aM), k w0 τ = some y → K (46, [.ref 3, .int w0], [], τ)) → K (7, [.ref 3, .int v1], [], σ2) := by
  intro n
  induction n with
  | zero =>
    intro v1 σ2 h hk
    exact absurd h (by simp [l_X1_sortPlays_7])
  | succ n ih =>
    intro v1 σ2 h hk
    unfold l_X1_sortPlays_7 at h
    rcases ite_cases h with ⟨c3, h⟩ | ⟨c3, h⟩
    · refine hw 4 _ ?_
      show (((σ2 3 4) ≤ v1) → K (46, [.ref 3, .int v1], [], σ2)) ∧ (¬ ((σ2 3 4) ≤ v1) → K (15, [.ref 3, .int v1], [], σ2))
      refine ⟨fun _ => ?_, fun q => absurd c3 q⟩
      exact hk v1 σ2 h
    · refine hw 4 _ ?_
      show (((σ2 3 4) ≤ v1) → K (46, [.ref 3, .int v1], [], σ2)) ∧ (¬ ((σ2 3 4) ≤ v1) → K (15, [.ref 3, .int v1], [], σ2))
      refine ⟨fun q => absurd q c3, fun _ => ?_⟩
      obtain ⟨g4, h⟩ := ite_some h
      obtain ⟨g5, h⟩ := ite_some h
      rcases ite_cases h with ⟨c6, h⟩ | ⟨c6, h⟩
      · refine hw 9 _ ?_
        show kd 14 = 1 ∧ (inb v1 20 = true ∧ (kd 15 = 1 ∧ (inb (σ2 14 (ix v1)) 20 = true ∧ ((((σ2 15 (ix (σ2 14 (ix v1)))) = ((-1))) → K (40, [.ref 3, .int v1], [], σ2)) ∧ (¬ ((σ2 15 (ix (σ2 14 (ix v1)))) = ((-1))) → K (30, [.ref 3, .int v1], [], σ2))))))
        refine ⟨rfl, g4, rfl, g5, ⟨fun _ => ?_, fun q => absurd c6 q⟩⟩
        refine hw 2 _ ?_
        show K (7, [.ref 3, .int (v1 + 1)], [], σ2)
        exact ih (v1 + 1) σ2 h hk
      · refine hw 9 _ ?_
        show kd 14 = 1 ∧ (inb v1 20 = true ∧ (kd 15 = 1 ∧ (inb (σ2 14 (ix v1)) 20 = true ∧ ((((σ2 15 (ix (σ2 14 (ix v1)))) = ((-1))) → K (40, [.ref 3, .int v1], [], σ2)) ∧ (¬ ((σ2 15 (ix (σ2 14 (ix v1)))) = ((-1))) → K (30, [.ref 3, .int v1], [], σ2))))))
        refine ⟨rfl, g4, rfl, g5, ⟨fun q => absurd q c6, fun _ => ?_⟩⟩
        obtain ⟨g7, h⟩ := ite_some h
        obtain ⟨r8, σ9, e10, h⟩ := bnd_some h
        refine hw 6 _ ?_
        show kd 14 = 1 ∧ (inb v1 20 = true ∧ (∃ r8 σ9, f_X1_insertPlay (σ2 14 (ix v1)) σ2 = some (r8, σ9) ∧ K (40, [.ref 3, .int v1], [], σ9)))
        refine ⟨rfl, g7, ⟨r8, σ9, e10, ?_⟩⟩
        refine hw 2 _ ?_
        show K (7, [.ref 3, .int (v1 + 1)], [], σ9)
        exact ih (v1 + 1) σ9 h hk

set_option maxHeartbeats 4000000 in
set_option maxRecDepth 100000 in
theorem s_X1_sortPlays : runs T_X1_sortPlays [.ref 3] 2 F_X1_sortPlays := by
  intro Qa K hw hf As σ r σ' h hQ
  unfold F_X1_sortPlays at h
  split at h
  · unfold f_X1_sortPlays at h
    have hQ : Qa (r, σ').1 (r, σ').2 := hQ
    generalize (r, σ') = y at h hQ
    show K (0, [.ref 3, .null], [], σ)
    refine hw 5 _ ?_
    show K (7, [.ref 3, .int 0], [], mput σ 3 10 0)
    refine t_X1_sortPlays_7 hw hf _ _ lf 0 (mput σ 3 10 0) h (fun v11 σ12 h => ?_)
    show K (46, [.ref 3, .int v11], [], σ12)
    obtain rfl := Option.some.inj h
    refine hw 1 _ ?_
    show Qa 0 σ12
    refine hQ
  · cases h
theorem h_X1_sortPlays : shp [.ref 3] 2 F_X1_sortPlays := by
  intro As σ r σ' h
  unfold F_X1_sortPlays at h
  split at h
  · exact ⟨by simp [Value.category], Nat.le_of_ble_eq_true rfl⟩
  · cases h
set_option maxHeartbeats 4000000 in
set_option maxRecDepth 100000 in
theorem c_X1_sortPlays (l : Launch) (D : va_G) (cI cZ cA cL : ClassId) (ad : Nat → Nat) (hi : adI ad) : CtV l yX1_sortPlays wsX1_sortPlays { frames := 1, cells := 0, slots := 0, locals := 22 } D cI cZ cA cL ad [.ref 3] F_X1_sortPlays := by
  refine mk_V [.ref 3] F_X1_sortPlays T_X1_sortPlays (by decide +kernel) rfl ?_ h_X1_sortPlays s_X1_sortPlays
  intro p e s m args below meth c Qa ⟨hx, hb, hml, hown, hts, hr, hlocks, hK, hN⟩
  have hin1 : ∀ w ∈ u_ws RX1 TX1 11, w ∈ wsX1_sortPlays := by decide +kernel
  have hl45 : (Cond.fieldLink RX1 45 RX1 (TX1 10).2.1 (TX1 10).2.2.1) ∈ wsX1_sortPlays := by decide +kernel
  have hl26 : (Cond.fieldLink RX1 26 RX1 (TX1 4).2.1 (TX1 4).2.2.1) ∈ wsX1_sortPlays := by decide +kernel
  have hl33 : (Cond.fieldLink RX1 33 RX1 (TX1 6).2.1 (TX1 6).2.2.1) ∈ wsX1_sortPlays := by decide +kernel
  have hl30 : (Cond.fieldLink RX1 30 RX1 (TX1 5).2.1 (TX1 5).2.2.1) ∈ wsX1_sortPlays := by decide +kernel
  refine ruL_c (n := 0) (n2 := 1) rfl (ru_aload_n (k := 0) hx hb dX1_sortPlays_0) ?_
  refine ruL_c (n := 1) (n2 := 2) rfl (ru_iconst hx hb dX1_sortPlays_1 rfl) ?_
  refine ruL_c (n := 2) (n2 := 3) rfl (ru_putI (own := RX1) (j := 10) (T := TX1) hx hb hown hK hi hts hin1 tyX1 tyX1_ok nmX1 (by decide) rfl rfl (by decide) rfl hl45 rfl (by decide +kernel) dX1_sortPlays_2) ?_
  refine ruL_c (n := 3) (n2 := 4) rfl (ru_bot) ?_
  refine ruL_c (n := 4) (n2 := 5) rfl (ru_bot) ?_
  refine ruL_c (n := 5) (n2 := 6) rfl (ru_iconst hx hb dX1_sortPlays_5 rfl) ?_
  refine ruL_c (n := 6) (n2 := 7) rfl (ru_istore_n (k := 1) hx hb dX1_sortPlays_6) ?_
  refine ruL_c (n := 7) (n2 := 8) rfl (ru_iload_n (k := 1) hx hb dX1_sortPlays_7) ?_
  refine ruL_c (n := 8) (n2 := 9) rfl (ru_aload_n (k := 0) hx hb dX1_sortPlays_8) ?_
  refine ruL_c (n := 9) (n2 := 10) rfl (ru_getI (own := RX1) (j := 4) (T := TX1) hx hb hown hK hts hin1 (by decide) rfl rfl (by decide) rfl hl26 dX1_sortPlays_9) ?_
  refine ruL_c (n := 10) (n2 := 11) rfl (ru_bot) ?_
  refine ruL_c (n := 11) (n2 := 12) rfl (ru_bot) ?_
  refine ruL_c (n := 12) (n2 := 13) rfl (ru_icmpge hx hb dX1_sortPlays_12 (by decide)) ?_
  refine ruL_c (n := 13) (n2 := 14) rfl (ru_bot) ?_
  refine ruL_c (n := 14) (n2 := 15) rfl (ru_bot) ?_
  refine ruL_c (n := 15) (n2 := 16) rfl (ru_aload_n (k := 0) hx hb dX1_sortPlays_15) ?_
  refine ruL_c (n := 16) (n2 := 17) rfl (ru_getR (own := RX1) (j := 6) (T := TX1) hx hb hown hK hts hin1 (by decide) rfl rfl (by decide) rfl hl33 dX1_sortPlays_16) ?_
  refine ruL_c (n := 17) (n2 := 18) rfl (ru_bot) ?_
  refine ruL_c (n := 18) (n2 := 19) rfl (ru_bot) ?_
  refine ruL_c (n := 19) (n2 := 20) rfl (ru_aload_n (k := 0) hx hb dX1_sortPlays_19) ?_
  refine ruL_c (n := 20) (n2 := 21) rfl (ru_getR (own := RX1) (j := 5) (T := TX1) hx hb hown hK hts hin1 (by decide) rfl rfl (by decide) rfl hl30 dX1_sortPlays_20) ?_
  refine ruL_c (n := 21) (n2 := 22) rfl (ru_bot) ?_
  refine ruL_c (n := 22) (n2 := 23) rfl (ru_bot) ?_
  refine ruL_c (n := 23) (n2 := 24) rfl (ru_iload_n (k := 1) hx hb dX1_sortPlays_23) ?_
  refine ruL_c (n := 24) (n2 := 25) rfl (ru_iald hx hb hK dX1_sortPlays_24) ?_
  refine ruL_c (n := 25) (n2 := 26) rfl (ru_iald hx hb hK dX1_sortPlays_25) ?_
  refine ruL_c (n := 26) (n2 := 27) rfl (ru_iconst hx hb dX1_sortPlays_26 rfl) ?_
  refine ruL_c (n := 27) (n2 := 28) rfl (ru_icmpeq hx hb dX1_sortPlays_27 (by decide)) ?_
  refine ruL_c (n := 28) (n2 := 29) rfl (ru_bot) ?_
  refine ruL_c (n := 29) (n2 := 30) rfl (ru_bot) ?_
  refine ruL_c (n := 30) (n2 := 31) rfl (ru_aload_n (k := 0) hx hb dX1_sortPlays_30) ?_
  refine ruL_c (n := 31) (n2 := 32) rfl (ru_aload_n (k := 0) hx hb dX1_sortPlays_31) ?_
  refine ruL_c (n := 32) (n2 := 33) rfl (ru_getR (own := RX1) (j := 5) (T := TX1) hx hb hown hK hts hin1 (by decide) rfl rfl (by decide) rfl hl30 dX1_sortPlays_32) ?_
  refine ruL_c (n := 33) (n2 := 34) rfl (ru_bot) ?_
  refine ruL_c (n := 34) (n2 := 35) rfl (ru_bot) ?_
  refine ruL_c (n := 35) (n2 := 36) rfl (ru_iload_n (k := 1) hx hb dX1_sortPlays_35) ?_
  refine ruL_c (n := 36) (n2 := 37) rfl (ru_iald hx hb hK dX1_sortPlays_36) ?_
  refine ruL_c (n := 37) (n2 := 38) rfl (ru_callVv hx hb hml hown hts hK hN (by decide) rfl (c_X1_insertPlay l D cI cZ cA cL ad hi) (cwV 1 hts gX1_sortPlays_X1_insertPlay rfl rfl rfl (by decide +kernel) ⟨Nat.le_of_ble_eq_true rfl, Nat.le_of_ble_eq_true rfl⟩) dX1_sortPlays_37 ⟨Nat.zero_le _, Nat.zero_le _⟩) ?_
  refine ruL_c (n := 38) (n2 := 39) rfl (ru_bot) ?_
  refine ruL_c (n := 39) (n2 := 40) rfl (ru_bot) ?_
  refine ruL_c (n := 40) (n2 := 41) rfl (ru_iinc hx hb dX1_sortPlays_40 rfl) ?_
  refine ruL_c (n := 41) (n2 := 42) rfl (ru_bot) ?_
  refine ruL_c (n := 42) (n2 := 43) rfl (ru_bot) ?_
  refine ruL_c (n := 43) (n2 := 44) rfl (ru_goto hx hb dX1_sortPlays_43 (by decide)) ?_
  refine ruL_c (n := 44) (n2 := 45) rfl (ru_bot) ?_
  refine ruL_c (n := 45) (n2 := 46) rfl (ru_bot) ?_
  refine ruL_c (n := 46) (n2 := 47) rfl (ru_vret hx hb hK hr hlocks dX1_sortPlays_46) ?_
  exact trivial

-- CueTour$CueList.arrange
def f_X1_arrange (σ : aM) : Option (Int32 × aM) := bnd (f_X1_sortCues σ) (fun r1 σ2 => bnd (f_X1_setTimes σ2) (fun r4 σ5 => bnd (f_X1_fold σ5) (fun r7 σ8 => bnd (f_X1_sortPlays σ8) (fun r10 σ11 => some (0, σ11)))))
def F_X1_arrange : aF := fun As σ => match As with
  | [.ref 1] => f_X1_arrange σ
  | _ => none
def T_X1_arrange (Qa : Int32 → aM → Prop) : List aI := [I_aload 0 1, I_callVv 3 0 F_X1_sortCues, I_bot, I_bot, I_aload 0 1, I_aload 1 1, I_callVv 3 1 F_X1_setTimes, I_bot, I_bot, I_aload 0 1, I_callVv 3 0 F_X1_fold, I_bot, I_bot, I_aload 0 1, I_callVv 3 0 F_X1_sortPlays, I_bot, I_bot, I_vret Qa]
set_option maxHeartbeats 4000000 in
set_option maxRecDepth 100000 in
theorem s_X1_arrange : runs T_X1_arrange [.ref 3] 2 F_X1_arrange := by
  intro Qa K hw hf As σ r σ' h hQ
  unfold F_X1_arrange at h
  split at h
  · unfold f_X1_arrange at h
    have hQ : Qa (r, σ').1 (r, σ').2 := hQ
    generalize (r, σ') = y at h hQ
    show K (0, [.ref 3, .ref 1], [], σ)
    obtain ⟨r1, σ2, e3, h⟩ := bnd_some h
    refine hw 2 _ ?_
    show ∃ r1 σ2, f_X1_sortCues σ = some (r1, σ2) ∧ K (4, [.ref 3, .ref 1], [], σ2)
    refine ⟨r1, σ2, e3, ?_⟩
    obtain ⟨r4, σ5, e6, h⟩ := bnd_some h
    refine hw 3 _ ?_
    show ∃ r4 σ5, f_X1_setTimes σ2 = some (r4, σ5) ∧ K (9, [.ref 3, .ref 1], [], σ5)
    refine ⟨r4, σ5, e6, ?_⟩
    obtain ⟨r7, σ8, e9, h⟩ := bnd_some h
    refine hw 2 _ ?_
    show ∃ r7 σ8, f_X1_fold σ5 = some (r7, σ8) ∧ K (13, [.ref 3, .ref 1], [], σ8)
    refine ⟨r7, σ8, e9, ?_⟩
    obtain ⟨r10, σ11, e12, h⟩ := bnd_some h
    refine hw 2 _ ?_
    show ∃ r10 σ11, f_X1_sortPlays σ8 = some (r10, σ11) ∧ K (17, [.ref 3, .ref 1], [], σ11)
    refine ⟨r10, σ11, e12, ?_⟩
    obtain rfl := Option.some.inj h
    refine hw 1 _ ?_
    show Qa 0 σ11
    refine hQ
  · cases h
theorem h_X1_arrange : shp [.ref 3] 2 F_X1_arrange := by
  intro As σ r σ' h
  unfold F_X1_arrange at h
  split at h
  · exact ⟨by simp [Value.category], Nat.le_of_ble_eq_true rfl⟩
  · cases h
set_option maxHeartbeats 4000000 in
set_option maxRecDepth 100000 in
theorem c_X1_arrange (l : Launch) (D : va_G) (cI cZ cA cL : ClassId) (ad : Nat → Nat) (hi : adI ad) : CtV l yX1_arrange wsX1_arrange { frames := 2, cells := 0, slots := 0, locals := 46 } D cI cZ cA cL ad [.ref 3] F_X1_arrange := by
  refine mk_V [.ref 3] F_X1_arrange T_X1_arrange (by decide +kernel) rfl ?_ h_X1_arrange s_X1_arrange
  intro p e s m args below meth c Qa ⟨hx, hb, hml, hown, hts, hr, hlocks, hK, hN⟩
  refine ruL_c (n := 0) (n2 := 1) rfl (ru_aload_n (k := 0) hx hb dX1_arrange_0) ?_
  refine ruL_c (n := 1) (n2 := 2) rfl (ru_callVv hx hb hml hown hts hK hN (by decide) rfl (c_X1_sortCues l D cI cZ cA cL ad hi) (cwV 0 hts gX1_arrange_X1_sortCues rfl rfl rfl (by decide +kernel) ⟨Nat.le_of_ble_eq_true rfl, Nat.le_of_ble_eq_true rfl⟩) dX1_arrange_1 ⟨Nat.zero_le _, Nat.zero_le _⟩) ?_
  refine ruL_c (n := 2) (n2 := 3) rfl (ru_bot) ?_
  refine ruL_c (n := 3) (n2 := 4) rfl (ru_bot) ?_
  refine ruL_c (n := 4) (n2 := 5) rfl (ru_aload_n (k := 0) hx hb dX1_arrange_4) ?_
  refine ruL_c (n := 5) (n2 := 6) rfl (ru_aload_n (k := 1) hx hb dX1_arrange_5) ?_
  refine ruL_c (n := 6) (n2 := 7) rfl (ru_callVv hx hb hml hown hts hK hN (by decide) rfl (c_X1_setTimes l D cI cZ cA cL ad hi) (cwV 1 hts gX1_arrange_X1_setTimes rfl rfl rfl (by decide +kernel) ⟨Nat.le_of_ble_eq_true rfl, Nat.le_of_ble_eq_true rfl⟩) dX1_arrange_6 ⟨Nat.zero_le _, Nat.zero_le _⟩) ?_
  refine ruL_c (n := 7) (n2 := 8) rfl (ru_bot) ?_
  refine ruL_c (n := 8) (n2 := 9) rfl (ru_bot) ?_
  refine ruL_c (n := 9) (n2 := 10) rfl (ru_aload_n (k := 0) hx hb dX1_arrange_9) ?_
  refine ruL_c (n := 10) (n2 := 11) rfl (ru_callVv hx hb hml hown hts hK hN (by decide) rfl (c_X1_fold l D cI cZ cA cL ad hi) (cwV 0 hts gX1_arrange_X1_fold rfl rfl rfl (by decide +kernel) ⟨Nat.le_of_ble_eq_true rfl, Nat.le_of_ble_eq_true rfl⟩) dX1_arrange_10 ⟨Nat.zero_le _, Nat.zero_le _⟩) ?_
  refine ruL_c (n := 11) (n2 := 12) rfl (ru_bot) ?_
  refine ruL_c (n := 12) (n2 := 13) rfl (ru_bot) ?_
  refine ruL_c (n := 13) (n2 := 14) rfl (ru_aload_n (k := 0) hx hb dX1_arrange_13) ?_
  refine ruL_c (n := 14) (n2 := 15) rfl (ru_callVv hx hb hml hown hts hK hN (by decide) rfl (c_X1_sortPlays l D cI cZ cA cL ad hi) (cwV 0 hts gX1_arrange_X1_sortPlays rfl rfl rfl (by decide +kernel) ⟨Nat.le_of_ble_eq_true rfl, Nat.le_of_ble_eq_true rfl⟩) dX1_arrange_14 ⟨Nat.zero_le _, Nat.zero_le _⟩) ?_
  refine ruL_c (n := 15) (n2 := 16) rfl (ru_bot) ?_
  refine ruL_c (n := 16) (n2 := 17) rfl (ru_bot) ?_
  refine ruL_c (n := 17) (n2 := 18) rfl (ru_vret hx hb hK hr hlocks dX1_arrange_17) ?_
  exact trivial

-- CueTour$CueList.levelBehind
def f_X1_levelBehind (p0 : Int32) (p1 : Int32) (p2 : Int32) (p3 : Int32) (σ : aM) : Option (Int32 × aM) := if p1 ≤ 0 then some (p3, σ) else if p0 < p1 then if ¬ p1 = 0 then some (p2 + (((p3 - p2) * p0) / p1), σ) else none else some (p3, σ)
def F_X1_levelBehind : aF := fun As σ => match As with
  | [.int p0, .int p1, .int p2, .int p3] => f_X1_levelBehind p0 p1 p2 p3 σ
  | _ => none
def T_X1_levelBehind (Qa : Int32 → aM → Prop) : List aI := [I_iload 1 1, I_if (fun x => x ≤ 0) 9, I_bot, I_bot, I_iload 0 1, I_iload 1 1, I_icmp (fun x y => x < y) 11, I_bot, I_bot, I_iload 3 1, I_iret Qa, I_iload 2 1, I_iload 3 1, I_iload 2 1, I_bin fun x y => x - y, I_iload 0 1, I_bin fun x y => x * y, I_iload 1 1, I_div fun x y => x / y, I_bin fun x y => x + y, I_iret Qa]
set_option maxHeartbeats 4000000 in
set_option maxRecDepth 100000 in
theorem s_X1_levelBehind : runs T_X1_levelBehind [] 4 F_X1_levelBehind := by
  intro Qa K hw hf As σ r σ' h hQ
  unfold F_X1_levelBehind at h
  split at h
  · rename_i p0 p1 p2 p3
    unfold f_X1_levelBehind at h
    have hQ : Qa (r, σ').1 (r, σ').2 := hQ
    generalize (r, σ') = y at h hQ
    show K (0, [.int p0, .int p1, .int p2, .int p3], [], σ)
    rcases ite_cases h with ⟨c1, h⟩ | ⟨c1, h⟩
    · refine hw 2 _ ?_
      show ((p1 ≤ 0) → K (9, [.int p0, .int p1, .int p2, .int p3], [], σ)) ∧ (¬ (p1 ≤ 0) → K (4, [.int p0, .int p1, .int p2, .int p3], [], σ))
      refine ⟨fun _ => ?_, fun q => absurd c1 q⟩
      obtain rfl := Option.some.inj h
      refine hw 2 _ ?_
      show Qa p3 σ
      refine hQ
    · refine hw 2 _ ?_
      show ((p1 ≤ 0) → K (9, [.int p0, .int p1, .int p2, .int p3], [], σ)) ∧ (¬ (p1 ≤ 0) → K (4, [.int p0, .int p1, .int p2, .int p3], [], σ))
      refine ⟨fun q => absurd q c1, fun _ => ?_⟩
      rcases ite_cases h with ⟨c2, h⟩ | ⟨c2, h⟩
      · refine hw 3 _ ?_
        show ((p0 < p1) → K (11, [.int p0, .int p1, .int p2, .int p3], [], σ)) ∧ (¬ (p0 < p1) → K (9, [.int p0, .int p1, .int p2, .int p3], [], σ))
        refine ⟨fun _ => ?_, fun q => absurd c2 q⟩
        obtain ⟨g3, h⟩ := ite_some h
        obtain rfl := Option.some.inj h
        refine hw 10 _ ?_
        show ¬ p1 = 0 ∧ (Qa (p2 + (((p3 - p2) * p0) / p1)) σ)
        refine ⟨g3, hQ⟩
      · refine hw 3 _ ?_
        show ((p0 < p1) → K (11, [.int p0, .int p1, .int p2, .int p3], [], σ)) ∧ (¬ (p0 < p1) → K (9, [.int p0, .int p1, .int p2, .int p3], [], σ))
        refine ⟨fun q => absurd q c2, fun _ => ?_⟩
        obtain rfl := Option.some.inj h
        refine hw 2 _ ?_
        show Qa p3 σ
        refine hQ
  · cases h
theorem h_X1_levelBehind : shp [] 4 F_X1_levelBehind := by
  intro As σ r σ' h
  unfold F_X1_levelBehind at h
  split at h
  · exact ⟨by simp [Value.category], Nat.le_of_ble_eq_true rfl⟩
  · cases h
set_option maxHeartbeats 4000000 in
set_option maxRecDepth 100000 in
theorem c_X1_levelBehind (l : Launch) (D : va_G) (cI cZ cA cL : ClassId) (ad : Nat → Nat) (hi : adI ad) : CtI l yX1_levelBehind wsX1_levelBehind { frames := 0, cells := 0, slots := 0, locals := 0 } D cI cZ cA cL ad [] F_X1_levelBehind := by
  refine mk_I [] F_X1_levelBehind T_X1_levelBehind (by decide +kernel) rfl ?_ h_X1_levelBehind s_X1_levelBehind
  intro p e s m args below meth c Qa ⟨hx, hb, hml, hown, hts, hr, hlocks, hK, hN⟩
  refine ruL_c (n := 0) (n2 := 1) rfl (ru_iload_n (k := 1) hx hb dX1_levelBehind_0) ?_
  refine ruL_c (n := 1) (n2 := 2) rfl (ru_ifle hx hb dX1_levelBehind_1 (by decide)) ?_
  refine ruL_c (n := 2) (n2 := 3) rfl (ru_bot) ?_
  refine ruL_c (n := 3) (n2 := 4) rfl (ru_bot) ?_
  refine ruL_c (n := 4) (n2 := 5) rfl (ru_iload_n (k := 0) hx hb dX1_levelBehind_4) ?_
  refine ruL_c (n := 5) (n2 := 6) rfl (ru_iload_n (k := 1) hx hb dX1_levelBehind_5) ?_
  refine ruL_c (n := 6) (n2 := 7) rfl (ru_icmplt hx hb dX1_levelBehind_6 (by decide)) ?_
  refine ruL_c (n := 7) (n2 := 8) rfl (ru_bot) ?_
  refine ruL_c (n := 8) (n2 := 9) rfl (ru_bot) ?_
  refine ruL_c (n := 9) (n2 := 10) rfl (ru_iload_n (k := 3) hx hb dX1_levelBehind_9) ?_
  refine ruL_c (n := 10) (n2 := 11) rfl (ru_iret hx hb hK hr hlocks dX1_levelBehind_10) ?_
  refine ruL_c (n := 11) (n2 := 12) rfl (ru_iload_n (k := 2) hx hb dX1_levelBehind_11) ?_
  refine ruL_c (n := 12) (n2 := 13) rfl (ru_iload_n (k := 3) hx hb dX1_levelBehind_12) ?_
  refine ruL_c (n := 13) (n2 := 14) rfl (ru_iload_n (k := 2) hx hb dX1_levelBehind_13) ?_
  refine ruL_c (n := 14) (n2 := 15) rfl (ru_isub hx hb dX1_levelBehind_14) ?_
  refine ruL_c (n := 15) (n2 := 16) rfl (ru_iload_n (k := 0) hx hb dX1_levelBehind_15) ?_
  refine ruL_c (n := 16) (n2 := 17) rfl (ru_imul hx hb dX1_levelBehind_16) ?_
  refine ruL_c (n := 17) (n2 := 18) rfl (ru_iload_n (k := 1) hx hb dX1_levelBehind_17) ?_
  refine ruL_c (n := 18) (n2 := 19) rfl (ru_idiv hx hb dX1_levelBehind_18) ?_
  refine ruL_c (n := 19) (n2 := 20) rfl (ru_iadd hx hb dX1_levelBehind_19) ?_
  refine ruL_c (n := 20) (n2 := 21) rfl (ru_iret hx hb hK hr hlocks dX1_levelBehind_20) ?_
  exact trivial

-- CueTour$CueList.levelByFades
def l_X1_levelByFades_14 (x1 : Int32) (x2 : Int32) : Nat → Int32 → Int32 → Int32 → Int32 → Int32 → aM → (Int32 → Int32 → Int32 → Int32 → Int32 → aM → Option (Int32 × aM)) → Option (Int32 × aM)
  | 0, _, _, _, _, _, _, _ => none
  | n + 1, v3, v4, v5, v6, v7, σ8, k => if (σ8 3 10) ≤ v7 then k v3 v4 v5 v6 v7 σ8 else if inb v7 20 = true then if inb (σ8 17 (ix v7)) 20 = true then if x2 < (σ8 15 (ix (σ8 17 (ix v7)))) then k v3 v4 v5 v6 v7 σ8 else if inb v7 20 = true then if inb (σ8 17 (ix v7)) 20 = true then if inb x1 10 = true then if (σ8 (108 + ix (σ8 17 (ix v7))) (ix x1)) = ((-1)) then l_X1_levelByFades_14 x1 x2 n v3 v4 v5 v6 (v7 + 1) σ8 k else if inb (σ8 17 (ix v7)) 20 = true then bnd (f_X1_levelBehind ((σ8 15 (ix (σ8 17 (ix v7)))) - v5) v6 v3 v4 σ8) (fun r18 σ19 => if inb (σ8 17 (ix v7)) 20 = true then if inb x1 10 = true then if inb (σ8 17 (ix v7)) 20 = true then if inb (σ8 17 (ix v7)) 20 = true then l_X1_levelByFades_14 x1 x2 n r18 (σ19 (108 + ix (σ8 17 (ix v7))) (ix x1)) (σ19 15 (ix (σ8 17 (ix v7)))) (σ19 13 (ix (σ8 17 (ix v7)))) (v7 + 1) σ19 k else none else none else none else none) else none else none else none else none else none else none
def f_X1_levelByFades (p0 : Int32) (p1 : Int32) (σ : aM) : Option (Int32 × aM) := l_X1_levelByFades_14 p0 p1 lf 0 0 0 0 0 σ (fun v25 v26 v27 v28 v29 σ30 => bnd (f_X1_levelBehind (p1 - v27) v28 v25 v26 σ30) (fun r31 σ32 => some (r31, σ32)))
def F_X1_levelByFades : aF := fun As σ => match As with
  | [.int p0, .int p1] => f_X1_levelByFades p0 p1 σ
  | _ => none
def T_X1_levelByFades (Qa : Int32 → aM → Prop) : List aI := [I_const 0 1, I_istore 3 1, I_const 0 1, I_istore 4 2, I_bot, I_const 0 1, I_istore 5 2, I_bot, I_const 0 1, I_istore 6 2, I_bot, I_const 0 1, I_istore 7 2, I_bot, I_iload 7 2, I_bot, I_aload 0 1, I_getI 3 10, I_bot, I_bot, I_icmp (fun x y => y ≤ x) 115, I_bot, I_bot, I_aload 0 1, I_getR 3 15, I_bot, I_bot, I_aload 0 1, I_getR 3 17, I_bot, I_bot, I_iload 7 2, I_bot, I_iald, I_iald, I_iload 2 1, I_icmp (fun x y => y < x) 115, I_bot, I_bot, I_aload 0 1, I_getR 3 17, I_bot, I_bot, I_iload 7 2, I_bot, I_iald, I_istore 8 2, I_bot, I_aload 0 1, I_getR 3 55, I_bot, I_bot, I_iload 8 2, I_bot, I_aald, I_iload 1 1, I_iald, I_const (-1) 1, I_icmp (fun x y => x = y) 109, I_bot, I_bot, I_aload 0 1, I_getR 3 15, I_bot, I_bot, I_iload 8 2, I_bot, I_iald, I_iload 5 2, I_bot, I_bin fun x y => x - y, I_iload 6 2, I_bot, I_iload 3 1, I_iload 4 2, I_bot, I_callS 4 F_X1_levelBehind, I_bot, I_bot, I_istore 3 1, I_aload 0 1, I_getR 3 55, I_bot, I_bot, I_iload 8 2, I_bot, I_aald, I_iload 1 1, I_iald, I_istore 4 2, I_bot, I_aload 0 1, I_getR 3 15, I_bot, I_bot, I_iload 8 2, I_bot, I_iald, I_istore 5 2, I_bot, I_aload 0 1, I_getR 3 13, I_bot, I_bot, I_iload 8 2, I_bot, I_iald, I_istore 6 2, I_bot, I_iinc 7 (1), I_bot, I_bot, I_goto 14, I_bot, I_bot, I_iload 2 1, I_iload 5 2, I_bot, I_bin fun x y => x - y, I_iload 6 2, I_bot, I_iload 3 1, I_iload 4 2, I_bot, I_callS 4 F_X1_levelBehind, I_bot, I_bot, I_iret Qa]
set_option maxHeartbeats 4000000 in
set_option maxRecDepth 100000 in
theorem t_X1_levelByFades_14 {Qa : Int32 → aM → Prop} {K : aS → Prop} (hw : ∀ k x, wp (T_X1_levelByFades Qa) k K x → K x) (hf : ∀ pc L i st σ, K (pc, L.set i .null, st, σ) → K (pc, L, st, σ)) (x1 : Int32) (x2 : Int32) (y : Int32 × aM) (k : Int32 → Int32 → Int32 → Int32 → Int32 → aM → Option (Int32 × aM)) :
    ∀ (n : Nat) (v3 : Int32) (v4 : Int32) (v5 : Int32) (v6 : Int32) (v7 : Int32) (σ8 : aM), l_X1_levelByFades_14 x1 x2 n v3 v4 v5 v6 v7 σ8 k = some y → (∀ (w0 : Int32) (w1 : Int32) (w2 : Int32) (w3 : Int32) (w4 : Int32) (τ : aM), k w0 w1 w2 w3 w4 τ = some y → K (115, [.ref 3, .int x1, .int x2, .int w0, .int w1, .int w2, .int w3, .int w4, .null], [], τ)) → K (14, [.ref 3, .int x1, .int x2, .int v3, .int v4, .int v5, .int v6, .int v7, .null], [], σ8) := by
  intro n
  induction n with
  | zero =>
    intro v3 v4 v5 v6 v7 σ8 h hk
    exact absurd h (by simp [l_X1_levelByFades_14])
  | succ n ih =>
    intro v3 v4 v5 v6 v7 σ8 h hk
    unfold l_X1_levelByFades_14 at h
    rcases ite_cases h with ⟨c9, h⟩ | ⟨c9, h⟩
    · refine hw 4 _ ?_
      show (((σ8 3 10) ≤ v7) → K (115, [.ref 3, .int x1, .int x2, .int v3, .int v4, .int v5, .int v6, .int v7, .null], [], σ8)) ∧ (¬ ((σ8 3 10) ≤ v7) → K (23, [.ref 3, .int x1, .int x2, .int v3, .int v4, .int v5, .int v6, .int v7, .null], [], σ8))
      refine ⟨fun _ => ?_, fun q => absurd c9 q⟩
      exact hk v3 v4 v5 v6 v7 σ8 h
    · refine hw 4 _ ?_
      show (((σ8 3 10) ≤ v7) → K (115, [.ref 3, .int x1, .int x2, .int v3, .int v4, .int v5, .int v6, .int v7, .null], [], σ8)) ∧ (¬ ((σ8 3 10) ≤ v7) → K (23, [.ref 3, .int x1, .int x2, .int v3, .int v4, .int v5, .int v6, .int v7, .null], [], σ8))
      refine ⟨fun q => absurd q c9, fun _ => ?_⟩
      obtain ⟨g10, h⟩ := ite_some h
      obtain ⟨g11, h⟩ := ite_some h
      rcases ite_cases h with ⟨c12, h⟩ | ⟨c12, h⟩
      · refine hw 9 _ ?_
        show kd 17 = 1 ∧ (inb v7 20 = true ∧ (kd 15 = 1 ∧ (inb (σ8 17 (ix v7)) 20 = true ∧ (((x2 < (σ8 15 (ix (σ8 17 (ix v7))))) → K (115, [.ref 3, .int x1, .int x2, .int v3, .int v4, .int v5, .int v6, .int v7, .null], [], σ8)) ∧ (¬ (x2 < (σ8 15 (ix (σ8 17 (ix v7))))) → K (39, [.ref 3, .int x1, .int x2, .int v3, .int v4, .int v5, .int v6, .int v7, .null], [], σ8))))))
        refine ⟨rfl, g10, rfl, g11, ⟨fun _ => ?_, fun q => absurd c12 q⟩⟩
        exact hk v3 v4 v5 v6 v7 σ8 h
      · refine hw 9 _ ?_
        show kd 17 = 1 ∧ (inb v7 20 = true ∧ (kd 15 = 1 ∧ (inb (σ8 17 (ix v7)) 20 = true ∧ (((x2 < (σ8 15 (ix (σ8 17 (ix v7))))) → K (115, [.ref 3, .int x1, .int x2, .int v3, .int v4, .int v5, .int v6, .int v7, .null], [], σ8)) ∧ (¬ (x2 < (σ8 15 (ix (σ8 17 (ix v7))))) → K (39, [.ref 3, .int x1, .int x2, .int v3, .int v4, .int v5, .int v6, .int v7, .null], [], σ8))))))
        refine ⟨rfl, g10, rfl, g11, ⟨fun q => absurd q c12, fun _ => ?_⟩⟩
        obtain ⟨g13, h⟩ := ite_some h
        obtain ⟨g14, h⟩ := ite_some h
        obtain ⟨g15, h⟩ := ite_some h
        rcases ite_cases h with ⟨c16, h⟩ | ⟨c16, h⟩
        · refine hw 13 _ ?_
          show kd 17 = 1 ∧ (inb v7 20 = true ∧ (kd 55 = 3 ∧ (inb (σ8 17 (ix v7)) 20 = true ∧ (kd (108 + ix (σ8 17 (ix v7))) = 1 ∧ (inb x1 (ln (108 + ix (σ8 17 (ix v7)))) = true ∧ ((((σ8 (108 + ix (σ8 17 (ix v7))) (ix x1)) = ((-1))) → K (109, [.ref 3, .int x1, .int x2, .int v3, .int v4, .int v5, .int v6, .int v7, .int (σ8 17 (ix v7))], [], σ8)) ∧ (¬ ((σ8 (108 + ix (σ8 17 (ix v7))) (ix x1)) = ((-1))) → K (61, [.ref 3, .int x1, .int x2, .int v3, .int v4, .int v5, .int v6, .int v7, .int (σ8 17 (ix v7))], [], σ8))))))))
          refine ⟨rfl, g13, rfl, g14, (row55_kd g14), (by rw [row55_ln g14]; exact g15), ⟨fun _ => ?_, fun q => absurd c16 q⟩⟩
          refine hw 2 _ ?_
          show K (14, [.ref 3, .int x1, .int x2, .int v3, .int v4, .int v5, .int v6, .int (v7 + 1), .int (σ8 17 (ix v7))], [], σ8)
          refine hf _ _ 8 _ _ ?_
          show K (14, [.ref 3, .int x1, .int x2, .int v3, .int v4, .int v5, .int v6, .int (v7 + 1), .null], [], σ8)
          exact ih v3 v4 v5 v6 (v7 + 1) σ8 h hk
        · refine hw 13 _ ?_
          show kd 17 = 1 ∧ (inb v7 20 = true ∧ (kd 55 = 3 ∧ (inb (σ8 17 (ix v7)) 20 = true ∧ (kd (108 + ix (σ8 17 (ix v7))) = 1 ∧ (inb x1 (ln (108 + ix (σ8 17 (ix v7)))) = true ∧ ((((σ8 (108 + ix (σ8 17 (ix v7))) (ix x1)) = ((-1))) → K (109, [.ref 3, .int x1, .int x2, .int v3, .int v4, .int v5, .int v6, .int v7, .int (σ8 17 (ix v7))], [], σ8)) ∧ (¬ ((σ8 (108 + ix (σ8 17 (ix v7))) (ix x1)) = ((-1))) → K (61, [.ref 3, .int x1, .int x2, .int v3, .int v4, .int v5, .int v6, .int v7, .int (σ8 17 (ix v7))], [], σ8))))))))
          refine ⟨rfl, g13, rfl, g14, (row55_kd g14), (by rw [row55_ln g14]; exact g15), ⟨fun q => absurd q c16, fun _ => ?_⟩⟩
          obtain ⟨g17, h⟩ := ite_some h
          obtain ⟨r18, σ19, e20, h⟩ := bnd_some h
          refine hw 10 _ ?_
          show kd 15 = 1 ∧ (inb (σ8 17 (ix v7)) 20 = true ∧ (∃ r18 σ19, f_X1_levelBehind ((σ8 15 (ix (σ8 17 (ix v7)))) - v5) v6 v3 v4 σ8 = some (r18, σ19) ∧ K (79, [.ref 3, .int x1, .int x2, .int v3, .int v4, .int v5, .int v6, .int v7, .int (σ8 17 (ix v7))], [.int r18], σ19)))
          refine ⟨rfl, g17, ⟨r18, σ19, e20, ?_⟩⟩
          obtain ⟨g21, h⟩ := ite_some h
          obtain ⟨g22, h⟩ := ite_some h
          obtain ⟨g23, h⟩ := ite_some h
          obtain ⟨g24, h⟩ := ite_some h
          refine hw 20 _ ?_
          show kd 55 = 3 ∧ (inb (σ8 17 (ix v7)) 20 = true ∧ (kd (108 + ix (σ8 17 (ix v7))) = 1 ∧ (inb x1 (ln (108 + ix (σ8 17 (ix v7)))) = true ∧ (kd 15 = 1 ∧ (inb (σ8 17 (ix v7)) 20 = true ∧ (kd 13 = 1 ∧ (inb (σ8 17 (ix v7)) 20 = true ∧ (K (14, [.ref 3, .int x1, .int x2, .int r18, .int (σ19 (108 + ix (σ8 17 (ix v7))) (ix x1)), .int (σ19 15 (ix (σ8 17 (ix v7)))), .int (σ19 13 (ix (σ8 17 (ix v7)))), .int (v7 + 1), .int (σ8 17 (ix v7))], [], σ19)))))))))
          refine ⟨rfl, g21, (row55_kd g21), (by rw [row55_ln g21]; exact g22), rfl, g23, rfl, g24, ?_⟩
          refine hf _ _ 8 _ _ ?_
          show K (14, [.ref 3, .int x1, .int x2, .int r18, .int (σ19 (108 + ix (σ8 17 (ix v7))) (ix x1)), .int (σ19 15 (ix (σ8 17 (ix v7)))), .int (σ19 13 (ix (σ8 17 (ix v7)))), .int (v7 + 1), .null], [], σ19)
          exact ih r18 (σ19 (108 + ix (σ8 17 (ix v7))) (ix x1)) (σ19 15 (ix (σ8 17 (ix v7)))) (σ19 13 (ix (σ8 17 (ix v7)))) (v7 + 1) σ19 h hk

set_option maxHeartbeats 4000000 in
set_option maxRecDepth 100000 in
theorem s_X1_levelByFades : runs T_X1_levelByFades [.ref 3] 9 F_X1_levelByFades := by
  intro Qa K hw hf As σ r σ' h hQ
  unfold F_X1_levelByFades at h
  split at h
  · rename_i p0 p1
    unfold f_X1_levelByFades at h
    have hQ : Qa (r, σ').1 (r, σ').2 := hQ
    generalize (r, σ') = y at h hQ
    show K (0, [.ref 3, .int p0, .int p1, .null, .null, .null, .null, .null, .null], [], σ)
    refine hw 10 _ ?_
    show K (14, [.ref 3, .int p0, .int p1, .int 0, .int 0, .int 0, .int 0, .int 0, .null], [], σ)
    refine t_X1_levelByFades_14 hw hf p0 p1 _ _ lf 0 0 0 0 0 σ h (fun v25 v26 v27 v28 v29 σ30 h => ?_)
    show K (115, [.ref 3, .int p0, .int p1, .int v25, .int v26, .int v27, .int v28, .int v29, .null], [], σ30)
    obtain ⟨r31, σ32, e33, h⟩ := bnd_some h
    refine hw 7 _ ?_
    show ∃ r31 σ32, f_X1_levelBehind (p1 - v27) v28 v25 v26 σ30 = some (r31, σ32) ∧ K (127, [.ref 3, .int p0, .int p1, .int v25, .int v26, .int v27, .int v28, .int v29, .null], [.int r31], σ32)
    refine ⟨r31, σ32, e33, ?_⟩
    obtain rfl := Option.some.inj h
    refine hw 1 _ ?_
    show Qa r31 σ32
    refine hQ
  · cases h
theorem h_X1_levelByFades : shp [.ref 3] 9 F_X1_levelByFades := by
  intro As σ r σ' h
  unfold F_X1_levelByFades at h
  split at h
  · exact ⟨by simp [Value.category], Nat.le_of_ble_eq_true rfl⟩
  · cases h
set_option maxHeartbeats 4000000 in
set_option maxRecDepth 100000 in
theorem c_X1_levelByFades (l : Launch) (D : va_G) (cI cZ cA cL : ClassId) (ad : Nat → Nat) (hi : adI ad) : CtI l yX1_levelByFades wsX1_levelByFades { frames := 1, cells := 0, slots := 0, locals := 23 } D cI cZ cA cL ad [.ref 3] F_X1_levelByFades := by
  refine mk_I [.ref 3] F_X1_levelByFades T_X1_levelByFades (by decide +kernel) rfl ?_ h_X1_levelByFades s_X1_levelByFades
  intro p e s m args below meth c Qa ⟨hx, hb, hml, hown, hts, hr, hlocks, hK, hN⟩
  have hin1 : ∀ w ∈ u_ws RX1 TX1 11, w ∈ wsX1_levelByFades := by decide +kernel
  have hl45 : (Cond.fieldLink RX1 45 RX1 (TX1 10).2.1 (TX1 10).2.2.1) ∈ wsX1_levelByFades := by decide +kernel
  have hl33 : (Cond.fieldLink RX1 33 RX1 (TX1 6).2.1 (TX1 6).2.2.1) ∈ wsX1_levelByFades := by decide +kernel
  have hl42 : (Cond.fieldLink RX1 42 RX1 (TX1 9).2.1 (TX1 9).2.2.1) ∈ wsX1_levelByFades := by decide +kernel
  have hl39 : (Cond.fieldLink RX1 39 RX1 (TX1 8).2.1 (TX1 8).2.2.1) ∈ wsX1_levelByFades := by decide +kernel
  have hl18 : (Cond.fieldLink RX1 18 RX1 (TX1 2).2.1 (TX1 2).2.2.1) ∈ wsX1_levelByFades := by decide +kernel
  refine ruL_c (n := 0) (n2 := 1) rfl (ru_iconst hx hb dX1_levelByFades_0 rfl) ?_
  refine ruL_c (n := 1) (n2 := 2) rfl (ru_istore_n (k := 3) hx hb dX1_levelByFades_1) ?_
  refine ruL_c (n := 2) (n2 := 3) rfl (ru_iconst hx hb dX1_levelByFades_2 rfl) ?_
  refine ruL_c (n := 3) (n2 := 4) rfl (ru_istore hx hb dX1_levelByFades_3) ?_
  refine ruL_c (n := 4) (n2 := 5) rfl (ru_bot) ?_
  refine ruL_c (n := 5) (n2 := 6) rfl (ru_iconst hx hb dX1_levelByFades_5 rfl) ?_
  refine ruL_c (n := 6) (n2 := 7) rfl (ru_istore hx hb dX1_levelByFades_6) ?_
  refine ruL_c (n := 7) (n2 := 8) rfl (ru_bot) ?_
  refine ruL_c (n := 8) (n2 := 9) rfl (ru_iconst hx hb dX1_levelByFades_8 rfl) ?_
  refine ruL_c (n := 9) (n2 := 10) rfl (ru_istore hx hb dX1_levelByFades_9) ?_
  refine ruL_c (n := 10) (n2 := 11) rfl (ru_bot) ?_
  refine ruL_c (n := 11) (n2 := 12) rfl (ru_iconst hx hb dX1_levelByFades_11 rfl) ?_
  refine ruL_c (n := 12) (n2 := 13) rfl (ru_istore hx hb dX1_levelByFades_12) ?_
  refine ruL_c (n := 13) (n2 := 14) rfl (ru_bot) ?_
  refine ruL_c (n := 14) (n2 := 15) rfl (ru_iload hx hb dX1_levelByFades_14) ?_
  refine ruL_c (n := 15) (n2 := 16) rfl (ru_bot) ?_
  refine ruL_c (n := 16) (n2 := 17) rfl (ru_aload_n (k := 0) hx hb dX1_levelByFades_16) ?_
  refine ruL_c (n := 17) (n2 := 18) rfl (ru_getI (own := RX1) (j := 10) (T := TX1) hx hb hown hK hts hin1 (by decide) rfl rfl (by decide) rfl hl45 dX1_levelByFades_17) ?_
  refine ruL_c (n := 18) (n2 := 19) rfl (ru_bot) ?_
  refine ruL_c (n := 19) (n2 := 20) rfl (ru_bot) ?_
  refine ruL_c (n := 20) (n2 := 21) rfl (ru_icmpge hx hb dX1_levelByFades_20 (by decide)) ?_
  refine ruL_c (n := 21) (n2 := 22) rfl (ru_bot) ?_
  refine ruL_c (n := 22) (n2 := 23) rfl (ru_bot) ?_
  refine ruL_c (n := 23) (n2 := 24) rfl (ru_aload_n (k := 0) hx hb dX1_levelByFades_23) ?_
  refine ruL_c (n := 24) (n2 := 25) rfl (ru_getR (own := RX1) (j := 6) (T := TX1) hx hb hown hK hts hin1 (by decide) rfl rfl (by decide) rfl hl33 dX1_levelByFades_24) ?_
  refine ruL_c (n := 25) (n2 := 26) rfl (ru_bot) ?_
  refine ruL_c (n := 26) (n2 := 27) rfl (ru_bot) ?_
  refine ruL_c (n := 27) (n2 := 28) rfl (ru_aload_n (k := 0) hx hb dX1_levelByFades_27) ?_
  refine ruL_c (n := 28) (n2 := 29) rfl (ru_getR (own := RX1) (j := 9) (T := TX1) hx hb hown hK hts hin1 (by decide) rfl rfl (by decide) rfl hl42 dX1_levelByFades_28) ?_
  refine ruL_c (n := 29) (n2 := 30) rfl (ru_bot) ?_
  refine ruL_c (n := 30) (n2 := 31) rfl (ru_bot) ?_
  refine ruL_c (n := 31) (n2 := 32) rfl (ru_iload hx hb dX1_levelByFades_31) ?_
  refine ruL_c (n := 32) (n2 := 33) rfl (ru_bot) ?_
  refine ruL_c (n := 33) (n2 := 34) rfl (ru_iald hx hb hK dX1_levelByFades_33) ?_
  refine ruL_c (n := 34) (n2 := 35) rfl (ru_iald hx hb hK dX1_levelByFades_34) ?_
  refine ruL_c (n := 35) (n2 := 36) rfl (ru_iload_n (k := 2) hx hb dX1_levelByFades_35) ?_
  refine ruL_c (n := 36) (n2 := 37) rfl (ru_icmpgt hx hb dX1_levelByFades_36 (by decide)) ?_
  refine ruL_c (n := 37) (n2 := 38) rfl (ru_bot) ?_
  refine ruL_c (n := 38) (n2 := 39) rfl (ru_bot) ?_
  refine ruL_c (n := 39) (n2 := 40) rfl (ru_aload_n (k := 0) hx hb dX1_levelByFades_39) ?_
  refine ruL_c (n := 40) (n2 := 41) rfl (ru_getR (own := RX1) (j := 9) (T := TX1) hx hb hown hK hts hin1 (by decide) rfl rfl (by decide) rfl hl42 dX1_levelByFades_40) ?_
  refine ruL_c (n := 41) (n2 := 42) rfl (ru_bot) ?_
  refine ruL_c (n := 42) (n2 := 43) rfl (ru_bot) ?_
  refine ruL_c (n := 43) (n2 := 44) rfl (ru_iload hx hb dX1_levelByFades_43) ?_
  refine ruL_c (n := 44) (n2 := 45) rfl (ru_bot) ?_
  refine ruL_c (n := 45) (n2 := 46) rfl (ru_iald hx hb hK dX1_levelByFades_45) ?_
  refine ruL_c (n := 46) (n2 := 47) rfl (ru_istore hx hb dX1_levelByFades_46) ?_
  refine ruL_c (n := 47) (n2 := 48) rfl (ru_bot) ?_
  refine ruL_c (n := 48) (n2 := 49) rfl (ru_aload_n (k := 0) hx hb dX1_levelByFades_48) ?_
  refine ruL_c (n := 49) (n2 := 50) rfl (ru_getR (own := RX1) (j := 8) (T := TX1) hx hb hown hK hts hin1 (by decide) rfl rfl (by decide) rfl hl39 dX1_levelByFades_49) ?_
  refine ruL_c (n := 50) (n2 := 51) rfl (ru_bot) ?_
  refine ruL_c (n := 51) (n2 := 52) rfl (ru_bot) ?_
  refine ruL_c (n := 52) (n2 := 53) rfl (ru_iload hx hb dX1_levelByFades_52) ?_
  refine ruL_c (n := 53) (n2 := 54) rfl (ru_bot) ?_
  refine ruL_c (n := 54) (n2 := 55) rfl (ru_aald hx hb hK dX1_levelByFades_54) ?_
  refine ruL_c (n := 55) (n2 := 56) rfl (ru_iload_n (k := 1) hx hb dX1_levelByFades_55) ?_
  refine ruL_c (n := 56) (n2 := 57) rfl (ru_iald hx hb hK dX1_levelByFades_56) ?_
  refine ruL_c (n := 57) (n2 := 58) rfl (ru_iconst hx hb dX1_levelByFades_57 rfl) ?_
  refine ruL_c (n := 58) (n2 := 59) rfl (ru_icmpeq hx hb dX1_levelByFades_58 (by decide)) ?_
  refine ruL_c (n := 59) (n2 := 60) rfl (ru_bot) ?_
  refine ruL_c (n := 60) (n2 := 61) rfl (ru_bot) ?_
  refine ruL_c (n := 61) (n2 := 62) rfl (ru_aload_n (k := 0) hx hb dX1_levelByFades_61) ?_
  refine ruL_c (n := 62) (n2 := 63) rfl (ru_getR (own := RX1) (j := 6) (T := TX1) hx hb hown hK hts hin1 (by decide) rfl rfl (by decide) rfl hl33 dX1_levelByFades_62) ?_
  refine ruL_c (n := 63) (n2 := 64) rfl (ru_bot) ?_
  refine ruL_c (n := 64) (n2 := 65) rfl (ru_bot) ?_
  refine ruL_c (n := 65) (n2 := 66) rfl (ru_iload hx hb dX1_levelByFades_65) ?_
  refine ruL_c (n := 66) (n2 := 67) rfl (ru_bot) ?_
  refine ruL_c (n := 67) (n2 := 68) rfl (ru_iald hx hb hK dX1_levelByFades_67) ?_
  refine ruL_c (n := 68) (n2 := 69) rfl (ru_iload hx hb dX1_levelByFades_68) ?_
  refine ruL_c (n := 69) (n2 := 70) rfl (ru_bot) ?_
  refine ruL_c (n := 70) (n2 := 71) rfl (ru_isub hx hb dX1_levelByFades_70) ?_
  refine ruL_c (n := 71) (n2 := 72) rfl (ru_iload hx hb dX1_levelByFades_71) ?_
  refine ruL_c (n := 72) (n2 := 73) rfl (ru_bot) ?_
  refine ruL_c (n := 73) (n2 := 74) rfl (ru_iload_n (k := 3) hx hb dX1_levelByFades_73) ?_
  refine ruL_c (n := 74) (n2 := 75) rfl (ru_iload hx hb dX1_levelByFades_74) ?_
  refine ruL_c (n := 75) (n2 := 76) rfl (ru_bot) ?_
  refine ruL_c (n := 76) (n2 := 77) rfl (ru_callS hx hb hml hown hts hK hN (c_X1_levelBehind l D cI cZ cA cL ad hi) (va_cwS 4 hts gX1_levelByFades_X1_levelBehind rfl rfl rfl (by decide +kernel) ⟨Nat.le_of_ble_eq_true rfl, Nat.le_of_ble_eq_true rfl⟩) dX1_levelByFades_76 ⟨Nat.zero_le _, Nat.zero_le _⟩) ?_
  refine ruL_c (n := 77) (n2 := 78) rfl (ru_bot) ?_
  refine ruL_c (n := 78) (n2 := 79) rfl (ru_bot) ?_
  refine ruL_c (n := 79) (n2 := 80) rfl (ru_istore_n (k := 3) hx hb dX1_levelByFades_79) ?_
  refine ruL_c (n := 80) (n2 := 81) rfl (ru_aload_n (k := 0) hx hb dX1_levelByFades_80) ?_
  refine ruL_c (n := 81) (n2 := 82) rfl (ru_getR (own := RX1) (j := 8) (T := TX1) hx hb hown hK hts hin1 (by decide) rfl rfl (by decide) rfl hl39 dX1_levelByFades_81) ?_
  refine ruL_c (n := 82) (n2 := 83) rfl (ru_bot) ?_
  refine ruL_c (n := 83) (n2 := 84) rfl (ru_bot) ?_
  refine ruL_c (n := 84) (n2 := 85) rfl (ru_iload hx hb dX1_levelByFades_84) ?_
  refine ruL_c (n := 85) (n2 := 86) rfl (ru_bot) ?_
  refine ruL_c (n := 86) (n2 := 87) rfl (ru_aald hx hb hK dX1_levelByFades_86) ?_
  refine ruL_c (n := 87) (n2 := 88) rfl (ru_iload_n (k := 1) hx hb dX1_levelByFades_87) ?_
  refine ruL_c (n := 88) (n2 := 89) rfl (ru_iald hx hb hK dX1_levelByFades_88) ?_
  refine ruL_c (n := 89) (n2 := 90) rfl (ru_istore hx hb dX1_levelByFades_89) ?_
  refine ruL_c (n := 90) (n2 := 91) rfl (ru_bot) ?_
  refine ruL_c (n := 91) (n2 := 92) rfl (ru_aload_n (k := 0) hx hb dX1_levelByFades_91) ?_
  refine ruL_c (n := 92) (n2 := 93) rfl (ru_getR (own := RX1) (j := 6) (T := TX1) hx hb hown hK hts hin1 (by decide) rfl rfl (by decide) rfl hl33 dX1_levelByFades_92) ?_
  refine ruL_c (n := 93) (n2 := 94) rfl (ru_bot) ?_
  refine ruL_c (n := 94) (n2 := 95) rfl (ru_bot) ?_
  refine ruL_c (n := 95) (n2 := 96) rfl (ru_iload hx hb dX1_levelByFades_95) ?_
  refine ruL_c (n := 96) (n2 := 97) rfl (ru_bot) ?_
  refine ruL_c (n := 97) (n2 := 98) rfl (ru_iald hx hb hK dX1_levelByFades_97) ?_
  refine ruL_c (n := 98) (n2 := 99) rfl (ru_istore hx hb dX1_levelByFades_98) ?_
  refine ruL_c (n := 99) (n2 := 100) rfl (ru_bot) ?_
  refine ruL_c (n := 100) (n2 := 101) rfl (ru_aload_n (k := 0) hx hb dX1_levelByFades_100) ?_
  refine ruL_c (n := 101) (n2 := 102) rfl (ru_getR (own := RX1) (j := 2) (T := TX1) hx hb hown hK hts hin1 (by decide) rfl rfl (by decide) rfl hl18 dX1_levelByFades_101) ?_
  refine ruL_c (n := 102) (n2 := 103) rfl (ru_bot) ?_
  refine ruL_c (n := 103) (n2 := 104) rfl (ru_bot) ?_
  refine ruL_c (n := 104) (n2 := 105) rfl (ru_iload hx hb dX1_levelByFades_104) ?_
  refine ruL_c (n := 105) (n2 := 106) rfl (ru_bot) ?_
  refine ruL_c (n := 106) (n2 := 107) rfl (ru_iald hx hb hK dX1_levelByFades_106) ?_
  refine ruL_c (n := 107) (n2 := 108) rfl (ru_istore hx hb dX1_levelByFades_107) ?_
  refine ruL_c (n := 108) (n2 := 109) rfl (ru_bot) ?_
  refine ruL_c (n := 109) (n2 := 110) rfl (ru_iinc hx hb dX1_levelByFades_109 rfl) ?_
  refine ruL_c (n := 110) (n2 := 111) rfl (ru_bot) ?_
  refine ruL_c (n := 111) (n2 := 112) rfl (ru_bot) ?_
  refine ruL_c (n := 112) (n2 := 113) rfl (ru_goto hx hb dX1_levelByFades_112 (by decide)) ?_
  refine ruL_c (n := 113) (n2 := 114) rfl (ru_bot) ?_
  refine ruL_c (n := 114) (n2 := 115) rfl (ru_bot) ?_
  refine ruL_c (n := 115) (n2 := 116) rfl (ru_iload_n (k := 2) hx hb dX1_levelByFades_115) ?_
  refine ruL_c (n := 116) (n2 := 117) rfl (ru_iload hx hb dX1_levelByFades_116) ?_
  refine ruL_c (n := 117) (n2 := 118) rfl (ru_bot) ?_
  refine ruL_c (n := 118) (n2 := 119) rfl (ru_isub hx hb dX1_levelByFades_118) ?_
  refine ruL_c (n := 119) (n2 := 120) rfl (ru_iload hx hb dX1_levelByFades_119) ?_
  refine ruL_c (n := 120) (n2 := 121) rfl (ru_bot) ?_
  refine ruL_c (n := 121) (n2 := 122) rfl (ru_iload_n (k := 3) hx hb dX1_levelByFades_121) ?_
  refine ruL_c (n := 122) (n2 := 123) rfl (ru_iload hx hb dX1_levelByFades_122) ?_
  refine ruL_c (n := 123) (n2 := 124) rfl (ru_bot) ?_
  refine ruL_c (n := 124) (n2 := 125) rfl (ru_callS hx hb hml hown hts hK hN (c_X1_levelBehind l D cI cZ cA cL ad hi) (va_cwS 4 hts gX1_levelByFades_X1_levelBehind rfl rfl rfl (by decide +kernel) ⟨Nat.le_of_ble_eq_true rfl, Nat.le_of_ble_eq_true rfl⟩) dX1_levelByFades_124 ⟨Nat.zero_le _, Nat.zero_le _⟩) ?_
  refine ruL_c (n := 125) (n2 := 126) rfl (ru_bot) ?_
  refine ruL_c (n := 126) (n2 := 127) rfl (ru_bot) ?_
  refine ruL_c (n := 127) (n2 := 128) rfl (ru_iret hx hb hK hr hlocks dX1_levelByFades_127) ?_
  exact trivial

-- CueTour$CueList.levelByTicks
def l_X1_levelByTicks_38 (x15 : Int32) (x16 : Int32) (x17 : Int32) : Nat → Int32 → Int32 → Int32 → Int32 → Int32 → Int32 → aM → (Int32 → Int32 → Int32 → Int32 → Int32 → Int32 → aM → Option (Int32 × aM)) → Option (Int32 × aM)
  | 0, _, _, _, _, _, _, _, _ => none
  | n + 1, v18, v19, v20, v21, v22, v23, σ24, k => if (σ24 3 10) ≤ v23 then k v18 v19 v20 v21 v22 v23 σ24 else if inb v23 20 = true then if inb (σ24 17 (ix v23)) 20 = true then if ¬ (σ24 15 (ix (σ24 17 (ix v23)))) = x17 then k v18 v19 v20 v21 v22 v23 σ24 else if inb v23 20 = true then if inb (σ24 17 (ix v23)) 20 = true then if inb x15 10 = true then if (σ24 (108 + ix (σ24 17 (ix v23))) (ix x15)) = ((-1)) then l_X1_levelByTicks_38 x15 x16 x17 n v18 v19 v20 v21 v22 (v23 + 1) σ24 k else if inb (σ24 17 (ix v23)) 20 = true then if inb x15 10 = true then if inb (σ24 17 (ix v23)) 20 = true then bnd (f_X1_levelBehind 0 (σ24 13 (ix (σ24 17 (ix v23)))) v18 (σ24 (108 + ix (σ24 17 (ix v23))) (ix x15)) σ24) (fun r36 σ37 => l_X1_levelByTicks_38 x15 x16 x17 n r36 v18 (σ24 (108 + ix (σ24 17 (ix v23))) (ix x15)) 0 (σ24 13 (ix (σ24 17 (ix v23)))) (v23 + 1) σ37 k) else none else none else none else none else none else none else none else none
def l_X1_levelByTicks_20 (x1 : Int32) (x2 : Int32) : Nat → Int32 → Int32 → Int32 → Int32 → Int32 → Int32 → Int32 → aM → (Int32 → Int32 → Int32 → Int32 → Int32 → Int32 → Int32 → aM → Option (Int32 × aM)) → Option (Int32 × aM)
  | 0, _, _, _, _, _, _, _, _, _ => none
  | n + 1, v3, v4, v5, v6, v7, v8, v9, σ10, k => if x2 < v9 then k v3 v4 v5 v6 v7 v8 v9 σ10 else bnd (f_X1_levelBehind v6 v7 v4 v5 σ10) (fun r12 σ13 => l_X1_levelByTicks_38 x1 x2 v9 lf r12 v4 v5 v6 v7 v8 σ13 (fun v39 v40 v41 v42 v43 v44 σ45 => l_X1_levelByTicks_20 x1 x2 n v39 v40 v41 (v42 + 1) v43 v44 (v9 + 1) σ45 k))
def f_X1_levelByTicks (p0 : Int32) (p1 : Int32) (σ : aM) : Option (Int32 × aM) := l_X1_levelByTicks_20 p0 p1 lf 0 0 0 0 0 0 0 σ (fun v46 v47 v48 v49 v50 v51 v52 σ53 => some (v46, σ53))
def F_X1_levelByTicks : aF := fun As σ => match As with
  | [.int p0, .int p1] => f_X1_levelByTicks p0 p1 σ
  | _ => none
def T_X1_levelByTicks (Qa : Int32 → aM → Prop) : List aI := [I_const 0 1, I_istore 3 1, I_const 0 1, I_istore 4 2, I_bot, I_const 0 1, I_istore 5 2, I_bot, I_const 0 1, I_istore 6 2, I_bot, I_const 0 1, I_istore 7 2, I_bot, I_const 0 1, I_istore 8 2, I_bot, I_const 0 1, I_istore 9 2, I_bot, I_iload 9 2, I_bot, I_iload 2 1, I_icmp (fun x y => y < x) 139, I_bot, I_bot, I_iload 6 2, I_bot, I_iload 7 2, I_bot, I_iload 4 2, I_bot, I_iload 5 2, I_bot, I_callS 4 F_X1_levelBehind, I_bot, I_bot, I_istore 3 1, I_iload 8 2, I_bot, I_aload 0 1, I_getI 3 10, I_bot, I_bot, I_icmp (fun x y => y ≤ x) 130, I_bot, I_bot, I_aload 0 1, I_getR 3 15, I_bot, I_bot, I_aload 0 1, I_getR 3 17, I_bot, I_bot, I_iload 8 2, I_bot, I_iald, I_iald, I_iload 9 2, I_bot, I_icmp (fun x y => ¬ x = y) 130, I_bot, I_bot, I_aload 0 1, I_getR 3 17, I_bot, I_bot, I_iload 8 2, I_bot, I_iald, I_istore 10 2, I_bot, I_aload 0 1, I_getR 3 55, I_bot, I_bot, I_iload 10 2, I_bot, I_aald, I_iload 1 1, I_iald, I_const (-1) 1, I_icmp (fun x y => x = y) 124, I_bot, I_bot, I_iload 3 1, I_istore 4 2, I_bot, I_aload 0 1, I_getR 3 55, I_bot, I_bot, I_iload 10 2, I_bot, I_aald, I_iload 1 1, I_iald, I_istore 5 2, I_bot, I_const 0 1, I_istore 6 2, I_bot, I_aload 0 1, I_getR 3 13, I_bot, I_bot, I_iload 10 2, I_bot, I_iald, I_istore 7 2, I_bot, I_iload 6 2, I_bot, I_iload 7 2, I_bot, I_iload 4 2, I_bot, I_iload 5 2, I_bot, I_callS 4 F_X1_levelBehind, I_bot, I_bot, I_istore 3 1, I_iinc 8 (1), I_bot, I_bot, I_goto 38, I_bot, I_bot, I_iinc 6 (1), I_bot, I_bot, I_iinc 9 (1), I_bot, I_bot, I_goto 20, I_bot, I_bot, I_iload 3 1, I_iret Qa]
set_option maxHeartbeats 4000000 in
set_option maxRecDepth 100000 in
theorem t_X1_levelByTicks_38 {Qa : Int32 → aM → Prop} {K : aS → Prop} (hw : ∀ k x, wp (T_X1_levelByTicks Qa) k K x → K x) (hf : ∀ pc L i st σ, K (pc, L.set i .null, st, σ) → K (pc, L, st, σ)) (x15 : Int32) (x16 : Int32) (x17 : Int32) (y : Int32 × aM) (k : Int32 → Int32 → Int32 → Int32 → Int32 → Int32 → aM → Option (Int32 × aM)) :
    ∀ (n : Nat) (v18 : Int32) (v19 : Int32) (v20 : Int32) (v21 : Int32) (v22 : Int32) (v23 : Int32) (σ24 : aM), l_X1_levelByTicks_38 x15 x16 x17 n v18 v19 v20 v21 v22 v23 σ24 k = some y → (∀ (w0 : Int32) (w1 : Int32) (w2 : Int32) (w3 : Int32) (w4 : Int32) (w5 : Int32) (τ : aM), k w0 w1 w2 w3 w4 w5 τ = some y → K (130, [.ref 3, .int x15, .int x16, .int w0, .int w1, .int w2, .int w3, .int w4, .int w5, .int x17, .null], [], τ)) → K (38, [.ref 3, .int x15, .int x16, .int v18, .int v19, .int v20, .int v21, .int v22, .int v23, .int x17, .null], [], σ24) := by
  intro n
  induction n with
  | zero =>
    intro v18 v19 v20 v21 v22 v23 σ24 h hk
    exact absurd h (by simp [l_X1_levelByTicks_38])
  | succ n ih =>
    intro v18 v19 v20 v21 v22 v23 σ24 h hk
    unfold l_X1_levelByTicks_38 at h
    rcases ite_cases h with ⟨c25, h⟩ | ⟨c25, h⟩
    · refine hw 4 _ ?_
      show (((σ24 3 10) ≤ v23) → K (130, [.ref 3, .int x15, .int x16, .int v18, .int v19, .int v20, .int v21, .int v22, .int v23, .int x17, .null], [], σ24)) ∧ (¬ ((σ24 3 10) ≤ v23) → K (47, [.ref 3, .int x15, .int x16, .int v18, .int v19, .int v20, .int v21, .int v22, .int v23, .int x17, .null], [], σ24))
      refine ⟨fun _ => ?_, fun q => absurd c25 q⟩
      exact hk v18 v19 v20 v21 v22 v23 σ24 h
    · refine hw 4 _ ?_
      show (((σ24 3 10) ≤ v23) → K (130, [.ref 3, .int x15, .int x16, .int v18, .int v19, .int v20, .int v21, .int v22, .int v23, .int x17, .null], [], σ24)) ∧ (¬ ((σ24 3 10) ≤ v23) → K (47, [.ref 3, .int x15, .int x16, .int v18, .int v19, .int v20, .int v21, .int v22, .int v23, .int x17, .null], [], σ24))
      refine ⟨fun q => absurd q c25, fun _ => ?_⟩
      obtain ⟨g26, h⟩ := ite_some h
      obtain ⟨g27, h⟩ := ite_some h
      rcases ite_cases h with ⟨c28, h⟩ | ⟨c28, h⟩
      · refine hw 9 _ ?_
        show kd 17 = 1 ∧ (inb v23 20 = true ∧ (kd 15 = 1 ∧ (inb (σ24 17 (ix v23)) 20 = true ∧ (((¬ (σ24 15 (ix (σ24 17 (ix v23)))) = x17) → K (130, [.ref 3, .int x15, .int x16, .int v18, .int v19, .int v20, .int v21, .int v22, .int v23, .int x17, .null], [], σ24)) ∧ (¬ (¬ (σ24 15 (ix (σ24 17 (ix v23)))) = x17) → K (64, [.ref 3, .int x15, .int x16, .int v18, .int v19, .int v20, .int v21, .int v22, .int v23, .int x17, .null], [], σ24))))))
        refine ⟨rfl, g26, rfl, g27, ⟨fun _ => ?_, fun q => absurd c28 q⟩⟩
        exact hk v18 v19 v20 v21 v22 v23 σ24 h
      · refine hw 9 _ ?_
        show kd 17 = 1 ∧ (inb v23 20 = true ∧ (kd 15 = 1 ∧ (inb (σ24 17 (ix v23)) 20 = true ∧ (((¬ (σ24 15 (ix (σ24 17 (ix v23)))) = x17) → K (130, [.ref 3, .int x15, .int x16, .int v18, .int v19, .int v20, .int v21, .int v22, .int v23, .int x17, .null], [], σ24)) ∧ (¬ (¬ (σ24 15 (ix (σ24 17 (ix v23)))) = x17) → K (64, [.ref 3, .int x15, .int x16, .int v18, .int v19, .int v20, .int v21, .int v22, .int v23, .int x17, .null], [], σ24))))))
        refine ⟨rfl, g26, rfl, g27, ⟨fun q => absurd q c28, fun _ => ?_⟩⟩
        obtain ⟨g29, h⟩ := ite_some h
        obtain ⟨g30, h⟩ := ite_some h
        obtain ⟨g31, h⟩ := ite_some h
        rcases ite_cases h with ⟨c32, h⟩ | ⟨c32, h⟩
        · refine hw 13 _ ?_
          show kd 17 = 1 ∧ (inb v23 20 = true ∧ (kd 55 = 3 ∧ (inb (σ24 17 (ix v23)) 20 = true ∧ (kd (108 + ix (σ24 17 (ix v23))) = 1 ∧ (inb x15 (ln (108 + ix (σ24 17 (ix v23)))) = true ∧ ((((σ24 (108 + ix (σ24 17 (ix v23))) (ix x15)) = ((-1))) → K (124, [.ref 3, .int x15, .int x16, .int v18, .int v19, .int v20, .int v21, .int v22, .int v23, .int x17, .int (σ24 17 (ix v23))], [], σ24)) ∧ (¬ ((σ24 (108 + ix (σ24 17 (ix v23))) (ix x15)) = ((-1))) → K (86, [.ref 3, .int x15, .int x16, .int v18, .int v19, .int v20, .int v21, .int v22, .int v23, .int x17, .int (σ24 17 (ix v23))], [], σ24))))))))
          refine ⟨rfl, g29, rfl, g30, (row55_kd g30), (by rw [row55_ln g30]; exact g31), ⟨fun _ => ?_, fun q => absurd c32 q⟩⟩
          refine hw 2 _ ?_
          show K (38, [.ref 3, .int x15, .int x16, .int v18, .int v19, .int v20, .int v21, .int v22, .int (v23 + 1), .int x17, .int (σ24 17 (ix v23))], [], σ24)
          refine hf _ _ 10 _ _ ?_
          show K (38, [.ref 3, .int x15, .int x16, .int v18, .int v19, .int v20, .int v21, .int v22, .int (v23 + 1), .int x17, .null], [], σ24)
          exact ih v18 v19 v20 v21 v22 (v23 + 1) σ24 h hk
        · refine hw 13 _ ?_
          show kd 17 = 1 ∧ (inb v23 20 = true ∧ (kd 55 = 3 ∧ (inb (σ24 17 (ix v23)) 20 = true ∧ (kd (108 + ix (σ24 17 (ix v23))) = 1 ∧ (inb x15 (ln (108 + ix (σ24 17 (ix v23)))) = true ∧ ((((σ24 (108 + ix (σ24 17 (ix v23))) (ix x15)) = ((-1))) → K (124, [.ref 3, .int x15, .int x16, .int v18, .int v19, .int v20, .int v21, .int v22, .int v23, .int x17, .int (σ24 17 (ix v23))], [], σ24)) ∧ (¬ ((σ24 (108 + ix (σ24 17 (ix v23))) (ix x15)) = ((-1))) → K (86, [.ref 3, .int x15, .int x16, .int v18, .int v19, .int v20, .int v21, .int v22, .int v23, .int x17, .int (σ24 17 (ix v23))], [], σ24))))))))
          refine ⟨rfl, g29, rfl, g30, (row55_kd g30), (by rw [row55_ln g30]; exact g31), ⟨fun q => absurd q c32, fun _ => ?_⟩⟩
          obtain ⟨g33, h⟩ := ite_some h
          obtain ⟨g34, h⟩ := ite_some h
          obtain ⟨g35, h⟩ := ite_some h
          obtain ⟨r36, σ37, e38, h⟩ := bnd_some h
          refine hw 21 _ ?_
          show kd 55 = 3 ∧ (inb (σ24 17 (ix v23)) 20 = true ∧ (kd (108 + ix (σ24 17 (ix v23))) = 1 ∧ (inb x15 (ln (108 + ix (σ24 17 (ix v23)))) = true ∧ (kd 13 = 1 ∧ (inb (σ24 17 (ix v23)) 20 = true ∧ (∃ r36 σ37, f_X1_levelBehind 0 (σ24 13 (ix (σ24 17 (ix v23)))) v18 (σ24 (108 + ix (σ24 17 (ix v23))) (ix x15)) σ24 = some (r36, σ37) ∧ K (123, [.ref 3, .int x15, .int x16, .int v18, .int v18, .int (σ24 (108 + ix (σ24 17 (ix v23))) (ix x15)), .int 0, .int (σ24 13 (ix (σ24 17 (ix v23)))), .int v23, .int x17, .int (σ24 17 (ix v23))], [.int r36], σ37)))))))
          refine ⟨rfl, g33, (row55_kd g33), (by rw [row55_ln g33]; exact g34), rfl, g35, ⟨r36, σ37, e38, ?_⟩⟩
          refine hw 3 _ ?_
          show K (38, [.ref 3, .int x15, .int x16, .int r36, .int v18, .int (σ24 (108 + ix (σ24 17 (ix v23))) (ix x15)), .int 0, .int (σ24 13 (ix (σ24 17 (ix v23)))), .int (v23 + 1), .int x17, .int (σ24 17 (ix v23))], [], σ37)
          refine hf _ _ 10 _ _ ?_
          show K (38, [.ref 3, .int x15, .int x16, .int r36, .int v18, .int (σ24 (108 + ix (σ24 17 (ix v23))) (ix x15)), .int 0, .int (σ24 13 (ix (σ24 17 (ix v23)))), .int (v23 + 1), .int x17, .null], [], σ37)
          exact ih r36 v18 (σ24 (108 + ix (σ24 17 (ix v23))) (ix x15)) 0 (σ24 13 (ix (σ24 17 (ix v23)))) (v23 + 1) σ37 h hk

set_option maxHeartbeats 4000000 in
set_option maxRecDepth 100000 in
theorem t_X1_levelByTicks_20 {Qa : Int32 → aM → Prop} {K : aS → Prop} (hw : ∀ k x, wp (T_X1_levelByTicks Qa) k K x → K x) (hf : ∀ pc L i st σ, K (pc, L.set i .null, st, σ) → K (pc, L, st, σ)) (x1 : Int32) (x2 : Int32) (y : Int32 × aM) (k : Int32 → Int32 → Int32 → Int32 → Int32 → Int32 → Int32 → aM → Option (Int32 × aM)) :
    ∀ (n : Nat) (v3 : Int32) (v4 : Int32) (v5 : Int32) (v6 : Int32) (v7 : Int32) (v8 : Int32) (v9 : Int32) (σ10 : aM), l_X1_levelByTicks_20 x1 x2 n v3 v4 v5 v6 v7 v8 v9 σ10 k = some y → (∀ (w0 : Int32) (w1 : Int32) (w2 : Int32) (w3 : Int32) (w4 : Int32) (w5 : Int32) (w6 : Int32) (τ : aM), k w0 w1 w2 w3 w4 w5 w6 τ = some y → K (139, [.ref 3, .int x1, .int x2, .int w0, .int w1, .int w2, .int w3, .int w4, .int w5, .int w6, .null], [], τ)) → K (20, [.ref 3, .int x1, .int x2, .int v3, .int v4, .int v5, .int v6, .int v7, .int v8, .int v9, .null], [], σ10) := by
  intro n
  induction n with
  | zero =>
    intro v3 v4 v5 v6 v7 v8 v9 σ10 h hk
    exact absurd h (by simp [l_X1_levelByTicks_20])
  | succ n ih =>
    intro v3 v4 v5 v6 v7 v8 v9 σ10 h hk
    unfold l_X1_levelByTicks_20 at h
    rcases ite_cases h with ⟨c11, h⟩ | ⟨c11, h⟩
    · refine hw 3 _ ?_
      show ((x2 < v9) → K (139, [.ref 3, .int x1, .int x2, .int v3, .int v4, .int v5, .int v6, .int v7, .int v8, .int v9, .null], [], σ10)) ∧ (¬ (x2 < v9) → K (26, [.ref 3, .int x1, .int x2, .int v3, .int v4, .int v5, .int v6, .int v7, .int v8, .int v9, .null], [], σ10))
      refine ⟨fun _ => ?_, fun q => absurd c11 q⟩
      exact hk v3 v4 v5 v6 v7 v8 v9 σ10 h
    · refine hw 3 _ ?_
      show ((x2 < v9) → K (139, [.ref 3, .int x1, .int x2, .int v3, .int v4, .int v5, .int v6, .int v7, .int v8, .int v9, .null], [], σ10)) ∧ (¬ (x2 < v9) → K (26, [.ref 3, .int x1, .int x2, .int v3, .int v4, .int v5, .int v6, .int v7, .int v8, .int v9, .null], [], σ10))
      refine ⟨fun q => absurd q c11, fun _ => ?_⟩
      obtain ⟨r12, σ13, e14, h⟩ := bnd_some h
      refine hw 5 _ ?_
      show ∃ r12 σ13, f_X1_levelBehind v6 v7 v4 v5 σ10 = some (r12, σ13) ∧ K (37, [.ref 3, .int x1, .int x2, .int v3, .int v4, .int v5, .int v6, .int v7, .int v8, .int v9, .null], [.int r12], σ13)
      refine ⟨r12, σ13, e14, ?_⟩
      refine hw 1 _ ?_
      show K (38, [.ref 3, .int x1, .int x2, .int r12, .int v4, .int v5, .int v6, .int v7, .int v8, .int v9, .null], [], σ13)
      refine t_X1_levelByTicks_38 hw hf x1 x2 v9 _ _ lf r12 v4 v5 v6 v7 v8 σ13 h (fun v39 v40 v41 v42 v43 v44 σ45 h => ?_)
      show K (130, [.ref 3, .int x1, .int x2, .int v39, .int v40, .int v41, .int v42, .int v43, .int v44, .int v9, .null], [], σ45)
      refine hw 3 _ ?_
      show K (20, [.ref 3, .int x1, .int x2, .int v39, .int v40, .int v41, .int (v42 + 1), .int v43, .int v44, .int (v9 + 1), .null], [], σ45)
      exact ih v39 v40 v41 (v42 + 1) v43 v44 (v9 + 1) σ45 h hk

set_option maxHeartbeats 4000000 in
set_option maxRecDepth 100000 in
theorem s_X1_levelByTicks : runs T_X1_levelByTicks [.ref 3] 11 F_X1_levelByTicks := by
  intro Qa K hw hf As σ r σ' h hQ
  unfold F_X1_levelByTicks at h
  split at h
  · rename_i p0 p1
    unfold f_X1_levelByTicks at h
    have hQ : Qa (r, σ').1 (r, σ').2 := hQ
    generalize (r, σ') = y at h hQ
    show K (0, [.ref 3, .int p0, .int p1, .null, .null, .null, .null, .null, .null, .null, .null], [], σ)
    refine hw 14 _ ?_
    show K (20, [.ref 3, .int p0, .int p1, .int 0, .int 0, .int 0, .int 0, .int 0, .int 0, .int 0, .null], [], σ)
    refine t_X1_levelByTicks_20 hw hf p0 p1 _ _ lf 0 0 0 0 0 0 0 σ h (fun v46 v47 v48 v49 v50 v51 v52 σ53 h => ?_)
    show K (139, [.ref 3, .int p0, .int p1, .int v46, .int v47, .int v48, .int v49, .int v50, .int v51, .int v52, .null], [], σ53)
    obtain rfl := Option.some.inj h
    refine hw 2 _ ?_
    show Qa v46 σ53
    refine hQ
  · cases h
theorem h_X1_levelByTicks : shp [.ref 3] 11 F_X1_levelByTicks := by
  intro As σ r σ' h
  unfold F_X1_levelByTicks at h
  split at h
  · exact ⟨by simp [Value.category], Nat.le_of_ble_eq_true rfl⟩
  · cases h
set_option maxHeartbeats 4000000 in
set_option maxRecDepth 100000 in
theorem c_X1_levelByTicks (l : Launch) (D : va_G) (cI cZ cA cL : ClassId) (ad : Nat → Nat) (hi : adI ad) : CtI l yX1_levelByTicks wsX1_levelByTicks { frames := 1, cells := 0, slots := 0, locals := 23 } D cI cZ cA cL ad [.ref 3] F_X1_levelByTicks := by
  refine mk_I [.ref 3] F_X1_levelByTicks T_X1_levelByTicks (by decide +kernel) rfl ?_ h_X1_levelByTicks s_X1_levelByTicks
  intro p e s m args below meth c Qa ⟨hx, hb, hml, hown, hts, hr, hlocks, hK, hN⟩
  have hin1 : ∀ w ∈ u_ws RX1 TX1 11, w ∈ wsX1_levelByTicks := by decide +kernel
  have hl45 : (Cond.fieldLink RX1 45 RX1 (TX1 10).2.1 (TX1 10).2.2.1) ∈ wsX1_levelByTicks := by decide +kernel
  have hl33 : (Cond.fieldLink RX1 33 RX1 (TX1 6).2.1 (TX1 6).2.2.1) ∈ wsX1_levelByTicks := by decide +kernel
  have hl42 : (Cond.fieldLink RX1 42 RX1 (TX1 9).2.1 (TX1 9).2.2.1) ∈ wsX1_levelByTicks := by decide +kernel
  have hl39 : (Cond.fieldLink RX1 39 RX1 (TX1 8).2.1 (TX1 8).2.2.1) ∈ wsX1_levelByTicks := by decide +kernel
  have hl18 : (Cond.fieldLink RX1 18 RX1 (TX1 2).2.1 (TX1 2).2.2.1) ∈ wsX1_levelByTicks := by decide +kernel
  refine ruL_c (n := 0) (n2 := 1) rfl (ru_iconst hx hb dX1_levelByTicks_0 rfl) ?_
  refine ruL_c (n := 1) (n2 := 2) rfl (ru_istore_n (k := 3) hx hb dX1_levelByTicks_1) ?_
  refine ruL_c (n := 2) (n2 := 3) rfl (ru_iconst hx hb dX1_levelByTicks_2 rfl) ?_
  refine ruL_c (n := 3) (n2 := 4) rfl (ru_istore hx hb dX1_levelByTicks_3) ?_
  refine ruL_c (n := 4) (n2 := 5) rfl (ru_bot) ?_
  refine ruL_c (n := 5) (n2 := 6) rfl (ru_iconst hx hb dX1_levelByTicks_5 rfl) ?_
  refine ruL_c (n := 6) (n2 := 7) rfl (ru_istore hx hb dX1_levelByTicks_6) ?_
  refine ruL_c (n := 7) (n2 := 8) rfl (ru_bot) ?_
  refine ruL_c (n := 8) (n2 := 9) rfl (ru_iconst hx hb dX1_levelByTicks_8 rfl) ?_
  refine ruL_c (n := 9) (n2 := 10) rfl (ru_istore hx hb dX1_levelByTicks_9) ?_
  refine ruL_c (n := 10) (n2 := 11) rfl (ru_bot) ?_
  refine ruL_c (n := 11) (n2 := 12) rfl (ru_iconst hx hb dX1_levelByTicks_11 rfl) ?_
  refine ruL_c (n := 12) (n2 := 13) rfl (ru_istore hx hb dX1_levelByTicks_12) ?_
  refine ruL_c (n := 13) (n2 := 14) rfl (ru_bot) ?_
  refine ruL_c (n := 14) (n2 := 15) rfl (ru_iconst hx hb dX1_levelByTicks_14 rfl) ?_
  refine ruL_c (n := 15) (n2 := 16) rfl (ru_istore hx hb dX1_levelByTicks_15) ?_
  refine ruL_c (n := 16) (n2 := 17) rfl (ru_bot) ?_
  refine ruL_c (n := 17) (n2 := 18) rfl (ru_iconst hx hb dX1_levelByTicks_17 rfl) ?_
  refine ruL_c (n := 18) (n2 := 19) rfl (ru_istore hx hb dX1_levelByTicks_18) ?_
  refine ruL_c (n := 19) (n2 := 20) rfl (ru_bot) ?_
  refine ruL_c (n := 20) (n2 := 21) rfl (ru_iload hx hb dX1_levelByTicks_20) ?_
  refine ruL_c (n := 21) (n2 := 22) rfl (ru_bot) ?_
  refine ruL_c (n := 22) (n2 := 23) rfl (ru_iload_n (k := 2) hx hb dX1_levelByTicks_22) ?_
  refine ruL_c (n := 23) (n2 := 24) rfl (ru_icmpgt hx hb dX1_levelByTicks_23 (by decide)) ?_
  refine ruL_c (n := 24) (n2 := 25) rfl (ru_bot) ?_
  refine ruL_c (n := 25) (n2 := 26) rfl (ru_bot) ?_
  refine ruL_c (n := 26) (n2 := 27) rfl (ru_iload hx hb dX1_levelByTicks_26) ?_
  refine ruL_c (n := 27) (n2 := 28) rfl (ru_bot) ?_
  refine ruL_c (n := 28) (n2 := 29) rfl (ru_iload hx hb dX1_levelByTicks_28) ?_
  refine ruL_c (n := 29) (n2 := 30) rfl (ru_bot) ?_
  refine ruL_c (n := 30) (n2 := 31) rfl (ru_iload hx hb dX1_levelByTicks_30) ?_
  refine ruL_c (n := 31) (n2 := 32) rfl (ru_bot) ?_
  refine ruL_c (n := 32) (n2 := 33) rfl (ru_iload hx hb dX1_levelByTicks_32) ?_
  refine ruL_c (n := 33) (n2 := 34) rfl (ru_bot) ?_
  refine ruL_c (n := 34) (n2 := 35) rfl (ru_callS hx hb hml hown hts hK hN (c_X1_levelBehind l D cI cZ cA cL ad hi) (va_cwS 4 hts gX1_levelByTicks_X1_levelBehind rfl rfl rfl (by decide +kernel) ⟨Nat.le_of_ble_eq_true rfl, Nat.le_of_ble_eq_true rfl⟩) dX1_levelByTicks_34 ⟨Nat.zero_le _, Nat.zero_le _⟩) ?_
  refine ruL_c (n := 35) (n2 := 36) rfl (ru_bot) ?_
  refine ruL_c (n := 36) (n2 := 37) rfl (ru_bot) ?_
  refine ruL_c (n := 37) (n2 := 38) rfl (ru_istore_n (k := 3) hx hb dX1_levelByTicks_37) ?_
  refine ruL_c (n := 38) (n2 := 39) rfl (ru_iload hx hb dX1_levelByTicks_38) ?_
  refine ruL_c (n := 39) (n2 := 40) rfl (ru_bot) ?_
  refine ruL_c (n := 40) (n2 := 41) rfl (ru_aload_n (k := 0) hx hb dX1_levelByTicks_40) ?_
  refine ruL_c (n := 41) (n2 := 42) rfl (ru_getI (own := RX1) (j := 10) (T := TX1) hx hb hown hK hts hin1 (by decide) rfl rfl (by decide) rfl hl45 dX1_levelByTicks_41) ?_
  refine ruL_c (n := 42) (n2 := 43) rfl (ru_bot) ?_
  refine ruL_c (n := 43) (n2 := 44) rfl (ru_bot) ?_
  refine ruL_c (n := 44) (n2 := 45) rfl (ru_icmpge hx hb dX1_levelByTicks_44 (by decide)) ?_
  refine ruL_c (n := 45) (n2 := 46) rfl (ru_bot) ?_
  refine ruL_c (n := 46) (n2 := 47) rfl (ru_bot) ?_
  refine ruL_c (n := 47) (n2 := 48) rfl (ru_aload_n (k := 0) hx hb dX1_levelByTicks_47) ?_
  refine ruL_c (n := 48) (n2 := 49) rfl (ru_getR (own := RX1) (j := 6) (T := TX1) hx hb hown hK hts hin1 (by decide) rfl rfl (by decide) rfl hl33 dX1_levelByTicks_48) ?_
  refine ruL_c (n := 49) (n2 := 50) rfl (ru_bot) ?_
  refine ruL_c (n := 50) (n2 := 51) rfl (ru_bot) ?_
  refine ruL_c (n := 51) (n2 := 52) rfl (ru_aload_n (k := 0) hx hb dX1_levelByTicks_51) ?_
  refine ruL_c (n := 52) (n2 := 53) rfl (ru_getR (own := RX1) (j := 9) (T := TX1) hx hb hown hK hts hin1 (by decide) rfl rfl (by decide) rfl hl42 dX1_levelByTicks_52) ?_
  refine ruL_c (n := 53) (n2 := 54) rfl (ru_bot) ?_
  refine ruL_c (n := 54) (n2 := 55) rfl (ru_bot) ?_
  refine ruL_c (n := 55) (n2 := 56) rfl (ru_iload hx hb dX1_levelByTicks_55) ?_
  refine ruL_c (n := 56) (n2 := 57) rfl (ru_bot) ?_
  refine ruL_c (n := 57) (n2 := 58) rfl (ru_iald hx hb hK dX1_levelByTicks_57) ?_
  refine ruL_c (n := 58) (n2 := 59) rfl (ru_iald hx hb hK dX1_levelByTicks_58) ?_
  refine ruL_c (n := 59) (n2 := 60) rfl (ru_iload hx hb dX1_levelByTicks_59) ?_
  refine ruL_c (n := 60) (n2 := 61) rfl (ru_bot) ?_
  refine ruL_c (n := 61) (n2 := 62) rfl (ru_icmpne hx hb dX1_levelByTicks_61 (by decide)) ?_
  refine ruL_c (n := 62) (n2 := 63) rfl (ru_bot) ?_
  refine ruL_c (n := 63) (n2 := 64) rfl (ru_bot) ?_
  refine ruL_c (n := 64) (n2 := 65) rfl (ru_aload_n (k := 0) hx hb dX1_levelByTicks_64) ?_
  refine ruL_c (n := 65) (n2 := 66) rfl (ru_getR (own := RX1) (j := 9) (T := TX1) hx hb hown hK hts hin1 (by decide) rfl rfl (by decide) rfl hl42 dX1_levelByTicks_65) ?_
  refine ruL_c (n := 66) (n2 := 67) rfl (ru_bot) ?_
  refine ruL_c (n := 67) (n2 := 68) rfl (ru_bot) ?_
  refine ruL_c (n := 68) (n2 := 69) rfl (ru_iload hx hb dX1_levelByTicks_68) ?_
  refine ruL_c (n := 69) (n2 := 70) rfl (ru_bot) ?_
  refine ruL_c (n := 70) (n2 := 71) rfl (ru_iald hx hb hK dX1_levelByTicks_70) ?_
  refine ruL_c (n := 71) (n2 := 72) rfl (ru_istore hx hb dX1_levelByTicks_71) ?_
  refine ruL_c (n := 72) (n2 := 73) rfl (ru_bot) ?_
  refine ruL_c (n := 73) (n2 := 74) rfl (ru_aload_n (k := 0) hx hb dX1_levelByTicks_73) ?_
  refine ruL_c (n := 74) (n2 := 75) rfl (ru_getR (own := RX1) (j := 8) (T := TX1) hx hb hown hK hts hin1 (by decide) rfl rfl (by decide) rfl hl39 dX1_levelByTicks_74) ?_
  refine ruL_c (n := 75) (n2 := 76) rfl (ru_bot) ?_
  refine ruL_c (n := 76) (n2 := 77) rfl (ru_bot) ?_
  refine ruL_c (n := 77) (n2 := 78) rfl (ru_iload hx hb dX1_levelByTicks_77) ?_
  refine ruL_c (n := 78) (n2 := 79) rfl (ru_bot) ?_
  refine ruL_c (n := 79) (n2 := 80) rfl (ru_aald hx hb hK dX1_levelByTicks_79) ?_
  refine ruL_c (n := 80) (n2 := 81) rfl (ru_iload_n (k := 1) hx hb dX1_levelByTicks_80) ?_
  refine ruL_c (n := 81) (n2 := 82) rfl (ru_iald hx hb hK dX1_levelByTicks_81) ?_
  refine ruL_c (n := 82) (n2 := 83) rfl (ru_iconst hx hb dX1_levelByTicks_82 rfl) ?_
  refine ruL_c (n := 83) (n2 := 84) rfl (ru_icmpeq hx hb dX1_levelByTicks_83 (by decide)) ?_
  refine ruL_c (n := 84) (n2 := 85) rfl (ru_bot) ?_
  refine ruL_c (n := 85) (n2 := 86) rfl (ru_bot) ?_
  refine ruL_c (n := 86) (n2 := 87) rfl (ru_iload_n (k := 3) hx hb dX1_levelByTicks_86) ?_
  refine ruL_c (n := 87) (n2 := 88) rfl (ru_istore hx hb dX1_levelByTicks_87) ?_
  refine ruL_c (n := 88) (n2 := 89) rfl (ru_bot) ?_
  refine ruL_c (n := 89) (n2 := 90) rfl (ru_aload_n (k := 0) hx hb dX1_levelByTicks_89) ?_
  refine ruL_c (n := 90) (n2 := 91) rfl (ru_getR (own := RX1) (j := 8) (T := TX1) hx hb hown hK hts hin1 (by decide) rfl rfl (by decide) rfl hl39 dX1_levelByTicks_90) ?_
  refine ruL_c (n := 91) (n2 := 92) rfl (ru_bot) ?_
  refine ruL_c (n := 92) (n2 := 93) rfl (ru_bot) ?_
  refine ruL_c (n := 93) (n2 := 94) rfl (ru_iload hx hb dX1_levelByTicks_93) ?_
  refine ruL_c (n := 94) (n2 := 95) rfl (ru_bot) ?_
  refine ruL_c (n := 95) (n2 := 96) rfl (ru_aald hx hb hK dX1_levelByTicks_95) ?_
  refine ruL_c (n := 96) (n2 := 97) rfl (ru_iload_n (k := 1) hx hb dX1_levelByTicks_96) ?_
  refine ruL_c (n := 97) (n2 := 98) rfl (ru_iald hx hb hK dX1_levelByTicks_97) ?_
  refine ruL_c (n := 98) (n2 := 99) rfl (ru_istore hx hb dX1_levelByTicks_98) ?_
  refine ruL_c (n := 99) (n2 := 100) rfl (ru_bot) ?_
  refine ruL_c (n := 100) (n2 := 101) rfl (ru_iconst hx hb dX1_levelByTicks_100 rfl) ?_
  refine ruL_c (n := 101) (n2 := 102) rfl (ru_istore hx hb dX1_levelByTicks_101) ?_
  refine ruL_c (n := 102) (n2 := 103) rfl (ru_bot) ?_
  refine ruL_c (n := 103) (n2 := 104) rfl (ru_aload_n (k := 0) hx hb dX1_levelByTicks_103) ?_
  refine ruL_c (n := 104) (n2 := 105) rfl (ru_getR (own := RX1) (j := 2) (T := TX1) hx hb hown hK hts hin1 (by decide) rfl rfl (by decide) rfl hl18 dX1_levelByTicks_104) ?_
  refine ruL_c (n := 105) (n2 := 106) rfl (ru_bot) ?_
  refine ruL_c (n := 106) (n2 := 107) rfl (ru_bot) ?_
  refine ruL_c (n := 107) (n2 := 108) rfl (ru_iload hx hb dX1_levelByTicks_107) ?_
  refine ruL_c (n := 108) (n2 := 109) rfl (ru_bot) ?_
  refine ruL_c (n := 109) (n2 := 110) rfl (ru_iald hx hb hK dX1_levelByTicks_109) ?_
  refine ruL_c (n := 110) (n2 := 111) rfl (ru_istore hx hb dX1_levelByTicks_110) ?_
  refine ruL_c (n := 111) (n2 := 112) rfl (ru_bot) ?_
  refine ruL_c (n := 112) (n2 := 113) rfl (ru_iload hx hb dX1_levelByTicks_112) ?_
  refine ruL_c (n := 113) (n2 := 114) rfl (ru_bot) ?_
  refine ruL_c (n := 114) (n2 := 115) rfl (ru_iload hx hb dX1_levelByTicks_114) ?_
  refine ruL_c (n := 115) (n2 := 116) rfl (ru_bot) ?_
  refine ruL_c (n := 116) (n2 := 117) rfl (ru_iload hx hb dX1_levelByTicks_116) ?_
  refine ruL_c (n := 117) (n2 := 118) rfl (ru_bot) ?_
  refine ruL_c (n := 118) (n2 := 119) rfl (ru_iload hx hb dX1_levelByTicks_118) ?_
  refine ruL_c (n := 119) (n2 := 120) rfl (ru_bot) ?_
  refine ruL_c (n := 120) (n2 := 121) rfl (ru_callS hx hb hml hown hts hK hN (c_X1_levelBehind l D cI cZ cA cL ad hi) (va_cwS 4 hts gX1_levelByTicks_X1_levelBehind rfl rfl rfl (by decide +kernel) ⟨Nat.le_of_ble_eq_true rfl, Nat.le_of_ble_eq_true rfl⟩) dX1_levelByTicks_120 ⟨Nat.zero_le _, Nat.zero_le _⟩) ?_
  refine ruL_c (n := 121) (n2 := 122) rfl (ru_bot) ?_
  refine ruL_c (n := 122) (n2 := 123) rfl (ru_bot) ?_
  refine ruL_c (n := 123) (n2 := 124) rfl (ru_istore_n (k := 3) hx hb dX1_levelByTicks_123) ?_
  refine ruL_c (n := 124) (n2 := 125) rfl (ru_iinc hx hb dX1_levelByTicks_124 rfl) ?_
  refine ruL_c (n := 125) (n2 := 126) rfl (ru_bot) ?_
  refine ruL_c (n := 126) (n2 := 127) rfl (ru_bot) ?_
  refine ruL_c (n := 127) (n2 := 128) rfl (ru_goto hx hb dX1_levelByTicks_127 (by decide)) ?_
  refine ruL_c (n := 128) (n2 := 129) rfl (ru_bot) ?_
  refine ruL_c (n := 129) (n2 := 130) rfl (ru_bot) ?_
  refine ruL_c (n := 130) (n2 := 131) rfl (ru_iinc hx hb dX1_levelByTicks_130 rfl) ?_
  refine ruL_c (n := 131) (n2 := 132) rfl (ru_bot) ?_
  refine ruL_c (n := 132) (n2 := 133) rfl (ru_bot) ?_
  refine ruL_c (n := 133) (n2 := 134) rfl (ru_iinc hx hb dX1_levelByTicks_133 rfl) ?_
  refine ruL_c (n := 134) (n2 := 135) rfl (ru_bot) ?_
  refine ruL_c (n := 135) (n2 := 136) rfl (ru_bot) ?_
  refine ruL_c (n := 136) (n2 := 137) rfl (ru_goto hx hb dX1_levelByTicks_136 (by decide)) ?_
  refine ruL_c (n := 137) (n2 := 138) rfl (ru_bot) ?_
  refine ruL_c (n := 138) (n2 := 139) rfl (ru_bot) ?_
  refine ruL_c (n := 139) (n2 := 140) rfl (ru_iload_n (k := 3) hx hb dX1_levelByTicks_139) ?_
  refine ruL_c (n := 140) (n2 := 141) rfl (ru_iret hx hb hK hr hlocks dX1_levelByTicks_140) ?_
  exact trivial

-- CueTour$CueList.fillLevels
def l_X1_fillLevels_2 (x1 : Int32) (a2 : Nat) : Nat → Int32 → aM → (Int32 → aM → Option (Int32 × aM)) → Option (Int32 × aM)
  | 0, _, _, _ => none
  | n + 1, v3, σ4, k => if 10 ≤ v3 then k v3 σ4 else bnd (f_X1_levelByFades v3 x1 σ4) (fun r6 σ7 => if kd a2 = 1 then if inb v3 (ln a2) = true then l_X1_fillLevels_2 x1 a2 n (v3 + 1) (mput σ7 a2 (ix v3) r6) k else none else none)
def f_X1_fillLevels (p0 : Int32) (p1 : Nat) (σ : aM) : Option (Int32 × aM) := l_X1_fillLevels_2 p0 p1 lf 0 σ (fun v11 σ12 => some (0, σ12))
def F_X1_fillLevels : aF := fun As σ => match As with
  | [.int p0, .ref p1] => f_X1_fillLevels p0 p1 σ
  | _ => none
def T_X1_fillLevels (Qa : Int32 → aM → Prop) : List aI := [I_const 0 1, I_istore 3 1, I_iload 3 1, I_const (10) 2, I_bot, I_icmp (fun x y => y ≤ x) 23, I_bot, I_bot, I_aload 2 1, I_iload 3 1, I_aload 0 1, I_iload 3 1, I_iload 1 1, I_callV 3 2 F_X1_levelByFades, I_bot, I_bot, I_iast, I_iinc 3 (1), I_bot, I_bot, I_goto 2, I_bot, I_bot, I_vret Qa]
set_option maxHeartbeats 4000000 in
set_option maxRecDepth 100000 in
theorem t_X1_fillLevels_2 {Qa : Int32 → aM → Prop} {K : aS → Prop} (hw : ∀ k x, wp (T_X1_fillLevels Qa) k K x → K x) (hf : ∀ pc L i st σ, K (pc, L.set i .null, st, σ) → K (pc, L, st, σ)) (x1 : Int32) (a2 : Nat) (y : Int32 × aM) (k : Int32 → aM → Option (Int32 × aM)) :
    ∀ (n : Nat) (v3 : Int32) (σ4 : aM), l_X1_fillLevels_2 x1 a2 n v3 σ4 k = some y → (∀ (w0 : Int32) (τ : aM), k w0 τ = some y → K (23, [.ref 3, .int x1, .ref a2, .int w0], [], τ)) → K (2, [.ref 3, .int x1, .ref a2, .int v3], [], σ4) := by
  intro n
  induction n with
  | zero =>
    intro v3 σ4 h hk
    exact absurd h (by simp [l_X1_fillLevels_2])
  | succ n ih =>
    intro v3 σ4 h hk
    unfold l_X1_fillLevels_2 at h
    rcases ite_cases h with ⟨c5, h⟩ | ⟨c5, h⟩
    · refine hw 3 _ ?_
      show ((10 ≤ v3) → K (23, [.ref 3, .int x1, .ref a2, .int v3], [], σ4)) ∧ (¬ (10 ≤ v3) → K (8, [.ref 3, .int x1, .ref a2, .int v3], [], σ4))
      refine ⟨fun _ => ?_, fun q => absurd c5 q⟩
      exact hk v3 σ4 h
    · refine hw 3 _ ?_
      show ((10 ≤ v3) → K (23, [.ref 3, .int x1, .ref a2, .int v3], [], σ4)) ∧ (¬ (10 ≤ v3) → K (8, [.ref 3, .int x1, .ref a2, .int v3], [], σ4))
      refine ⟨fun q => absurd q c5, fun _ => ?_⟩
      obtain ⟨r6, σ7, e8, h⟩ := bnd_some h
      refine hw 6 _ ?_
      show ∃ r6 σ7, f_X1_levelByFades v3 x1 σ4 = some (r6, σ7) ∧ K (16, [.ref 3, .int x1, .ref a2, .int v3], [.int r6, .int v3, .ref a2], σ7)
      refine ⟨r6, σ7, e8, ?_⟩
      obtain ⟨g9, h⟩ := ite_some h
      obtain ⟨g10, h⟩ := ite_some h
      refine hw 3 _ ?_
      show kd a2 = 1 ∧ (inb v3 (ln a2) = true ∧ (K (2, [.ref 3, .int x1, .ref a2, .int (v3 + 1)], [], mput σ7 a2 (ix v3) r6)))
      refine ⟨g9, g10, ?_⟩
      exact ih (v3 + 1) (mput σ7 a2 (ix v3) r6) h hk

set_option maxHeartbeats 4000000 in
set_option maxRecDepth 100000 in
theorem s_X1_fillLevels : runs T_X1_fillLevels [.ref 3] 4 F_X1_fillLevels := by
  intro Qa K hw hf As σ r σ' h hQ
  unfold F_X1_fillLevels at h
  split at h
  · rename_i p0 p1
    unfold f_X1_fillLevels at h
    have hQ : Qa (r, σ').1 (r, σ').2 := hQ
    generalize (r, σ') = y at h hQ
    show K (0, [.ref 3, .int p0, .ref p1, .null], [], σ)
    refine hw 2 _ ?_
    show K (2, [.ref 3, .int p0, .ref p1, .int 0], [], σ)
    refine t_X1_fillLevels_2 hw hf p0 p1 _ _ lf 0 σ h (fun v11 σ12 h => ?_)
    show K (23, [.ref 3, .int p0, .ref p1, .int v11], [], σ12)
    obtain rfl := Option.some.inj h
    refine hw 1 _ ?_
    show Qa 0 σ12
    refine hQ
  · cases h
theorem h_X1_fillLevels : shp [.ref 3] 4 F_X1_fillLevels := by
  intro As σ r σ' h
  unfold F_X1_fillLevels at h
  split at h
  · exact ⟨by simp [Value.category], Nat.le_of_ble_eq_true rfl⟩
  · cases h
set_option maxHeartbeats 4000000 in
set_option maxRecDepth 100000 in
theorem c_X1_fillLevels (l : Launch) (D : va_G) (cI cZ cA cL : ClassId) (ad : Nat → Nat) (hi : adI ad) : CtV l yX1_fillLevels wsX1_fillLevels { frames := 2, cells := 0, slots := 0, locals := 51 } D cI cZ cA cL ad [.ref 3] F_X1_fillLevels := by
  refine mk_V [.ref 3] F_X1_fillLevels T_X1_fillLevels (by decide +kernel) rfl ?_ h_X1_fillLevels s_X1_fillLevels
  intro p e s m args below meth c Qa ⟨hx, hb, hml, hown, hts, hr, hlocks, hK, hN⟩
  refine ruL_c (n := 0) (n2 := 1) rfl (ru_iconst hx hb dX1_fillLevels_0 rfl) ?_
  refine ruL_c (n := 1) (n2 := 2) rfl (ru_istore_n (k := 3) hx hb dX1_fillLevels_1) ?_
  refine ruL_c (n := 2) (n2 := 3) rfl (ru_iload_n (k := 3) hx hb dX1_fillLevels_2) ?_
  refine ruL_c (n := 3) (n2 := 4) rfl (ru_bipush hx hb dX1_fillLevels_3 rfl) ?_
  refine ruL_c (n := 4) (n2 := 5) rfl (ru_bot) ?_
  refine ruL_c (n := 5) (n2 := 6) rfl (ru_icmpge hx hb dX1_fillLevels_5 (by decide)) ?_
  refine ruL_c (n := 6) (n2 := 7) rfl (ru_bot) ?_
  refine ruL_c (n := 7) (n2 := 8) rfl (ru_bot) ?_
  refine ruL_c (n := 8) (n2 := 9) rfl (ru_aload_n (k := 2) hx hb dX1_fillLevels_8) ?_
  refine ruL_c (n := 9) (n2 := 10) rfl (ru_iload_n (k := 3) hx hb dX1_fillLevels_9) ?_
  refine ruL_c (n := 10) (n2 := 11) rfl (ru_aload_n (k := 0) hx hb dX1_fillLevels_10) ?_
  refine ruL_c (n := 11) (n2 := 12) rfl (ru_iload_n (k := 3) hx hb dX1_fillLevels_11) ?_
  refine ruL_c (n := 12) (n2 := 13) rfl (ru_iload_n (k := 1) hx hb dX1_fillLevels_12) ?_
  refine ruL_c (n := 13) (n2 := 14) rfl (ru_callV hx hb hml hown hts hK hN (by decide) rfl (c_X1_levelByFades l D cI cZ cA cL ad hi) (cwV 2 hts gX1_fillLevels_X1_levelByFades rfl rfl rfl (by decide +kernel) ⟨Nat.le_of_ble_eq_true rfl, Nat.le_of_ble_eq_true rfl⟩) dX1_fillLevels_13 ⟨Nat.zero_le _, Nat.zero_le _⟩) ?_
  refine ruL_c (n := 14) (n2 := 15) rfl (ru_bot) ?_
  refine ruL_c (n := 15) (n2 := 16) rfl (ru_bot) ?_
  refine ruL_c (n := 16) (n2 := 17) rfl (ru_iast hx hb hK hi dX1_fillLevels_16) ?_
  refine ruL_c (n := 17) (n2 := 18) rfl (ru_iinc hx hb dX1_fillLevels_17 rfl) ?_
  refine ruL_c (n := 18) (n2 := 19) rfl (ru_bot) ?_
  refine ruL_c (n := 19) (n2 := 20) rfl (ru_bot) ?_
  refine ruL_c (n := 20) (n2 := 21) rfl (ru_goto hx hb dX1_fillLevels_20 (by decide)) ?_
  refine ruL_c (n := 21) (n2 := 22) rfl (ru_bot) ?_
  refine ruL_c (n := 22) (n2 := 23) rfl (ru_bot) ?_
  refine ruL_c (n := 23) (n2 := 24) rfl (ru_vret hx hb hK hr hlocks dX1_fillLevels_23) ?_
  exact trivial

