-- CueTour.addLamp
def f_X5_addLamp (p0 : Int32) (p1 : Int32) (p2 : Int32) (p3 : Int32) (σ : aM) : Option (Nat × Int32 × aM) := bnX (f_X5_checkNumber p0 4 σ) (fun σ3 => bnX (f_X5_checkNumber p1 4 σ3) (fun σ8 => bnX (f_X5_checkRange p2 0 2 σ8) (fun σ13 => bnX (f_X5_checkRange p3 1 100 σ13) (fun σ18 => bnX (f_X5_checkRoom (σ18 4 8) 20 σ18) (fun σ23 => bnN (f_X3_append p0 p1 p2 p3 σ23) (fun r26 σ27 => some (0, r26, σ27)))))))
def F_X5_addLamp : aFx := fun As σ => match As with
  | [.int p0, .int p1, .int p2, .int p3] => f_X5_addLamp p0 p1 p2 p3 σ
  | _ => none
def T_X5_addLamp : aTx := fun Qa Xa KN => [I_iload 1 1, I_const 4 1, I_callX 2 F_X5_checkNumber KN Xa, I_bot, I_bot, I_iload 2 1, I_const 4 1, I_callX 2 F_X5_checkNumber KN Xa, I_bot, I_bot, I_iload 3 1, I_const 0 1, I_const 2 1, I_callX 3 F_X5_checkRange KN Xa, I_bot, I_bot, I_iload 4 2, I_bot, I_const 1 1, I_const (100) 2, I_bot, I_callX 3 F_X5_checkRange KN Xa, I_bot, I_bot, I_aload 0 1, I_getR 0 4, I_bot, I_bot, I_getI 4 8, I_bot, I_bot, I_const (20) 2, I_bot, I_callX 2 F_X5_checkRoom KN Xa, I_bot, I_bot, I_aload 0 1, I_getR 0 4, I_bot, I_bot, I_iload 1 1, I_iload 2 1, I_iload 3 1, I_iload 4 2, I_bot, I_callV 4 4 F_X3_append, I_bot, I_bot, I_iret Qa]
set_option maxHeartbeats 4000000 in
set_option maxRecDepth 100000 in
theorem s_X5_addLamp : runsX T_X5_addLamp 6 [.ref 0] 5 F_X5_addLamp := by
  intro Qa Xa K hw hf As σ y h hQ hX
  unfold F_X5_addLamp at h
  split at h
  · rename_i p0 p1 p2 p3
    unfold f_X5_addLamp at h
    show K 0 (0, [.ref 0, .int p0, .int p1, .int p2, .int p3], [], σ)
    obtain ⟨e1, r2, σ3, q4, h⟩ := bnX_some h
    rcases h with ⟨c5, h⟩ | ⟨c5, h⟩
    · refine (hw 0 (by decide)) 3 _ ?_
      show ∃ e1 r2 σ3, f_X5_checkNumber p0 4 σ = some (e1, r2, σ3) ∧ (e1 = 0 → K 1 (5, [.ref 0, .int p0, .int p1, .int p2, .int p3], [], σ3)) ∧ (¬ e1 = 0 → Xa e1 σ3)
      refine ⟨e1, r2, σ3, q4, fun _ => ?_, fun q => absurd c5 q⟩
      obtain ⟨e6, r7, σ8, q9, h⟩ := bnX_some h
      rcases h with ⟨c10, h⟩ | ⟨c10, h⟩
      · refine (hw 1 (by decide)) 3 _ ?_
        show ∃ e6 r7 σ8, f_X5_checkNumber p1 4 σ3 = some (e6, r7, σ8) ∧ (e6 = 0 → K 2 (10, [.ref 0, .int p0, .int p1, .int p2, .int p3], [], σ8)) ∧ (¬ e6 = 0 → Xa e6 σ8)
        refine ⟨e6, r7, σ8, q9, fun _ => ?_, fun q => absurd c10 q⟩
        obtain ⟨e11, r12, σ13, q14, h⟩ := bnX_some h
        rcases h with ⟨c15, h⟩ | ⟨c15, h⟩
        · refine (hw 2 (by decide)) 4 _ ?_
          show ∃ e11 r12 σ13, f_X5_checkRange p2 0 2 σ8 = some (e11, r12, σ13) ∧ (e11 = 0 → K 3 (16, [.ref 0, .int p0, .int p1, .int p2, .int p3], [], σ13)) ∧ (¬ e11 = 0 → Xa e11 σ13)
          refine ⟨e11, r12, σ13, q14, fun _ => ?_, fun q => absurd c15 q⟩
          obtain ⟨e16, r17, σ18, q19, h⟩ := bnX_some h
          rcases h with ⟨c20, h⟩ | ⟨c20, h⟩
          · refine (hw 3 (by decide)) 4 _ ?_
            show ∃ e16 r17 σ18, f_X5_checkRange p3 1 100 σ13 = some (e16, r17, σ18) ∧ (e16 = 0 → K 4 (24, [.ref 0, .int p0, .int p1, .int p2, .int p3], [], σ18)) ∧ (¬ e16 = 0 → Xa e16 σ18)
            refine ⟨e16, r17, σ18, q19, fun _ => ?_, fun q => absurd c20 q⟩
            obtain ⟨e21, r22, σ23, q24, h⟩ := bnX_some h
            rcases h with ⟨c25, h⟩ | ⟨c25, h⟩
            · refine (hw 4 (by decide)) 5 _ ?_
              show ∃ e21 r22 σ23, f_X5_checkRoom (σ18 4 8) 20 σ18 = some (e21, r22, σ23) ∧ (e21 = 0 → K 5 (36, [.ref 0, .int p0, .int p1, .int p2, .int p3], [], σ23)) ∧ (¬ e21 = 0 → Xa e21 σ23)
              refine ⟨e21, r22, σ23, q24, fun _ => ?_, fun q => absurd c25 q⟩
              obtain ⟨r26, σ27, e28, h⟩ := bnN_some h
              refine (hw 5 (by decide)) 7 _ ?_
              show ∃ r26 σ27, f_X3_append p0 p1 p2 p3 σ23 = some (r26, σ27) ∧ K 5 (48, [.ref 0, .int p0, .int p1, .int p2, .int p3], [.int r26], σ27)
              refine ⟨r26, σ27, e28, ?_⟩
              obtain rfl := Option.some.inj h
              refine (hw 5 (by decide)) 1 _ ?_
              show Qa r26 σ27
              refine hQ rfl
            · refine (hw 4 (by decide)) 5 _ ?_
              show ∃ e21 r22 σ23, f_X5_checkRoom (σ18 4 8) 20 σ18 = some (e21, r22, σ23) ∧ (e21 = 0 → K 5 (36, [.ref 0, .int p0, .int p1, .int p2, .int p3], [], σ23)) ∧ (¬ e21 = 0 → Xa e21 σ23)
              refine ⟨e21, r22, σ23, q24, fun q => absurd q c25, fun _ => ?_⟩
              subst h
              exact hX c25
          · refine (hw 3 (by decide)) 4 _ ?_
            show ∃ e16 r17 σ18, f_X5_checkRange p3 1 100 σ13 = some (e16, r17, σ18) ∧ (e16 = 0 → K 4 (24, [.ref 0, .int p0, .int p1, .int p2, .int p3], [], σ18)) ∧ (¬ e16 = 0 → Xa e16 σ18)
            refine ⟨e16, r17, σ18, q19, fun q => absurd q c20, fun _ => ?_⟩
            subst h
            exact hX c20
        · refine (hw 2 (by decide)) 4 _ ?_
          show ∃ e11 r12 σ13, f_X5_checkRange p2 0 2 σ8 = some (e11, r12, σ13) ∧ (e11 = 0 → K 3 (16, [.ref 0, .int p0, .int p1, .int p2, .int p3], [], σ13)) ∧ (¬ e11 = 0 → Xa e11 σ13)
          refine ⟨e11, r12, σ13, q14, fun q => absurd q c15, fun _ => ?_⟩
          subst h
          exact hX c15
      · refine (hw 1 (by decide)) 3 _ ?_
        show ∃ e6 r7 σ8, f_X5_checkNumber p1 4 σ3 = some (e6, r7, σ8) ∧ (e6 = 0 → K 2 (10, [.ref 0, .int p0, .int p1, .int p2, .int p3], [], σ8)) ∧ (¬ e6 = 0 → Xa e6 σ8)
        refine ⟨e6, r7, σ8, q9, fun q => absurd q c10, fun _ => ?_⟩
        subst h
        exact hX c10
    · refine (hw 0 (by decide)) 3 _ ?_
      show ∃ e1 r2 σ3, f_X5_checkNumber p0 4 σ = some (e1, r2, σ3) ∧ (e1 = 0 → K 1 (5, [.ref 0, .int p0, .int p1, .int p2, .int p3], [], σ3)) ∧ (¬ e1 = 0 → Xa e1 σ3)
      refine ⟨e1, r2, σ3, q4, fun q => absurd q c5, fun _ => ?_⟩
      subst h
      exact hX c5
  · cases h
theorem h_X5_addLamp : shpX [.ref 0] 5 F_X5_addLamp := by
  intro As σ y h
  unfold F_X5_addLamp at h
  split at h
  · exact ⟨by simp [Value.category], Nat.le_of_ble_eq_true rfl⟩
  · cases h
set_option maxHeartbeats 4000000 in
set_option maxRecDepth 100000 in
theorem c_X5_addLamp (l : Launch) (hl : l.stackTraces = false) (D : va_G) (cI cZ cA cL : ClassId) (ad sa : Nat → Nat) (hi : adI ad) : CtXi l yX5_addLamp wsX5_addLamp { frames := 7, cells := 6, slots := 36, locals := 104 } 6 D cI cZ cA cL ad sa [.ref 0] F_X5_addLamp := by
  refine mk_Xi (mc := 6) [.ref 0] F_X5_addLamp T_X5_addLamp (by decide +kernel) rfl ?_ h_X5_addLamp s_X5_addLamp
  intro p e s m args below meth c Qa Xa ⟨⟨hx, hb, hml, hown, hts, hr, hlocks, hK, hN⟩, hX, hno⟩ n hn
  have hin5 : ∀ w ∈ u_ws RX5 TX5 8, w ∈ wsX5_addLamp := by decide +kernel
  have hl33 : (Cond.fieldLink RX5 33 RX5 (TX5 3).2.1 (TX5 3).2.2.1) ∈ wsX5_addLamp := by decide +kernel
  have hin3 : ∀ w ∈ u_ws RX3 TX3 9, w ∈ wsX5_addLamp := by decide +kernel
  have hl131 : (Cond.fieldLinkNest RX5 131 RX3 (TX3 8).2.1 (TX3 8).2.2.1 "CueTour") ∈ nwL := by decide +kernel
  refine ruL_c (n := 0) (n2 := 1) rfl (ru_iload_n (k := 1) hx hb dX5_addLamp_0) ?_
  refine ruL_c (n := 1) (n2 := 2) rfl (ru_iconst hx hb dX5_addLamp_1 rfl) ?_
  refine ruL_c (n := 2) (n2 := 3) rfl (ru_callX hx hb hml hown hts hK hN hX hno hlocks (c_X5_checkNumber l hl D cI cZ cA cL ad sa hi) (va_cwS 2 hts gX5_addLamp_X5_checkNumber rfl rfl rfl (by decide +kernel) ⟨Nat.le_of_ble_eq_true rfl, Nat.le_of_ble_eq_true rfl⟩) dX5_addLamp_2 ⟨hn, Nat.mul_le_mul_left 6 hn⟩ ⟨hn, Nat.mul_le_mul_left 6 hn⟩) ?_
  refine ruL_c (n := 3) (n2 := 4) rfl (ru_bot) ?_
  refine ruL_c (n := 4) (n2 := 5) rfl (ru_bot) ?_
  refine ruL_c (n := 5) (n2 := 6) rfl (ru_iload_n (k := 2) hx hb dX5_addLamp_5) ?_
  refine ruL_c (n := 6) (n2 := 7) rfl (ru_iconst hx hb dX5_addLamp_6 rfl) ?_
  refine ruL_c (n := 7) (n2 := 8) rfl (ru_callX hx hb hml hown hts hK hN hX hno hlocks (c_X5_checkNumber l hl D cI cZ cA cL ad sa hi) (va_cwS 2 hts gX5_addLamp_X5_checkNumber rfl rfl rfl (by decide +kernel) ⟨Nat.le_of_ble_eq_true rfl, Nat.le_of_ble_eq_true rfl⟩) dX5_addLamp_7 ⟨hn, Nat.mul_le_mul_left 6 hn⟩ ⟨hn, Nat.mul_le_mul_left 6 hn⟩) ?_
  refine ruL_c (n := 8) (n2 := 9) rfl (ru_bot) ?_
  refine ruL_c (n := 9) (n2 := 10) rfl (ru_bot) ?_
  refine ruL_c (n := 10) (n2 := 11) rfl (ru_iload_n (k := 3) hx hb dX5_addLamp_10) ?_
  refine ruL_c (n := 11) (n2 := 12) rfl (ru_iconst hx hb dX5_addLamp_11 rfl) ?_
  refine ruL_c (n := 12) (n2 := 13) rfl (ru_iconst hx hb dX5_addLamp_12 rfl) ?_
  refine ruL_c (n := 13) (n2 := 14) rfl (ru_callX hx hb hml hown hts hK hN hX hno hlocks (c_X5_checkRange l hl D cI cZ cA cL ad sa hi) (va_cwS 3 hts gX5_addLamp_X5_checkRange rfl rfl rfl (by decide +kernel) ⟨Nat.le_of_ble_eq_true rfl, Nat.le_of_ble_eq_true rfl⟩) dX5_addLamp_13 ⟨hn, Nat.mul_le_mul_left 6 hn⟩ ⟨hn, Nat.mul_le_mul_left 6 hn⟩) ?_
  refine ruL_c (n := 14) (n2 := 15) rfl (ru_bot) ?_
  refine ruL_c (n := 15) (n2 := 16) rfl (ru_bot) ?_
  refine ruL_c (n := 16) (n2 := 17) rfl (ru_iload hx hb dX5_addLamp_16) ?_
  refine ruL_c (n := 17) (n2 := 18) rfl (ru_bot) ?_
  refine ruL_c (n := 18) (n2 := 19) rfl (ru_iconst hx hb dX5_addLamp_18 rfl) ?_
  refine ruL_c (n := 19) (n2 := 20) rfl (ru_bipush hx hb dX5_addLamp_19 rfl) ?_
  refine ruL_c (n := 20) (n2 := 21) rfl (ru_bot) ?_
  refine ruL_c (n := 21) (n2 := 22) rfl (ru_callX hx hb hml hown hts hK hN hX hno hlocks (c_X5_checkRange l hl D cI cZ cA cL ad sa hi) (va_cwS 3 hts gX5_addLamp_X5_checkRange rfl rfl rfl (by decide +kernel) ⟨Nat.le_of_ble_eq_true rfl, Nat.le_of_ble_eq_true rfl⟩) dX5_addLamp_21 ⟨hn, Nat.mul_le_mul_left 6 hn⟩ ⟨hn, Nat.mul_le_mul_left 6 hn⟩) ?_
  refine ruL_c (n := 22) (n2 := 23) rfl (ru_bot) ?_
  refine ruL_c (n := 23) (n2 := 24) rfl (ru_bot) ?_
  refine ruL_c (n := 24) (n2 := 25) rfl (ru_aload_n (k := 0) hx hb dX5_addLamp_24) ?_
  refine ruL_c (n := 25) (n2 := 26) rfl (ru_getR (own := RX5) (j := 3) (T := TX5) hx hb hown hK hts hin5 (by decide) rfl rfl (by decide) rfl hl33 dX5_addLamp_25) ?_
  refine ruL_c (n := 26) (n2 := 27) rfl (ru_bot) ?_
  refine ruL_c (n := 27) (n2 := 28) rfl (ru_bot) ?_
  refine ruL_c (n := 28) (n2 := 29) rfl (ru_getIN (own := RX5) (j := 8) (T := TX3) hx hb hown hK hN hts hin3 (by decide) rfl rfl (by decide) rfl hl131 dX5_addLamp_28) ?_
  refine ruL_c (n := 29) (n2 := 30) rfl (ru_bot) ?_
  refine ruL_c (n := 30) (n2 := 31) rfl (ru_bot) ?_
  refine ruL_c (n := 31) (n2 := 32) rfl (ru_bipush hx hb dX5_addLamp_31 rfl) ?_
  refine ruL_c (n := 32) (n2 := 33) rfl (ru_bot) ?_
  refine ruL_c (n := 33) (n2 := 34) rfl (ru_callX hx hb hml hown hts hK hN hX hno hlocks (c_X5_checkRoom l hl D cI cZ cA cL ad sa hi) (va_cwS 2 hts gX5_addLamp_X5_checkRoom rfl rfl rfl (by decide +kernel) ⟨Nat.le_of_ble_eq_true rfl, Nat.le_of_ble_eq_true rfl⟩) dX5_addLamp_33 ⟨hn, Nat.mul_le_mul_left 6 hn⟩ ⟨hn, Nat.mul_le_mul_left 6 hn⟩) ?_
  refine ruL_c (n := 34) (n2 := 35) rfl (ru_bot) ?_
  refine ruL_c (n := 35) (n2 := 36) rfl (ru_bot) ?_
  refine ruL_c (n := 36) (n2 := 37) rfl (ru_aload_n (k := 0) hx hb dX5_addLamp_36) ?_
  refine ruL_c (n := 37) (n2 := 38) rfl (ru_getR (own := RX5) (j := 3) (T := TX5) hx hb hown hK hts hin5 (by decide) rfl rfl (by decide) rfl hl33 dX5_addLamp_37) ?_
  refine ruL_c (n := 38) (n2 := 39) rfl (ru_bot) ?_
  refine ruL_c (n := 39) (n2 := 40) rfl (ru_bot) ?_
  refine ruL_c (n := 40) (n2 := 41) rfl (ru_iload_n (k := 1) hx hb dX5_addLamp_40) ?_
  refine ruL_c (n := 41) (n2 := 42) rfl (ru_iload_n (k := 2) hx hb dX5_addLamp_41) ?_
  refine ruL_c (n := 42) (n2 := 43) rfl (ru_iload_n (k := 3) hx hb dX5_addLamp_42) ?_
  refine ruL_c (n := 43) (n2 := 44) rfl (ru_iload hx hb dX5_addLamp_43) ?_
  refine ruL_c (n := 44) (n2 := 45) rfl (ru_bot) ?_
  refine ruL_c (n := 45) (n2 := 46) rfl (ru_callV hx hb hml hown hts hK hN (by decide) rfl (c_X3_append l D cI cZ cA cL ad hi) (cwV 4 hts gX5_addLamp_X3_append rfl rfl rfl (by decide +kernel) ⟨Nat.le_of_ble_eq_true rfl, Nat.le_of_ble_eq_true rfl⟩) dX5_addLamp_45 ⟨Nat.le_of_lt hn, Nat.mul_le_mul_left 6 (Nat.le_of_lt hn)⟩) ?_
  refine ruL_c (n := 46) (n2 := 47) rfl (ru_bot) ?_
  refine ruL_c (n := 47) (n2 := 48) rfl (ru_bot) ?_
  refine ruL_c (n := 48) (n2 := 49) rfl (ru_iretX hx hb hK hr hlocks dX5_addLamp_48 ⟨Nat.le_of_lt hn, Nat.mul_le_mul_left 6 (Nat.le_of_lt hn)⟩) ?_
  exact trivial

-- CueTour.borrow
def f_X5_borrow (p0 : Int32) (p1 : Int32) (p2 : Int32) (σ : aM) : Option (Nat × Int32 × aM) := bnX (f_X5_checkNumber p0 (σ 4 8) σ) (fun σ3 => bnX (f_X5_checkNumber p1 4 σ3) (fun σ8 => bnX (f_X5_checkNumber p2 4 σ8) (fun σ13 => bnN (f_X3_canGo p0 p1 σ13) (fun r16 σ17 => bnX (f_X5_checkState r16 σ17) (fun σ21 => bnN (f_X3_put p0 p1 p2 σ21) (fun r24 σ25 => if inb p0 20 = true then some (0, σ25 18 (ix p0), σ25) else none))))))
def F_X5_borrow : aFx := fun As σ => match As with
  | [.int p0, .int p1, .int p2] => f_X5_borrow p0 p1 p2 σ
  | _ => none
def T_X5_borrow : aTx := fun Qa Xa KN => [I_iload 1 1, I_aload 0 1, I_getR 0 4, I_bot, I_bot, I_getI 4 8, I_bot, I_bot, I_callX 2 F_X5_checkNumber KN Xa, I_bot, I_bot, I_iload 2 1, I_const 4 1, I_callX 2 F_X5_checkNumber KN Xa, I_bot, I_bot, I_iload 3 1, I_const 4 1, I_callX 2 F_X5_checkNumber KN Xa, I_bot, I_bot, I_aload 0 1, I_getR 0 4, I_bot, I_bot, I_iload 1 1, I_iload 2 1, I_callV 4 2 F_X3_canGo, I_bot, I_bot, I_callX 1 F_X5_checkState KN Xa, I_bot, I_bot, I_aload 0 1, I_getR 0 4, I_bot, I_bot, I_iload 1 1, I_iload 2 1, I_iload 3 1, I_callVv 4 3 F_X3_put, I_bot, I_bot, I_aload 0 1, I_getR 0 4, I_bot, I_bot, I_getR 4 18, I_bot, I_bot, I_iload 1 1, I_iald, I_iret Qa]
set_option maxHeartbeats 4000000 in
set_option maxRecDepth 100000 in
theorem s_X5_borrow : runsX T_X5_borrow 5 [.ref 0] 4 F_X5_borrow := by
  intro Qa Xa K hw hf As σ y h hQ hX
  unfold F_X5_borrow at h
  split at h
  · rename_i p0 p1 p2
    unfold f_X5_borrow at h
    show K 0 (0, [.ref 0, .int p0, .int p1, .int p2], [], σ)
    obtain ⟨e1, r2, σ3, q4, h⟩ := bnX_some h
    rcases h with ⟨c5, h⟩ | ⟨c5, h⟩
    · refine (hw 0 (by decide)) 5 _ ?_
      show ∃ e1 r2 σ3, f_X5_checkNumber p0 (σ 4 8) σ = some (e1, r2, σ3) ∧ (e1 = 0 → K 1 (11, [.ref 0, .int p0, .int p1, .int p2], [], σ3)) ∧ (¬ e1 = 0 → Xa e1 σ3)
      refine ⟨e1, r2, σ3, q4, fun _ => ?_, fun q => absurd c5 q⟩
      obtain ⟨e6, r7, σ8, q9, h⟩ := bnX_some h
      rcases h with ⟨c10, h⟩ | ⟨c10, h⟩
      · refine (hw 1 (by decide)) 3 _ ?_
        show ∃ e6 r7 σ8, f_X5_checkNumber p1 4 σ3 = some (e6, r7, σ8) ∧ (e6 = 0 → K 2 (16, [.ref 0, .int p0, .int p1, .int p2], [], σ8)) ∧ (¬ e6 = 0 → Xa e6 σ8)
        refine ⟨e6, r7, σ8, q9, fun _ => ?_, fun q => absurd c10 q⟩
        obtain ⟨e11, r12, σ13, q14, h⟩ := bnX_some h
        rcases h with ⟨c15, h⟩ | ⟨c15, h⟩
        · refine (hw 2 (by decide)) 3 _ ?_
          show ∃ e11 r12 σ13, f_X5_checkNumber p2 4 σ8 = some (e11, r12, σ13) ∧ (e11 = 0 → K 3 (21, [.ref 0, .int p0, .int p1, .int p2], [], σ13)) ∧ (¬ e11 = 0 → Xa e11 σ13)
          refine ⟨e11, r12, σ13, q14, fun _ => ?_, fun q => absurd c15 q⟩
          obtain ⟨r16, σ17, e18, h⟩ := bnN_some h
          refine (hw 3 (by decide)) 5 _ ?_
          show ∃ r16 σ17, f_X3_canGo p0 p1 σ13 = some (r16, σ17) ∧ K 3 (30, [.ref 0, .int p0, .int p1, .int p2], [.int r16], σ17)
          refine ⟨r16, σ17, e18, ?_⟩
          obtain ⟨e19, r20, σ21, q22, h⟩ := bnX_some h
          rcases h with ⟨c23, h⟩ | ⟨c23, h⟩
          · refine (hw 3 (by decide)) 1 _ ?_
            show ∃ e19 r20 σ21, f_X5_checkState r16 σ17 = some (e19, r20, σ21) ∧ (e19 = 0 → K 4 (33, [.ref 0, .int p0, .int p1, .int p2], [], σ21)) ∧ (¬ e19 = 0 → Xa e19 σ21)
            refine ⟨e19, r20, σ21, q22, fun _ => ?_, fun q => absurd c23 q⟩
            obtain ⟨r24, σ25, e26, h⟩ := bnN_some h
            refine (hw 4 (by decide)) 6 _ ?_
            show ∃ r24 σ25, f_X3_put p0 p1 p2 σ21 = some (r24, σ25) ∧ K 4 (43, [.ref 0, .int p0, .int p1, .int p2], [], σ25)
            refine ⟨r24, σ25, e26, ?_⟩
            obtain ⟨g27, h⟩ := itX_some h
            obtain rfl := Option.some.inj h
            refine (hw 4 (by decide)) 6 _ ?_
            show kd 18 = 1 ∧ (inb p0 20 = true ∧ (Qa (σ25 18 (ix p0)) σ25))
            refine ⟨rfl, g27, (hQ rfl)⟩
          · refine (hw 3 (by decide)) 1 _ ?_
            show ∃ e19 r20 σ21, f_X5_checkState r16 σ17 = some (e19, r20, σ21) ∧ (e19 = 0 → K 4 (33, [.ref 0, .int p0, .int p1, .int p2], [], σ21)) ∧ (¬ e19 = 0 → Xa e19 σ21)
            refine ⟨e19, r20, σ21, q22, fun q => absurd q c23, fun _ => ?_⟩
            subst h
            exact hX c23
        · refine (hw 2 (by decide)) 3 _ ?_
          show ∃ e11 r12 σ13, f_X5_checkNumber p2 4 σ8 = some (e11, r12, σ13) ∧ (e11 = 0 → K 3 (21, [.ref 0, .int p0, .int p1, .int p2], [], σ13)) ∧ (¬ e11 = 0 → Xa e11 σ13)
          refine ⟨e11, r12, σ13, q14, fun q => absurd q c15, fun _ => ?_⟩
          subst h
          exact hX c15
      · refine (hw 1 (by decide)) 3 _ ?_
        show ∃ e6 r7 σ8, f_X5_checkNumber p1 4 σ3 = some (e6, r7, σ8) ∧ (e6 = 0 → K 2 (16, [.ref 0, .int p0, .int p1, .int p2], [], σ8)) ∧ (¬ e6 = 0 → Xa e6 σ8)
        refine ⟨e6, r7, σ8, q9, fun q => absurd q c10, fun _ => ?_⟩
        subst h
        exact hX c10
    · refine (hw 0 (by decide)) 5 _ ?_
      show ∃ e1 r2 σ3, f_X5_checkNumber p0 (σ 4 8) σ = some (e1, r2, σ3) ∧ (e1 = 0 → K 1 (11, [.ref 0, .int p0, .int p1, .int p2], [], σ3)) ∧ (¬ e1 = 0 → Xa e1 σ3)
      refine ⟨e1, r2, σ3, q4, fun q => absurd q c5, fun _ => ?_⟩
      subst h
      exact hX c5
  · cases h
theorem h_X5_borrow : shpX [.ref 0] 4 F_X5_borrow := by
  intro As σ y h
  unfold F_X5_borrow at h
  split at h
  · exact ⟨by simp [Value.category], Nat.le_of_ble_eq_true rfl⟩
  · cases h
set_option maxHeartbeats 4000000 in
set_option maxRecDepth 100000 in
theorem c_X5_borrow (l : Launch) (hl : l.stackTraces = false) (D : va_G) (cI cZ cA cL : ClassId) (ad sa : Nat → Nat) (hi : adI ad) : CtXi l yX5_borrow wsX5_borrow { frames := 7, cells := 5, slots := 30, locals := 103 } 5 D cI cZ cA cL ad sa [.ref 0] F_X5_borrow := by
  refine mk_Xi (mc := 5) [.ref 0] F_X5_borrow T_X5_borrow (by decide +kernel) rfl ?_ h_X5_borrow s_X5_borrow
  intro p e s m args below meth c Qa Xa ⟨⟨hx, hb, hml, hown, hts, hr, hlocks, hK, hN⟩, hX, hno⟩ n hn
  have hin5 : ∀ w ∈ u_ws RX5 TX5 8, w ∈ wsX5_borrow := by decide +kernel
  have hl33 : (Cond.fieldLink RX5 33 RX5 (TX5 3).2.1 (TX5 3).2.2.1) ∈ wsX5_borrow := by decide +kernel
  have hin3 : ∀ w ∈ u_ws RX3 TX3 9, w ∈ wsX5_borrow := by decide +kernel
  have hl131 : (Cond.fieldLinkNest RX5 131 RX3 (TX3 8).2.1 (TX3 8).2.2.1 "CueTour") ∈ nwL := by decide +kernel
  have hl146 : (Cond.fieldLinkNest RX5 146 RX3 (TX3 0).2.1 (TX3 0).2.2.1 "CueTour") ∈ nwL := by decide +kernel
  refine ruL_c (n := 0) (n2 := 1) rfl (ru_iload_n (k := 1) hx hb dX5_borrow_0) ?_
  refine ruL_c (n := 1) (n2 := 2) rfl (ru_aload_n (k := 0) hx hb dX5_borrow_1) ?_
  refine ruL_c (n := 2) (n2 := 3) rfl (ru_getR (own := RX5) (j := 3) (T := TX5) hx hb hown hK hts hin5 (by decide) rfl rfl (by decide) rfl hl33 dX5_borrow_2) ?_
  refine ruL_c (n := 3) (n2 := 4) rfl (ru_bot) ?_
  refine ruL_c (n := 4) (n2 := 5) rfl (ru_bot) ?_
  refine ruL_c (n := 5) (n2 := 6) rfl (ru_getIN (own := RX5) (j := 8) (T := TX3) hx hb hown hK hN hts hin3 (by decide) rfl rfl (by decide) rfl hl131 dX5_borrow_5) ?_
  refine ruL_c (n := 6) (n2 := 7) rfl (ru_bot) ?_
  refine ruL_c (n := 7) (n2 := 8) rfl (ru_bot) ?_
  refine ruL_c (n := 8) (n2 := 9) rfl (ru_callX hx hb hml hown hts hK hN hX hno hlocks (c_X5_checkNumber l hl D cI cZ cA cL ad sa hi) (va_cwS 2 hts gX5_borrow_X5_checkNumber rfl rfl rfl (by decide +kernel) ⟨Nat.le_of_ble_eq_true rfl, Nat.le_of_ble_eq_true rfl⟩) dX5_borrow_8 ⟨hn, Nat.mul_le_mul_left 6 hn⟩ ⟨hn, Nat.mul_le_mul_left 6 hn⟩) ?_
  refine ruL_c (n := 9) (n2 := 10) rfl (ru_bot) ?_
  refine ruL_c (n := 10) (n2 := 11) rfl (ru_bot) ?_
  refine ruL_c (n := 11) (n2 := 12) rfl (ru_iload_n (k := 2) hx hb dX5_borrow_11) ?_
  refine ruL_c (n := 12) (n2 := 13) rfl (ru_iconst hx hb dX5_borrow_12 rfl) ?_
  refine ruL_c (n := 13) (n2 := 14) rfl (ru_callX hx hb hml hown hts hK hN hX hno hlocks (c_X5_checkNumber l hl D cI cZ cA cL ad sa hi) (va_cwS 2 hts gX5_borrow_X5_checkNumber rfl rfl rfl (by decide +kernel) ⟨Nat.le_of_ble_eq_true rfl, Nat.le_of_ble_eq_true rfl⟩) dX5_borrow_13 ⟨hn, Nat.mul_le_mul_left 6 hn⟩ ⟨hn, Nat.mul_le_mul_left 6 hn⟩) ?_
  refine ruL_c (n := 14) (n2 := 15) rfl (ru_bot) ?_
  refine ruL_c (n := 15) (n2 := 16) rfl (ru_bot) ?_
  refine ruL_c (n := 16) (n2 := 17) rfl (ru_iload_n (k := 3) hx hb dX5_borrow_16) ?_
  refine ruL_c (n := 17) (n2 := 18) rfl (ru_iconst hx hb dX5_borrow_17 rfl) ?_
  refine ruL_c (n := 18) (n2 := 19) rfl (ru_callX hx hb hml hown hts hK hN hX hno hlocks (c_X5_checkNumber l hl D cI cZ cA cL ad sa hi) (va_cwS 2 hts gX5_borrow_X5_checkNumber rfl rfl rfl (by decide +kernel) ⟨Nat.le_of_ble_eq_true rfl, Nat.le_of_ble_eq_true rfl⟩) dX5_borrow_18 ⟨hn, Nat.mul_le_mul_left 6 hn⟩ ⟨hn, Nat.mul_le_mul_left 6 hn⟩) ?_
  refine ruL_c (n := 19) (n2 := 20) rfl (ru_bot) ?_
  refine ruL_c (n := 20) (n2 := 21) rfl (ru_bot) ?_
  refine ruL_c (n := 21) (n2 := 22) rfl (ru_aload_n (k := 0) hx hb dX5_borrow_21) ?_
  refine ruL_c (n := 22) (n2 := 23) rfl (ru_getR (own := RX5) (j := 3) (T := TX5) hx hb hown hK hts hin5 (by decide) rfl rfl (by decide) rfl hl33 dX5_borrow_22) ?_
  refine ruL_c (n := 23) (n2 := 24) rfl (ru_bot) ?_
  refine ruL_c (n := 24) (n2 := 25) rfl (ru_bot) ?_
  refine ruL_c (n := 25) (n2 := 26) rfl (ru_iload_n (k := 1) hx hb dX5_borrow_25) ?_
  refine ruL_c (n := 26) (n2 := 27) rfl (ru_iload_n (k := 2) hx hb dX5_borrow_26) ?_
  refine ruL_c (n := 27) (n2 := 28) rfl (ru_callV hx hb hml hown hts hK hN (by decide) rfl (c_X3_canGo l D cI cZ cA cL ad hi) (cwV 2 hts gX5_borrow_X3_canGo rfl rfl rfl (by decide +kernel) ⟨Nat.le_of_ble_eq_true rfl, Nat.le_of_ble_eq_true rfl⟩) dX5_borrow_27 ⟨Nat.le_of_lt hn, Nat.mul_le_mul_left 6 (Nat.le_of_lt hn)⟩) ?_
  refine ruL_c (n := 28) (n2 := 29) rfl (ru_bot) ?_
  refine ruL_c (n := 29) (n2 := 30) rfl (ru_bot) ?_
  refine ruL_c (n := 30) (n2 := 31) rfl (ru_callX hx hb hml hown hts hK hN hX hno hlocks (c_X5_checkState l hl D cI cZ cA cL ad sa hi) (va_cwS 1 hts gX5_borrow_X5_checkState rfl rfl rfl (by decide +kernel) ⟨Nat.le_of_ble_eq_true rfl, Nat.le_of_ble_eq_true rfl⟩) dX5_borrow_30 ⟨hn, Nat.mul_le_mul_left 6 hn⟩ ⟨hn, Nat.mul_le_mul_left 6 hn⟩) ?_
  refine ruL_c (n := 31) (n2 := 32) rfl (ru_bot) ?_
  refine ruL_c (n := 32) (n2 := 33) rfl (ru_bot) ?_
  refine ruL_c (n := 33) (n2 := 34) rfl (ru_aload_n (k := 0) hx hb dX5_borrow_33) ?_
  refine ruL_c (n := 34) (n2 := 35) rfl (ru_getR (own := RX5) (j := 3) (T := TX5) hx hb hown hK hts hin5 (by decide) rfl rfl (by decide) rfl hl33 dX5_borrow_34) ?_
  refine ruL_c (n := 35) (n2 := 36) rfl (ru_bot) ?_
  refine ruL_c (n := 36) (n2 := 37) rfl (ru_bot) ?_
  refine ruL_c (n := 37) (n2 := 38) rfl (ru_iload_n (k := 1) hx hb dX5_borrow_37) ?_
  refine ruL_c (n := 38) (n2 := 39) rfl (ru_iload_n (k := 2) hx hb dX5_borrow_38) ?_
  refine ruL_c (n := 39) (n2 := 40) rfl (ru_iload_n (k := 3) hx hb dX5_borrow_39) ?_
  refine ruL_c (n := 40) (n2 := 41) rfl (ru_callVv hx hb hml hown hts hK hN (by decide) rfl (c_X3_put l D cI cZ cA cL ad hi) (cwV 3 hts gX5_borrow_X3_put rfl rfl rfl (by decide +kernel) ⟨Nat.le_of_ble_eq_true rfl, Nat.le_of_ble_eq_true rfl⟩) dX5_borrow_40 ⟨Nat.le_of_lt hn, Nat.mul_le_mul_left 6 (Nat.le_of_lt hn)⟩) ?_
  refine ruL_c (n := 41) (n2 := 42) rfl (ru_bot) ?_
  refine ruL_c (n := 42) (n2 := 43) rfl (ru_bot) ?_
  refine ruL_c (n := 43) (n2 := 44) rfl (ru_aload_n (k := 0) hx hb dX5_borrow_43) ?_
  refine ruL_c (n := 44) (n2 := 45) rfl (ru_getR (own := RX5) (j := 3) (T := TX5) hx hb hown hK hts hin5 (by decide) rfl rfl (by decide) rfl hl33 dX5_borrow_44) ?_
  refine ruL_c (n := 45) (n2 := 46) rfl (ru_bot) ?_
  refine ruL_c (n := 46) (n2 := 47) rfl (ru_bot) ?_
  refine ruL_c (n := 47) (n2 := 48) rfl (ru_getRN (own := RX5) (j := 0) (T := TX3) hx hb hown hK hN hts hin3 (by decide) rfl rfl (by decide) rfl hl146 dX5_borrow_47) ?_
  refine ruL_c (n := 48) (n2 := 49) rfl (ru_bot) ?_
  refine ruL_c (n := 49) (n2 := 50) rfl (ru_bot) ?_
  refine ruL_c (n := 50) (n2 := 51) rfl (ru_iload_n (k := 1) hx hb dX5_borrow_50) ?_
  refine ruL_c (n := 51) (n2 := 52) rfl (ru_iald hx hb hK dX5_borrow_51) ?_
  refine ruL_c (n := 52) (n2 := 53) rfl (ru_iretX hx hb hK hr hlocks dX5_borrow_52 ⟨Nat.le_of_lt hn, Nat.mul_le_mul_left 6 (Nat.le_of_lt hn)⟩) ?_
  exact trivial

-- CueTour.bringBack
def f_X5_bringBack (p0 : Int32) (σ : aM) : Option (Nat × Int32 × aM) := bnX (f_X5_checkNumber p0 (σ 4 8) σ) (fun σ3 => bnN (f_X3_isHome p0 σ3) (fun r6 σ7 => if ¬ r6 = 0 then bnX (f_X5_checkState 0 σ7) (fun σ12 => if inb p0 20 = true then bnN (f_X3_putHome p0 σ12) (fun r16 σ17 => some (0, σ12 22 (ix p0), σ17)) else none) else bnX (f_X5_checkState 1 σ7) (fun σ21 => if inb p0 20 = true then bnN (f_X3_putHome p0 σ21) (fun r25 σ26 => some (0, σ21 22 (ix p0), σ26)) else none)))
def F_X5_bringBack : aFx := fun As σ => match As with
  | [.int p0] => f_X5_bringBack p0 σ
  | _ => none
def T_X5_bringBack : aTx := fun Qa Xa KN => [I_iload 1 1, I_aload 0 1, I_getR 0 4, I_bot, I_bot, I_getI 4 8, I_bot, I_bot, I_callX 2 F_X5_checkNumber KN Xa, I_bot, I_bot, I_aload 0 1, I_getR 0 4, I_bot, I_bot, I_iload 1 1, I_callV 4 1 F_X3_isHome, I_bot, I_bot, I_if (fun x => ¬ x = 0) 26, I_bot, I_bot, I_const 1 1, I_goto 27, I_bot, I_bot, I_const 0 1, I_callX 1 F_X5_checkState KN Xa, I_bot, I_bot, I_aload 0 1, I_getR 0 4, I_bot, I_bot, I_getR 4 22, I_bot, I_bot, I_iload 1 1, I_iald, I_istore 2 1, I_aload 0 1, I_getR 0 4, I_bot, I_bot, I_iload 1 1, I_callVv 4 1 F_X3_putHome, I_bot, I_bot, I_iload 2 1, I_iret Qa]
set_option maxHeartbeats 4000000 in
set_option maxRecDepth 100000 in
theorem s_X5_bringBack : runsX T_X5_bringBack 3 [.ref 0] 3 F_X5_bringBack := by
  intro Qa Xa K hw hf As σ y h hQ hX
  unfold F_X5_bringBack at h
  split at h
  · rename_i p0
    unfold f_X5_bringBack at h
    show K 0 (0, [.ref 0, .int p0, .null], [], σ)
    obtain ⟨e1, r2, σ3, q4, h⟩ := bnX_some h
    rcases h with ⟨c5, h⟩ | ⟨c5, h⟩
    · refine (hw 0 (by decide)) 5 _ ?_
      show ∃ e1 r2 σ3, f_X5_checkNumber p0 (σ 4 8) σ = some (e1, r2, σ3) ∧ (e1 = 0 → K 1 (11, [.ref 0, .int p0, .null], [], σ3)) ∧ (¬ e1 = 0 → Xa e1 σ3)
      refine ⟨e1, r2, σ3, q4, fun _ => ?_, fun q => absurd c5 q⟩
      obtain ⟨r6, σ7, e8, h⟩ := bnN_some h
      refine (hw 1 (by decide)) 4 _ ?_
      show ∃ r6 σ7, f_X3_isHome p0 σ3 = some (r6, σ7) ∧ K 1 (19, [.ref 0, .int p0, .null], [.int r6], σ7)
      refine ⟨r6, σ7, e8, ?_⟩
      rcases itX_cases h with ⟨c9, h⟩ | ⟨c9, h⟩
      · refine (hw 1 (by decide)) 1 _ ?_
        show ((¬ r6 = 0) → K 1 (26, [.ref 0, .int p0, .null], [], σ7)) ∧ (¬ (¬ r6 = 0) → K 1 (22, [.ref 0, .int p0, .null], [], σ7))
        refine ⟨fun _ => ?_, fun q => absurd c9 q⟩
        obtain ⟨e10, r11, σ12, q13, h⟩ := bnX_some h
        rcases h with ⟨c14, h⟩ | ⟨c14, h⟩
        · refine (hw 1 (by decide)) 2 _ ?_
          show ∃ e10 r11 σ12, f_X5_checkState 0 σ7 = some (e10, r11, σ12) ∧ (e10 = 0 → K 2 (30, [.ref 0, .int p0, .null], [], σ12)) ∧ (¬ e10 = 0 → Xa e10 σ12)
          refine ⟨e10, r11, σ12, q13, fun _ => ?_, fun q => absurd c14 q⟩
          obtain ⟨g15, h⟩ := itX_some h
          obtain ⟨r16, σ17, e18, h⟩ := bnN_some h
          refine (hw 2 (by decide)) 10 _ ?_
          show kd 22 = 1 ∧ (inb p0 20 = true ∧ (∃ r16 σ17, f_X3_putHome p0 σ12 = some (r16, σ17) ∧ K 2 (48, [.ref 0, .int p0, .int (σ12 22 (ix p0))], [], σ17)))
          refine ⟨rfl, g15, ⟨r16, σ17, e18, ?_⟩⟩
          obtain rfl := Option.some.inj h
          refine (hw 2 (by decide)) 2 _ ?_
          show Qa (σ12 22 (ix p0)) σ17
          refine hQ rfl
        · refine (hw 1 (by decide)) 2 _ ?_
          show ∃ e10 r11 σ12, f_X5_checkState 0 σ7 = some (e10, r11, σ12) ∧ (e10 = 0 → K 2 (30, [.ref 0, .int p0, .null], [], σ12)) ∧ (¬ e10 = 0 → Xa e10 σ12)
          refine ⟨e10, r11, σ12, q13, fun q => absurd q c14, fun _ => ?_⟩
          subst h
          exact hX c14
      · refine (hw 1 (by decide)) 1 _ ?_
        show ((¬ r6 = 0) → K 1 (26, [.ref 0, .int p0, .null], [], σ7)) ∧ (¬ (¬ r6 = 0) → K 1 (22, [.ref 0, .int p0, .null], [], σ7))
        refine ⟨fun q => absurd q c9, fun _ => ?_⟩
        obtain ⟨e19, r20, σ21, q22, h⟩ := bnX_some h
        rcases h with ⟨c23, h⟩ | ⟨c23, h⟩
        · refine (hw 1 (by decide)) 3 _ ?_
          show ∃ e19 r20 σ21, f_X5_checkState 1 σ7 = some (e19, r20, σ21) ∧ (e19 = 0 → K 2 (30, [.ref 0, .int p0, .null], [], σ21)) ∧ (¬ e19 = 0 → Xa e19 σ21)
          refine ⟨e19, r20, σ21, q22, fun _ => ?_, fun q => absurd c23 q⟩
          obtain ⟨g24, h⟩ := itX_some h
          obtain ⟨r25, σ26, e27, h⟩ := bnN_some h
          refine (hw 2 (by decide)) 10 _ ?_
          show kd 22 = 1 ∧ (inb p0 20 = true ∧ (∃ r25 σ26, f_X3_putHome p0 σ21 = some (r25, σ26) ∧ K 2 (48, [.ref 0, .int p0, .int (σ21 22 (ix p0))], [], σ26)))
          refine ⟨rfl, g24, ⟨r25, σ26, e27, ?_⟩⟩
          obtain rfl := Option.some.inj h
          refine (hw 2 (by decide)) 2 _ ?_
          show Qa (σ21 22 (ix p0)) σ26
          refine hQ rfl
        · refine (hw 1 (by decide)) 3 _ ?_
          show ∃ e19 r20 σ21, f_X5_checkState 1 σ7 = some (e19, r20, σ21) ∧ (e19 = 0 → K 2 (30, [.ref 0, .int p0, .null], [], σ21)) ∧ (¬ e19 = 0 → Xa e19 σ21)
          refine ⟨e19, r20, σ21, q22, fun q => absurd q c23, fun _ => ?_⟩
          subst h
          exact hX c23
    · refine (hw 0 (by decide)) 5 _ ?_
      show ∃ e1 r2 σ3, f_X5_checkNumber p0 (σ 4 8) σ = some (e1, r2, σ3) ∧ (e1 = 0 → K 1 (11, [.ref 0, .int p0, .null], [], σ3)) ∧ (¬ e1 = 0 → Xa e1 σ3)
      refine ⟨e1, r2, σ3, q4, fun q => absurd q c5, fun _ => ?_⟩
      subst h
      exact hX c5
  · cases h
theorem h_X5_bringBack : shpX [.ref 0] 3 F_X5_bringBack := by
  intro As σ y h
  unfold F_X5_bringBack at h
  split at h
  · exact ⟨by simp [Value.category], Nat.le_of_ble_eq_true rfl⟩
  · cases h
set_option maxHeartbeats 4000000 in
set_option maxRecDepth 100000 in
theorem c_X5_bringBack (l : Launch) (hl : l.stackTraces = false) (D : va_G) (cI cZ cA cL : ClassId) (ad sa : Nat → Nat) (hi : adI ad) : CtXi l yX5_bringBack wsX5_bringBack { frames := 7, cells := 3, slots := 18, locals := 103 } 3 D cI cZ cA cL ad sa [.ref 0] F_X5_bringBack := by
  refine mk_Xi (mc := 3) [.ref 0] F_X5_bringBack T_X5_bringBack (by decide +kernel) rfl ?_ h_X5_bringBack s_X5_bringBack
  intro p e s m args below meth c Qa Xa ⟨⟨hx, hb, hml, hown, hts, hr, hlocks, hK, hN⟩, hX, hno⟩ n hn
  have hin5 : ∀ w ∈ u_ws RX5 TX5 8, w ∈ wsX5_bringBack := by decide +kernel
  have hl33 : (Cond.fieldLink RX5 33 RX5 (TX5 3).2.1 (TX5 3).2.2.1) ∈ wsX5_bringBack := by decide +kernel
  have hin3 : ∀ w ∈ u_ws RX3 TX3 9, w ∈ wsX5_bringBack := by decide +kernel
  have hl131 : (Cond.fieldLinkNest RX5 131 RX3 (TX3 8).2.1 (TX3 8).2.2.1 "CueTour") ∈ nwL := by decide +kernel
  have hl153 : (Cond.fieldLinkNest RX5 153 RX3 (TX3 4).2.1 (TX3 4).2.2.1 "CueTour") ∈ nwL := by decide +kernel
  refine ruL_c (n := 0) (n2 := 1) rfl (ru_iload_n (k := 1) hx hb dX5_bringBack_0) ?_
  refine ruL_c (n := 1) (n2 := 2) rfl (ru_aload_n (k := 0) hx hb dX5_bringBack_1) ?_
  refine ruL_c (n := 2) (n2 := 3) rfl (ru_getR (own := RX5) (j := 3) (T := TX5) hx hb hown hK hts hin5 (by decide) rfl rfl (by decide) rfl hl33 dX5_bringBack_2) ?_
  refine ruL_c (n := 3) (n2 := 4) rfl (ru_bot) ?_
  refine ruL_c (n := 4) (n2 := 5) rfl (ru_bot) ?_
  refine ruL_c (n := 5) (n2 := 6) rfl (ru_getIN (own := RX5) (j := 8) (T := TX3) hx hb hown hK hN hts hin3 (by decide) rfl rfl (by decide) rfl hl131 dX5_bringBack_5) ?_
  refine ruL_c (n := 6) (n2 := 7) rfl (ru_bot) ?_
  refine ruL_c (n := 7) (n2 := 8) rfl (ru_bot) ?_
  refine ruL_c (n := 8) (n2 := 9) rfl (ru_callX hx hb hml hown hts hK hN hX hno hlocks (c_X5_checkNumber l hl D cI cZ cA cL ad sa hi) (va_cwS 2 hts gX5_bringBack_X5_checkNumber rfl rfl rfl (by decide +kernel) ⟨Nat.le_of_ble_eq_true rfl, Nat.le_of_ble_eq_true rfl⟩) dX5_bringBack_8 ⟨hn, Nat.mul_le_mul_left 6 hn⟩ ⟨hn, Nat.mul_le_mul_left 6 hn⟩) ?_
  refine ruL_c (n := 9) (n2 := 10) rfl (ru_bot) ?_
  refine ruL_c (n := 10) (n2 := 11) rfl (ru_bot) ?_
  refine ruL_c (n := 11) (n2 := 12) rfl (ru_aload_n (k := 0) hx hb dX5_bringBack_11) ?_
  refine ruL_c (n := 12) (n2 := 13) rfl (ru_getR (own := RX5) (j := 3) (T := TX5) hx hb hown hK hts hin5 (by decide) rfl rfl (by decide) rfl hl33 dX5_bringBack_12) ?_
  refine ruL_c (n := 13) (n2 := 14) rfl (ru_bot) ?_
  refine ruL_c (n := 14) (n2 := 15) rfl (ru_bot) ?_
  refine ruL_c (n := 15) (n2 := 16) rfl (ru_iload_n (k := 1) hx hb dX5_bringBack_15) ?_
  refine ruL_c (n := 16) (n2 := 17) rfl (ru_callV hx hb hml hown hts hK hN (by decide) rfl (c_X3_isHome l D cI cZ cA cL ad hi) (cwV 1 hts gX5_bringBack_X3_isHome rfl rfl rfl (by decide +kernel) ⟨Nat.le_of_ble_eq_true rfl, Nat.le_of_ble_eq_true rfl⟩) dX5_bringBack_16 ⟨Nat.le_of_lt hn, Nat.mul_le_mul_left 6 (Nat.le_of_lt hn)⟩) ?_
  refine ruL_c (n := 17) (n2 := 18) rfl (ru_bot) ?_
  refine ruL_c (n := 18) (n2 := 19) rfl (ru_bot) ?_
  refine ruL_c (n := 19) (n2 := 20) rfl (ru_ifne hx hb dX5_bringBack_19 (by decide)) ?_
  refine ruL_c (n := 20) (n2 := 21) rfl (ru_bot) ?_
  refine ruL_c (n := 21) (n2 := 22) rfl (ru_bot) ?_
  refine ruL_c (n := 22) (n2 := 23) rfl (ru_iconst hx hb dX5_bringBack_22 rfl) ?_
  refine ruL_c (n := 23) (n2 := 24) rfl (ru_goto hx hb dX5_bringBack_23 (by decide)) ?_
  refine ruL_c (n := 24) (n2 := 25) rfl (ru_bot) ?_
  refine ruL_c (n := 25) (n2 := 26) rfl (ru_bot) ?_
  refine ruL_c (n := 26) (n2 := 27) rfl (ru_iconst hx hb dX5_bringBack_26 rfl) ?_
  refine ruL_c (n := 27) (n2 := 28) rfl (ru_callX hx hb hml hown hts hK hN hX hno hlocks (c_X5_checkState l hl D cI cZ cA cL ad sa hi) (va_cwS 1 hts gX5_bringBack_X5_checkState rfl rfl rfl (by decide +kernel) ⟨Nat.le_of_ble_eq_true rfl, Nat.le_of_ble_eq_true rfl⟩) dX5_bringBack_27 ⟨hn, Nat.mul_le_mul_left 6 hn⟩ ⟨hn, Nat.mul_le_mul_left 6 hn⟩) ?_
  refine ruL_c (n := 28) (n2 := 29) rfl (ru_bot) ?_
  refine ruL_c (n := 29) (n2 := 30) rfl (ru_bot) ?_
  refine ruL_c (n := 30) (n2 := 31) rfl (ru_aload_n (k := 0) hx hb dX5_bringBack_30) ?_
  refine ruL_c (n := 31) (n2 := 32) rfl (ru_getR (own := RX5) (j := 3) (T := TX5) hx hb hown hK hts hin5 (by decide) rfl rfl (by decide) rfl hl33 dX5_bringBack_31) ?_
  refine ruL_c (n := 32) (n2 := 33) rfl (ru_bot) ?_
  refine ruL_c (n := 33) (n2 := 34) rfl (ru_bot) ?_
  refine ruL_c (n := 34) (n2 := 35) rfl (ru_getRN (own := RX5) (j := 4) (T := TX3) hx hb hown hK hN hts hin3 (by decide) rfl rfl (by decide) rfl hl153 dX5_bringBack_34) ?_
  refine ruL_c (n := 35) (n2 := 36) rfl (ru_bot) ?_
  refine ruL_c (n := 36) (n2 := 37) rfl (ru_bot) ?_
  refine ruL_c (n := 37) (n2 := 38) rfl (ru_iload_n (k := 1) hx hb dX5_bringBack_37) ?_
  refine ruL_c (n := 38) (n2 := 39) rfl (ru_iald hx hb hK dX5_bringBack_38) ?_
  refine ruL_c (n := 39) (n2 := 40) rfl (ru_istore_n (k := 2) hx hb dX5_bringBack_39) ?_
  refine ruL_c (n := 40) (n2 := 41) rfl (ru_aload_n (k := 0) hx hb dX5_bringBack_40) ?_
  refine ruL_c (n := 41) (n2 := 42) rfl (ru_getR (own := RX5) (j := 3) (T := TX5) hx hb hown hK hts hin5 (by decide) rfl rfl (by decide) rfl hl33 dX5_bringBack_41) ?_
  refine ruL_c (n := 42) (n2 := 43) rfl (ru_bot) ?_
  refine ruL_c (n := 43) (n2 := 44) rfl (ru_bot) ?_
  refine ruL_c (n := 44) (n2 := 45) rfl (ru_iload_n (k := 1) hx hb dX5_bringBack_44) ?_
  refine ruL_c (n := 45) (n2 := 46) rfl (ru_callVv hx hb hml hown hts hK hN (by decide) rfl (c_X3_putHome l D cI cZ cA cL ad hi) (cwV 1 hts gX5_bringBack_X3_putHome rfl rfl rfl (by decide +kernel) ⟨Nat.le_of_ble_eq_true rfl, Nat.le_of_ble_eq_true rfl⟩) dX5_bringBack_45 ⟨Nat.le_of_lt hn, Nat.mul_le_mul_left 6 (Nat.le_of_lt hn)⟩) ?_
  refine ruL_c (n := 46) (n2 := 47) rfl (ru_bot) ?_
  refine ruL_c (n := 47) (n2 := 48) rfl (ru_bot) ?_
  refine ruL_c (n := 48) (n2 := 49) rfl (ru_iload_n (k := 2) hx hb dX5_bringBack_48) ?_
  refine ruL_c (n := 49) (n2 := 50) rfl (ru_iretX hx hb hK hr hlocks dX5_bringBack_49 ⟨Nat.le_of_lt hn, Nat.mul_le_mul_left 6 (Nat.le_of_lt hn)⟩) ?_
  exact trivial

-- CueTour.replace
def f_X5_replace (p0 : Int32) (σ : aM) : Option (Nat × Int32 × aM) := bnX (f_X5_checkNumber p0 (σ 4 8) σ) (fun σ3 => if inb p0 20 = true then if inb p0 20 = true then some (0, σ3 24 (ix p0), mput σ3 24 (ix p0) 0) else none else none)
def F_X5_replace : aFx := fun As σ => match As with
  | [.int p0] => f_X5_replace p0 σ
  | _ => none
def T_X5_replace : aTx := fun Qa Xa KN => [I_iload 1 1, I_aload 0 1, I_getR 0 4, I_bot, I_bot, I_getI 4 8, I_bot, I_bot, I_callX 2 F_X5_checkNumber KN Xa, I_bot, I_bot, I_aload 0 1, I_getR 0 4, I_bot, I_bot, I_getR 4 24, I_bot, I_bot, I_iload 1 1, I_iald, I_istore 2 1, I_aload 0 1, I_getR 0 4, I_bot, I_bot, I_getR 4 24, I_bot, I_bot, I_iload 1 1, I_const 0 1, I_iast, I_iload 2 1, I_iret Qa]
set_option maxHeartbeats 4000000 in
set_option maxRecDepth 100000 in
theorem s_X5_replace : runsX T_X5_replace 2 [.ref 0] 3 F_X5_replace := by
  intro Qa Xa K hw hf As σ y h hQ hX
  unfold F_X5_replace at h
  split at h
  · rename_i p0
    unfold f_X5_replace at h
    show K 0 (0, [.ref 0, .int p0, .null], [], σ)
    obtain ⟨e1, r2, σ3, q4, h⟩ := bnX_some h
    rcases h with ⟨c5, h⟩ | ⟨c5, h⟩
    · refine (hw 0 (by decide)) 5 _ ?_
      show ∃ e1 r2 σ3, f_X5_checkNumber p0 (σ 4 8) σ = some (e1, r2, σ3) ∧ (e1 = 0 → K 1 (11, [.ref 0, .int p0, .null], [], σ3)) ∧ (¬ e1 = 0 → Xa e1 σ3)
      refine ⟨e1, r2, σ3, q4, fun _ => ?_, fun q => absurd c5 q⟩
      obtain ⟨g6, h⟩ := itX_some h
      obtain ⟨g7, h⟩ := itX_some h
      obtain rfl := Option.some.inj h
      refine (hw 1 (by decide)) 14 _ ?_
      show kd 24 = 1 ∧ (inb p0 20 = true ∧ (kd 24 = 1 ∧ (inb p0 20 = true ∧ (Qa (σ3 24 (ix p0)) (mput σ3 24 (ix p0) 0)))))
      refine ⟨rfl, g6, rfl, g7, (hQ rfl)⟩
    · refine (hw 0 (by decide)) 5 _ ?_
      show ∃ e1 r2 σ3, f_X5_checkNumber p0 (σ 4 8) σ = some (e1, r2, σ3) ∧ (e1 = 0 → K 1 (11, [.ref 0, .int p0, .null], [], σ3)) ∧ (¬ e1 = 0 → Xa e1 σ3)
      refine ⟨e1, r2, σ3, q4, fun q => absurd q c5, fun _ => ?_⟩
      subst h
      exact hX c5
  · cases h
theorem h_X5_replace : shpX [.ref 0] 3 F_X5_replace := by
  intro As σ y h
  unfold F_X5_replace at h
  split at h
  · exact ⟨by simp [Value.category], Nat.le_of_ble_eq_true rfl⟩
  · cases h
set_option maxHeartbeats 4000000 in
set_option maxRecDepth 100000 in
theorem c_X5_replace (l : Launch) (hl : l.stackTraces = false) (D : va_G) (cI cZ cA cL : ClassId) (ad sa : Nat → Nat) (hi : adI ad) : CtXi l yX5_replace wsX5_replace { frames := 7, cells := 2, slots := 12, locals := 103 } 2 D cI cZ cA cL ad sa [.ref 0] F_X5_replace := by
  refine mk_Xi (mc := 2) [.ref 0] F_X5_replace T_X5_replace (by decide +kernel) rfl ?_ h_X5_replace s_X5_replace
  intro p e s m args below meth c Qa Xa ⟨⟨hx, hb, hml, hown, hts, hr, hlocks, hK, hN⟩, hX, hno⟩ n hn
  have hin5 : ∀ w ∈ u_ws RX5 TX5 8, w ∈ wsX5_replace := by decide +kernel
  have hl33 : (Cond.fieldLink RX5 33 RX5 (TX5 3).2.1 (TX5 3).2.2.1) ∈ wsX5_replace := by decide +kernel
  have hin3 : ∀ w ∈ u_ws RX3 TX3 9, w ∈ wsX5_replace := by decide +kernel
  have hl131 : (Cond.fieldLinkNest RX5 131 RX3 (TX3 8).2.1 (TX3 8).2.2.1 "CueTour") ∈ nwL := by decide +kernel
  have hl160 : (Cond.fieldLinkNest RX5 160 RX3 (TX3 6).2.1 (TX3 6).2.2.1 "CueTour") ∈ nwL := by decide +kernel
  refine ruL_c (n := 0) (n2 := 1) rfl (ru_iload_n (k := 1) hx hb dX5_replace_0) ?_
  refine ruL_c (n := 1) (n2 := 2) rfl (ru_aload_n (k := 0) hx hb dX5_replace_1) ?_
  refine ruL_c (n := 2) (n2 := 3) rfl (ru_getR (own := RX5) (j := 3) (T := TX5) hx hb hown hK hts hin5 (by decide) rfl rfl (by decide) rfl hl33 dX5_replace_2) ?_
  refine ruL_c (n := 3) (n2 := 4) rfl (ru_bot) ?_
  refine ruL_c (n := 4) (n2 := 5) rfl (ru_bot) ?_
  refine ruL_c (n := 5) (n2 := 6) rfl (ru_getIN (own := RX5) (j := 8) (T := TX3) hx hb hown hK hN hts hin3 (by decide) rfl rfl (by decide) rfl hl131 dX5_replace_5) ?_
  refine ruL_c (n := 6) (n2 := 7) rfl (ru_bot) ?_
  refine ruL_c (n := 7) (n2 := 8) rfl (ru_bot) ?_
  refine ruL_c (n := 8) (n2 := 9) rfl (ru_callX hx hb hml hown hts hK hN hX hno hlocks (c_X5_checkNumber l hl D cI cZ cA cL ad sa hi) (va_cwS 2 hts gX5_replace_X5_checkNumber rfl rfl rfl (by decide +kernel) ⟨Nat.le_of_ble_eq_true rfl, Nat.le_of_ble_eq_true rfl⟩) dX5_replace_8 ⟨hn, Nat.mul_le_mul_left 6 hn⟩ ⟨hn, Nat.mul_le_mul_left 6 hn⟩) ?_
  refine ruL_c (n := 9) (n2 := 10) rfl (ru_bot) ?_
  refine ruL_c (n := 10) (n2 := 11) rfl (ru_bot) ?_
  refine ruL_c (n := 11) (n2 := 12) rfl (ru_aload_n (k := 0) hx hb dX5_replace_11) ?_
  refine ruL_c (n := 12) (n2 := 13) rfl (ru_getR (own := RX5) (j := 3) (T := TX5) hx hb hown hK hts hin5 (by decide) rfl rfl (by decide) rfl hl33 dX5_replace_12) ?_
  refine ruL_c (n := 13) (n2 := 14) rfl (ru_bot) ?_
  refine ruL_c (n := 14) (n2 := 15) rfl (ru_bot) ?_
  refine ruL_c (n := 15) (n2 := 16) rfl (ru_getRN (own := RX5) (j := 6) (T := TX3) hx hb hown hK hN hts hin3 (by decide) rfl rfl (by decide) rfl hl160 dX5_replace_15) ?_
  refine ruL_c (n := 16) (n2 := 17) rfl (ru_bot) ?_
  refine ruL_c (n := 17) (n2 := 18) rfl (ru_bot) ?_
  refine ruL_c (n := 18) (n2 := 19) rfl (ru_iload_n (k := 1) hx hb dX5_replace_18) ?_
  refine ruL_c (n := 19) (n2 := 20) rfl (ru_iald hx hb hK dX5_replace_19) ?_
  refine ruL_c (n := 20) (n2 := 21) rfl (ru_istore_n (k := 2) hx hb dX5_replace_20) ?_
  refine ruL_c (n := 21) (n2 := 22) rfl (ru_aload_n (k := 0) hx hb dX5_replace_21) ?_
  refine ruL_c (n := 22) (n2 := 23) rfl (ru_getR (own := RX5) (j := 3) (T := TX5) hx hb hown hK hts hin5 (by decide) rfl rfl (by decide) rfl hl33 dX5_replace_22) ?_
  refine ruL_c (n := 23) (n2 := 24) rfl (ru_bot) ?_
  refine ruL_c (n := 24) (n2 := 25) rfl (ru_bot) ?_
  refine ruL_c (n := 25) (n2 := 26) rfl (ru_getRN (own := RX5) (j := 6) (T := TX3) hx hb hown hK hN hts hin3 (by decide) rfl rfl (by decide) rfl hl160 dX5_replace_25) ?_
  refine ruL_c (n := 26) (n2 := 27) rfl (ru_bot) ?_
  refine ruL_c (n := 27) (n2 := 28) rfl (ru_bot) ?_
  refine ruL_c (n := 28) (n2 := 29) rfl (ru_iload_n (k := 1) hx hb dX5_replace_28) ?_
  refine ruL_c (n := 29) (n2 := 30) rfl (ru_iconst hx hb dX5_replace_29 rfl) ?_
  refine ruL_c (n := 30) (n2 := 31) rfl (ru_iast hx hb hK hi dX5_replace_30) ?_
  refine ruL_c (n := 31) (n2 := 32) rfl (ru_iload_n (k := 2) hx hb dX5_replace_31) ?_
  refine ruL_c (n := 32) (n2 := 33) rfl (ru_iretX hx hb hK hr hlocks dX5_replace_32 ⟨Nat.le_of_lt hn, Nat.mul_le_mul_left 6 (Nat.le_of_lt hn)⟩) ?_
  exact trivial

-- CueTour.lamps
def f_X5_lamps (σ : aM) : Option (Int32 × aM) := some (σ 4 8, σ)
def F_X5_lamps : aF := fun As σ => match As with
  | [] => f_X5_lamps σ
  | _ => none
def T_X5_lamps (Qa : Int32 → aM → Prop) : List aI := [I_aload 0 1, I_getR 0 4, I_bot, I_bot, I_getI 4 8, I_bot, I_bot, I_iret Qa]
set_option maxHeartbeats 4000000 in
set_option maxRecDepth 100000 in
theorem s_X5_lamps : runs T_X5_lamps [.ref 0] 1 F_X5_lamps := by
  intro Qa K hw hf As σ r σ' h hQ
  unfold F_X5_lamps at h
  split at h
  · unfold f_X5_lamps at h
    have hQ : Qa (r, σ').1 (r, σ').2 := hQ
    generalize (r, σ') = y at h hQ
    show K (0, [.ref 0], [], σ)
    obtain rfl := Option.some.inj h
    refine hw 4 _ ?_
    show Qa (σ 4 8) σ
    refine hQ
  · cases h
theorem h_X5_lamps : shp [.ref 0] 1 F_X5_lamps := by
  intro As σ r σ' h
  unfold F_X5_lamps at h
  split at h
  · exact ⟨by simp [Value.category], Nat.le_of_ble_eq_true rfl⟩
  · cases h
set_option maxHeartbeats 4000000 in
set_option maxRecDepth 100000 in
theorem c_X5_lamps (l : Launch) (D : va_G) (cI cZ cA cL : ClassId) (ad : Nat → Nat) (hi : adI ad) : CtI l yX5_lamps wsX5_lamps { frames := 0, cells := 0, slots := 0, locals := 0 } D cI cZ cA cL ad [.ref 0] F_X5_lamps := by
  refine mk_I [.ref 0] F_X5_lamps T_X5_lamps (by decide +kernel) rfl ?_ h_X5_lamps s_X5_lamps
  intro p e s m args below meth c Qa ⟨hx, hb, hml, hown, hts, hr, hlocks, hK, hN⟩
  have hin5 : ∀ w ∈ u_ws RX5 TX5 8, w ∈ wsX5_lamps := by decide +kernel
  have hl33 : (Cond.fieldLink RX5 33 RX5 (TX5 3).2.1 (TX5 3).2.2.1) ∈ wsX5_lamps := by decide +kernel
  have hin3 : ∀ w ∈ u_ws RX3 TX3 9, w ∈ wsX5_lamps := by decide +kernel
  have hl131 : (Cond.fieldLinkNest RX5 131 RX3 (TX3 8).2.1 (TX3 8).2.2.1 "CueTour") ∈ nwL := by decide +kernel
  refine ruL_c (n := 0) (n2 := 1) rfl (ru_aload_n (k := 0) hx hb dX5_lamps_0) ?_
  refine ruL_c (n := 1) (n2 := 2) rfl (ru_getR (own := RX5) (j := 3) (T := TX5) hx hb hown hK hts hin5 (by decide) rfl rfl (by decide) rfl hl33 dX5_lamps_1) ?_
  refine ruL_c (n := 2) (n2 := 3) rfl (ru_bot) ?_
  refine ruL_c (n := 3) (n2 := 4) rfl (ru_bot) ?_
  refine ruL_c (n := 4) (n2 := 5) rfl (ru_getIN (own := RX5) (j := 8) (T := TX3) hx hb hown hK hN hts hin3 (by decide) rfl rfl (by decide) rfl hl131 dX5_lamps_4) ?_
  refine ruL_c (n := 5) (n2 := 6) rfl (ru_bot) ?_
  refine ruL_c (n := 6) (n2 := 7) rfl (ru_bot) ?_
  refine ruL_c (n := 7) (n2 := 8) rfl (ru_iret hx hb hK hr hlocks dX5_lamps_7) ?_
  exact trivial

-- CueTour.whereIs
def f_X5_whereIs (p0 : Int32) (σ : aM) : Option (Nat × Int32 × aM) := bnX (f_X5_checkNumber p0 (σ 4 8) σ) (fun σ3 => if inb p0 20 = true then some (0, σ3 22 (ix p0), σ3) else none)
def F_X5_whereIs : aFx := fun As σ => match As with
  | [.int p0] => f_X5_whereIs p0 σ
  | _ => none
def T_X5_whereIs : aTx := fun Qa Xa KN => [I_iload 1 1, I_aload 0 1, I_getR 0 4, I_bot, I_bot, I_getI 4 8, I_bot, I_bot, I_callX 2 F_X5_checkNumber KN Xa, I_bot, I_bot, I_aload 0 1, I_getR 0 4, I_bot, I_bot, I_getR 4 22, I_bot, I_bot, I_iload 1 1, I_iald, I_iret Qa]
set_option maxHeartbeats 4000000 in
set_option maxRecDepth 100000 in
theorem s_X5_whereIs : runsX T_X5_whereIs 2 [.ref 0] 2 F_X5_whereIs := by
  intro Qa Xa K hw hf As σ y h hQ hX
  unfold F_X5_whereIs at h
  split at h
  · rename_i p0
    unfold f_X5_whereIs at h
    show K 0 (0, [.ref 0, .int p0], [], σ)
    obtain ⟨e1, r2, σ3, q4, h⟩ := bnX_some h
    rcases h with ⟨c5, h⟩ | ⟨c5, h⟩
    · refine (hw 0 (by decide)) 5 _ ?_
      show ∃ e1 r2 σ3, f_X5_checkNumber p0 (σ 4 8) σ = some (e1, r2, σ3) ∧ (e1 = 0 → K 1 (11, [.ref 0, .int p0], [], σ3)) ∧ (¬ e1 = 0 → Xa e1 σ3)
      refine ⟨e1, r2, σ3, q4, fun _ => ?_, fun q => absurd c5 q⟩
      obtain ⟨g6, h⟩ := itX_some h
      obtain rfl := Option.some.inj h
      refine (hw 1 (by decide)) 6 _ ?_
      show kd 22 = 1 ∧ (inb p0 20 = true ∧ (Qa (σ3 22 (ix p0)) σ3))
      refine ⟨rfl, g6, (hQ rfl)⟩
    · refine (hw 0 (by decide)) 5 _ ?_
      show ∃ e1 r2 σ3, f_X5_checkNumber p0 (σ 4 8) σ = some (e1, r2, σ3) ∧ (e1 = 0 → K 1 (11, [.ref 0, .int p0], [], σ3)) ∧ (¬ e1 = 0 → Xa e1 σ3)
      refine ⟨e1, r2, σ3, q4, fun q => absurd q c5, fun _ => ?_⟩
      subst h
      exact hX c5
  · cases h
theorem h_X5_whereIs : shpX [.ref 0] 2 F_X5_whereIs := by
  intro As σ y h
  unfold F_X5_whereIs at h
  split at h
  · exact ⟨by simp [Value.category], Nat.le_of_ble_eq_true rfl⟩
  · cases h
set_option maxHeartbeats 4000000 in
set_option maxRecDepth 100000 in
theorem c_X5_whereIs (l : Launch) (hl : l.stackTraces = false) (D : va_G) (cI cZ cA cL : ClassId) (ad sa : Nat → Nat) (hi : adI ad) : CtXi l yX5_whereIs wsX5_whereIs { frames := 7, cells := 2, slots := 12, locals := 103 } 2 D cI cZ cA cL ad sa [.ref 0] F_X5_whereIs := by
  refine mk_Xi (mc := 2) [.ref 0] F_X5_whereIs T_X5_whereIs (by decide +kernel) rfl ?_ h_X5_whereIs s_X5_whereIs
  intro p e s m args below meth c Qa Xa ⟨⟨hx, hb, hml, hown, hts, hr, hlocks, hK, hN⟩, hX, hno⟩ n hn
  have hin5 : ∀ w ∈ u_ws RX5 TX5 8, w ∈ wsX5_whereIs := by decide +kernel
  have hl33 : (Cond.fieldLink RX5 33 RX5 (TX5 3).2.1 (TX5 3).2.2.1) ∈ wsX5_whereIs := by decide +kernel
  have hin3 : ∀ w ∈ u_ws RX3 TX3 9, w ∈ wsX5_whereIs := by decide +kernel
  have hl131 : (Cond.fieldLinkNest RX5 131 RX3 (TX3 8).2.1 (TX3 8).2.2.1 "CueTour") ∈ nwL := by decide +kernel
  have hl153 : (Cond.fieldLinkNest RX5 153 RX3 (TX3 4).2.1 (TX3 4).2.2.1 "CueTour") ∈ nwL := by decide +kernel
  refine ruL_c (n := 0) (n2 := 1) rfl (ru_iload_n (k := 1) hx hb dX5_whereIs_0) ?_
  refine ruL_c (n := 1) (n2 := 2) rfl (ru_aload_n (k := 0) hx hb dX5_whereIs_1) ?_
  refine ruL_c (n := 2) (n2 := 3) rfl (ru_getR (own := RX5) (j := 3) (T := TX5) hx hb hown hK hts hin5 (by decide) rfl rfl (by decide) rfl hl33 dX5_whereIs_2) ?_
  refine ruL_c (n := 3) (n2 := 4) rfl (ru_bot) ?_
  refine ruL_c (n := 4) (n2 := 5) rfl (ru_bot) ?_
  refine ruL_c (n := 5) (n2 := 6) rfl (ru_getIN (own := RX5) (j := 8) (T := TX3) hx hb hown hK hN hts hin3 (by decide) rfl rfl (by decide) rfl hl131 dX5_whereIs_5) ?_
  refine ruL_c (n := 6) (n2 := 7) rfl (ru_bot) ?_
  refine ruL_c (n := 7) (n2 := 8) rfl (ru_bot) ?_
  refine ruL_c (n := 8) (n2 := 9) rfl (ru_callX hx hb hml hown hts hK hN hX hno hlocks (c_X5_checkNumber l hl D cI cZ cA cL ad sa hi) (va_cwS 2 hts gX5_whereIs_X5_checkNumber rfl rfl rfl (by decide +kernel) ⟨Nat.le_of_ble_eq_true rfl, Nat.le_of_ble_eq_true rfl⟩) dX5_whereIs_8 ⟨hn, Nat.mul_le_mul_left 6 hn⟩ ⟨hn, Nat.mul_le_mul_left 6 hn⟩) ?_
  refine ruL_c (n := 9) (n2 := 10) rfl (ru_bot) ?_
  refine ruL_c (n := 10) (n2 := 11) rfl (ru_bot) ?_
  refine ruL_c (n := 11) (n2 := 12) rfl (ru_aload_n (k := 0) hx hb dX5_whereIs_11) ?_
  refine ruL_c (n := 12) (n2 := 13) rfl (ru_getR (own := RX5) (j := 3) (T := TX5) hx hb hown hK hts hin5 (by decide) rfl rfl (by decide) rfl hl33 dX5_whereIs_12) ?_
  refine ruL_c (n := 13) (n2 := 14) rfl (ru_bot) ?_
  refine ruL_c (n := 14) (n2 := 15) rfl (ru_bot) ?_
  refine ruL_c (n := 15) (n2 := 16) rfl (ru_getRN (own := RX5) (j := 4) (T := TX3) hx hb hown hK hN hts hin3 (by decide) rfl rfl (by decide) rfl hl153 dX5_whereIs_15) ?_
  refine ruL_c (n := 16) (n2 := 17) rfl (ru_bot) ?_
  refine ruL_c (n := 17) (n2 := 18) rfl (ru_bot) ?_
  refine ruL_c (n := 18) (n2 := 19) rfl (ru_iload_n (k := 1) hx hb dX5_whereIs_18) ?_
  refine ruL_c (n := 19) (n2 := 20) rfl (ru_iald hx hb hK dX5_whereIs_19) ?_
  refine ruL_c (n := 20) (n2 := 21) rfl (ru_iretX hx hb hK hr hlocks dX5_whereIs_20 ⟨Nat.le_of_lt hn, Nat.mul_le_mul_left 6 (Nat.le_of_lt hn)⟩) ?_
  exact trivial

-- CueTour.wear
def f_X5_wear (p0 : Int32) (σ : aM) : Option (Nat × Int32 × aM) := bnX (f_X5_checkNumber p0 (σ 4 8) σ) (fun σ3 => if inb p0 20 = true then some (0, σ3 24 (ix p0), σ3) else none)
def F_X5_wear : aFx := fun As σ => match As with
  | [.int p0] => f_X5_wear p0 σ
  | _ => none
def T_X5_wear : aTx := fun Qa Xa KN => [I_iload 1 1, I_aload 0 1, I_getR 0 4, I_bot, I_bot, I_getI 4 8, I_bot, I_bot, I_callX 2 F_X5_checkNumber KN Xa, I_bot, I_bot, I_aload 0 1, I_getR 0 4, I_bot, I_bot, I_getR 4 24, I_bot, I_bot, I_iload 1 1, I_iald, I_iret Qa]
set_option maxHeartbeats 4000000 in
set_option maxRecDepth 100000 in
theorem s_X5_wear : runsX T_X5_wear 2 [.ref 0] 2 F_X5_wear := by
  intro Qa Xa K hw hf As σ y h hQ hX
  unfold F_X5_wear at h
  split at h
  · rename_i p0
    unfold f_X5_wear at h
    show K 0 (0, [.ref 0, .int p0], [], σ)
    obtain ⟨e1, r2, σ3, q4, h⟩ := bnX_some h
    rcases h with ⟨c5, h⟩ | ⟨c5, h⟩
    · refine (hw 0 (by decide)) 5 _ ?_
      show ∃ e1 r2 σ3, f_X5_checkNumber p0 (σ 4 8) σ = some (e1, r2, σ3) ∧ (e1 = 0 → K 1 (11, [.ref 0, .int p0], [], σ3)) ∧ (¬ e1 = 0 → Xa e1 σ3)
      refine ⟨e1, r2, σ3, q4, fun _ => ?_, fun q => absurd c5 q⟩
      obtain ⟨g6, h⟩ := itX_some h
      obtain rfl := Option.some.inj h
      refine (hw 1 (by decide)) 6 _ ?_
      show kd 24 = 1 ∧ (inb p0 20 = true ∧ (Qa (σ3 24 (ix p0)) σ3))
      refine ⟨rfl, g6, (hQ rfl)⟩
    · refine (hw 0 (by decide)) 5 _ ?_
      show ∃ e1 r2 σ3, f_X5_checkNumber p0 (σ 4 8) σ = some (e1, r2, σ3) ∧ (e1 = 0 → K 1 (11, [.ref 0, .int p0], [], σ3)) ∧ (¬ e1 = 0 → Xa e1 σ3)
      refine ⟨e1, r2, σ3, q4, fun q => absurd q c5, fun _ => ?_⟩
      subst h
      exact hX c5
  · cases h
theorem h_X5_wear : shpX [.ref 0] 2 F_X5_wear := by
  intro As σ y h
  unfold F_X5_wear at h
  split at h
  · exact ⟨by simp [Value.category], Nat.le_of_ble_eq_true rfl⟩
  · cases h
set_option maxHeartbeats 4000000 in
set_option maxRecDepth 100000 in
theorem c_X5_wear (l : Launch) (hl : l.stackTraces = false) (D : va_G) (cI cZ cA cL : ClassId) (ad sa : Nat → Nat) (hi : adI ad) : CtXi l yX5_wear wsX5_wear { frames := 7, cells := 2, slots := 12, locals := 103 } 2 D cI cZ cA cL ad sa [.ref 0] F_X5_wear := by
  refine mk_Xi (mc := 2) [.ref 0] F_X5_wear T_X5_wear (by decide +kernel) rfl ?_ h_X5_wear s_X5_wear
  intro p e s m args below meth c Qa Xa ⟨⟨hx, hb, hml, hown, hts, hr, hlocks, hK, hN⟩, hX, hno⟩ n hn
  have hin5 : ∀ w ∈ u_ws RX5 TX5 8, w ∈ wsX5_wear := by decide +kernel
  have hl33 : (Cond.fieldLink RX5 33 RX5 (TX5 3).2.1 (TX5 3).2.2.1) ∈ wsX5_wear := by decide +kernel
  have hin3 : ∀ w ∈ u_ws RX3 TX3 9, w ∈ wsX5_wear := by decide +kernel
  have hl131 : (Cond.fieldLinkNest RX5 131 RX3 (TX3 8).2.1 (TX3 8).2.2.1 "CueTour") ∈ nwL := by decide +kernel
  have hl160 : (Cond.fieldLinkNest RX5 160 RX3 (TX3 6).2.1 (TX3 6).2.2.1 "CueTour") ∈ nwL := by decide +kernel
  refine ruL_c (n := 0) (n2 := 1) rfl (ru_iload_n (k := 1) hx hb dX5_wear_0) ?_
  refine ruL_c (n := 1) (n2 := 2) rfl (ru_aload_n (k := 0) hx hb dX5_wear_1) ?_
  refine ruL_c (n := 2) (n2 := 3) rfl (ru_getR (own := RX5) (j := 3) (T := TX5) hx hb hown hK hts hin5 (by decide) rfl rfl (by decide) rfl hl33 dX5_wear_2) ?_
  refine ruL_c (n := 3) (n2 := 4) rfl (ru_bot) ?_
  refine ruL_c (n := 4) (n2 := 5) rfl (ru_bot) ?_
  refine ruL_c (n := 5) (n2 := 6) rfl (ru_getIN (own := RX5) (j := 8) (T := TX3) hx hb hown hK hN hts hin3 (by decide) rfl rfl (by decide) rfl hl131 dX5_wear_5) ?_
  refine ruL_c (n := 6) (n2 := 7) rfl (ru_bot) ?_
  refine ruL_c (n := 7) (n2 := 8) rfl (ru_bot) ?_
  refine ruL_c (n := 8) (n2 := 9) rfl (ru_callX hx hb hml hown hts hK hN hX hno hlocks (c_X5_checkNumber l hl D cI cZ cA cL ad sa hi) (va_cwS 2 hts gX5_wear_X5_checkNumber rfl rfl rfl (by decide +kernel) ⟨Nat.le_of_ble_eq_true rfl, Nat.le_of_ble_eq_true rfl⟩) dX5_wear_8 ⟨hn, Nat.mul_le_mul_left 6 hn⟩ ⟨hn, Nat.mul_le_mul_left 6 hn⟩) ?_
  refine ruL_c (n := 9) (n2 := 10) rfl (ru_bot) ?_
  refine ruL_c (n := 10) (n2 := 11) rfl (ru_bot) ?_
  refine ruL_c (n := 11) (n2 := 12) rfl (ru_aload_n (k := 0) hx hb dX5_wear_11) ?_
  refine ruL_c (n := 12) (n2 := 13) rfl (ru_getR (own := RX5) (j := 3) (T := TX5) hx hb hown hK hts hin5 (by decide) rfl rfl (by decide) rfl hl33 dX5_wear_12) ?_
  refine ruL_c (n := 13) (n2 := 14) rfl (ru_bot) ?_
  refine ruL_c (n := 14) (n2 := 15) rfl (ru_bot) ?_
  refine ruL_c (n := 15) (n2 := 16) rfl (ru_getRN (own := RX5) (j := 6) (T := TX3) hx hb hown hK hN hts hin3 (by decide) rfl rfl (by decide) rfl hl160 dX5_wear_15) ?_
  refine ruL_c (n := 16) (n2 := 17) rfl (ru_bot) ?_
  refine ruL_c (n := 17) (n2 := 18) rfl (ru_bot) ?_
  refine ruL_c (n := 18) (n2 := 19) rfl (ru_iload_n (k := 1) hx hb dX5_wear_18) ?_
  refine ruL_c (n := 19) (n2 := 20) rfl (ru_iald hx hb hK dX5_wear_19) ?_
  refine ruL_c (n := 20) (n2 := 21) rfl (ru_iretX hx hb hK hr hlocks dX5_wear_20 ⟨Nat.le_of_lt hn, Nat.mul_le_mul_left 6 (Nat.le_of_lt hn)⟩) ?_
  exact trivial

-- CueTour.laidOn
def f_X5_laidOn (p0 : Int32) (p1 : Int32) (σ : aM) : Option (Nat × Int32 × aM) := bnX (f_X5_checkNumber p0 4 σ) (fun σ3 => bnX (f_X5_checkNumber p1 10 σ3) (fun σ8 => if inb p1 10 = true then if inb p1 10 = true then bnN (f_X3_lampsFor p0 (σ8 9 (ix p1)) (σ8 10 (ix p1)) σ8) (fun r13 σ14 => some (0, r13, σ14)) else none else none))
def F_X5_laidOn : aFx := fun As σ => match As with
  | [.int p0, .int p1] => f_X5_laidOn p0 p1 σ
  | _ => none
def T_X5_laidOn : aTx := fun Qa Xa KN => [I_iload 1 1, I_const 4 1, I_callX 2 F_X5_checkNumber KN Xa, I_bot, I_bot, I_iload 2 1, I_const (10) 2, I_bot, I_callX 2 F_X5_checkNumber KN Xa, I_bot, I_bot, I_aload 0 1, I_getR 0 4, I_bot, I_bot, I_iload 1 1, I_aload 0 1, I_getR 0 2, I_bot, I_bot, I_getR 2 9, I_bot, I_bot, I_iload 2 1, I_iald, I_aload 0 1, I_getR 0 2, I_bot, I_bot, I_getR 2 10, I_bot, I_bot, I_iload 2 1, I_iald, I_callV 4 3 F_X3_lampsFor, I_bot, I_bot, I_iret Qa]
set_option maxHeartbeats 4000000 in
set_option maxRecDepth 100000 in
theorem s_X5_laidOn : runsX T_X5_laidOn 3 [.ref 0] 3 F_X5_laidOn := by
  intro Qa Xa K hw hf As σ y h hQ hX
  unfold F_X5_laidOn at h
  split at h
  · rename_i p0 p1
    unfold f_X5_laidOn at h
    show K 0 (0, [.ref 0, .int p0, .int p1], [], σ)
    obtain ⟨e1, r2, σ3, q4, h⟩ := bnX_some h
    rcases h with ⟨c5, h⟩ | ⟨c5, h⟩
    · refine (hw 0 (by decide)) 3 _ ?_
      show ∃ e1 r2 σ3, f_X5_checkNumber p0 4 σ = some (e1, r2, σ3) ∧ (e1 = 0 → K 1 (5, [.ref 0, .int p0, .int p1], [], σ3)) ∧ (¬ e1 = 0 → Xa e1 σ3)
      refine ⟨e1, r2, σ3, q4, fun _ => ?_, fun q => absurd c5 q⟩
      obtain ⟨e6, r7, σ8, q9, h⟩ := bnX_some h
      rcases h with ⟨c10, h⟩ | ⟨c10, h⟩
      · refine (hw 1 (by decide)) 3 _ ?_
        show ∃ e6 r7 σ8, f_X5_checkNumber p1 10 σ3 = some (e6, r7, σ8) ∧ (e6 = 0 → K 2 (11, [.ref 0, .int p0, .int p1], [], σ8)) ∧ (¬ e6 = 0 → Xa e6 σ8)
        refine ⟨e6, r7, σ8, q9, fun _ => ?_, fun q => absurd c10 q⟩
        obtain ⟨g11, h⟩ := itX_some h
        obtain ⟨g12, h⟩ := itX_some h
        obtain ⟨r13, σ14, e15, h⟩ := bnN_some h
        refine (hw 2 (by decide)) 14 _ ?_
        show kd 9 = 1 ∧ (inb p1 10 = true ∧ (kd 10 = 1 ∧ (inb p1 10 = true ∧ (∃ r13 σ14, f_X3_lampsFor p0 (σ8 9 (ix p1)) (σ8 10 (ix p1)) σ8 = some (r13, σ14) ∧ K 2 (37, [.ref 0, .int p0, .int p1], [.int r13], σ14)))))
        refine ⟨rfl, g11, rfl, g12, ⟨r13, σ14, e15, ?_⟩⟩
        obtain rfl := Option.some.inj h
        refine (hw 2 (by decide)) 1 _ ?_
        show Qa r13 σ14
        refine hQ rfl
      · refine (hw 1 (by decide)) 3 _ ?_
        show ∃ e6 r7 σ8, f_X5_checkNumber p1 10 σ3 = some (e6, r7, σ8) ∧ (e6 = 0 → K 2 (11, [.ref 0, .int p0, .int p1], [], σ8)) ∧ (¬ e6 = 0 → Xa e6 σ8)
        refine ⟨e6, r7, σ8, q9, fun q => absurd q c10, fun _ => ?_⟩
        subst h
        exact hX c10
    · refine (hw 0 (by decide)) 3 _ ?_
      show ∃ e1 r2 σ3, f_X5_checkNumber p0 4 σ = some (e1, r2, σ3) ∧ (e1 = 0 → K 1 (5, [.ref 0, .int p0, .int p1], [], σ3)) ∧ (¬ e1 = 0 → Xa e1 σ3)
      refine ⟨e1, r2, σ3, q4, fun q => absurd q c5, fun _ => ?_⟩
      subst h
      exact hX c5
  · cases h
theorem h_X5_laidOn : shpX [.ref 0] 3 F_X5_laidOn := by
  intro As σ y h
  unfold F_X5_laidOn at h
  split at h
  · exact ⟨by simp [Value.category], Nat.le_of_ble_eq_true rfl⟩
  · cases h
set_option maxHeartbeats 4000000 in
set_option maxRecDepth 100000 in
theorem c_X5_laidOn (l : Launch) (hl : l.stackTraces = false) (D : va_G) (cI cZ cA cL : ClassId) (ad sa : Nat → Nat) (hi : adI ad) : CtXi l yX5_laidOn wsX5_laidOn { frames := 7, cells := 3, slots := 18, locals := 103 } 3 D cI cZ cA cL ad sa [.ref 0] F_X5_laidOn := by
  refine mk_Xi (mc := 3) [.ref 0] F_X5_laidOn T_X5_laidOn (by decide +kernel) rfl ?_ h_X5_laidOn s_X5_laidOn
  intro p e s m args below meth c Qa Xa ⟨⟨hx, hb, hml, hown, hts, hr, hlocks, hK, hN⟩, hX, hno⟩ n hn
  have hin5 : ∀ w ∈ u_ws RX5 TX5 8, w ∈ wsX5_laidOn := by decide +kernel
  have hl33 : (Cond.fieldLink RX5 33 RX5 (TX5 3).2.1 (TX5 3).2.2.1) ∈ wsX5_laidOn := by decide +kernel
  have hl19 : (Cond.fieldLink RX5 19 RX5 (TX5 1).2.1 (TX5 1).2.2.1) ∈ wsX5_laidOn := by decide +kernel
  have hin2 : ∀ w ∈ u_ws RX2 TX2 2, w ∈ wsX5_laidOn := by decide +kernel
  have hl93 : (Cond.fieldLinkNest RX5 93 RX2 (TX2 0).2.1 (TX2 0).2.2.1 "CueTour") ∈ nwL := by decide +kernel
  have hl96 : (Cond.fieldLinkNest RX5 96 RX2 (TX2 1).2.1 (TX2 1).2.2.1 "CueTour") ∈ nwL := by decide +kernel
  refine ruL_c (n := 0) (n2 := 1) rfl (ru_iload_n (k := 1) hx hb dX5_laidOn_0) ?_
  refine ruL_c (n := 1) (n2 := 2) rfl (ru_iconst hx hb dX5_laidOn_1 rfl) ?_
  refine ruL_c (n := 2) (n2 := 3) rfl (ru_callX hx hb hml hown hts hK hN hX hno hlocks (c_X5_checkNumber l hl D cI cZ cA cL ad sa hi) (va_cwS 2 hts gX5_laidOn_X5_checkNumber rfl rfl rfl (by decide +kernel) ⟨Nat.le_of_ble_eq_true rfl, Nat.le_of_ble_eq_true rfl⟩) dX5_laidOn_2 ⟨hn, Nat.mul_le_mul_left 6 hn⟩ ⟨hn, Nat.mul_le_mul_left 6 hn⟩) ?_
  refine ruL_c (n := 3) (n2 := 4) rfl (ru_bot) ?_
  refine ruL_c (n := 4) (n2 := 5) rfl (ru_bot) ?_
  refine ruL_c (n := 5) (n2 := 6) rfl (ru_iload_n (k := 2) hx hb dX5_laidOn_5) ?_
  refine ruL_c (n := 6) (n2 := 7) rfl (ru_bipush hx hb dX5_laidOn_6 rfl) ?_
  refine ruL_c (n := 7) (n2 := 8) rfl (ru_bot) ?_
  refine ruL_c (n := 8) (n2 := 9) rfl (ru_callX hx hb hml hown hts hK hN hX hno hlocks (c_X5_checkNumber l hl D cI cZ cA cL ad sa hi) (va_cwS 2 hts gX5_laidOn_X5_checkNumber rfl rfl rfl (by decide +kernel) ⟨Nat.le_of_ble_eq_true rfl, Nat.le_of_ble_eq_true rfl⟩) dX5_laidOn_8 ⟨hn, Nat.mul_le_mul_left 6 hn⟩ ⟨hn, Nat.mul_le_mul_left 6 hn⟩) ?_
  refine ruL_c (n := 9) (n2 := 10) rfl (ru_bot) ?_
  refine ruL_c (n := 10) (n2 := 11) rfl (ru_bot) ?_
  refine ruL_c (n := 11) (n2 := 12) rfl (ru_aload_n (k := 0) hx hb dX5_laidOn_11) ?_
  refine ruL_c (n := 12) (n2 := 13) rfl (ru_getR (own := RX5) (j := 3) (T := TX5) hx hb hown hK hts hin5 (by decide) rfl rfl (by decide) rfl hl33 dX5_laidOn_12) ?_
  refine ruL_c (n := 13) (n2 := 14) rfl (ru_bot) ?_
  refine ruL_c (n := 14) (n2 := 15) rfl (ru_bot) ?_
  refine ruL_c (n := 15) (n2 := 16) rfl (ru_iload_n (k := 1) hx hb dX5_laidOn_15) ?_
  refine ruL_c (n := 16) (n2 := 17) rfl (ru_aload_n (k := 0) hx hb dX5_laidOn_16) ?_
  refine ruL_c (n := 17) (n2 := 18) rfl (ru_getR (own := RX5) (j := 1) (T := TX5) hx hb hown hK hts hin5 (by decide) rfl rfl (by decide) rfl hl19 dX5_laidOn_17) ?_
  refine ruL_c (n := 18) (n2 := 19) rfl (ru_bot) ?_
  refine ruL_c (n := 19) (n2 := 20) rfl (ru_bot) ?_
  refine ruL_c (n := 20) (n2 := 21) rfl (ru_getRN (own := RX5) (j := 0) (T := TX2) hx hb hown hK hN hts hin2 (by decide) rfl rfl (by decide) rfl hl93 dX5_laidOn_20) ?_
  refine ruL_c (n := 21) (n2 := 22) rfl (ru_bot) ?_
  refine ruL_c (n := 22) (n2 := 23) rfl (ru_bot) ?_
  refine ruL_c (n := 23) (n2 := 24) rfl (ru_iload_n (k := 2) hx hb dX5_laidOn_23) ?_
  refine ruL_c (n := 24) (n2 := 25) rfl (ru_iald hx hb hK dX5_laidOn_24) ?_
  refine ruL_c (n := 25) (n2 := 26) rfl (ru_aload_n (k := 0) hx hb dX5_laidOn_25) ?_
  refine ruL_c (n := 26) (n2 := 27) rfl (ru_getR (own := RX5) (j := 1) (T := TX5) hx hb hown hK hts hin5 (by decide) rfl rfl (by decide) rfl hl19 dX5_laidOn_26) ?_
  refine ruL_c (n := 27) (n2 := 28) rfl (ru_bot) ?_
  refine ruL_c (n := 28) (n2 := 29) rfl (ru_bot) ?_
  refine ruL_c (n := 29) (n2 := 30) rfl (ru_getRN (own := RX5) (j := 1) (T := TX2) hx hb hown hK hN hts hin2 (by decide) rfl rfl (by decide) rfl hl96 dX5_laidOn_29) ?_
  refine ruL_c (n := 30) (n2 := 31) rfl (ru_bot) ?_
  refine ruL_c (n := 31) (n2 := 32) rfl (ru_bot) ?_
  refine ruL_c (n := 32) (n2 := 33) rfl (ru_iload_n (k := 2) hx hb dX5_laidOn_32) ?_
  refine ruL_c (n := 33) (n2 := 34) rfl (ru_iald hx hb hK dX5_laidOn_33) ?_
  refine ruL_c (n := 34) (n2 := 35) rfl (ru_callV hx hb hml hown hts hK hN (by decide) rfl (c_X3_lampsFor l D cI cZ cA cL ad hi) (cwV 3 hts gX5_laidOn_X3_lampsFor rfl rfl rfl (by decide +kernel) ⟨Nat.le_of_ble_eq_true rfl, Nat.le_of_ble_eq_true rfl⟩) dX5_laidOn_34 ⟨Nat.le_of_lt hn, Nat.mul_le_mul_left 6 (Nat.le_of_lt hn)⟩) ?_
  refine ruL_c (n := 35) (n2 := 36) rfl (ru_bot) ?_
  refine ruL_c (n := 36) (n2 := 37) rfl (ru_bot) ?_
  refine ruL_c (n := 37) (n2 := 38) rfl (ru_iretX hx hb hK hr hlocks dX5_laidOn_37 ⟨Nat.le_of_lt hn, Nat.mul_le_mul_left 6 (Nat.le_of_lt hn)⟩) ?_
  exact trivial

-- CueTour.lampLevel
def f_X5_lampLevel (p0 : Int32) (p1 : Int32) (σ : aM) : Option (Nat × Int32 × aM) := bnX (f_X5_checkNumber p0 (σ 4 8) σ) (fun σ3 => bnX (f_X5_checkRange p1 0 2000 σ3) (fun σ8 => if inb p0 20 = true then bnN (f_X3_lay (σ8 22 (ix p0)) 28 σ8) (fun r12 σ13 => bnN (f_X1_fillLevels p1 27 σ13) (fun r15 σ16 => bnN (f_X3_levelOf p0 28 27 σ16) (fun r18 σ19 => some (0, r18, σ19)))) else none))
def F_X5_lampLevel : aFx := fun As σ => match As with
  | [.int p0, .int p1] => f_X5_lampLevel p0 p1 σ
  | _ => none
def T_X5_lampLevel : aTx := fun Qa Xa KN => [I_iload 1 1, I_aload 0 1, I_getR 0 4, I_bot, I_bot, I_getI 4 8, I_bot, I_bot, I_callX 2 F_X5_checkNumber KN Xa, I_bot, I_bot, I_iload 2 1, I_const 0 1, I_const (2000) 3, I_bot, I_bot, I_callX 3 F_X5_checkRange KN Xa, I_bot, I_bot, I_aload 0 1, I_getR 0 4, I_bot, I_bot, I_aload 0 1, I_getR 0 4, I_bot, I_bot, I_getR 4 22, I_bot, I_bot, I_iload 1 1, I_iald, I_aload 0 1, I_getR 0 2, I_bot, I_bot, I_aload 0 1, I_getR 0 28, I_bot, I_bot, I_callVv 4 3 F_X3_lay, I_bot, I_bot, I_aload 0 1, I_getR 0 3, I_bot, I_bot, I_iload 2 1, I_aload 0 1, I_getR 0 27, I_bot, I_bot, I_callVv 3 2 F_X1_fillLevels, I_bot, I_bot, I_aload 0 1, I_getR 0 4, I_bot, I_bot, I_iload 1 1, I_aload 0 1, I_getR 0 28, I_bot, I_bot, I_aload 0 1, I_getR 0 27, I_bot, I_bot, I_callV 4 3 F_X3_levelOf, I_bot, I_bot, I_iret Qa]
set_option maxHeartbeats 4000000 in
set_option maxRecDepth 100000 in
theorem s_X5_lampLevel : runsX T_X5_lampLevel 3 [.ref 0] 3 F_X5_lampLevel := by
  intro Qa Xa K hw hf As σ y h hQ hX
  unfold F_X5_lampLevel at h
  split at h
  · rename_i p0 p1
    unfold f_X5_lampLevel at h
    show K 0 (0, [.ref 0, .int p0, .int p1], [], σ)
    obtain ⟨e1, r2, σ3, q4, h⟩ := bnX_some h
    rcases h with ⟨c5, h⟩ | ⟨c5, h⟩
    · refine (hw 0 (by decide)) 5 _ ?_
      show ∃ e1 r2 σ3, f_X5_checkNumber p0 (σ 4 8) σ = some (e1, r2, σ3) ∧ (e1 = 0 → K 1 (11, [.ref 0, .int p0, .int p1], [], σ3)) ∧ (¬ e1 = 0 → Xa e1 σ3)
      refine ⟨e1, r2, σ3, q4, fun _ => ?_, fun q => absurd c5 q⟩
      obtain ⟨e6, r7, σ8, q9, h⟩ := bnX_some h
      rcases h with ⟨c10, h⟩ | ⟨c10, h⟩
      · refine (hw 1 (by decide)) 4 _ ?_
        show ∃ e6 r7 σ8, f_X5_checkRange p1 0 2000 σ3 = some (e6, r7, σ8) ∧ (e6 = 0 → K 2 (19, [.ref 0, .int p0, .int p1], [], σ8)) ∧ (¬ e6 = 0 → Xa e6 σ8)
        refine ⟨e6, r7, σ8, q9, fun _ => ?_, fun q => absurd c10 q⟩
        obtain ⟨g11, h⟩ := itX_some h
        obtain ⟨r12, σ13, e14, h⟩ := bnN_some h
        refine (hw 2 (by decide)) 12 _ ?_
        show kd 22 = 1 ∧ (inb p0 20 = true ∧ (∃ r12 σ13, f_X3_lay (σ8 22 (ix p0)) 28 σ8 = some (r12, σ13) ∧ K 2 (43, [.ref 0, .int p0, .int p1], [], σ13)))
        refine ⟨rfl, g11, ⟨r12, σ13, e14, ?_⟩⟩
        obtain ⟨r15, σ16, e17, h⟩ := bnN_some h
        refine (hw 2 (by decide)) 6 _ ?_
        show ∃ r15 σ16, f_X1_fillLevels p1 27 σ13 = some (r15, σ16) ∧ K 2 (55, [.ref 0, .int p0, .int p1], [], σ16)
        refine ⟨r15, σ16, e17, ?_⟩
        obtain ⟨r18, σ19, e20, h⟩ := bnN_some h
        refine (hw 2 (by decide)) 8 _ ?_
        show ∃ r18 σ19, f_X3_levelOf p0 28 27 σ16 = some (r18, σ19) ∧ K 2 (71, [.ref 0, .int p0, .int p1], [.int r18], σ19)
        refine ⟨r18, σ19, e20, ?_⟩
        obtain rfl := Option.some.inj h
        refine (hw 2 (by decide)) 1 _ ?_
        show Qa r18 σ19
        refine hQ rfl
      · refine (hw 1 (by decide)) 4 _ ?_
        show ∃ e6 r7 σ8, f_X5_checkRange p1 0 2000 σ3 = some (e6, r7, σ8) ∧ (e6 = 0 → K 2 (19, [.ref 0, .int p0, .int p1], [], σ8)) ∧ (¬ e6 = 0 → Xa e6 σ8)
        refine ⟨e6, r7, σ8, q9, fun q => absurd q c10, fun _ => ?_⟩
        subst h
        exact hX c10
    · refine (hw 0 (by decide)) 5 _ ?_
      show ∃ e1 r2 σ3, f_X5_checkNumber p0 (σ 4 8) σ = some (e1, r2, σ3) ∧ (e1 = 0 → K 1 (11, [.ref 0, .int p0, .int p1], [], σ3)) ∧ (¬ e1 = 0 → Xa e1 σ3)
      refine ⟨e1, r2, σ3, q4, fun q => absurd q c5, fun _ => ?_⟩
      subst h
      exact hX c5
  · cases h
theorem h_X5_lampLevel : shpX [.ref 0] 3 F_X5_lampLevel := by
  intro As σ y h
  unfold F_X5_lampLevel at h
  split at h
  · exact ⟨by simp [Value.category], Nat.le_of_ble_eq_true rfl⟩
  · cases h
set_option maxHeartbeats 4000000 in
set_option maxRecDepth 100000 in
theorem c_X5_lampLevel (l : Launch) (hl : l.stackTraces = false) (D : va_G) (cI cZ cA cL : ClassId) (ad sa : Nat → Nat) (hi : adI ad) : CtXi l yX5_lampLevel wsX5_lampLevel { frames := 7, cells := 3, slots := 18, locals := 104 } 3 D cI cZ cA cL ad sa [.ref 0] F_X5_lampLevel := by
  refine mk_Xi (mc := 3) [.ref 0] F_X5_lampLevel T_X5_lampLevel (by decide +kernel) rfl ?_ h_X5_lampLevel s_X5_lampLevel
  intro p e s m args below meth c Qa Xa ⟨⟨hx, hb, hml, hown, hts, hr, hlocks, hK, hN⟩, hX, hno⟩ n hn
  have hin5 : ∀ w ∈ u_ws RX5 TX5 8, w ∈ wsX5_lampLevel := by decide +kernel
  have hl33 : (Cond.fieldLink RX5 33 RX5 (TX5 3).2.1 (TX5 3).2.2.1) ∈ wsX5_lampLevel := by decide +kernel
  have hin3 : ∀ w ∈ u_ws RX3 TX3 9, w ∈ wsX5_lampLevel := by decide +kernel
  have hl131 : (Cond.fieldLinkNest RX5 131 RX3 (TX3 8).2.1 (TX3 8).2.2.1 "CueTour") ∈ nwL := by decide +kernel
  have hl153 : (Cond.fieldLinkNest RX5 153 RX3 (TX3 4).2.1 (TX3 4).2.2.1 "CueTour") ∈ nwL := by decide +kernel
  have hl19 : (Cond.fieldLink RX5 19 RX5 (TX5 1).2.1 (TX5 1).2.2.1) ∈ wsX5_lampLevel := by decide +kernel
  have hl48 : (Cond.fieldLink RX5 48 RX5 (TX5 6).2.1 (TX5 6).2.2.1) ∈ wsX5_lampLevel := by decide +kernel
  have hl26 : (Cond.fieldLink RX5 26 RX5 (TX5 2).2.1 (TX5 2).2.2.1) ∈ wsX5_lampLevel := by decide +kernel
  have hl44 : (Cond.fieldLink RX5 44 RX5 (TX5 5).2.1 (TX5 5).2.2.1) ∈ wsX5_lampLevel := by decide +kernel
  refine ruL_c (n := 0) (n2 := 1) rfl (ru_iload_n (k := 1) hx hb dX5_lampLevel_0) ?_
  refine ruL_c (n := 1) (n2 := 2) rfl (ru_aload_n (k := 0) hx hb dX5_lampLevel_1) ?_
  refine ruL_c (n := 2) (n2 := 3) rfl (ru_getR (own := RX5) (j := 3) (T := TX5) hx hb hown hK hts hin5 (by decide) rfl rfl (by decide) rfl hl33 dX5_lampLevel_2) ?_
  refine ruL_c (n := 3) (n2 := 4) rfl (ru_bot) ?_
  refine ruL_c (n := 4) (n2 := 5) rfl (ru_bot) ?_
  refine ruL_c (n := 5) (n2 := 6) rfl (ru_getIN (own := RX5) (j := 8) (T := TX3) hx hb hown hK hN hts hin3 (by decide) rfl rfl (by decide) rfl hl131 dX5_lampLevel_5) ?_
  refine ruL_c (n := 6) (n2 := 7) rfl (ru_bot) ?_
  refine ruL_c (n := 7) (n2 := 8) rfl (ru_bot) ?_
  refine ruL_c (n := 8) (n2 := 9) rfl (ru_callX hx hb hml hown hts hK hN hX hno hlocks (c_X5_checkNumber l hl D cI cZ cA cL ad sa hi) (va_cwS 2 hts gX5_lampLevel_X5_checkNumber rfl rfl rfl (by decide +kernel) ⟨Nat.le_of_ble_eq_true rfl, Nat.le_of_ble_eq_true rfl⟩) dX5_lampLevel_8 ⟨hn, Nat.mul_le_mul_left 6 hn⟩ ⟨hn, Nat.mul_le_mul_left 6 hn⟩) ?_
  refine ruL_c (n := 9) (n2 := 10) rfl (ru_bot) ?_
  refine ruL_c (n := 10) (n2 := 11) rfl (ru_bot) ?_
  refine ruL_c (n := 11) (n2 := 12) rfl (ru_iload_n (k := 2) hx hb dX5_lampLevel_11) ?_
  refine ruL_c (n := 12) (n2 := 13) rfl (ru_iconst hx hb dX5_lampLevel_12 rfl) ?_
  refine ruL_c (n := 13) (n2 := 14) rfl (ru_sipush hx hb dX5_lampLevel_13 rfl) ?_
  refine ruL_c (n := 14) (n2 := 15) rfl (ru_bot) ?_
  refine ruL_c (n := 15) (n2 := 16) rfl (ru_bot) ?_
  refine ruL_c (n := 16) (n2 := 17) rfl (ru_callX hx hb hml hown hts hK hN hX hno hlocks (c_X5_checkRange l hl D cI cZ cA cL ad sa hi) (va_cwS 3 hts gX5_lampLevel_X5_checkRange rfl rfl rfl (by decide +kernel) ⟨Nat.le_of_ble_eq_true rfl, Nat.le_of_ble_eq_true rfl⟩) dX5_lampLevel_16 ⟨hn, Nat.mul_le_mul_left 6 hn⟩ ⟨hn, Nat.mul_le_mul_left 6 hn⟩) ?_
  refine ruL_c (n := 17) (n2 := 18) rfl (ru_bot) ?_
  refine ruL_c (n := 18) (n2 := 19) rfl (ru_bot) ?_
  refine ruL_c (n := 19) (n2 := 20) rfl (ru_aload_n (k := 0) hx hb dX5_lampLevel_19) ?_
  refine ruL_c (n := 20) (n2 := 21) rfl (ru_getR (own := RX5) (j := 3) (T := TX5) hx hb hown hK hts hin5 (by decide) rfl rfl (by decide) rfl hl33 dX5_lampLevel_20) ?_
  refine ruL_c (n := 21) (n2 := 22) rfl (ru_bot) ?_
  refine ruL_c (n := 22) (n2 := 23) rfl (ru_bot) ?_
  refine ruL_c (n := 23) (n2 := 24) rfl (ru_aload_n (k := 0) hx hb dX5_lampLevel_23) ?_
  refine ruL_c (n := 24) (n2 := 25) rfl (ru_getR (own := RX5) (j := 3) (T := TX5) hx hb hown hK hts hin5 (by decide) rfl rfl (by decide) rfl hl33 dX5_lampLevel_24) ?_
  refine ruL_c (n := 25) (n2 := 26) rfl (ru_bot) ?_
  refine ruL_c (n := 26) (n2 := 27) rfl (ru_bot) ?_
  refine ruL_c (n := 27) (n2 := 28) rfl (ru_getRN (own := RX5) (j := 4) (T := TX3) hx hb hown hK hN hts hin3 (by decide) rfl rfl (by decide) rfl hl153 dX5_lampLevel_27) ?_
  refine ruL_c (n := 28) (n2 := 29) rfl (ru_bot) ?_
  refine ruL_c (n := 29) (n2 := 30) rfl (ru_bot) ?_
  refine ruL_c (n := 30) (n2 := 31) rfl (ru_iload_n (k := 1) hx hb dX5_lampLevel_30) ?_
  refine ruL_c (n := 31) (n2 := 32) rfl (ru_iald hx hb hK dX5_lampLevel_31) ?_
  refine ruL_c (n := 32) (n2 := 33) rfl (ru_aload_n (k := 0) hx hb dX5_lampLevel_32) ?_
  refine ruL_c (n := 33) (n2 := 34) rfl (ru_getR (own := RX5) (j := 1) (T := TX5) hx hb hown hK hts hin5 (by decide) rfl rfl (by decide) rfl hl19 dX5_lampLevel_33) ?_
  refine ruL_c (n := 34) (n2 := 35) rfl (ru_bot) ?_
  refine ruL_c (n := 35) (n2 := 36) rfl (ru_bot) ?_
  refine ruL_c (n := 36) (n2 := 37) rfl (ru_aload_n (k := 0) hx hb dX5_lampLevel_36) ?_
  refine ruL_c (n := 37) (n2 := 38) rfl (ru_getR (own := RX5) (j := 6) (T := TX5) hx hb hown hK hts hin5 (by decide) rfl rfl (by decide) rfl hl48 dX5_lampLevel_37) ?_
  refine ruL_c (n := 38) (n2 := 39) rfl (ru_bot) ?_
  refine ruL_c (n := 39) (n2 := 40) rfl (ru_bot) ?_
  refine ruL_c (n := 40) (n2 := 41) rfl (ru_callVv hx hb hml hown hts hK hN (by decide) rfl (c_X3_lay l D cI cZ cA cL ad hi) (cwV 3 hts gX5_lampLevel_X3_lay rfl rfl rfl (by decide +kernel) ⟨Nat.le_of_ble_eq_true rfl, Nat.le_of_ble_eq_true rfl⟩) dX5_lampLevel_40 ⟨Nat.le_of_lt hn, Nat.mul_le_mul_left 6 (Nat.le_of_lt hn)⟩) ?_
  refine ruL_c (n := 41) (n2 := 42) rfl (ru_bot) ?_
  refine ruL_c (n := 42) (n2 := 43) rfl (ru_bot) ?_
  refine ruL_c (n := 43) (n2 := 44) rfl (ru_aload_n (k := 0) hx hb dX5_lampLevel_43) ?_
  refine ruL_c (n := 44) (n2 := 45) rfl (ru_getR (own := RX5) (j := 2) (T := TX5) hx hb hown hK hts hin5 (by decide) rfl rfl (by decide) rfl hl26 dX5_lampLevel_44) ?_
  refine ruL_c (n := 45) (n2 := 46) rfl (ru_bot) ?_
  refine ruL_c (n := 46) (n2 := 47) rfl (ru_bot) ?_
  refine ruL_c (n := 47) (n2 := 48) rfl (ru_iload_n (k := 2) hx hb dX5_lampLevel_47) ?_
  refine ruL_c (n := 48) (n2 := 49) rfl (ru_aload_n (k := 0) hx hb dX5_lampLevel_48) ?_
  refine ruL_c (n := 49) (n2 := 50) rfl (ru_getR (own := RX5) (j := 5) (T := TX5) hx hb hown hK hts hin5 (by decide) rfl rfl (by decide) rfl hl44 dX5_lampLevel_49) ?_
  refine ruL_c (n := 50) (n2 := 51) rfl (ru_bot) ?_
  refine ruL_c (n := 51) (n2 := 52) rfl (ru_bot) ?_
  refine ruL_c (n := 52) (n2 := 53) rfl (ru_callVv hx hb hml hown hts hK hN (by decide) rfl (c_X1_fillLevels l D cI cZ cA cL ad hi) (cwV 2 hts gX5_lampLevel_X1_fillLevels rfl rfl rfl (by decide +kernel) ⟨Nat.le_of_ble_eq_true rfl, Nat.le_of_ble_eq_true rfl⟩) dX5_lampLevel_52 ⟨Nat.le_of_lt hn, Nat.mul_le_mul_left 6 (Nat.le_of_lt hn)⟩) ?_
  refine ruL_c (n := 53) (n2 := 54) rfl (ru_bot) ?_
  refine ruL_c (n := 54) (n2 := 55) rfl (ru_bot) ?_
  refine ruL_c (n := 55) (n2 := 56) rfl (ru_aload_n (k := 0) hx hb dX5_lampLevel_55) ?_
  refine ruL_c (n := 56) (n2 := 57) rfl (ru_getR (own := RX5) (j := 3) (T := TX5) hx hb hown hK hts hin5 (by decide) rfl rfl (by decide) rfl hl33 dX5_lampLevel_56) ?_
  refine ruL_c (n := 57) (n2 := 58) rfl (ru_bot) ?_
  refine ruL_c (n := 58) (n2 := 59) rfl (ru_bot) ?_
  refine ruL_c (n := 59) (n2 := 60) rfl (ru_iload_n (k := 1) hx hb dX5_lampLevel_59) ?_
  refine ruL_c (n := 60) (n2 := 61) rfl (ru_aload_n (k := 0) hx hb dX5_lampLevel_60) ?_
  refine ruL_c (n := 61) (n2 := 62) rfl (ru_getR (own := RX5) (j := 6) (T := TX5) hx hb hown hK hts hin5 (by decide) rfl rfl (by decide) rfl hl48 dX5_lampLevel_61) ?_
  refine ruL_c (n := 62) (n2 := 63) rfl (ru_bot) ?_
  refine ruL_c (n := 63) (n2 := 64) rfl (ru_bot) ?_
  refine ruL_c (n := 64) (n2 := 65) rfl (ru_aload_n (k := 0) hx hb dX5_lampLevel_64) ?_
  refine ruL_c (n := 65) (n2 := 66) rfl (ru_getR (own := RX5) (j := 5) (T := TX5) hx hb hown hK hts hin5 (by decide) rfl rfl (by decide) rfl hl44 dX5_lampLevel_65) ?_
  refine ruL_c (n := 66) (n2 := 67) rfl (ru_bot) ?_
  refine ruL_c (n := 67) (n2 := 68) rfl (ru_bot) ?_
  refine ruL_c (n := 68) (n2 := 69) rfl (ru_callV hx hb hml hown hts hK hN (by decide) rfl (c_X3_levelOf l D cI cZ cA cL ad hi) (cwV 3 hts gX5_lampLevel_X3_levelOf rfl rfl rfl (by decide +kernel) ⟨Nat.le_of_ble_eq_true rfl, Nat.le_of_ble_eq_true rfl⟩) dX5_lampLevel_68 ⟨Nat.le_of_lt hn, Nat.mul_le_mul_left 6 (Nat.le_of_lt hn)⟩) ?_
  refine ruL_c (n := 69) (n2 := 70) rfl (ru_bot) ?_
  refine ruL_c (n := 70) (n2 := 71) rfl (ru_bot) ?_
  refine ruL_c (n := 71) (n2 := 72) rfl (ru_iretX hx hb hK hr hlocks dX5_lampLevel_71 ⟨Nat.le_of_lt hn, Nat.mul_le_mul_left 6 (Nat.le_of_lt hn)⟩) ?_
  exact trivial

-- CueTour.light
def f_X5_light (p0 : Int32) (p1 : Int32) (p2 : Int32) (σ : aM) : Option (Nat × Int32 × aM) := bnX (f_X5_checkNumber p0 4 σ) (fun σ3 => bnX (f_X5_checkNumber p1 4 σ3) (fun σ8 => bnX (f_X5_checkRange p2 0 2000 σ8) (fun σ13 => bnN (f_X3_lay p0 28 σ13) (fun r16 σ17 => bnN (f_X1_fillLevels p2 27 σ17) (fun r19 σ20 => bnN (f_X3_lightOf p0 p1 28 27 σ20) (fun r22 σ23 => some (0, r22, σ23)))))))
def F_X5_light : aFx := fun As σ => match As with
  | [.int p0, .int p1, .int p2] => f_X5_light p0 p1 p2 σ
  | _ => none
def T_X5_light : aTx := fun Qa Xa KN => [I_iload 1 1, I_const 4 1, I_callX 2 F_X5_checkNumber KN Xa, I_bot, I_bot, I_iload 2 1, I_const 4 1, I_callX 2 F_X5_checkNumber KN Xa, I_bot, I_bot, I_iload 3 1, I_const 0 1, I_const (2000) 3, I_bot, I_bot, I_callX 3 F_X5_checkRange KN Xa, I_bot, I_bot, I_aload 0 1, I_getR 0 4, I_bot, I_bot, I_iload 1 1, I_aload 0 1, I_getR 0 2, I_bot, I_bot, I_aload 0 1, I_getR 0 28, I_bot, I_bot, I_callVv 4 3 F_X3_lay, I_bot, I_bot, I_aload 0 1, I_getR 0 3, I_bot, I_bot, I_iload 3 1, I_aload 0 1, I_getR 0 27, I_bot, I_bot, I_callVv 3 2 F_X1_fillLevels, I_bot, I_bot, I_aload 0 1, I_getR 0 4, I_bot, I_bot, I_iload 1 1, I_iload 2 1, I_aload 0 1, I_getR 0 28, I_bot, I_bot, I_aload 0 1, I_getR 0 27, I_bot, I_bot, I_callV 4 4 F_X3_lightOf, I_bot, I_bot, I_iret Qa]
set_option maxHeartbeats 4000000 in
set_option maxRecDepth 100000 in
theorem s_X5_light : runsX T_X5_light 4 [.ref 0] 4 F_X5_light := by
  intro Qa Xa K hw hf As σ y h hQ hX
  unfold F_X5_light at h
  split at h
  · rename_i p0 p1 p2
    unfold f_X5_light at h
    show K 0 (0, [.ref 0, .int p0, .int p1, .int p2], [], σ)
    obtain ⟨e1, r2, σ3, q4, h⟩ := bnX_some h
    rcases h with ⟨c5, h⟩ | ⟨c5, h⟩
    · refine (hw 0 (by decide)) 3 _ ?_
      show ∃ e1 r2 σ3, f_X5_checkNumber p0 4 σ = some (e1, r2, σ3) ∧ (e1 = 0 → K 1 (5, [.ref 0, .int p0, .int p1, .int p2], [], σ3)) ∧ (¬ e1 = 0 → Xa e1 σ3)
      refine ⟨e1, r2, σ3, q4, fun _ => ?_, fun q => absurd c5 q⟩
      obtain ⟨e6, r7, σ8, q9, h⟩ := bnX_some h
      rcases h with ⟨c10, h⟩ | ⟨c10, h⟩
      · refine (hw 1 (by decide)) 3 _ ?_
        show ∃ e6 r7 σ8, f_X5_checkNumber p1 4 σ3 = some (e6, r7, σ8) ∧ (e6 = 0 → K 2 (10, [.ref 0, .int p0, .int p1, .int p2], [], σ8)) ∧ (¬ e6 = 0 → Xa e6 σ8)
        refine ⟨e6, r7, σ8, q9, fun _ => ?_, fun q => absurd c10 q⟩
        obtain ⟨e11, r12, σ13, q14, h⟩ := bnX_some h
        rcases h with ⟨c15, h⟩ | ⟨c15, h⟩
        · refine (hw 2 (by decide)) 4 _ ?_
          show ∃ e11 r12 σ13, f_X5_checkRange p2 0 2000 σ8 = some (e11, r12, σ13) ∧ (e11 = 0 → K 3 (18, [.ref 0, .int p0, .int p1, .int p2], [], σ13)) ∧ (¬ e11 = 0 → Xa e11 σ13)
          refine ⟨e11, r12, σ13, q14, fun _ => ?_, fun q => absurd c15 q⟩
          obtain ⟨r16, σ17, e18, h⟩ := bnN_some h
          refine (hw 3 (by decide)) 8 _ ?_
          show ∃ r16 σ17, f_X3_lay p0 28 σ13 = some (r16, σ17) ∧ K 3 (34, [.ref 0, .int p0, .int p1, .int p2], [], σ17)
          refine ⟨r16, σ17, e18, ?_⟩
          obtain ⟨r19, σ20, e21, h⟩ := bnN_some h
          refine (hw 3 (by decide)) 6 _ ?_
          show ∃ r19 σ20, f_X1_fillLevels p2 27 σ17 = some (r19, σ20) ∧ K 3 (46, [.ref 0, .int p0, .int p1, .int p2], [], σ20)
          refine ⟨r19, σ20, e21, ?_⟩
          obtain ⟨r22, σ23, e24, h⟩ := bnN_some h
          refine (hw 3 (by decide)) 9 _ ?_
          show ∃ r22 σ23, f_X3_lightOf p0 p1 28 27 σ20 = some (r22, σ23) ∧ K 3 (63, [.ref 0, .int p0, .int p1, .int p2], [.int r22], σ23)
          refine ⟨r22, σ23, e24, ?_⟩
          obtain rfl := Option.some.inj h
          refine (hw 3 (by decide)) 1 _ ?_
          show Qa r22 σ23
          refine hQ rfl
        · refine (hw 2 (by decide)) 4 _ ?_
          show ∃ e11 r12 σ13, f_X5_checkRange p2 0 2000 σ8 = some (e11, r12, σ13) ∧ (e11 = 0 → K 3 (18, [.ref 0, .int p0, .int p1, .int p2], [], σ13)) ∧ (¬ e11 = 0 → Xa e11 σ13)
          refine ⟨e11, r12, σ13, q14, fun q => absurd q c15, fun _ => ?_⟩
          subst h
          exact hX c15
      · refine (hw 1 (by decide)) 3 _ ?_
        show ∃ e6 r7 σ8, f_X5_checkNumber p1 4 σ3 = some (e6, r7, σ8) ∧ (e6 = 0 → K 2 (10, [.ref 0, .int p0, .int p1, .int p2], [], σ8)) ∧ (¬ e6 = 0 → Xa e6 σ8)
        refine ⟨e6, r7, σ8, q9, fun q => absurd q c10, fun _ => ?_⟩
        subst h
        exact hX c10
    · refine (hw 0 (by decide)) 3 _ ?_
      show ∃ e1 r2 σ3, f_X5_checkNumber p0 4 σ = some (e1, r2, σ3) ∧ (e1 = 0 → K 1 (5, [.ref 0, .int p0, .int p1, .int p2], [], σ3)) ∧ (¬ e1 = 0 → Xa e1 σ3)
      refine ⟨e1, r2, σ3, q4, fun q => absurd q c5, fun _ => ?_⟩
      subst h
      exact hX c5
  · cases h
theorem h_X5_light : shpX [.ref 0] 4 F_X5_light := by
  intro As σ y h
  unfold F_X5_light at h
  split at h
  · exact ⟨by simp [Value.category], Nat.le_of_ble_eq_true rfl⟩
  · cases h
set_option maxHeartbeats 4000000 in
set_option maxRecDepth 100000 in
theorem c_X5_light (l : Launch) (hl : l.stackTraces = false) (D : va_G) (cI cZ cA cL : ClassId) (ad sa : Nat → Nat) (hi : adI ad) : CtXi l yX5_light wsX5_light { frames := 7, cells := 4, slots := 24, locals := 104 } 4 D cI cZ cA cL ad sa [.ref 0] F_X5_light := by
  refine mk_Xi (mc := 4) [.ref 0] F_X5_light T_X5_light (by decide +kernel) rfl ?_ h_X5_light s_X5_light
  intro p e s m args below meth c Qa Xa ⟨⟨hx, hb, hml, hown, hts, hr, hlocks, hK, hN⟩, hX, hno⟩ n hn
  have hin5 : ∀ w ∈ u_ws RX5 TX5 8, w ∈ wsX5_light := by decide +kernel
  have hl33 : (Cond.fieldLink RX5 33 RX5 (TX5 3).2.1 (TX5 3).2.2.1) ∈ wsX5_light := by decide +kernel
  have hl19 : (Cond.fieldLink RX5 19 RX5 (TX5 1).2.1 (TX5 1).2.2.1) ∈ wsX5_light := by decide +kernel
  have hl48 : (Cond.fieldLink RX5 48 RX5 (TX5 6).2.1 (TX5 6).2.2.1) ∈ wsX5_light := by decide +kernel
  have hl26 : (Cond.fieldLink RX5 26 RX5 (TX5 2).2.1 (TX5 2).2.2.1) ∈ wsX5_light := by decide +kernel
  have hl44 : (Cond.fieldLink RX5 44 RX5 (TX5 5).2.1 (TX5 5).2.2.1) ∈ wsX5_light := by decide +kernel
  refine ruL_c (n := 0) (n2 := 1) rfl (ru_iload_n (k := 1) hx hb dX5_light_0) ?_
  refine ruL_c (n := 1) (n2 := 2) rfl (ru_iconst hx hb dX5_light_1 rfl) ?_
  refine ruL_c (n := 2) (n2 := 3) rfl (ru_callX hx hb hml hown hts hK hN hX hno hlocks (c_X5_checkNumber l hl D cI cZ cA cL ad sa hi) (va_cwS 2 hts gX5_light_X5_checkNumber rfl rfl rfl (by decide +kernel) ⟨Nat.le_of_ble_eq_true rfl, Nat.le_of_ble_eq_true rfl⟩) dX5_light_2 ⟨hn, Nat.mul_le_mul_left 6 hn⟩ ⟨hn, Nat.mul_le_mul_left 6 hn⟩) ?_
  refine ruL_c (n := 3) (n2 := 4) rfl (ru_bot) ?_
  refine ruL_c (n := 4) (n2 := 5) rfl (ru_bot) ?_
  refine ruL_c (n := 5) (n2 := 6) rfl (ru_iload_n (k := 2) hx hb dX5_light_5) ?_
  refine ruL_c (n := 6) (n2 := 7) rfl (ru_iconst hx hb dX5_light_6 rfl) ?_
  refine ruL_c (n := 7) (n2 := 8) rfl (ru_callX hx hb hml hown hts hK hN hX hno hlocks (c_X5_checkNumber l hl D cI cZ cA cL ad sa hi) (va_cwS 2 hts gX5_light_X5_checkNumber rfl rfl rfl (by decide +kernel) ⟨Nat.le_of_ble_eq_true rfl, Nat.le_of_ble_eq_true rfl⟩) dX5_light_7 ⟨hn, Nat.mul_le_mul_left 6 hn⟩ ⟨hn, Nat.mul_le_mul_left 6 hn⟩) ?_
  refine ruL_c (n := 8) (n2 := 9) rfl (ru_bot) ?_
  refine ruL_c (n := 9) (n2 := 10) rfl (ru_bot) ?_
  refine ruL_c (n := 10) (n2 := 11) rfl (ru_iload_n (k := 3) hx hb dX5_light_10) ?_
  refine ruL_c (n := 11) (n2 := 12) rfl (ru_iconst hx hb dX5_light_11 rfl) ?_
  refine ruL_c (n := 12) (n2 := 13) rfl (ru_sipush hx hb dX5_light_12 rfl) ?_
  refine ruL_c (n := 13) (n2 := 14) rfl (ru_bot) ?_
  refine ruL_c (n := 14) (n2 := 15) rfl (ru_bot) ?_
  refine ruL_c (n := 15) (n2 := 16) rfl (ru_callX hx hb hml hown hts hK hN hX hno hlocks (c_X5_checkRange l hl D cI cZ cA cL ad sa hi) (va_cwS 3 hts gX5_light_X5_checkRange rfl rfl rfl (by decide +kernel) ⟨Nat.le_of_ble_eq_true rfl, Nat.le_of_ble_eq_true rfl⟩) dX5_light_15 ⟨hn, Nat.mul_le_mul_left 6 hn⟩ ⟨hn, Nat.mul_le_mul_left 6 hn⟩) ?_
  refine ruL_c (n := 16) (n2 := 17) rfl (ru_bot) ?_
  refine ruL_c (n := 17) (n2 := 18) rfl (ru_bot) ?_
  refine ruL_c (n := 18) (n2 := 19) rfl (ru_aload_n (k := 0) hx hb dX5_light_18) ?_
  refine ruL_c (n := 19) (n2 := 20) rfl (ru_getR (own := RX5) (j := 3) (T := TX5) hx hb hown hK hts hin5 (by decide) rfl rfl (by decide) rfl hl33 dX5_light_19) ?_
  refine ruL_c (n := 20) (n2 := 21) rfl (ru_bot) ?_
  refine ruL_c (n := 21) (n2 := 22) rfl (ru_bot) ?_
  refine ruL_c (n := 22) (n2 := 23) rfl (ru_iload_n (k := 1) hx hb dX5_light_22) ?_
  refine ruL_c (n := 23) (n2 := 24) rfl (ru_aload_n (k := 0) hx hb dX5_light_23) ?_
  refine ruL_c (n := 24) (n2 := 25) rfl (ru_getR (own := RX5) (j := 1) (T := TX5) hx hb hown hK hts hin5 (by decide) rfl rfl (by decide) rfl hl19 dX5_light_24) ?_
  refine ruL_c (n := 25) (n2 := 26) rfl (ru_bot) ?_
  refine ruL_c (n := 26) (n2 := 27) rfl (ru_bot) ?_
  refine ruL_c (n := 27) (n2 := 28) rfl (ru_aload_n (k := 0) hx hb dX5_light_27) ?_
  refine ruL_c (n := 28) (n2 := 29) rfl (ru_getR (own := RX5) (j := 6) (T := TX5) hx hb hown hK hts hin5 (by decide) rfl rfl (by decide) rfl hl48 dX5_light_28) ?_
  refine ruL_c (n := 29) (n2 := 30) rfl (ru_bot) ?_
  refine ruL_c (n := 30) (n2 := 31) rfl (ru_bot) ?_
  refine ruL_c (n := 31) (n2 := 32) rfl (ru_callVv hx hb hml hown hts hK hN (by decide) rfl (c_X3_lay l D cI cZ cA cL ad hi) (cwV 3 hts gX5_light_X3_lay rfl rfl rfl (by decide +kernel) ⟨Nat.le_of_ble_eq_true rfl, Nat.le_of_ble_eq_true rfl⟩) dX5_light_31 ⟨Nat.le_of_lt hn, Nat.mul_le_mul_left 6 (Nat.le_of_lt hn)⟩) ?_
  refine ruL_c (n := 32) (n2 := 33) rfl (ru_bot) ?_
  refine ruL_c (n := 33) (n2 := 34) rfl (ru_bot) ?_
  refine ruL_c (n := 34) (n2 := 35) rfl (ru_aload_n (k := 0) hx hb dX5_light_34) ?_
  refine ruL_c (n := 35) (n2 := 36) rfl (ru_getR (own := RX5) (j := 2) (T := TX5) hx hb hown hK hts hin5 (by decide) rfl rfl (by decide) rfl hl26 dX5_light_35) ?_
  refine ruL_c (n := 36) (n2 := 37) rfl (ru_bot) ?_
  refine ruL_c (n := 37) (n2 := 38) rfl (ru_bot) ?_
  refine ruL_c (n := 38) (n2 := 39) rfl (ru_iload_n (k := 3) hx hb dX5_light_38) ?_
  refine ruL_c (n := 39) (n2 := 40) rfl (ru_aload_n (k := 0) hx hb dX5_light_39) ?_
  refine ruL_c (n := 40) (n2 := 41) rfl (ru_getR (own := RX5) (j := 5) (T := TX5) hx hb hown hK hts hin5 (by decide) rfl rfl (by decide) rfl hl44 dX5_light_40) ?_
  refine ruL_c (n := 41) (n2 := 42) rfl (ru_bot) ?_
  refine ruL_c (n := 42) (n2 := 43) rfl (ru_bot) ?_
  refine ruL_c (n := 43) (n2 := 44) rfl (ru_callVv hx hb hml hown hts hK hN (by decide) rfl (c_X1_fillLevels l D cI cZ cA cL ad hi) (cwV 2 hts gX5_light_X1_fillLevels rfl rfl rfl (by decide +kernel) ⟨Nat.le_of_ble_eq_true rfl, Nat.le_of_ble_eq_true rfl⟩) dX5_light_43 ⟨Nat.le_of_lt hn, Nat.mul_le_mul_left 6 (Nat.le_of_lt hn)⟩) ?_
  refine ruL_c (n := 44) (n2 := 45) rfl (ru_bot) ?_
  refine ruL_c (n := 45) (n2 := 46) rfl (ru_bot) ?_
  refine ruL_c (n := 46) (n2 := 47) rfl (ru_aload_n (k := 0) hx hb dX5_light_46) ?_
  refine ruL_c (n := 47) (n2 := 48) rfl (ru_getR (own := RX5) (j := 3) (T := TX5) hx hb hown hK hts hin5 (by decide) rfl rfl (by decide) rfl hl33 dX5_light_47) ?_
  refine ruL_c (n := 48) (n2 := 49) rfl (ru_bot) ?_
  refine ruL_c (n := 49) (n2 := 50) rfl (ru_bot) ?_
  refine ruL_c (n := 50) (n2 := 51) rfl (ru_iload_n (k := 1) hx hb dX5_light_50) ?_
  refine ruL_c (n := 51) (n2 := 52) rfl (ru_iload_n (k := 2) hx hb dX5_light_51) ?_
  refine ruL_c (n := 52) (n2 := 53) rfl (ru_aload_n (k := 0) hx hb dX5_light_52) ?_
  refine ruL_c (n := 53) (n2 := 54) rfl (ru_getR (own := RX5) (j := 6) (T := TX5) hx hb hown hK hts hin5 (by decide) rfl rfl (by decide) rfl hl48 dX5_light_53) ?_
  refine ruL_c (n := 54) (n2 := 55) rfl (ru_bot) ?_
  refine ruL_c (n := 55) (n2 := 56) rfl (ru_bot) ?_
  refine ruL_c (n := 56) (n2 := 57) rfl (ru_aload_n (k := 0) hx hb dX5_light_56) ?_
  refine ruL_c (n := 57) (n2 := 58) rfl (ru_getR (own := RX5) (j := 5) (T := TX5) hx hb hown hK hts hin5 (by decide) rfl rfl (by decide) rfl hl44 dX5_light_57) ?_
  refine ruL_c (n := 58) (n2 := 59) rfl (ru_bot) ?_
  refine ruL_c (n := 59) (n2 := 60) rfl (ru_bot) ?_
  refine ruL_c (n := 60) (n2 := 61) rfl (ru_callV hx hb hml hown hts hK hN (by decide) rfl (c_X3_lightOf l D cI cZ cA cL ad hi) (cwV 4 hts gX5_light_X3_lightOf rfl rfl rfl (by decide +kernel) ⟨Nat.le_of_ble_eq_true rfl, Nat.le_of_ble_eq_true rfl⟩) dX5_light_60 ⟨Nat.le_of_lt hn, Nat.mul_le_mul_left 6 (Nat.le_of_lt hn)⟩) ?_
  refine ruL_c (n := 61) (n2 := 62) rfl (ru_bot) ?_
  refine ruL_c (n := 62) (n2 := 63) rfl (ru_bot) ?_
  refine ruL_c (n := 63) (n2 := 64) rfl (ru_iretX hx hb hK hr hlocks dX5_light_63 ⟨Nat.le_of_lt hn, Nat.mul_le_mul_left 6 (Nat.le_of_lt hn)⟩) ?_
  exact trivial

-- CueTour.shortOf
def f_X5_shortOf (p0 : Int32) (p1 : Int32) (σ : aM) : Option (Nat × Int32 × aM) := bnX (f_X5_checkNumber p0 4 σ) (fun σ3 => bnX (f_X5_checkNumber p1 (σ3 1 3) σ3) (fun σ8 => bnN (f_X3_lay p0 28 σ8) (fun r11 σ12 => bnN (f_X5_readEndOf p1 σ12) (fun r14 σ15 => bnN (f_X5_shortAreas p0 p1 σ15) (fun r17 σ18 => some (0, r17, σ18))))))
def F_X5_shortOf : aFx := fun As σ => match As with
  | [.int p0, .int p1] => f_X5_shortOf p0 p1 σ
  | _ => none
def T_X5_shortOf : aTx := fun Qa Xa KN => [I_iload 1 1, I_const 4 1, I_callX 2 F_X5_checkNumber KN Xa, I_bot, I_bot, I_iload 2 1, I_aload 0 1, I_getR 0 1, I_bot, I_bot, I_getI 1 3, I_bot, I_bot, I_callX 2 F_X5_checkNumber KN Xa, I_bot, I_bot, I_aload 0 1, I_getR 0 4, I_bot, I_bot, I_iload 1 1, I_aload 0 1, I_getR 0 2, I_bot, I_bot, I_aload 0 1, I_getR 0 28, I_bot, I_bot, I_callVv 4 3 F_X3_lay, I_bot, I_bot, I_aload 0 1, I_iload 2 1, I_callVv 0 1 F_X5_readEndOf, I_bot, I_bot, I_aload 0 1, I_iload 1 1, I_iload 2 1, I_callV 0 2 F_X5_shortAreas, I_bot, I_bot, I_iret Qa]
set_option maxHeartbeats 4000000 in
set_option maxRecDepth 100000 in
theorem s_X5_shortOf : runsX T_X5_shortOf 3 [.ref 0] 3 F_X5_shortOf := by
  intro Qa Xa K hw hf As σ y h hQ hX
  unfold F_X5_shortOf at h
  split at h
  · rename_i p0 p1
    unfold f_X5_shortOf at h
    show K 0 (0, [.ref 0, .int p0, .int p1], [], σ)
    obtain ⟨e1, r2, σ3, q4, h⟩ := bnX_some h
    rcases h with ⟨c5, h⟩ | ⟨c5, h⟩
    · refine (hw 0 (by decide)) 3 _ ?_
      show ∃ e1 r2 σ3, f_X5_checkNumber p0 4 σ = some (e1, r2, σ3) ∧ (e1 = 0 → K 1 (5, [.ref 0, .int p0, .int p1], [], σ3)) ∧ (¬ e1 = 0 → Xa e1 σ3)
      refine ⟨e1, r2, σ3, q4, fun _ => ?_, fun q => absurd c5 q⟩
      obtain ⟨e6, r7, σ8, q9, h⟩ := bnX_some h
      rcases h with ⟨c10, h⟩ | ⟨c10, h⟩
      · refine (hw 1 (by decide)) 5 _ ?_
        show ∃ e6 r7 σ8, f_X5_checkNumber p1 (σ3 1 3) σ3 = some (e6, r7, σ8) ∧ (e6 = 0 → K 2 (16, [.ref 0, .int p0, .int p1], [], σ8)) ∧ (¬ e6 = 0 → Xa e6 σ8)
        refine ⟨e6, r7, σ8, q9, fun _ => ?_, fun q => absurd c10 q⟩
        obtain ⟨r11, σ12, e13, h⟩ := bnN_some h
        refine (hw 2 (by decide)) 8 _ ?_
        show ∃ r11 σ12, f_X3_lay p0 28 σ8 = some (r11, σ12) ∧ K 2 (32, [.ref 0, .int p0, .int p1], [], σ12)
        refine ⟨r11, σ12, e13, ?_⟩
        obtain ⟨r14, σ15, e16, h⟩ := bnN_some h
        refine (hw 2 (by decide)) 3 _ ?_
        show ∃ r14 σ15, f_X5_readEndOf p1 σ12 = some (r14, σ15) ∧ K 2 (37, [.ref 0, .int p0, .int p1], [], σ15)
        refine ⟨r14, σ15, e16, ?_⟩
        obtain ⟨r17, σ18, e19, h⟩ := bnN_some h
        refine (hw 2 (by decide)) 4 _ ?_
        show ∃ r17 σ18, f_X5_shortAreas p0 p1 σ15 = some (r17, σ18) ∧ K 2 (43, [.ref 0, .int p0, .int p1], [.int r17], σ18)
        refine ⟨r17, σ18, e19, ?_⟩
        obtain rfl := Option.some.inj h
        refine (hw 2 (by decide)) 1 _ ?_
        show Qa r17 σ18
        refine hQ rfl
      · refine (hw 1 (by decide)) 5 _ ?_
        show ∃ e6 r7 σ8, f_X5_checkNumber p1 (σ3 1 3) σ3 = some (e6, r7, σ8) ∧ (e6 = 0 → K 2 (16, [.ref 0, .int p0, .int p1], [], σ8)) ∧ (¬ e6 = 0 → Xa e6 σ8)
        refine ⟨e6, r7, σ8, q9, fun q => absurd q c10, fun _ => ?_⟩
        subst h
        exact hX c10
    · refine (hw 0 (by decide)) 3 _ ?_
      show ∃ e1 r2 σ3, f_X5_checkNumber p0 4 σ = some (e1, r2, σ3) ∧ (e1 = 0 → K 1 (5, [.ref 0, .int p0, .int p1], [], σ3)) ∧ (¬ e1 = 0 → Xa e1 σ3)
      refine ⟨e1, r2, σ3, q4, fun q => absurd q c5, fun _ => ?_⟩
      subst h
      exact hX c5
  · cases h
theorem h_X5_shortOf : shpX [.ref 0] 3 F_X5_shortOf := by
  intro As σ y h
  unfold F_X5_shortOf at h
  split at h
  · exact ⟨by simp [Value.category], Nat.le_of_ble_eq_true rfl⟩
  · cases h
set_option maxHeartbeats 4000000 in
set_option maxRecDepth 100000 in
theorem c_X5_shortOf (l : Launch) (hl : l.stackTraces = false) (D : va_G) (cI cZ cA cL : ClassId) (ad sa : Nat → Nat) (hi : adI ad) : CtXi l yX5_shortOf wsX5_shortOf { frames := 7, cells := 3, slots := 18, locals := 103 } 3 D cI cZ cA cL ad sa [.ref 0] F_X5_shortOf := by
  refine mk_Xi (mc := 3) [.ref 0] F_X5_shortOf T_X5_shortOf (by decide +kernel) rfl ?_ h_X5_shortOf s_X5_shortOf
  intro p e s m args below meth c Qa Xa ⟨⟨hx, hb, hml, hown, hts, hr, hlocks, hK, hN⟩, hX, hno⟩ n hn
  have hin5 : ∀ w ∈ u_ws RX5 TX5 8, w ∈ wsX5_shortOf := by decide +kernel
  have hl10 : (Cond.fieldLink RX5 10 RX5 (TX5 0).2.1 (TX5 0).2.2.1) ∈ wsX5_shortOf := by decide +kernel
  have hin4 : ∀ w ∈ u_ws RX4 TX4 4, w ∈ wsX5_shortOf := by decide +kernel
  have hl60 : (Cond.fieldLinkNest RX5 60 RX4 (TX4 3).2.1 (TX4 3).2.2.1 "CueTour") ∈ nwL := by decide +kernel
  have hl33 : (Cond.fieldLink RX5 33 RX5 (TX5 3).2.1 (TX5 3).2.2.1) ∈ wsX5_shortOf := by decide +kernel
  have hl19 : (Cond.fieldLink RX5 19 RX5 (TX5 1).2.1 (TX5 1).2.2.1) ∈ wsX5_shortOf := by decide +kernel
  have hl48 : (Cond.fieldLink RX5 48 RX5 (TX5 6).2.1 (TX5 6).2.2.1) ∈ wsX5_shortOf := by decide +kernel
  refine ruL_c (n := 0) (n2 := 1) rfl (ru_iload_n (k := 1) hx hb dX5_shortOf_0) ?_
  refine ruL_c (n := 1) (n2 := 2) rfl (ru_iconst hx hb dX5_shortOf_1 rfl) ?_
  refine ruL_c (n := 2) (n2 := 3) rfl (ru_callX hx hb hml hown hts hK hN hX hno hlocks (c_X5_checkNumber l hl D cI cZ cA cL ad sa hi) (va_cwS 2 hts gX5_shortOf_X5_checkNumber rfl rfl rfl (by decide +kernel) ⟨Nat.le_of_ble_eq_true rfl, Nat.le_of_ble_eq_true rfl⟩) dX5_shortOf_2 ⟨hn, Nat.mul_le_mul_left 6 hn⟩ ⟨hn, Nat.mul_le_mul_left 6 hn⟩) ?_
  refine ruL_c (n := 3) (n2 := 4) rfl (ru_bot) ?_
  refine ruL_c (n := 4) (n2 := 5) rfl (ru_bot) ?_
  refine ruL_c (n := 5) (n2 := 6) rfl (ru_iload_n (k := 2) hx hb dX5_shortOf_5) ?_
  refine ruL_c (n := 6) (n2 := 7) rfl (ru_aload_n (k := 0) hx hb dX5_shortOf_6) ?_
  refine ruL_c (n := 7) (n2 := 8) rfl (ru_getR (own := RX5) (j := 0) (T := TX5) hx hb hown hK hts hin5 (by decide) rfl rfl (by decide) rfl hl10 dX5_shortOf_7) ?_
  refine ruL_c (n := 8) (n2 := 9) rfl (ru_bot) ?_
  refine ruL_c (n := 9) (n2 := 10) rfl (ru_bot) ?_
  refine ruL_c (n := 10) (n2 := 11) rfl (ru_getIN (own := RX5) (j := 3) (T := TX4) hx hb hown hK hN hts hin4 (by decide) rfl rfl (by decide) rfl hl60 dX5_shortOf_10) ?_
  refine ruL_c (n := 11) (n2 := 12) rfl (ru_bot) ?_
  refine ruL_c (n := 12) (n2 := 13) rfl (ru_bot) ?_
  refine ruL_c (n := 13) (n2 := 14) rfl (ru_callX hx hb hml hown hts hK hN hX hno hlocks (c_X5_checkNumber l hl D cI cZ cA cL ad sa hi) (va_cwS 2 hts gX5_shortOf_X5_checkNumber rfl rfl rfl (by decide +kernel) ⟨Nat.le_of_ble_eq_true rfl, Nat.le_of_ble_eq_true rfl⟩) dX5_shortOf_13 ⟨hn, Nat.mul_le_mul_left 6 hn⟩ ⟨hn, Nat.mul_le_mul_left 6 hn⟩) ?_
  refine ruL_c (n := 14) (n2 := 15) rfl (ru_bot) ?_
  refine ruL_c (n := 15) (n2 := 16) rfl (ru_bot) ?_
  refine ruL_c (n := 16) (n2 := 17) rfl (ru_aload_n (k := 0) hx hb dX5_shortOf_16) ?_
  refine ruL_c (n := 17) (n2 := 18) rfl (ru_getR (own := RX5) (j := 3) (T := TX5) hx hb hown hK hts hin5 (by decide) rfl rfl (by decide) rfl hl33 dX5_shortOf_17) ?_
  refine ruL_c (n := 18) (n2 := 19) rfl (ru_bot) ?_
  refine ruL_c (n := 19) (n2 := 20) rfl (ru_bot) ?_
  refine ruL_c (n := 20) (n2 := 21) rfl (ru_iload_n (k := 1) hx hb dX5_shortOf_20) ?_
  refine ruL_c (n := 21) (n2 := 22) rfl (ru_aload_n (k := 0) hx hb dX5_shortOf_21) ?_
  refine ruL_c (n := 22) (n2 := 23) rfl (ru_getR (own := RX5) (j := 1) (T := TX5) hx hb hown hK hts hin5 (by decide) rfl rfl (by decide) rfl hl19 dX5_shortOf_22) ?_
  refine ruL_c (n := 23) (n2 := 24) rfl (ru_bot) ?_
  refine ruL_c (n := 24) (n2 := 25) rfl (ru_bot) ?_
  refine ruL_c (n := 25) (n2 := 26) rfl (ru_aload_n (k := 0) hx hb dX5_shortOf_25) ?_
  refine ruL_c (n := 26) (n2 := 27) rfl (ru_getR (own := RX5) (j := 6) (T := TX5) hx hb hown hK hts hin5 (by decide) rfl rfl (by decide) rfl hl48 dX5_shortOf_26) ?_
  refine ruL_c (n := 27) (n2 := 28) rfl (ru_bot) ?_
  refine ruL_c (n := 28) (n2 := 29) rfl (ru_bot) ?_
  refine ruL_c (n := 29) (n2 := 30) rfl (ru_callVv hx hb hml hown hts hK hN (by decide) rfl (c_X3_lay l D cI cZ cA cL ad hi) (cwV 3 hts gX5_shortOf_X3_lay rfl rfl rfl (by decide +kernel) ⟨Nat.le_of_ble_eq_true rfl, Nat.le_of_ble_eq_true rfl⟩) dX5_shortOf_29 ⟨Nat.le_of_lt hn, Nat.mul_le_mul_left 6 (Nat.le_of_lt hn)⟩) ?_
  refine ruL_c (n := 30) (n2 := 31) rfl (ru_bot) ?_
  refine ruL_c (n := 31) (n2 := 32) rfl (ru_bot) ?_
  refine ruL_c (n := 32) (n2 := 33) rfl (ru_aload_n (k := 0) hx hb dX5_shortOf_32) ?_
  refine ruL_c (n := 33) (n2 := 34) rfl (ru_iload_n (k := 2) hx hb dX5_shortOf_33) ?_
  refine ruL_c (n := 34) (n2 := 35) rfl (ru_callVv hx hb hml hown hts hK hN (by decide) rfl (c_X5_readEndOf l D cI cZ cA cL ad hi) (cwV 1 hts gX5_shortOf_X5_readEndOf rfl rfl rfl (by decide +kernel) ⟨Nat.le_of_ble_eq_true rfl, Nat.le_of_ble_eq_true rfl⟩) dX5_shortOf_34 ⟨Nat.le_of_lt hn, Nat.mul_le_mul_left 6 (Nat.le_of_lt hn)⟩) ?_
  refine ruL_c (n := 35) (n2 := 36) rfl (ru_bot) ?_
  refine ruL_c (n := 36) (n2 := 37) rfl (ru_bot) ?_
  refine ruL_c (n := 37) (n2 := 38) rfl (ru_aload_n (k := 0) hx hb dX5_shortOf_37) ?_
  refine ruL_c (n := 38) (n2 := 39) rfl (ru_iload_n (k := 1) hx hb dX5_shortOf_38) ?_
  refine ruL_c (n := 39) (n2 := 40) rfl (ru_iload_n (k := 2) hx hb dX5_shortOf_39) ?_
  refine ruL_c (n := 40) (n2 := 41) rfl (ru_callV hx hb hml hown hts hK hN (by decide) rfl (c_X5_shortAreas l D cI cZ cA cL ad hi) (cwV 2 hts gX5_shortOf_X5_shortAreas rfl rfl rfl (by decide +kernel) ⟨Nat.le_of_ble_eq_true rfl, Nat.le_of_ble_eq_true rfl⟩) dX5_shortOf_40 ⟨Nat.le_of_lt hn, Nat.mul_le_mul_left 6 (Nat.le_of_lt hn)⟩) ?_
  refine ruL_c (n := 41) (n2 := 42) rfl (ru_bot) ?_
  refine ruL_c (n := 42) (n2 := 43) rfl (ru_bot) ?_
  refine ruL_c (n := 43) (n2 := 44) rfl (ru_iretX hx hb hK hr hlocks dX5_shortOf_43 ⟨Nat.le_of_lt hn, Nat.mul_le_mul_left 6 (Nat.le_of_lt hn)⟩) ?_
  exact trivial

-- CueTour.bestStage
def l_X5_bestStage_14 : Nat → Int32 → Int32 → Int32 → aM → (Int32 → Int32 → Int32 → aM → Option (Int32 × aM)) → Option (Int32 × aM)
  | 0, _, _, _, _, _ => none
  | n + 1, v7, v8, v9, σ10, k => if 4 ≤ v9 then k v7 v8 v9 σ10 else bnd (f_X5_countShort v9 σ10) (fun r12 σ13 => if v8 ≤ r12 then l_X5_bestStage_14 n v7 v8 (v9 + 1) σ13 k else l_X5_bestStage_14 n v9 r12 (v9 + 1) σ13 k)
def f_X5_bestStage (σ : aM) : Option (Int32 × aM) := bnd (f_X5_readEnds σ) (fun r1 σ2 => bnd (f_X5_countShort 0 σ2) (fun r4 σ5 => l_X5_bestStage_14 lf 0 r4 1 σ5 (fun v16 v17 v18 σ19 => some (v16, σ19))))
def F_X5_bestStage : aF := fun As σ => match As with
  | [] => f_X5_bestStage σ
  | _ => none
def T_X5_bestStage (Qa : Int32 → aM → Prop) : List aI := [I_aload 0 1, I_callVv 0 0 F_X5_readEnds, I_bot, I_bot, I_const 0 1, I_istore 1 1, I_aload 0 1, I_const 0 1, I_callV 0 1 F_X5_countShort, I_bot, I_bot, I_istore 2 1, I_const 1 1, I_istore 3 1, I_iload 3 1, I_const 4 1, I_icmp (fun x y => y ≤ x) 43, I_bot, I_bot, I_aload 0 1, I_iload 3 1, I_callV 0 1 F_X5_countShort, I_bot, I_bot, I_istore 4 2, I_bot, I_iload 4 2, I_bot, I_iload 2 1, I_icmp (fun x y => y ≤ x) 37, I_bot, I_bot, I_iload 3 1, I_istore 1 1, I_iload 4 2, I_bot, I_istore 2 1, I_iinc 3 (1), I_bot, I_bot, I_goto 14, I_bot, I_bot, I_iload 1 1, I_iret Qa]
set_option maxHeartbeats 4000000 in
set_option maxRecDepth 100000 in
theorem t_X5_bestStage_14 {Qa : Int32 → aM → Prop} {K : aS → Prop} (hw : ∀ k x, wp (T_X5_bestStage Qa) k K x → K x) (hf : ∀ pc L i st σ, K (pc, L.set i .null, st, σ) → K (pc, L, st, σ)) (y : Int32 × aM) (k : Int32 → Int32 → Int32 → aM → Option (Int32 × aM)) :
    ∀ (n : Nat) (v7 : Int32) (v8 : Int32) (v9 : Int32) (σ10 : aM), l_X5_bestStage_14 n v7 v8 v9 σ10 k = some y → (∀ (w0 : Int32) (w1 : Int32) (w2 : Int32) (τ : aM), k w0 w1 w2 τ = some y → K (43, [.ref 0, .int w0, .int w1, .int w2, .null], [], τ)) → K (14, [.ref 0, .int v7, .int v8, .int v9, .null], [], σ10) := by
  intro n
  induction n with
  | zero =>
    intro v7 v8 v9 σ10 h hk
    exact absurd h (by simp [l_X5_bestStage_14])
  | succ n ih =>
    intro v7 v8 v9 σ10 h hk
    unfold l_X5_bestStage_14 at h
    rcases ite_cases h with ⟨c11, h⟩ | ⟨c11, h⟩
    · refine hw 3 _ ?_
      show ((4 ≤ v9) → K (43, [.ref 0, .int v7, .int v8, .int v9, .null], [], σ10)) ∧ (¬ (4 ≤ v9) → K (19, [.ref 0, .int v7, .int v8, .int v9, .null], [], σ10))
      refine ⟨fun _ => ?_, fun q => absurd c11 q⟩
      exact hk v7 v8 v9 σ10 h
    · refine hw 3 _ ?_
      show ((4 ≤ v9) → K (43, [.ref 0, .int v7, .int v8, .int v9, .null], [], σ10)) ∧ (¬ (4 ≤ v9) → K (19, [.ref 0, .int v7, .int v8, .int v9, .null], [], σ10))
      refine ⟨fun q => absurd q c11, fun _ => ?_⟩
      obtain ⟨r12, σ13, e14, h⟩ := bnd_some h
      refine hw 3 _ ?_
      show ∃ r12 σ13, f_X5_countShort v9 σ10 = some (r12, σ13) ∧ K (24, [.ref 0, .int v7, .int v8, .int v9, .null], [.int r12], σ13)
      refine ⟨r12, σ13, e14, ?_⟩
      rcases ite_cases h with ⟨c15, h⟩ | ⟨c15, h⟩
      · refine hw 4 _ ?_
        show ((v8 ≤ r12) → K (37, [.ref 0, .int v7, .int v8, .int v9, .int r12], [], σ13)) ∧ (¬ (v8 ≤ r12) → K (32, [.ref 0, .int v7, .int v8, .int v9, .int r12], [], σ13))
        refine ⟨fun _ => ?_, fun q => absurd c15 q⟩
        refine hw 2 _ ?_
        show K (14, [.ref 0, .int v7, .int v8, .int (v9 + 1), .int r12], [], σ13)
        refine hf _ _ 4 _ _ ?_
        show K (14, [.ref 0, .int v7, .int v8, .int (v9 + 1), .null], [], σ13)
        exact ih v7 v8 (v9 + 1) σ13 h hk
      · refine hw 4 _ ?_
        show ((v8 ≤ r12) → K (37, [.ref 0, .int v7, .int v8, .int v9, .int r12], [], σ13)) ∧ (¬ (v8 ≤ r12) → K (32, [.ref 0, .int v7, .int v8, .int v9, .int r12], [], σ13))
        refine ⟨fun q => absurd q c15, fun _ => ?_⟩
        refine hw 6 _ ?_
        show K (14, [.ref 0, .int v9, .int r12, .int (v9 + 1), .int r12], [], σ13)
        refine hf _ _ 4 _ _ ?_
        show K (14, [.ref 0, .int v9, .int r12, .int (v9 + 1), .null], [], σ13)
        exact ih v9 r12 (v9 + 1) σ13 h hk

set_option maxHeartbeats 4000000 in
set_option maxRecDepth 100000 in
theorem s_X5_bestStage : runs T_X5_bestStage [.ref 0] 5 F_X5_bestStage := by
  intro Qa K hw hf As σ r σ' h hQ
  unfold F_X5_bestStage at h
  split at h
  · unfold f_X5_bestStage at h
    have hQ : Qa (r, σ').1 (r, σ').2 := hQ
    generalize (r, σ') = y at h hQ
    show K (0, [.ref 0, .null, .null, .null, .null], [], σ)
    obtain ⟨r1, σ2, e3, h⟩ := bnd_some h
    refine hw 2 _ ?_
    show ∃ r1 σ2, f_X5_readEnds σ = some (r1, σ2) ∧ K (4, [.ref 0, .null, .null, .null, .null], [], σ2)
    refine ⟨r1, σ2, e3, ?_⟩
    obtain ⟨r4, σ5, e6, h⟩ := bnd_some h
    refine hw 5 _ ?_
    show ∃ r4 σ5, f_X5_countShort 0 σ2 = some (r4, σ5) ∧ K (11, [.ref 0, .int 0, .null, .null, .null], [.int r4], σ5)
    refine ⟨r4, σ5, e6, ?_⟩
    refine hw 3 _ ?_
    show K (14, [.ref 0, .int 0, .int r4, .int 1, .null], [], σ5)
    refine t_X5_bestStage_14 hw hf _ _ lf 0 r4 1 σ5 h (fun v16 v17 v18 σ19 h => ?_)
    show K (43, [.ref 0, .int v16, .int v17, .int v18, .null], [], σ19)
    obtain rfl := Option.some.inj h
    refine hw 2 _ ?_
    show Qa v16 σ19
    refine hQ
  · cases h
theorem h_X5_bestStage : shp [.ref 0] 5 F_X5_bestStage := by
  intro As σ r σ' h
  unfold F_X5_bestStage at h
  split at h
  · exact ⟨by simp [Value.category], Nat.le_of_ble_eq_true rfl⟩
  · cases h
set_option maxHeartbeats 4000000 in
set_option maxRecDepth 100000 in
theorem c_X5_bestStage (l : Launch) (D : va_G) (cI cZ cA cL : ClassId) (ad : Nat → Nat) (hi : adI ad) : CtI l yX5_bestStage wsX5_bestStage { frames := 5, cells := 0, slots := 0, locals := 116 } D cI cZ cA cL ad [.ref 0] F_X5_bestStage := by
  refine mk_I [.ref 0] F_X5_bestStage T_X5_bestStage (by decide +kernel) rfl ?_ h_X5_bestStage s_X5_bestStage
  intro p e s m args below meth c Qa ⟨hx, hb, hml, hown, hts, hr, hlocks, hK, hN⟩
  refine ruL_c (n := 0) (n2 := 1) rfl (ru_aload_n (k := 0) hx hb dX5_bestStage_0) ?_
  refine ruL_c (n := 1) (n2 := 2) rfl (ru_callVv hx hb hml hown hts hK hN (by decide) rfl (c_X5_readEnds l D cI cZ cA cL ad hi) (cwV 0 hts gX5_bestStage_X5_readEnds rfl rfl rfl (by decide +kernel) ⟨Nat.le_of_ble_eq_true rfl, Nat.le_of_ble_eq_true rfl⟩) dX5_bestStage_1 ⟨Nat.zero_le _, Nat.zero_le _⟩) ?_
  refine ruL_c (n := 2) (n2 := 3) rfl (ru_bot) ?_
  refine ruL_c (n := 3) (n2 := 4) rfl (ru_bot) ?_
  refine ruL_c (n := 4) (n2 := 5) rfl (ru_iconst hx hb dX5_bestStage_4 rfl) ?_
  refine ruL_c (n := 5) (n2 := 6) rfl (ru_istore_n (k := 1) hx hb dX5_bestStage_5) ?_
  refine ruL_c (n := 6) (n2 := 7) rfl (ru_aload_n (k := 0) hx hb dX5_bestStage_6) ?_
  refine ruL_c (n := 7) (n2 := 8) rfl (ru_iconst hx hb dX5_bestStage_7 rfl) ?_
  refine ruL_c (n := 8) (n2 := 9) rfl (ru_callV hx hb hml hown hts hK hN (by decide) rfl (c_X5_countShort l D cI cZ cA cL ad hi) (cwV 1 hts gX5_bestStage_X5_countShort rfl rfl rfl (by decide +kernel) ⟨Nat.le_of_ble_eq_true rfl, Nat.le_of_ble_eq_true rfl⟩) dX5_bestStage_8 ⟨Nat.zero_le _, Nat.zero_le _⟩) ?_
  refine ruL_c (n := 9) (n2 := 10) rfl (ru_bot) ?_
  refine ruL_c (n := 10) (n2 := 11) rfl (ru_bot) ?_
  refine ruL_c (n := 11) (n2 := 12) rfl (ru_istore_n (k := 2) hx hb dX5_bestStage_11) ?_
  refine ruL_c (n := 12) (n2 := 13) rfl (ru_iconst hx hb dX5_bestStage_12 rfl) ?_
  refine ruL_c (n := 13) (n2 := 14) rfl (ru_istore_n (k := 3) hx hb dX5_bestStage_13) ?_
  refine ruL_c (n := 14) (n2 := 15) rfl (ru_iload_n (k := 3) hx hb dX5_bestStage_14) ?_
  refine ruL_c (n := 15) (n2 := 16) rfl (ru_iconst hx hb dX5_bestStage_15 rfl) ?_
  refine ruL_c (n := 16) (n2 := 17) rfl (ru_icmpge hx hb dX5_bestStage_16 (by decide)) ?_
  refine ruL_c (n := 17) (n2 := 18) rfl (ru_bot) ?_
  refine ruL_c (n := 18) (n2 := 19) rfl (ru_bot) ?_
  refine ruL_c (n := 19) (n2 := 20) rfl (ru_aload_n (k := 0) hx hb dX5_bestStage_19) ?_
  refine ruL_c (n := 20) (n2 := 21) rfl (ru_iload_n (k := 3) hx hb dX5_bestStage_20) ?_
  refine ruL_c (n := 21) (n2 := 22) rfl (ru_callV hx hb hml hown hts hK hN (by decide) rfl (c_X5_countShort l D cI cZ cA cL ad hi) (cwV 1 hts gX5_bestStage_X5_countShort rfl rfl rfl (by decide +kernel) ⟨Nat.le_of_ble_eq_true rfl, Nat.le_of_ble_eq_true rfl⟩) dX5_bestStage_21 ⟨Nat.zero_le _, Nat.zero_le _⟩) ?_
  refine ruL_c (n := 22) (n2 := 23) rfl (ru_bot) ?_
  refine ruL_c (n := 23) (n2 := 24) rfl (ru_bot) ?_
  refine ruL_c (n := 24) (n2 := 25) rfl (ru_istore hx hb dX5_bestStage_24) ?_
  refine ruL_c (n := 25) (n2 := 26) rfl (ru_bot) ?_
  refine ruL_c (n := 26) (n2 := 27) rfl (ru_iload hx hb dX5_bestStage_26) ?_
  refine ruL_c (n := 27) (n2 := 28) rfl (ru_bot) ?_
  refine ruL_c (n := 28) (n2 := 29) rfl (ru_iload_n (k := 2) hx hb dX5_bestStage_28) ?_
  refine ruL_c (n := 29) (n2 := 30) rfl (ru_icmpge hx hb dX5_bestStage_29 (by decide)) ?_
  refine ruL_c (n := 30) (n2 := 31) rfl (ru_bot) ?_
  refine ruL_c (n := 31) (n2 := 32) rfl (ru_bot) ?_
  refine ruL_c (n := 32) (n2 := 33) rfl (ru_iload_n (k := 3) hx hb dX5_bestStage_32) ?_
  refine ruL_c (n := 33) (n2 := 34) rfl (ru_istore_n (k := 1) hx hb dX5_bestStage_33) ?_
  refine ruL_c (n := 34) (n2 := 35) rfl (ru_iload hx hb dX5_bestStage_34) ?_
  refine ruL_c (n := 35) (n2 := 36) rfl (ru_bot) ?_
  refine ruL_c (n := 36) (n2 := 37) rfl (ru_istore_n (k := 2) hx hb dX5_bestStage_36) ?_
  refine ruL_c (n := 37) (n2 := 38) rfl (ru_iinc hx hb dX5_bestStage_37 rfl) ?_
  refine ruL_c (n := 38) (n2 := 39) rfl (ru_bot) ?_
  refine ruL_c (n := 39) (n2 := 40) rfl (ru_bot) ?_
  refine ruL_c (n := 40) (n2 := 41) rfl (ru_goto hx hb dX5_bestStage_40 (by decide)) ?_
  refine ruL_c (n := 41) (n2 := 42) rfl (ru_bot) ?_
  refine ruL_c (n := 42) (n2 := 43) rfl (ru_bot) ?_
  refine ruL_c (n := 43) (n2 := 44) rfl (ru_iload_n (k := 1) hx hb dX5_bestStage_43) ?_
  refine ruL_c (n := 44) (n2 := 45) rfl (ru_iret hx hb hK hr hlocks dX5_bestStage_44) ?_
  exact trivial

-- CueTour.bestToBorrow
def l_X5_bestToBorrow_26 (x17 : Int32) (x18 : Int32) : Nat → Int32 → Int32 → Int32 → aM → (Int32 → Int32 → Int32 → aM → Option (Nat × Int32 × aM)) → Option (Nat × Int32 × aM)
  | 0, _, _, _, _, _ => none
  | n + 1, v19, v20, v21, σ22, k => if (σ22 4 8) ≤ v21 then k v19 v20 v21 σ22 else bnN (f_X3_canGo v21 x17 σ22) (fun r24 σ25 => if r24 = 0 then l_X5_bestToBorrow_26 x17 x18 n v19 v20 (v21 + 1) σ25 k else bnN (f_X5_countShortWith v21 x17 x18 σ25) (fun r28 σ29 => if v20 ≤ r28 then l_X5_bestToBorrow_26 x17 x18 n v19 v20 (v21 + 1) σ29 k else l_X5_bestToBorrow_26 x17 x18 n v21 r28 (v21 + 1) σ29 k))
def f_X5_bestToBorrow (p0 : Int32) (p1 : Int32) (σ : aM) : Option (Nat × Int32 × aM) := bnX (f_X5_checkNumber p0 4 σ) (fun σ3 => bnX (f_X5_checkNumber p1 4 σ3) (fun σ8 => bnN (f_X5_readEnds σ8) (fun r11 σ12 => bnN (f_X5_countShort p0 σ12) (fun r14 σ15 => l_X5_bestToBorrow_26 p0 p1 lf ((-1)) r14 0 σ15 (fun v32 v33 v34 σ35 => some (0, v32, σ35))))))
def F_X5_bestToBorrow : aFx := fun As σ => match As with
  | [.int p0, .int p1] => f_X5_bestToBorrow p0 p1 σ
  | _ => none
def T_X5_bestToBorrow : aTx := fun Qa Xa KN => [I_iload 1 1, I_const 4 1, I_callX 2 F_X5_checkNumber KN Xa, I_bot, I_bot, I_iload 2 1, I_const 4 1, I_callX 2 F_X5_checkNumber KN Xa, I_bot, I_bot, I_aload 0 1, I_callVv 0 0 F_X5_readEnds, I_bot, I_bot, I_const (-1) 1, I_istore 3 1, I_aload 0 1, I_iload 1 1, I_callV 0 1 F_X5_countShort, I_bot, I_bot, I_istore 4 2, I_bot, I_const 0 1, I_istore 5 2, I_bot, I_iload 5 2, I_bot, I_aload 0 1, I_getR 0 4, I_bot, I_bot, I_getI 4 8, I_bot, I_bot, I_icmp (fun x y => y ≤ x) 81, I_bot, I_bot, I_aload 0 1, I_getR 0 4, I_bot, I_bot, I_iload 5 2, I_bot, I_iload 1 1, I_callV 4 2 F_X3_canGo, I_bot, I_bot, I_if (fun x => x = 0) 75, I_bot, I_bot, I_aload 0 1, I_iload 5 2, I_bot, I_iload 1 1, I_iload 2 1, I_callV 0 3 F_X5_countShortWith, I_bot, I_bot, I_istore 6 2, I_bot, I_iload 6 2, I_bot, I_iload 4 2, I_bot, I_icmp (fun x y => y ≤ x) 75, I_bot, I_bot, I_iload 5 2, I_bot, I_istore 3 1, I_iload 6 2, I_bot, I_istore 4 2, I_bot, I_iinc 5 (1), I_bot, I_bot, I_goto 26, I_bot, I_bot, I_iload 3 1, I_iret Qa]
set_option maxHeartbeats 4000000 in
set_option maxRecDepth 100000 in
theorem t_X5_bestToBorrow_26 {Qa : Int32 → aM → Prop} {Xa : Nat → aM → Prop} {KN : aS → Prop} {K : aS → Prop} (hw : ∀ k x, wp (T_X5_bestToBorrow Qa Xa KN) k K x → K x) (hf : ∀ pc L i st σ, K (pc, L.set i .null, st, σ) → K (pc, L, st, σ)) (x17 : Int32) (x18 : Int32) (y : Nat × Int32 × aM) (k : Int32 → Int32 → Int32 → aM → Option (Nat × Int32 × aM)) :
    ∀ (n : Nat) (v19 : Int32) (v20 : Int32) (v21 : Int32) (σ22 : aM), l_X5_bestToBorrow_26 x17 x18 n v19 v20 v21 σ22 k = some y → (∀ (w0 : Int32) (w1 : Int32) (w2 : Int32) (τ : aM), k w0 w1 w2 τ = some y → K (81, [.ref 0, .int x17, .int x18, .int w0, .int w1, .int w2, .null], [], τ)) → K (26, [.ref 0, .int x17, .int x18, .int v19, .int v20, .int v21, .null], [], σ22) := by
  intro n
  induction n with
  | zero =>
    intro v19 v20 v21 σ22 h hk
    exact absurd h (by simp [l_X5_bestToBorrow_26])
  | succ n ih =>
    intro v19 v20 v21 σ22 h hk
    unfold l_X5_bestToBorrow_26 at h
    rcases itX_cases h with ⟨c23, h⟩ | ⟨c23, h⟩
    · refine hw 5 _ ?_
      show (((σ22 4 8) ≤ v21) → K (81, [.ref 0, .int x17, .int x18, .int v19, .int v20, .int v21, .null], [], σ22)) ∧ (¬ ((σ22 4 8) ≤ v21) → K (38, [.ref 0, .int x17, .int x18, .int v19, .int v20, .int v21, .null], [], σ22))
      refine ⟨fun _ => ?_, fun q => absurd c23 q⟩
      exact hk v19 v20 v21 σ22 h
    · refine hw 5 _ ?_
      show (((σ22 4 8) ≤ v21) → K (81, [.ref 0, .int x17, .int x18, .int v19, .int v20, .int v21, .null], [], σ22)) ∧ (¬ ((σ22 4 8) ≤ v21) → K (38, [.ref 0, .int x17, .int x18, .int v19, .int v20, .int v21, .null], [], σ22))
      refine ⟨fun q => absurd q c23, fun _ => ?_⟩
      obtain ⟨r24, σ25, e26, h⟩ := bnN_some h
      refine hw 5 _ ?_
      show ∃ r24 σ25, f_X3_canGo v21 x17 σ22 = some (r24, σ25) ∧ K (48, [.ref 0, .int x17, .int x18, .int v19, .int v20, .int v21, .null], [.int r24], σ25)
      refine ⟨r24, σ25, e26, ?_⟩
      rcases itX_cases h with ⟨c27, h⟩ | ⟨c27, h⟩
      · refine hw 1 _ ?_
        show ((r24 = 0) → K (75, [.ref 0, .int x17, .int x18, .int v19, .int v20, .int v21, .null], [], σ25)) ∧ (¬ (r24 = 0) → K (51, [.ref 0, .int x17, .int x18, .int v19, .int v20, .int v21, .null], [], σ25))
        refine ⟨fun _ => ?_, fun q => absurd c27 q⟩
        refine hw 2 _ ?_
        show K (26, [.ref 0, .int x17, .int x18, .int v19, .int v20, .int (v21 + 1), .null], [], σ25)
        exact ih v19 v20 (v21 + 1) σ25 h hk
      · refine hw 1 _ ?_
        show ((r24 = 0) → K (75, [.ref 0, .int x17, .int x18, .int v19, .int v20, .int v21, .null], [], σ25)) ∧ (¬ (r24 = 0) → K (51, [.ref 0, .int x17, .int x18, .int v19, .int v20, .int v21, .null], [], σ25))
        refine ⟨fun q => absurd q c27, fun _ => ?_⟩
        obtain ⟨r28, σ29, e30, h⟩ := bnN_some h
        refine hw 5 _ ?_
        show ∃ r28 σ29, f_X5_countShortWith v21 x17 x18 σ25 = some (r28, σ29) ∧ K (59, [.ref 0, .int x17, .int x18, .int v19, .int v20, .int v21, .null], [.int r28], σ29)
        refine ⟨r28, σ29, e30, ?_⟩
        rcases itX_cases h with ⟨c31, h⟩ | ⟨c31, h⟩
        · refine hw 4 _ ?_
          show ((v20 ≤ r28) → K (75, [.ref 0, .int x17, .int x18, .int v19, .int v20, .int v21, .int r28], [], σ29)) ∧ (¬ (v20 ≤ r28) → K (68, [.ref 0, .int x17, .int x18, .int v19, .int v20, .int v21, .int r28], [], σ29))
          refine ⟨fun _ => ?_, fun q => absurd c31 q⟩
          refine hw 2 _ ?_
          show K (26, [.ref 0, .int x17, .int x18, .int v19, .int v20, .int (v21 + 1), .int r28], [], σ29)
          refine hf _ _ 6 _ _ ?_
          show K (26, [.ref 0, .int x17, .int x18, .int v19, .int v20, .int (v21 + 1), .null], [], σ29)
          exact ih v19 v20 (v21 + 1) σ29 h hk
        · refine hw 4 _ ?_
          show ((v20 ≤ r28) → K (75, [.ref 0, .int x17, .int x18, .int v19, .int v20, .int v21, .int r28], [], σ29)) ∧ (¬ (v20 ≤ r28) → K (68, [.ref 0, .int x17, .int x18, .int v19, .int v20, .int v21, .int r28], [], σ29))
          refine ⟨fun q => absurd q c31, fun _ => ?_⟩
          refine hw 6 _ ?_
          show K (26, [.ref 0, .int x17, .int x18, .int v21, .int r28, .int (v21 + 1), .int r28], [], σ29)
          refine hf _ _ 6 _ _ ?_
          show K (26, [.ref 0, .int x17, .int x18, .int v21, .int r28, .int (v21 + 1), .null], [], σ29)
          exact ih v21 r28 (v21 + 1) σ29 h hk

set_option maxHeartbeats 4000000 in
set_option maxRecDepth 100000 in
theorem s_X5_bestToBorrow : runsX T_X5_bestToBorrow 3 [.ref 0] 7 F_X5_bestToBorrow := by
  intro Qa Xa K hw hf As σ y h hQ hX
  unfold F_X5_bestToBorrow at h
  split at h
  · rename_i p0 p1
    unfold f_X5_bestToBorrow at h
    show K 0 (0, [.ref 0, .int p0, .int p1, .null, .null, .null, .null], [], σ)
    obtain ⟨e1, r2, σ3, q4, h⟩ := bnX_some h
    rcases h with ⟨c5, h⟩ | ⟨c5, h⟩
    · refine (hw 0 (by decide)) 3 _ ?_
      show ∃ e1 r2 σ3, f_X5_checkNumber p0 4 σ = some (e1, r2, σ3) ∧ (e1 = 0 → K 1 (5, [.ref 0, .int p0, .int p1, .null, .null, .null, .null], [], σ3)) ∧ (¬ e1 = 0 → Xa e1 σ3)
      refine ⟨e1, r2, σ3, q4, fun _ => ?_, fun q => absurd c5 q⟩
      obtain ⟨e6, r7, σ8, q9, h⟩ := bnX_some h
      rcases h with ⟨c10, h⟩ | ⟨c10, h⟩
      · refine (hw 1 (by decide)) 3 _ ?_
        show ∃ e6 r7 σ8, f_X5_checkNumber p1 4 σ3 = some (e6, r7, σ8) ∧ (e6 = 0 → K 2 (10, [.ref 0, .int p0, .int p1, .null, .null, .null, .null], [], σ8)) ∧ (¬ e6 = 0 → Xa e6 σ8)
        refine ⟨e6, r7, σ8, q9, fun _ => ?_, fun q => absurd c10 q⟩
        obtain ⟨r11, σ12, e13, h⟩ := bnN_some h
        refine (hw 2 (by decide)) 2 _ ?_
        show ∃ r11 σ12, f_X5_readEnds σ8 = some (r11, σ12) ∧ K 2 (14, [.ref 0, .int p0, .int p1, .null, .null, .null, .null], [], σ12)
        refine ⟨r11, σ12, e13, ?_⟩
        obtain ⟨r14, σ15, e16, h⟩ := bnN_some h
        refine (hw 2 (by decide)) 5 _ ?_
        show ∃ r14 σ15, f_X5_countShort p0 σ12 = some (r14, σ15) ∧ K 2 (21, [.ref 0, .int p0, .int p1, .int ((-1)), .null, .null, .null], [.int r14], σ15)
        refine ⟨r14, σ15, e16, ?_⟩
        refine (hw 2 (by decide)) 3 _ ?_
        show K 2 (26, [.ref 0, .int p0, .int p1, .int ((-1)), .int r14, .int 0, .null], [], σ15)
        refine t_X5_bestToBorrow_26 (hw 2 (by decide)) (hf 2) p0 p1 _ _ lf ((-1)) r14 0 σ15 h (fun v32 v33 v34 σ35 h => ?_)
        show K 2 (81, [.ref 0, .int p0, .int p1, .int v32, .int v33, .int v34, .null], [], σ35)
        obtain rfl := Option.some.inj h
        refine (hw 2 (by decide)) 2 _ ?_
        show Qa v32 σ35
        refine hQ rfl
      · refine (hw 1 (by decide)) 3 _ ?_
        show ∃ e6 r7 σ8, f_X5_checkNumber p1 4 σ3 = some (e6, r7, σ8) ∧ (e6 = 0 → K 2 (10, [.ref 0, .int p0, .int p1, .null, .null, .null, .null], [], σ8)) ∧ (¬ e6 = 0 → Xa e6 σ8)
        refine ⟨e6, r7, σ8, q9, fun q => absurd q c10, fun _ => ?_⟩
        subst h
        exact hX c10
    · refine (hw 0 (by decide)) 3 _ ?_
      show ∃ e1 r2 σ3, f_X5_checkNumber p0 4 σ = some (e1, r2, σ3) ∧ (e1 = 0 → K 1 (5, [.ref 0, .int p0, .int p1, .null, .null, .null, .null], [], σ3)) ∧ (¬ e1 = 0 → Xa e1 σ3)
      refine ⟨e1, r2, σ3, q4, fun q => absurd q c5, fun _ => ?_⟩
      subst h
      exact hX c5
  · cases h
theorem h_X5_bestToBorrow : shpX [.ref 0] 7 F_X5_bestToBorrow := by
  intro As σ y h
  unfold F_X5_bestToBorrow at h
  split at h
  · exact ⟨by simp [Value.category], Nat.le_of_ble_eq_true rfl⟩
  · cases h
set_option maxHeartbeats 4000000 in
set_option maxRecDepth 100000 in
theorem c_X5_bestToBorrow (l : Launch) (hl : l.stackTraces = false) (D : va_G) (cI cZ cA cL : ClassId) (ad sa : Nat → Nat) (hi : adI ad) : CtXi l yX5_bestToBorrow wsX5_bestToBorrow { frames := 7, cells := 3, slots := 18, locals := 122 } 3 D cI cZ cA cL ad sa [.ref 0] F_X5_bestToBorrow := by
  refine mk_Xi (mc := 3) [.ref 0] F_X5_bestToBorrow T_X5_bestToBorrow (by decide +kernel) rfl ?_ h_X5_bestToBorrow s_X5_bestToBorrow
  intro p e s m args below meth c Qa Xa ⟨⟨hx, hb, hml, hown, hts, hr, hlocks, hK, hN⟩, hX, hno⟩ n hn
  have hin5 : ∀ w ∈ u_ws RX5 TX5 8, w ∈ wsX5_bestToBorrow := by decide +kernel
  have hl33 : (Cond.fieldLink RX5 33 RX5 (TX5 3).2.1 (TX5 3).2.2.1) ∈ wsX5_bestToBorrow := by decide +kernel
  have hin3 : ∀ w ∈ u_ws RX3 TX3 9, w ∈ wsX5_bestToBorrow := by decide +kernel
  have hl131 : (Cond.fieldLinkNest RX5 131 RX3 (TX3 8).2.1 (TX3 8).2.2.1 "CueTour") ∈ nwL := by decide +kernel
  refine ruL_c (n := 0) (n2 := 1) rfl (ru_iload_n (k := 1) hx hb dX5_bestToBorrow_0) ?_
  refine ruL_c (n := 1) (n2 := 2) rfl (ru_iconst hx hb dX5_bestToBorrow_1 rfl) ?_
  refine ruL_c (n := 2) (n2 := 3) rfl (ru_callX hx hb hml hown hts hK hN hX hno hlocks (c_X5_checkNumber l hl D cI cZ cA cL ad sa hi) (va_cwS 2 hts gX5_bestToBorrow_X5_checkNumber rfl rfl rfl (by decide +kernel) ⟨Nat.le_of_ble_eq_true rfl, Nat.le_of_ble_eq_true rfl⟩) dX5_bestToBorrow_2 ⟨hn, Nat.mul_le_mul_left 6 hn⟩ ⟨hn, Nat.mul_le_mul_left 6 hn⟩) ?_
  refine ruL_c (n := 3) (n2 := 4) rfl (ru_bot) ?_
  refine ruL_c (n := 4) (n2 := 5) rfl (ru_bot) ?_
  refine ruL_c (n := 5) (n2 := 6) rfl (ru_iload_n (k := 2) hx hb dX5_bestToBorrow_5) ?_
  refine ruL_c (n := 6) (n2 := 7) rfl (ru_iconst hx hb dX5_bestToBorrow_6 rfl) ?_
  refine ruL_c (n := 7) (n2 := 8) rfl (ru_callX hx hb hml hown hts hK hN hX hno hlocks (c_X5_checkNumber l hl D cI cZ cA cL ad sa hi) (va_cwS 2 hts gX5_bestToBorrow_X5_checkNumber rfl rfl rfl (by decide +kernel) ⟨Nat.le_of_ble_eq_true rfl, Nat.le_of_ble_eq_true rfl⟩) dX5_bestToBorrow_7 ⟨hn, Nat.mul_le_mul_left 6 hn⟩ ⟨hn, Nat.mul_le_mul_left 6 hn⟩) ?_
  refine ruL_c (n := 8) (n2 := 9) rfl (ru_bot) ?_
  refine ruL_c (n := 9) (n2 := 10) rfl (ru_bot) ?_
  refine ruL_c (n := 10) (n2 := 11) rfl (ru_aload_n (k := 0) hx hb dX5_bestToBorrow_10) ?_
  refine ruL_c (n := 11) (n2 := 12) rfl (ru_callVv hx hb hml hown hts hK hN (by decide) rfl (c_X5_readEnds l D cI cZ cA cL ad hi) (cwV 0 hts gX5_bestToBorrow_X5_readEnds rfl rfl rfl (by decide +kernel) ⟨Nat.le_of_ble_eq_true rfl, Nat.le_of_ble_eq_true rfl⟩) dX5_bestToBorrow_11 ⟨Nat.le_of_lt hn, Nat.mul_le_mul_left 6 (Nat.le_of_lt hn)⟩) ?_
  refine ruL_c (n := 12) (n2 := 13) rfl (ru_bot) ?_
  refine ruL_c (n := 13) (n2 := 14) rfl (ru_bot) ?_
  refine ruL_c (n := 14) (n2 := 15) rfl (ru_iconst hx hb dX5_bestToBorrow_14 rfl) ?_
  refine ruL_c (n := 15) (n2 := 16) rfl (ru_istore_n (k := 3) hx hb dX5_bestToBorrow_15) ?_
  refine ruL_c (n := 16) (n2 := 17) rfl (ru_aload_n (k := 0) hx hb dX5_bestToBorrow_16) ?_
  refine ruL_c (n := 17) (n2 := 18) rfl (ru_iload_n (k := 1) hx hb dX5_bestToBorrow_17) ?_
  refine ruL_c (n := 18) (n2 := 19) rfl (ru_callV hx hb hml hown hts hK hN (by decide) rfl (c_X5_countShort l D cI cZ cA cL ad hi) (cwV 1 hts gX5_bestToBorrow_X5_countShort rfl rfl rfl (by decide +kernel) ⟨Nat.le_of_ble_eq_true rfl, Nat.le_of_ble_eq_true rfl⟩) dX5_bestToBorrow_18 ⟨Nat.le_of_lt hn, Nat.mul_le_mul_left 6 (Nat.le_of_lt hn)⟩) ?_
  refine ruL_c (n := 19) (n2 := 20) rfl (ru_bot) ?_
  refine ruL_c (n := 20) (n2 := 21) rfl (ru_bot) ?_
  refine ruL_c (n := 21) (n2 := 22) rfl (ru_istore hx hb dX5_bestToBorrow_21) ?_
  refine ruL_c (n := 22) (n2 := 23) rfl (ru_bot) ?_
  refine ruL_c (n := 23) (n2 := 24) rfl (ru_iconst hx hb dX5_bestToBorrow_23 rfl) ?_
  refine ruL_c (n := 24) (n2 := 25) rfl (ru_istore hx hb dX5_bestToBorrow_24) ?_
  refine ruL_c (n := 25) (n2 := 26) rfl (ru_bot) ?_
  refine ruL_c (n := 26) (n2 := 27) rfl (ru_iload hx hb dX5_bestToBorrow_26) ?_
  refine ruL_c (n := 27) (n2 := 28) rfl (ru_bot) ?_
  refine ruL_c (n := 28) (n2 := 29) rfl (ru_aload_n (k := 0) hx hb dX5_bestToBorrow_28) ?_
  refine ruL_c (n := 29) (n2 := 30) rfl (ru_getR (own := RX5) (j := 3) (T := TX5) hx hb hown hK hts hin5 (by decide) rfl rfl (by decide) rfl hl33 dX5_bestToBorrow_29) ?_
  refine ruL_c (n := 30) (n2 := 31) rfl (ru_bot) ?_
  refine ruL_c (n := 31) (n2 := 32) rfl (ru_bot) ?_
  refine ruL_c (n := 32) (n2 := 33) rfl (ru_getIN (own := RX5) (j := 8) (T := TX3) hx hb hown hK hN hts hin3 (by decide) rfl rfl (by decide) rfl hl131 dX5_bestToBorrow_32) ?_
  refine ruL_c (n := 33) (n2 := 34) rfl (ru_bot) ?_
  refine ruL_c (n := 34) (n2 := 35) rfl (ru_bot) ?_
  refine ruL_c (n := 35) (n2 := 36) rfl (ru_icmpge hx hb dX5_bestToBorrow_35 (by decide)) ?_
  refine ruL_c (n := 36) (n2 := 37) rfl (ru_bot) ?_
  refine ruL_c (n := 37) (n2 := 38) rfl (ru_bot) ?_
  refine ruL_c (n := 38) (n2 := 39) rfl (ru_aload_n (k := 0) hx hb dX5_bestToBorrow_38) ?_
  refine ruL_c (n := 39) (n2 := 40) rfl (ru_getR (own := RX5) (j := 3) (T := TX5) hx hb hown hK hts hin5 (by decide) rfl rfl (by decide) rfl hl33 dX5_bestToBorrow_39) ?_
  refine ruL_c (n := 40) (n2 := 41) rfl (ru_bot) ?_
  refine ruL_c (n := 41) (n2 := 42) rfl (ru_bot) ?_
  refine ruL_c (n := 42) (n2 := 43) rfl (ru_iload hx hb dX5_bestToBorrow_42) ?_
  refine ruL_c (n := 43) (n2 := 44) rfl (ru_bot) ?_
  refine ruL_c (n := 44) (n2 := 45) rfl (ru_iload_n (k := 1) hx hb dX5_bestToBorrow_44) ?_
  refine ruL_c (n := 45) (n2 := 46) rfl (ru_callV hx hb hml hown hts hK hN (by decide) rfl (c_X3_canGo l D cI cZ cA cL ad hi) (cwV 2 hts gX5_bestToBorrow_X3_canGo rfl rfl rfl (by decide +kernel) ⟨Nat.le_of_ble_eq_true rfl, Nat.le_of_ble_eq_true rfl⟩) dX5_bestToBorrow_45 ⟨Nat.le_of_lt hn, Nat.mul_le_mul_left 6 (Nat.le_of_lt hn)⟩) ?_
  refine ruL_c (n := 46) (n2 := 47) rfl (ru_bot) ?_
  refine ruL_c (n := 47) (n2 := 48) rfl (ru_bot) ?_
  refine ruL_c (n := 48) (n2 := 49) rfl (ru_ifeq hx hb dX5_bestToBorrow_48 (by decide)) ?_
  refine ruL_c (n := 49) (n2 := 50) rfl (ru_bot) ?_
  refine ruL_c (n := 50) (n2 := 51) rfl (ru_bot) ?_
  refine ruL_c (n := 51) (n2 := 52) rfl (ru_aload_n (k := 0) hx hb dX5_bestToBorrow_51) ?_
  refine ruL_c (n := 52) (n2 := 53) rfl (ru_iload hx hb dX5_bestToBorrow_52) ?_
  refine ruL_c (n := 53) (n2 := 54) rfl (ru_bot) ?_
  refine ruL_c (n := 54) (n2 := 55) rfl (ru_iload_n (k := 1) hx hb dX5_bestToBorrow_54) ?_
  refine ruL_c (n := 55) (n2 := 56) rfl (ru_iload_n (k := 2) hx hb dX5_bestToBorrow_55) ?_
  refine ruL_c (n := 56) (n2 := 57) rfl (ru_callV hx hb hml hown hts hK hN (by decide) rfl (c_X5_countShortWith l D cI cZ cA cL ad hi) (cwV 3 hts gX5_bestToBorrow_X5_countShortWith rfl rfl rfl (by decide +kernel) ⟨Nat.le_of_ble_eq_true rfl, Nat.le_of_ble_eq_true rfl⟩) dX5_bestToBorrow_56 ⟨Nat.le_of_lt hn, Nat.mul_le_mul_left 6 (Nat.le_of_lt hn)⟩) ?_
  refine ruL_c (n := 57) (n2 := 58) rfl (ru_bot) ?_
  refine ruL_c (n := 58) (n2 := 59) rfl (ru_bot) ?_
  refine ruL_c (n := 59) (n2 := 60) rfl (ru_istore hx hb dX5_bestToBorrow_59) ?_
  refine ruL_c (n := 60) (n2 := 61) rfl (ru_bot) ?_
  refine ruL_c (n := 61) (n2 := 62) rfl (ru_iload hx hb dX5_bestToBorrow_61) ?_
  refine ruL_c (n := 62) (n2 := 63) rfl (ru_bot) ?_
  refine ruL_c (n := 63) (n2 := 64) rfl (ru_iload hx hb dX5_bestToBorrow_63) ?_
  refine ruL_c (n := 64) (n2 := 65) rfl (ru_bot) ?_
  refine ruL_c (n := 65) (n2 := 66) rfl (ru_icmpge hx hb dX5_bestToBorrow_65 (by decide)) ?_
  refine ruL_c (n := 66) (n2 := 67) rfl (ru_bot) ?_
  refine ruL_c (n := 67) (n2 := 68) rfl (ru_bot) ?_
  refine ruL_c (n := 68) (n2 := 69) rfl (ru_iload hx hb dX5_bestToBorrow_68) ?_
  refine ruL_c (n := 69) (n2 := 70) rfl (ru_bot) ?_
  refine ruL_c (n := 70) (n2 := 71) rfl (ru_istore_n (k := 3) hx hb dX5_bestToBorrow_70) ?_
  refine ruL_c (n := 71) (n2 := 72) rfl (ru_iload hx hb dX5_bestToBorrow_71) ?_
  refine ruL_c (n := 72) (n2 := 73) rfl (ru_bot) ?_
  refine ruL_c (n := 73) (n2 := 74) rfl (ru_istore hx hb dX5_bestToBorrow_73) ?_
  refine ruL_c (n := 74) (n2 := 75) rfl (ru_bot) ?_
  refine ruL_c (n := 75) (n2 := 76) rfl (ru_iinc hx hb dX5_bestToBorrow_75 rfl) ?_
  refine ruL_c (n := 76) (n2 := 77) rfl (ru_bot) ?_
  refine ruL_c (n := 77) (n2 := 78) rfl (ru_bot) ?_
  refine ruL_c (n := 78) (n2 := 79) rfl (ru_goto hx hb dX5_bestToBorrow_78 (by decide)) ?_
  refine ruL_c (n := 79) (n2 := 80) rfl (ru_bot) ?_
  refine ruL_c (n := 80) (n2 := 81) rfl (ru_bot) ?_
  refine ruL_c (n := 81) (n2 := 82) rfl (ru_iload_n (k := 3) hx hb dX5_bestToBorrow_81) ?_
  refine ruL_c (n := 82) (n2 := 83) rfl (ru_iretX hx hb hK hr hlocks dX5_bestToBorrow_82 ⟨Nat.le_of_lt hn, Nat.mul_le_mul_left 6 (Nat.le_of_lt hn)⟩) ?_
  exact trivial

-- CueTour.perform
def f_X5_perform (p0 : Int32) (σ : aM) : Option (Nat × Int32 × aM) := bnX (f_X5_checkNumber p0 4 σ) (fun σ3 => bnN (f_X4_total σ3) (fun r6 σ7 => if r6 ≤ 0 then bnX (f_X5_checkState 0 σ7) (fun σ12 => bnX (f_X5_checkRoom (σ12 5 2) 20 σ12) (fun σ17 => bnN (f_X5_readEnds σ17) (fun r20 σ21 => bnN (f_X5_countShort p0 σ21) (fun r23 σ24 => bnN (f_X5_writeLog p0 σ24) (fun r26 σ27 => bnN (f_X5_wearOut p0 σ27) (fun r29 σ30 => some (0, r23, σ30))))))) else bnX (f_X5_checkState 1 σ7) (fun σ34 => bnX (f_X5_checkRoom (σ34 5 2) 20 σ34) (fun σ39 => bnN (f_X5_readEnds σ39) (fun r42 σ43 => bnN (f_X5_countShort p0 σ43) (fun r45 σ46 => bnN (f_X5_writeLog p0 σ46) (fun r48 σ49 => bnN (f_X5_wearOut p0 σ49) (fun r51 σ52 => some (0, r45, σ52)))))))))
def F_X5_perform : aFx := fun As σ => match As with
  | [.int p0] => f_X5_perform p0 σ
  | _ => none
def T_X5_perform : aTx := fun Qa Xa KN => [I_iload 1 1, I_const 4 1, I_callX 2 F_X5_checkNumber KN Xa, I_bot, I_bot, I_aload 0 1, I_getR 0 1, I_bot, I_bot, I_callV 1 0 F_X4_total, I_bot, I_bot, I_if (fun x => x ≤ 0) 19, I_bot, I_bot, I_const 1 1, I_goto 20, I_bot, I_bot, I_const 0 1, I_callX 1 F_X5_checkState KN Xa, I_bot, I_bot, I_aload 0 1, I_getR 0 5, I_bot, I_bot, I_getI 5 2, I_bot, I_bot, I_const (20) 2, I_bot, I_callX 2 F_X5_checkRoom KN Xa, I_bot, I_bot, I_aload 0 1, I_callVv 0 0 F_X5_readEnds, I_bot, I_bot, I_aload 0 1, I_iload 1 1, I_callV 0 1 F_X5_countShort, I_bot, I_bot, I_istore 2 1, I_aload 0 1, I_iload 1 1, I_callVv 0 1 F_X5_writeLog, I_bot, I_bot, I_aload 0 1, I_iload 1 1, I_callVv 0 1 F_X5_wearOut, I_bot, I_bot, I_iload 2 1, I_iret Qa]
set_option maxHeartbeats 4000000 in
set_option maxRecDepth 100000 in
theorem s_X5_perform : runsX T_X5_perform 4 [.ref 0] 3 F_X5_perform := by
  intro Qa Xa K hw hf As σ y h hQ hX
  unfold F_X5_perform at h
  split at h
  · rename_i p0
    unfold f_X5_perform at h
    show K 0 (0, [.ref 0, .int p0, .null], [], σ)
    obtain ⟨e1, r2, σ3, q4, h⟩ := bnX_some h
    rcases h with ⟨c5, h⟩ | ⟨c5, h⟩
    · refine (hw 0 (by decide)) 3 _ ?_
      show ∃ e1 r2 σ3, f_X5_checkNumber p0 4 σ = some (e1, r2, σ3) ∧ (e1 = 0 → K 1 (5, [.ref 0, .int p0, .null], [], σ3)) ∧ (¬ e1 = 0 → Xa e1 σ3)
      refine ⟨e1, r2, σ3, q4, fun _ => ?_, fun q => absurd c5 q⟩
      obtain ⟨r6, σ7, e8, h⟩ := bnN_some h
      refine (hw 1 (by decide)) 3 _ ?_
      show ∃ r6 σ7, f_X4_total σ3 = some (r6, σ7) ∧ K 1 (12, [.ref 0, .int p0, .null], [.int r6], σ7)
      refine ⟨r6, σ7, e8, ?_⟩
      rcases itX_cases h with ⟨c9, h⟩ | ⟨c9, h⟩
      · refine (hw 1 (by decide)) 1 _ ?_
        show ((r6 ≤ 0) → K 1 (19, [.ref 0, .int p0, .null], [], σ7)) ∧ (¬ (r6 ≤ 0) → K 1 (15, [.ref 0, .int p0, .null], [], σ7))
        refine ⟨fun _ => ?_, fun q => absurd c9 q⟩
        obtain ⟨e10, r11, σ12, q13, h⟩ := bnX_some h
        rcases h with ⟨c14, h⟩ | ⟨c14, h⟩
        · refine (hw 1 (by decide)) 2 _ ?_
          show ∃ e10 r11 σ12, f_X5_checkState 0 σ7 = some (e10, r11, σ12) ∧ (e10 = 0 → K 2 (23, [.ref 0, .int p0, .null], [], σ12)) ∧ (¬ e10 = 0 → Xa e10 σ12)
          refine ⟨e10, r11, σ12, q13, fun _ => ?_, fun q => absurd c14 q⟩
          obtain ⟨e15, r16, σ17, q18, h⟩ := bnX_some h
          rcases h with ⟨c19, h⟩ | ⟨c19, h⟩
          · refine (hw 2 (by decide)) 5 _ ?_
            show ∃ e15 r16 σ17, f_X5_checkRoom (σ12 5 2) 20 σ12 = some (e15, r16, σ17) ∧ (e15 = 0 → K 3 (35, [.ref 0, .int p0, .null], [], σ17)) ∧ (¬ e15 = 0 → Xa e15 σ17)
            refine ⟨e15, r16, σ17, q18, fun _ => ?_, fun q => absurd c19 q⟩
            obtain ⟨r20, σ21, e22, h⟩ := bnN_some h
            refine (hw 3 (by decide)) 2 _ ?_
            show ∃ r20 σ21, f_X5_readEnds σ17 = some (r20, σ21) ∧ K 3 (39, [.ref 0, .int p0, .null], [], σ21)
            refine ⟨r20, σ21, e22, ?_⟩
            obtain ⟨r23, σ24, e25, h⟩ := bnN_some h
            refine (hw 3 (by decide)) 3 _ ?_
            show ∃ r23 σ24, f_X5_countShort p0 σ21 = some (r23, σ24) ∧ K 3 (44, [.ref 0, .int p0, .null], [.int r23], σ24)
            refine ⟨r23, σ24, e25, ?_⟩
            obtain ⟨r26, σ27, e28, h⟩ := bnN_some h
            refine (hw 3 (by decide)) 4 _ ?_
            show ∃ r26 σ27, f_X5_writeLog p0 σ24 = some (r26, σ27) ∧ K 3 (50, [.ref 0, .int p0, .int r23], [], σ27)
            refine ⟨r26, σ27, e28, ?_⟩
            obtain ⟨r29, σ30, e31, h⟩ := bnN_some h
            refine (hw 3 (by decide)) 3 _ ?_
            show ∃ r29 σ30, f_X5_wearOut p0 σ27 = some (r29, σ30) ∧ K 3 (55, [.ref 0, .int p0, .int r23], [], σ30)
            refine ⟨r29, σ30, e31, ?_⟩
            obtain rfl := Option.some.inj h
            refine (hw 3 (by decide)) 2 _ ?_
            show Qa r23 σ30
            refine hQ rfl
          · refine (hw 2 (by decide)) 5 _ ?_
            show ∃ e15 r16 σ17, f_X5_checkRoom (σ12 5 2) 20 σ12 = some (e15, r16, σ17) ∧ (e15 = 0 → K 3 (35, [.ref 0, .int p0, .null], [], σ17)) ∧ (¬ e15 = 0 → Xa e15 σ17)
            refine ⟨e15, r16, σ17, q18, fun q => absurd q c19, fun _ => ?_⟩
            subst h
            exact hX c19
        · refine (hw 1 (by decide)) 2 _ ?_
          show ∃ e10 r11 σ12, f_X5_checkState 0 σ7 = some (e10, r11, σ12) ∧ (e10 = 0 → K 2 (23, [.ref 0, .int p0, .null], [], σ12)) ∧ (¬ e10 = 0 → Xa e10 σ12)
          refine ⟨e10, r11, σ12, q13, fun q => absurd q c14, fun _ => ?_⟩
          subst h
          exact hX c14
      · refine (hw 1 (by decide)) 1 _ ?_
        show ((r6 ≤ 0) → K 1 (19, [.ref 0, .int p0, .null], [], σ7)) ∧ (¬ (r6 ≤ 0) → K 1 (15, [.ref 0, .int p0, .null], [], σ7))
        refine ⟨fun q => absurd q c9, fun _ => ?_⟩
        obtain ⟨e32, r33, σ34, q35, h⟩ := bnX_some h
        rcases h with ⟨c36, h⟩ | ⟨c36, h⟩
        · refine (hw 1 (by decide)) 3 _ ?_
          show ∃ e32 r33 σ34, f_X5_checkState 1 σ7 = some (e32, r33, σ34) ∧ (e32 = 0 → K 2 (23, [.ref 0, .int p0, .null], [], σ34)) ∧ (¬ e32 = 0 → Xa e32 σ34)
          refine ⟨e32, r33, σ34, q35, fun _ => ?_, fun q => absurd c36 q⟩
          obtain ⟨e37, r38, σ39, q40, h⟩ := bnX_some h
          rcases h with ⟨c41, h⟩ | ⟨c41, h⟩
          · refine (hw 2 (by decide)) 5 _ ?_
            show ∃ e37 r38 σ39, f_X5_checkRoom (σ34 5 2) 20 σ34 = some (e37, r38, σ39) ∧ (e37 = 0 → K 3 (35, [.ref 0, .int p0, .null], [], σ39)) ∧ (¬ e37 = 0 → Xa e37 σ39)
            refine ⟨e37, r38, σ39, q40, fun _ => ?_, fun q => absurd c41 q⟩
            obtain ⟨r42, σ43, e44, h⟩ := bnN_some h
            refine (hw 3 (by decide)) 2 _ ?_
            show ∃ r42 σ43, f_X5_readEnds σ39 = some (r42, σ43) ∧ K 3 (39, [.ref 0, .int p0, .null], [], σ43)
            refine ⟨r42, σ43, e44, ?_⟩
            obtain ⟨r45, σ46, e47, h⟩ := bnN_some h
            refine (hw 3 (by decide)) 3 _ ?_
            show ∃ r45 σ46, f_X5_countShort p0 σ43 = some (r45, σ46) ∧ K 3 (44, [.ref 0, .int p0, .null], [.int r45], σ46)
            refine ⟨r45, σ46, e47, ?_⟩
            obtain ⟨r48, σ49, e50, h⟩ := bnN_some h
            refine (hw 3 (by decide)) 4 _ ?_
            show ∃ r48 σ49, f_X5_writeLog p0 σ46 = some (r48, σ49) ∧ K 3 (50, [.ref 0, .int p0, .int r45], [], σ49)
            refine ⟨r48, σ49, e50, ?_⟩
            obtain ⟨r51, σ52, e53, h⟩ := bnN_some h
            refine (hw 3 (by decide)) 3 _ ?_
            show ∃ r51 σ52, f_X5_wearOut p0 σ49 = some (r51, σ52) ∧ K 3 (55, [.ref 0, .int p0, .int r45], [], σ52)
            refine ⟨r51, σ52, e53, ?_⟩
            obtain rfl := Option.some.inj h
            refine (hw 3 (by decide)) 2 _ ?_
            show Qa r45 σ52
            refine hQ rfl
          · refine (hw 2 (by decide)) 5 _ ?_
            show ∃ e37 r38 σ39, f_X5_checkRoom (σ34 5 2) 20 σ34 = some (e37, r38, σ39) ∧ (e37 = 0 → K 3 (35, [.ref 0, .int p0, .null], [], σ39)) ∧ (¬ e37 = 0 → Xa e37 σ39)
            refine ⟨e37, r38, σ39, q40, fun q => absurd q c41, fun _ => ?_⟩
            subst h
            exact hX c41
        · refine (hw 1 (by decide)) 3 _ ?_
          show ∃ e32 r33 σ34, f_X5_checkState 1 σ7 = some (e32, r33, σ34) ∧ (e32 = 0 → K 2 (23, [.ref 0, .int p0, .null], [], σ34)) ∧ (¬ e32 = 0 → Xa e32 σ34)
          refine ⟨e32, r33, σ34, q35, fun q => absurd q c36, fun _ => ?_⟩
          subst h
          exact hX c36
    · refine (hw 0 (by decide)) 3 _ ?_
      show ∃ e1 r2 σ3, f_X5_checkNumber p0 4 σ = some (e1, r2, σ3) ∧ (e1 = 0 → K 1 (5, [.ref 0, .int p0, .null], [], σ3)) ∧ (¬ e1 = 0 → Xa e1 σ3)
      refine ⟨e1, r2, σ3, q4, fun q => absurd q c5, fun _ => ?_⟩
      subst h
      exact hX c5
  · cases h
theorem h_X5_perform : shpX [.ref 0] 3 F_X5_perform := by
  intro As σ y h
  unfold F_X5_perform at h
  split at h
  · exact ⟨by simp [Value.category], Nat.le_of_ble_eq_true rfl⟩
  · cases h
set_option maxHeartbeats 4000000 in
set_option maxRecDepth 100000 in
theorem c_X5_perform (l : Launch) (hl : l.stackTraces = false) (D : va_G) (cI cZ cA cL : ClassId) (ad sa : Nat → Nat) (hi : adI ad) : CtXi l yX5_perform wsX5_perform { frames := 7, cells := 4, slots := 24, locals := 116 } 4 D cI cZ cA cL ad sa [.ref 0] F_X5_perform := by
  refine mk_Xi (mc := 4) [.ref 0] F_X5_perform T_X5_perform (by decide +kernel) rfl ?_ h_X5_perform s_X5_perform
  intro p e s m args below meth c Qa Xa ⟨⟨hx, hb, hml, hown, hts, hr, hlocks, hK, hN⟩, hX, hno⟩ n hn
  have hin5 : ∀ w ∈ u_ws RX5 TX5 8, w ∈ wsX5_perform := by decide +kernel
  have hl10 : (Cond.fieldLink RX5 10 RX5 (TX5 0).2.1 (TX5 0).2.2.1) ∈ wsX5_perform := by decide +kernel
  have hl40 : (Cond.fieldLink RX5 40 RX5 (TX5 4).2.1 (TX5 4).2.2.1) ∈ wsX5_perform := by decide +kernel
  have hin0 : ∀ w ∈ u_ws RX0 TX0 3, w ∈ wsX5_perform := by decide +kernel
  have hl198 : (Cond.fieldLinkNest RX5 198 RX0 (TX0 2).2.1 (TX0 2).2.2.1 "CueTour") ∈ nwL := by decide +kernel
  refine ruL_c (n := 0) (n2 := 1) rfl (ru_iload_n (k := 1) hx hb dX5_perform_0) ?_
  refine ruL_c (n := 1) (n2 := 2) rfl (ru_iconst hx hb dX5_perform_1 rfl) ?_
  refine ruL_c (n := 2) (n2 := 3) rfl (ru_callX hx hb hml hown hts hK hN hX hno hlocks (c_X5_checkNumber l hl D cI cZ cA cL ad sa hi) (va_cwS 2 hts gX5_perform_X5_checkNumber rfl rfl rfl (by decide +kernel) ⟨Nat.le_of_ble_eq_true rfl, Nat.le_of_ble_eq_true rfl⟩) dX5_perform_2 ⟨hn, Nat.mul_le_mul_left 6 hn⟩ ⟨hn, Nat.mul_le_mul_left 6 hn⟩) ?_
  refine ruL_c (n := 3) (n2 := 4) rfl (ru_bot) ?_
  refine ruL_c (n := 4) (n2 := 5) rfl (ru_bot) ?_
  refine ruL_c (n := 5) (n2 := 6) rfl (ru_aload_n (k := 0) hx hb dX5_perform_5) ?_
  refine ruL_c (n := 6) (n2 := 7) rfl (ru_getR (own := RX5) (j := 0) (T := TX5) hx hb hown hK hts hin5 (by decide) rfl rfl (by decide) rfl hl10 dX5_perform_6) ?_
  refine ruL_c (n := 7) (n2 := 8) rfl (ru_bot) ?_
  refine ruL_c (n := 8) (n2 := 9) rfl (ru_bot) ?_
  refine ruL_c (n := 9) (n2 := 10) rfl (ru_callV hx hb hml hown hts hK hN (by decide) rfl (c_X4_total l D cI cZ cA cL ad hi) (cwV 0 hts gX5_perform_X4_total rfl rfl rfl (by decide +kernel) ⟨Nat.le_of_ble_eq_true rfl, Nat.le_of_ble_eq_true rfl⟩) dX5_perform_9 ⟨Nat.le_of_lt hn, Nat.mul_le_mul_left 6 (Nat.le_of_lt hn)⟩) ?_
  refine ruL_c (n := 10) (n2 := 11) rfl (ru_bot) ?_
  refine ruL_c (n := 11) (n2 := 12) rfl (ru_bot) ?_
  refine ruL_c (n := 12) (n2 := 13) rfl (ru_ifle hx hb dX5_perform_12 (by decide)) ?_
  refine ruL_c (n := 13) (n2 := 14) rfl (ru_bot) ?_
  refine ruL_c (n := 14) (n2 := 15) rfl (ru_bot) ?_
  refine ruL_c (n := 15) (n2 := 16) rfl (ru_iconst hx hb dX5_perform_15 rfl) ?_
  refine ruL_c (n := 16) (n2 := 17) rfl (ru_goto hx hb dX5_perform_16 (by decide)) ?_
  refine ruL_c (n := 17) (n2 := 18) rfl (ru_bot) ?_
  refine ruL_c (n := 18) (n2 := 19) rfl (ru_bot) ?_
  refine ruL_c (n := 19) (n2 := 20) rfl (ru_iconst hx hb dX5_perform_19 rfl) ?_
  refine ruL_c (n := 20) (n2 := 21) rfl (ru_callX hx hb hml hown hts hK hN hX hno hlocks (c_X5_checkState l hl D cI cZ cA cL ad sa hi) (va_cwS 1 hts gX5_perform_X5_checkState rfl rfl rfl (by decide +kernel) ⟨Nat.le_of_ble_eq_true rfl, Nat.le_of_ble_eq_true rfl⟩) dX5_perform_20 ⟨hn, Nat.mul_le_mul_left 6 hn⟩ ⟨hn, Nat.mul_le_mul_left 6 hn⟩) ?_
  refine ruL_c (n := 21) (n2 := 22) rfl (ru_bot) ?_
  refine ruL_c (n := 22) (n2 := 23) rfl (ru_bot) ?_
  refine ruL_c (n := 23) (n2 := 24) rfl (ru_aload_n (k := 0) hx hb dX5_perform_23) ?_
  refine ruL_c (n := 24) (n2 := 25) rfl (ru_getR (own := RX5) (j := 4) (T := TX5) hx hb hown hK hts hin5 (by decide) rfl rfl (by decide) rfl hl40 dX5_perform_24) ?_
  refine ruL_c (n := 25) (n2 := 26) rfl (ru_bot) ?_
  refine ruL_c (n := 26) (n2 := 27) rfl (ru_bot) ?_
  refine ruL_c (n := 27) (n2 := 28) rfl (ru_getIN (own := RX5) (j := 2) (T := TX0) hx hb hown hK hN hts hin0 (by decide) rfl rfl (by decide) rfl hl198 dX5_perform_27) ?_
  refine ruL_c (n := 28) (n2 := 29) rfl (ru_bot) ?_
  refine ruL_c (n := 29) (n2 := 30) rfl (ru_bot) ?_
  refine ruL_c (n := 30) (n2 := 31) rfl (ru_bipush hx hb dX5_perform_30 rfl) ?_
  refine ruL_c (n := 31) (n2 := 32) rfl (ru_bot) ?_
  refine ruL_c (n := 32) (n2 := 33) rfl (ru_callX hx hb hml hown hts hK hN hX hno hlocks (c_X5_checkRoom l hl D cI cZ cA cL ad sa hi) (va_cwS 2 hts gX5_perform_X5_checkRoom rfl rfl rfl (by decide +kernel) ⟨Nat.le_of_ble_eq_true rfl, Nat.le_of_ble_eq_true rfl⟩) dX5_perform_32 ⟨hn, Nat.mul_le_mul_left 6 hn⟩ ⟨hn, Nat.mul_le_mul_left 6 hn⟩) ?_
  refine ruL_c (n := 33) (n2 := 34) rfl (ru_bot) ?_
  refine ruL_c (n := 34) (n2 := 35) rfl (ru_bot) ?_
  refine ruL_c (n := 35) (n2 := 36) rfl (ru_aload_n (k := 0) hx hb dX5_perform_35) ?_
  refine ruL_c (n := 36) (n2 := 37) rfl (ru_callVv hx hb hml hown hts hK hN (by decide) rfl (c_X5_readEnds l D cI cZ cA cL ad hi) (cwV 0 hts gX5_perform_X5_readEnds rfl rfl rfl (by decide +kernel) ⟨Nat.le_of_ble_eq_true rfl, Nat.le_of_ble_eq_true rfl⟩) dX5_perform_36 ⟨Nat.le_of_lt hn, Nat.mul_le_mul_left 6 (Nat.le_of_lt hn)⟩) ?_
  refine ruL_c (n := 37) (n2 := 38) rfl (ru_bot) ?_
  refine ruL_c (n := 38) (n2 := 39) rfl (ru_bot) ?_
  refine ruL_c (n := 39) (n2 := 40) rfl (ru_aload_n (k := 0) hx hb dX5_perform_39) ?_
  refine ruL_c (n := 40) (n2 := 41) rfl (ru_iload_n (k := 1) hx hb dX5_perform_40) ?_
  refine ruL_c (n := 41) (n2 := 42) rfl (ru_callV hx hb hml hown hts hK hN (by decide) rfl (c_X5_countShort l D cI cZ cA cL ad hi) (cwV 1 hts gX5_perform_X5_countShort rfl rfl rfl (by decide +kernel) ⟨Nat.le_of_ble_eq_true rfl, Nat.le_of_ble_eq_true rfl⟩) dX5_perform_41 ⟨Nat.le_of_lt hn, Nat.mul_le_mul_left 6 (Nat.le_of_lt hn)⟩) ?_
  refine ruL_c (n := 42) (n2 := 43) rfl (ru_bot) ?_
  refine ruL_c (n := 43) (n2 := 44) rfl (ru_bot) ?_
  refine ruL_c (n := 44) (n2 := 45) rfl (ru_istore_n (k := 2) hx hb dX5_perform_44) ?_
  refine ruL_c (n := 45) (n2 := 46) rfl (ru_aload_n (k := 0) hx hb dX5_perform_45) ?_
  refine ruL_c (n := 46) (n2 := 47) rfl (ru_iload_n (k := 1) hx hb dX5_perform_46) ?_
  refine ruL_c (n := 47) (n2 := 48) rfl (ru_callVv hx hb hml hown hts hK hN (by decide) rfl (c_X5_writeLog l D cI cZ cA cL ad hi) (cwV 1 hts gX5_perform_X5_writeLog rfl rfl rfl (by decide +kernel) ⟨Nat.le_of_ble_eq_true rfl, Nat.le_of_ble_eq_true rfl⟩) dX5_perform_47 ⟨Nat.le_of_lt hn, Nat.mul_le_mul_left 6 (Nat.le_of_lt hn)⟩) ?_
  refine ruL_c (n := 48) (n2 := 49) rfl (ru_bot) ?_
  refine ruL_c (n := 49) (n2 := 50) rfl (ru_bot) ?_
  refine ruL_c (n := 50) (n2 := 51) rfl (ru_aload_n (k := 0) hx hb dX5_perform_50) ?_
  refine ruL_c (n := 51) (n2 := 52) rfl (ru_iload_n (k := 1) hx hb dX5_perform_51) ?_
  refine ruL_c (n := 52) (n2 := 53) rfl (ru_callVv hx hb hml hown hts hK hN (by decide) rfl (c_X5_wearOut l D cI cZ cA cL ad hi) (cwV 1 hts gX5_perform_X5_wearOut rfl rfl rfl (by decide +kernel) ⟨Nat.le_of_ble_eq_true rfl, Nat.le_of_ble_eq_true rfl⟩) dX5_perform_52 ⟨Nat.le_of_lt hn, Nat.mul_le_mul_left 6 (Nat.le_of_lt hn)⟩) ?_
  refine ruL_c (n := 53) (n2 := 54) rfl (ru_bot) ?_
  refine ruL_c (n := 54) (n2 := 55) rfl (ru_bot) ?_
  refine ruL_c (n := 55) (n2 := 56) rfl (ru_iload_n (k := 2) hx hb dX5_perform_55) ?_
  refine ruL_c (n := 56) (n2 := 57) rfl (ru_iretX hx hb hK hr hlocks dX5_perform_56 ⟨Nat.le_of_lt hn, Nat.mul_le_mul_left 6 (Nat.le_of_lt hn)⟩) ?_
  exact trivial

-- CueTour.logs
def f_X5_logs (σ : aM) : Option (Int32 × aM) := some (σ 5 2, σ)
def F_X5_logs : aF := fun As σ => match As with
  | [] => f_X5_logs σ
  | _ => none
def T_X5_logs (Qa : Int32 → aM → Prop) : List aI := [I_aload 0 1, I_getR 0 5, I_bot, I_bot, I_getI 5 2, I_bot, I_bot, I_iret Qa]
set_option maxHeartbeats 4000000 in
set_option maxRecDepth 100000 in
theorem s_X5_logs : runs T_X5_logs [.ref 0] 1 F_X5_logs := by
  intro Qa K hw hf As σ r σ' h hQ
  unfold F_X5_logs at h
  split at h
  · unfold f_X5_logs at h
    have hQ : Qa (r, σ').1 (r, σ').2 := hQ
    generalize (r, σ') = y at h hQ
    show K (0, [.ref 0], [], σ)
    obtain rfl := Option.some.inj h
    refine hw 4 _ ?_
    show Qa (σ 5 2) σ
    refine hQ
  · cases h
theorem h_X5_logs : shp [.ref 0] 1 F_X5_logs := by
  intro As σ r σ' h
  unfold F_X5_logs at h
  split at h
  · exact ⟨by simp [Value.category], Nat.le_of_ble_eq_true rfl⟩
  · cases h
set_option maxHeartbeats 4000000 in
set_option maxRecDepth 100000 in
theorem c_X5_logs (l : Launch) (D : va_G) (cI cZ cA cL : ClassId) (ad : Nat → Nat) (hi : adI ad) : CtI l yX5_logs wsX5_logs { frames := 0, cells := 0, slots := 0, locals := 0 } D cI cZ cA cL ad [.ref 0] F_X5_logs := by
  refine mk_I [.ref 0] F_X5_logs T_X5_logs (by decide +kernel) rfl ?_ h_X5_logs s_X5_logs
  intro p e s m args below meth c Qa ⟨hx, hb, hml, hown, hts, hr, hlocks, hK, hN⟩
  have hin5 : ∀ w ∈ u_ws RX5 TX5 8, w ∈ wsX5_logs := by decide +kernel
  have hl40 : (Cond.fieldLink RX5 40 RX5 (TX5 4).2.1 (TX5 4).2.2.1) ∈ wsX5_logs := by decide +kernel
  have hin0 : ∀ w ∈ u_ws RX0 TX0 3, w ∈ wsX5_logs := by decide +kernel
  have hl198 : (Cond.fieldLinkNest RX5 198 RX0 (TX0 2).2.1 (TX0 2).2.2.1 "CueTour") ∈ nwL := by decide +kernel
  refine ruL_c (n := 0) (n2 := 1) rfl (ru_aload_n (k := 0) hx hb dX5_logs_0) ?_
  refine ruL_c (n := 1) (n2 := 2) rfl (ru_getR (own := RX5) (j := 4) (T := TX5) hx hb hown hK hts hin5 (by decide) rfl rfl (by decide) rfl hl40 dX5_logs_1) ?_
  refine ruL_c (n := 2) (n2 := 3) rfl (ru_bot) ?_
  refine ruL_c (n := 3) (n2 := 4) rfl (ru_bot) ?_
  refine ruL_c (n := 4) (n2 := 5) rfl (ru_getIN (own := RX5) (j := 2) (T := TX0) hx hb hown hK hN hts hin0 (by decide) rfl rfl (by decide) rfl hl198 dX5_logs_4) ?_
  refine ruL_c (n := 5) (n2 := 6) rfl (ru_bot) ?_
  refine ruL_c (n := 6) (n2 := 7) rfl (ru_bot) ?_
  refine ruL_c (n := 7) (n2 := 8) rfl (ru_iret hx hb hK hr hlocks dX5_logs_7) ?_
  exact trivial

-- CueTour.stageOf
def f_X5_stageOf (p0 : Int32) (σ : aM) : Option (Nat × Int32 × aM) := bnX (f_X5_checkNumber p0 (σ 5 2) σ) (fun σ3 => if inb p0 20 = true then some (0, σ3 26 (ix p0), σ3) else none)
def F_X5_stageOf : aFx := fun As σ => match As with
  | [.int p0] => f_X5_stageOf p0 σ
  | _ => none
def T_X5_stageOf : aTx := fun Qa Xa KN => [I_iload 1 1, I_aload 0 1, I_getR 0 5, I_bot, I_bot, I_getI 5 2, I_bot, I_bot, I_callX 2 F_X5_checkNumber KN Xa, I_bot, I_bot, I_aload 0 1, I_getR 0 5, I_bot, I_bot, I_getR 5 26, I_bot, I_bot, I_iload 1 1, I_iald, I_iret Qa]
set_option maxHeartbeats 4000000 in
set_option maxRecDepth 100000 in
theorem s_X5_stageOf : runsX T_X5_stageOf 2 [.ref 0] 2 F_X5_stageOf := by
  intro Qa Xa K hw hf As σ y h hQ hX
  unfold F_X5_stageOf at h
  split at h
  · rename_i p0
    unfold f_X5_stageOf at h
    show K 0 (0, [.ref 0, .int p0], [], σ)
    obtain ⟨e1, r2, σ3, q4, h⟩ := bnX_some h
    rcases h with ⟨c5, h⟩ | ⟨c5, h⟩
    · refine (hw 0 (by decide)) 5 _ ?_
      show ∃ e1 r2 σ3, f_X5_checkNumber p0 (σ 5 2) σ = some (e1, r2, σ3) ∧ (e1 = 0 → K 1 (11, [.ref 0, .int p0], [], σ3)) ∧ (¬ e1 = 0 → Xa e1 σ3)
      refine ⟨e1, r2, σ3, q4, fun _ => ?_, fun q => absurd c5 q⟩
      obtain ⟨g6, h⟩ := itX_some h
      obtain rfl := Option.some.inj h
      refine (hw 1 (by decide)) 6 _ ?_
      show kd 26 = 1 ∧ (inb p0 20 = true ∧ (Qa (σ3 26 (ix p0)) σ3))
      refine ⟨rfl, g6, (hQ rfl)⟩
    · refine (hw 0 (by decide)) 5 _ ?_
      show ∃ e1 r2 σ3, f_X5_checkNumber p0 (σ 5 2) σ = some (e1, r2, σ3) ∧ (e1 = 0 → K 1 (11, [.ref 0, .int p0], [], σ3)) ∧ (¬ e1 = 0 → Xa e1 σ3)
      refine ⟨e1, r2, σ3, q4, fun q => absurd q c5, fun _ => ?_⟩
      subst h
      exact hX c5
  · cases h
theorem h_X5_stageOf : shpX [.ref 0] 2 F_X5_stageOf := by
  intro As σ y h
  unfold F_X5_stageOf at h
  split at h
  · exact ⟨by simp [Value.category], Nat.le_of_ble_eq_true rfl⟩
  · cases h
set_option maxHeartbeats 4000000 in
set_option maxRecDepth 100000 in
theorem c_X5_stageOf (l : Launch) (hl : l.stackTraces = false) (D : va_G) (cI cZ cA cL : ClassId) (ad sa : Nat → Nat) (hi : adI ad) : CtXi l yX5_stageOf wsX5_stageOf { frames := 7, cells := 2, slots := 12, locals := 103 } 2 D cI cZ cA cL ad sa [.ref 0] F_X5_stageOf := by
  refine mk_Xi (mc := 2) [.ref 0] F_X5_stageOf T_X5_stageOf (by decide +kernel) rfl ?_ h_X5_stageOf s_X5_stageOf
  intro p e s m args below meth c Qa Xa ⟨⟨hx, hb, hml, hown, hts, hr, hlocks, hK, hN⟩, hX, hno⟩ n hn
  have hin5 : ∀ w ∈ u_ws RX5 TX5 8, w ∈ wsX5_stageOf := by decide +kernel
  have hl40 : (Cond.fieldLink RX5 40 RX5 (TX5 4).2.1 (TX5 4).2.2.1) ∈ wsX5_stageOf := by decide +kernel
  have hin0 : ∀ w ∈ u_ws RX0 TX0 3, w ∈ wsX5_stageOf := by decide +kernel
  have hl198 : (Cond.fieldLinkNest RX5 198 RX0 (TX0 2).2.1 (TX0 2).2.2.1 "CueTour") ∈ nwL := by decide +kernel
  have hl205 : (Cond.fieldLinkNest RX5 205 RX0 (TX0 0).2.1 (TX0 0).2.2.1 "CueTour") ∈ nwL := by decide +kernel
  refine ruL_c (n := 0) (n2 := 1) rfl (ru_iload_n (k := 1) hx hb dX5_stageOf_0) ?_
  refine ruL_c (n := 1) (n2 := 2) rfl (ru_aload_n (k := 0) hx hb dX5_stageOf_1) ?_
  refine ruL_c (n := 2) (n2 := 3) rfl (ru_getR (own := RX5) (j := 4) (T := TX5) hx hb hown hK hts hin5 (by decide) rfl rfl (by decide) rfl hl40 dX5_stageOf_2) ?_
  refine ruL_c (n := 3) (n2 := 4) rfl (ru_bot) ?_
  refine ruL_c (n := 4) (n2 := 5) rfl (ru_bot) ?_
  refine ruL_c (n := 5) (n2 := 6) rfl (ru_getIN (own := RX5) (j := 2) (T := TX0) hx hb hown hK hN hts hin0 (by decide) rfl rfl (by decide) rfl hl198 dX5_stageOf_5) ?_
  refine ruL_c (n := 6) (n2 := 7) rfl (ru_bot) ?_
  refine ruL_c (n := 7) (n2 := 8) rfl (ru_bot) ?_
  refine ruL_c (n := 8) (n2 := 9) rfl (ru_callX hx hb hml hown hts hK hN hX hno hlocks (c_X5_checkNumber l hl D cI cZ cA cL ad sa hi) (va_cwS 2 hts gX5_stageOf_X5_checkNumber rfl rfl rfl (by decide +kernel) ⟨Nat.le_of_ble_eq_true rfl, Nat.le_of_ble_eq_true rfl⟩) dX5_stageOf_8 ⟨hn, Nat.mul_le_mul_left 6 hn⟩ ⟨hn, Nat.mul_le_mul_left 6 hn⟩) ?_
  refine ruL_c (n := 9) (n2 := 10) rfl (ru_bot) ?_
  refine ruL_c (n := 10) (n2 := 11) rfl (ru_bot) ?_
  refine ruL_c (n := 11) (n2 := 12) rfl (ru_aload_n (k := 0) hx hb dX5_stageOf_11) ?_
  refine ruL_c (n := 12) (n2 := 13) rfl (ru_getR (own := RX5) (j := 4) (T := TX5) hx hb hown hK hts hin5 (by decide) rfl rfl (by decide) rfl hl40 dX5_stageOf_12) ?_
  refine ruL_c (n := 13) (n2 := 14) rfl (ru_bot) ?_
  refine ruL_c (n := 14) (n2 := 15) rfl (ru_bot) ?_
  refine ruL_c (n := 15) (n2 := 16) rfl (ru_getRN (own := RX5) (j := 0) (T := TX0) hx hb hown hK hN hts hin0 (by decide) rfl rfl (by decide) rfl hl205 dX5_stageOf_15) ?_
  refine ruL_c (n := 16) (n2 := 17) rfl (ru_bot) ?_
  refine ruL_c (n := 17) (n2 := 18) rfl (ru_bot) ?_
  refine ruL_c (n := 18) (n2 := 19) rfl (ru_iload_n (k := 1) hx hb dX5_stageOf_18) ?_
  refine ruL_c (n := 19) (n2 := 20) rfl (ru_iald hx hb hK dX5_stageOf_19) ?_
  refine ruL_c (n := 20) (n2 := 21) rfl (ru_iretX hx hb hK hr hlocks dX5_stageOf_20 ⟨Nat.le_of_lt hn, Nat.mul_le_mul_left 6 (Nat.le_of_lt hn)⟩) ?_
  exact trivial

-- CueTour.wasShortOf
def f_X5_wasShortOf (p0 : Int32) (p1 : Int32) (σ : aM) : Option (Nat × Int32 × aM) := bnX (f_X5_checkNumber p0 (σ 5 2) σ) (fun σ3 => bnX (f_X5_checkNumber p1 (σ3 1 3) σ3) (fun σ8 => if inb p0 20 = true then if inb p1 30 = true then some (0, σ8 (158 + ix p0) (ix p1), σ8) else none else none))
def F_X5_wasShortOf : aFx := fun As σ => match As with
  | [.int p0, .int p1] => f_X5_wasShortOf p0 p1 σ
  | _ => none
def T_X5_wasShortOf : aTx := fun Qa Xa KN => [I_iload 1 1, I_aload 0 1, I_getR 0 5, I_bot, I_bot, I_getI 5 2, I_bot, I_bot, I_callX 2 F_X5_checkNumber KN Xa, I_bot, I_bot, I_iload 2 1, I_aload 0 1, I_getR 0 1, I_bot, I_bot, I_getI 1 3, I_bot, I_bot, I_callX 2 F_X5_checkNumber KN Xa, I_bot, I_bot, I_aload 0 1, I_getR 0 5, I_bot, I_bot, I_getR 5 57, I_bot, I_bot, I_iload 1 1, I_aald, I_iload 2 1, I_iald, I_iret Qa]
set_option maxHeartbeats 4000000 in
set_option maxRecDepth 100000 in
theorem s_X5_wasShortOf : runsX T_X5_wasShortOf 3 [.ref 0] 3 F_X5_wasShortOf := by
  intro Qa Xa K hw hf As σ y h hQ hX
  unfold F_X5_wasShortOf at h
  split at h
  · rename_i p0 p1
    unfold f_X5_wasShortOf at h
    show K 0 (0, [.ref 0, .int p0, .int p1], [], σ)
    obtain ⟨e1, r2, σ3, q4, h⟩ := bnX_some h
    rcases h with ⟨c5, h⟩ | ⟨c5, h⟩
    · refine (hw 0 (by decide)) 5 _ ?_
      show ∃ e1 r2 σ3, f_X5_checkNumber p0 (σ 5 2) σ = some (e1, r2, σ3) ∧ (e1 = 0 → K 1 (11, [.ref 0, .int p0, .int p1], [], σ3)) ∧ (¬ e1 = 0 → Xa e1 σ3)
      refine ⟨e1, r2, σ3, q4, fun _ => ?_, fun q => absurd c5 q⟩
      obtain ⟨e6, r7, σ8, q9, h⟩ := bnX_some h
      rcases h with ⟨c10, h⟩ | ⟨c10, h⟩
      · refine (hw 1 (by decide)) 5 _ ?_
        show ∃ e6 r7 σ8, f_X5_checkNumber p1 (σ3 1 3) σ3 = some (e6, r7, σ8) ∧ (e6 = 0 → K 2 (22, [.ref 0, .int p0, .int p1], [], σ8)) ∧ (¬ e6 = 0 → Xa e6 σ8)
        refine ⟨e6, r7, σ8, q9, fun _ => ?_, fun q => absurd c10 q⟩
        obtain ⟨g11, h⟩ := itX_some h
        obtain ⟨g12, h⟩ := itX_some h
        obtain rfl := Option.some.inj h
        refine (hw 2 (by decide)) 8 _ ?_
        show kd 57 = 3 ∧ (inb p0 20 = true ∧ (kd (158 + ix p0) = 1 ∧ (inb p1 (ln (158 + ix p0)) = true ∧ (Qa (σ8 (158 + ix p0) (ix p1)) σ8))))
        refine ⟨rfl, g11, (row57_kd g11), (by rw [row57_ln g11]; exact g12), (hQ rfl)⟩
      · refine (hw 1 (by decide)) 5 _ ?_
        show ∃ e6 r7 σ8, f_X5_checkNumber p1 (σ3 1 3) σ3 = some (e6, r7, σ8) ∧ (e6 = 0 → K 2 (22, [.ref 0, .int p0, .int p1], [], σ8)) ∧ (¬ e6 = 0 → Xa e6 σ8)
        refine ⟨e6, r7, σ8, q9, fun q => absurd q c10, fun _ => ?_⟩
        subst h
        exact hX c10
    · refine (hw 0 (by decide)) 5 _ ?_
      show ∃ e1 r2 σ3, f_X5_checkNumber p0 (σ 5 2) σ = some (e1, r2, σ3) ∧ (e1 = 0 → K 1 (11, [.ref 0, .int p0, .int p1], [], σ3)) ∧ (¬ e1 = 0 → Xa e1 σ3)
      refine ⟨e1, r2, σ3, q4, fun q => absurd q c5, fun _ => ?_⟩
      subst h
      exact hX c5
  · cases h
theorem h_X5_wasShortOf : shpX [.ref 0] 3 F_X5_wasShortOf := by
  intro As σ y h
  unfold F_X5_wasShortOf at h
  split at h
  · exact ⟨by simp [Value.category], Nat.le_of_ble_eq_true rfl⟩
  · cases h
set_option maxHeartbeats 4000000 in
set_option maxRecDepth 100000 in
theorem c_X5_wasShortOf (l : Launch) (hl : l.stackTraces = false) (D : va_G) (cI cZ cA cL : ClassId) (ad sa : Nat → Nat) (hi : adI ad) : CtXi l yX5_wasShortOf wsX5_wasShortOf { frames := 7, cells := 3, slots := 18, locals := 103 } 3 D cI cZ cA cL ad sa [.ref 0] F_X5_wasShortOf := by
  refine mk_Xi (mc := 3) [.ref 0] F_X5_wasShortOf T_X5_wasShortOf (by decide +kernel) rfl ?_ h_X5_wasShortOf s_X5_wasShortOf
  intro p e s m args below meth c Qa Xa ⟨⟨hx, hb, hml, hown, hts, hr, hlocks, hK, hN⟩, hX, hno⟩ n hn
  have hin5 : ∀ w ∈ u_ws RX5 TX5 8, w ∈ wsX5_wasShortOf := by decide +kernel
  have hl40 : (Cond.fieldLink RX5 40 RX5 (TX5 4).2.1 (TX5 4).2.2.1) ∈ wsX5_wasShortOf := by decide +kernel
  have hin0 : ∀ w ∈ u_ws RX0 TX0 3, w ∈ wsX5_wasShortOf := by decide +kernel
  have hl198 : (Cond.fieldLinkNest RX5 198 RX0 (TX0 2).2.1 (TX0 2).2.2.1 "CueTour") ∈ nwL := by decide +kernel
  have hl10 : (Cond.fieldLink RX5 10 RX5 (TX5 0).2.1 (TX5 0).2.2.1) ∈ wsX5_wasShortOf := by decide +kernel
  have hin4 : ∀ w ∈ u_ws RX4 TX4 4, w ∈ wsX5_wasShortOf := by decide +kernel
  have hl60 : (Cond.fieldLinkNest RX5 60 RX4 (TX4 3).2.1 (TX4 3).2.2.1 "CueTour") ∈ nwL := by decide +kernel
  have hl206 : (Cond.fieldLinkNest RX5 206 RX0 (TX0 1).2.1 (TX0 1).2.2.1 "CueTour") ∈ nwL := by decide +kernel
  refine ruL_c (n := 0) (n2 := 1) rfl (ru_iload_n (k := 1) hx hb dX5_wasShortOf_0) ?_
  refine ruL_c (n := 1) (n2 := 2) rfl (ru_aload_n (k := 0) hx hb dX5_wasShortOf_1) ?_
  refine ruL_c (n := 2) (n2 := 3) rfl (ru_getR (own := RX5) (j := 4) (T := TX5) hx hb hown hK hts hin5 (by decide) rfl rfl (by decide) rfl hl40 dX5_wasShortOf_2) ?_
  refine ruL_c (n := 3) (n2 := 4) rfl (ru_bot) ?_
  refine ruL_c (n := 4) (n2 := 5) rfl (ru_bot) ?_
  refine ruL_c (n := 5) (n2 := 6) rfl (ru_getIN (own := RX5) (j := 2) (T := TX0) hx hb hown hK hN hts hin0 (by decide) rfl rfl (by decide) rfl hl198 dX5_wasShortOf_5) ?_
  refine ruL_c (n := 6) (n2 := 7) rfl (ru_bot) ?_
  refine ruL_c (n := 7) (n2 := 8) rfl (ru_bot) ?_
  refine ruL_c (n := 8) (n2 := 9) rfl (ru_callX hx hb hml hown hts hK hN hX hno hlocks (c_X5_checkNumber l hl D cI cZ cA cL ad sa hi) (va_cwS 2 hts gX5_wasShortOf_X5_checkNumber rfl rfl rfl (by decide +kernel) ⟨Nat.le_of_ble_eq_true rfl, Nat.le_of_ble_eq_true rfl⟩) dX5_wasShortOf_8 ⟨hn, Nat.mul_le_mul_left 6 hn⟩ ⟨hn, Nat.mul_le_mul_left 6 hn⟩) ?_
  refine ruL_c (n := 9) (n2 := 10) rfl (ru_bot) ?_
  refine ruL_c (n := 10) (n2 := 11) rfl (ru_bot) ?_
  refine ruL_c (n := 11) (n2 := 12) rfl (ru_iload_n (k := 2) hx hb dX5_wasShortOf_11) ?_
  refine ruL_c (n := 12) (n2 := 13) rfl (ru_aload_n (k := 0) hx hb dX5_wasShortOf_12) ?_
  refine ruL_c (n := 13) (n2 := 14) rfl (ru_getR (own := RX5) (j := 0) (T := TX5) hx hb hown hK hts hin5 (by decide) rfl rfl (by decide) rfl hl10 dX5_wasShortOf_13) ?_
  refine ruL_c (n := 14) (n2 := 15) rfl (ru_bot) ?_
  refine ruL_c (n := 15) (n2 := 16) rfl (ru_bot) ?_
  refine ruL_c (n := 16) (n2 := 17) rfl (ru_getIN (own := RX5) (j := 3) (T := TX4) hx hb hown hK hN hts hin4 (by decide) rfl rfl (by decide) rfl hl60 dX5_wasShortOf_16) ?_
  refine ruL_c (n := 17) (n2 := 18) rfl (ru_bot) ?_
  refine ruL_c (n := 18) (n2 := 19) rfl (ru_bot) ?_
  refine ruL_c (n := 19) (n2 := 20) rfl (ru_callX hx hb hml hown hts hK hN hX hno hlocks (c_X5_checkNumber l hl D cI cZ cA cL ad sa hi) (va_cwS 2 hts gX5_wasShortOf_X5_checkNumber rfl rfl rfl (by decide +kernel) ⟨Nat.le_of_ble_eq_true rfl, Nat.le_of_ble_eq_true rfl⟩) dX5_wasShortOf_19 ⟨hn, Nat.mul_le_mul_left 6 hn⟩ ⟨hn, Nat.mul_le_mul_left 6 hn⟩) ?_
  refine ruL_c (n := 20) (n2 := 21) rfl (ru_bot) ?_
  refine ruL_c (n := 21) (n2 := 22) rfl (ru_bot) ?_
  refine ruL_c (n := 22) (n2 := 23) rfl (ru_aload_n (k := 0) hx hb dX5_wasShortOf_22) ?_
  refine ruL_c (n := 23) (n2 := 24) rfl (ru_getR (own := RX5) (j := 4) (T := TX5) hx hb hown hK hts hin5 (by decide) rfl rfl (by decide) rfl hl40 dX5_wasShortOf_23) ?_
  refine ruL_c (n := 24) (n2 := 25) rfl (ru_bot) ?_
  refine ruL_c (n := 25) (n2 := 26) rfl (ru_bot) ?_
  refine ruL_c (n := 26) (n2 := 27) rfl (ru_getRN (own := RX5) (j := 1) (T := TX0) hx hb hown hK hN hts hin0 (by decide) rfl rfl (by decide) rfl hl206 dX5_wasShortOf_26) ?_
  refine ruL_c (n := 27) (n2 := 28) rfl (ru_bot) ?_
  refine ruL_c (n := 28) (n2 := 29) rfl (ru_bot) ?_
  refine ruL_c (n := 29) (n2 := 30) rfl (ru_iload_n (k := 1) hx hb dX5_wasShortOf_29) ?_
  refine ruL_c (n := 30) (n2 := 31) rfl (ru_aald hx hb hK dX5_wasShortOf_30) ?_
  refine ruL_c (n := 31) (n2 := 32) rfl (ru_iload_n (k := 2) hx hb dX5_wasShortOf_31) ?_
  refine ruL_c (n := 32) (n2 := 33) rfl (ru_iald hx hb hK dX5_wasShortOf_32) ?_
  refine ruL_c (n := 33) (n2 := 34) rfl (ru_iretX hx hb hK hr hlocks dX5_wasShortOf_33 ⟨Nat.le_of_lt hn, Nat.mul_le_mul_left 6 (Nat.le_of_lt hn)⟩) ?_
  exact trivial

-- CueTour.timesShort
def f_X5_timesShort (p0 : Int32) (σ : aM) : Option (Nat × Int32 × aM) := bnX (f_X5_checkNumber p0 (σ 1 3) σ) (fun σ3 => bnN (f_X0_countShortLogs p0 σ3) (fun r6 σ7 => some (0, r6, σ7)))
def F_X5_timesShort : aFx := fun As σ => match As with
  | [.int p0] => f_X5_timesShort p0 σ
  | _ => none
def T_X5_timesShort : aTx := fun Qa Xa KN => [I_iload 1 1, I_aload 0 1, I_getR 0 1, I_bot, I_bot, I_getI 1 3, I_bot, I_bot, I_callX 2 F_X5_checkNumber KN Xa, I_bot, I_bot, I_aload 0 1, I_getR 0 5, I_bot, I_bot, I_iload 1 1, I_callV 5 1 F_X0_countShortLogs, I_bot, I_bot, I_iret Qa]
set_option maxHeartbeats 4000000 in
set_option maxRecDepth 100000 in
theorem s_X5_timesShort : runsX T_X5_timesShort 2 [.ref 0] 2 F_X5_timesShort := by
  intro Qa Xa K hw hf As σ y h hQ hX
  unfold F_X5_timesShort at h
  split at h
  · rename_i p0
    unfold f_X5_timesShort at h
    show K 0 (0, [.ref 0, .int p0], [], σ)
    obtain ⟨e1, r2, σ3, q4, h⟩ := bnX_some h
    rcases h with ⟨c5, h⟩ | ⟨c5, h⟩
    · refine (hw 0 (by decide)) 5 _ ?_
      show ∃ e1 r2 σ3, f_X5_checkNumber p0 (σ 1 3) σ = some (e1, r2, σ3) ∧ (e1 = 0 → K 1 (11, [.ref 0, .int p0], [], σ3)) ∧ (¬ e1 = 0 → Xa e1 σ3)
      refine ⟨e1, r2, σ3, q4, fun _ => ?_, fun q => absurd c5 q⟩
      obtain ⟨r6, σ7, e8, h⟩ := bnN_some h
      refine (hw 1 (by decide)) 4 _ ?_
      show ∃ r6 σ7, f_X0_countShortLogs p0 σ3 = some (r6, σ7) ∧ K 1 (19, [.ref 0, .int p0], [.int r6], σ7)
      refine ⟨r6, σ7, e8, ?_⟩
      obtain rfl := Option.some.inj h
      refine (hw 1 (by decide)) 1 _ ?_
      show Qa r6 σ7
      refine hQ rfl
    · refine (hw 0 (by decide)) 5 _ ?_
      show ∃ e1 r2 σ3, f_X5_checkNumber p0 (σ 1 3) σ = some (e1, r2, σ3) ∧ (e1 = 0 → K 1 (11, [.ref 0, .int p0], [], σ3)) ∧ (¬ e1 = 0 → Xa e1 σ3)
      refine ⟨e1, r2, σ3, q4, fun q => absurd q c5, fun _ => ?_⟩
      subst h
      exact hX c5
  · cases h
theorem h_X5_timesShort : shpX [.ref 0] 2 F_X5_timesShort := by
  intro As σ y h
  unfold F_X5_timesShort at h
  split at h
  · exact ⟨by simp [Value.category], Nat.le_of_ble_eq_true rfl⟩
  · cases h
set_option maxHeartbeats 4000000 in
set_option maxRecDepth 100000 in
theorem c_X5_timesShort (l : Launch) (hl : l.stackTraces = false) (D : va_G) (cI cZ cA cL : ClassId) (ad sa : Nat → Nat) (hi : adI ad) : CtXi l yX5_timesShort wsX5_timesShort { frames := 7, cells := 2, slots := 12, locals := 103 } 2 D cI cZ cA cL ad sa [.ref 0] F_X5_timesShort := by
  refine mk_Xi (mc := 2) [.ref 0] F_X5_timesShort T_X5_timesShort (by decide +kernel) rfl ?_ h_X5_timesShort s_X5_timesShort
  intro p e s m args below meth c Qa Xa ⟨⟨hx, hb, hml, hown, hts, hr, hlocks, hK, hN⟩, hX, hno⟩ n hn
  have hin5 : ∀ w ∈ u_ws RX5 TX5 8, w ∈ wsX5_timesShort := by decide +kernel
  have hl10 : (Cond.fieldLink RX5 10 RX5 (TX5 0).2.1 (TX5 0).2.2.1) ∈ wsX5_timesShort := by decide +kernel
  have hin4 : ∀ w ∈ u_ws RX4 TX4 4, w ∈ wsX5_timesShort := by decide +kernel
  have hl60 : (Cond.fieldLinkNest RX5 60 RX4 (TX4 3).2.1 (TX4 3).2.2.1 "CueTour") ∈ nwL := by decide +kernel
  have hl40 : (Cond.fieldLink RX5 40 RX5 (TX5 4).2.1 (TX5 4).2.2.1) ∈ wsX5_timesShort := by decide +kernel
  refine ruL_c (n := 0) (n2 := 1) rfl (ru_iload_n (k := 1) hx hb dX5_timesShort_0) ?_
  refine ruL_c (n := 1) (n2 := 2) rfl (ru_aload_n (k := 0) hx hb dX5_timesShort_1) ?_
  refine ruL_c (n := 2) (n2 := 3) rfl (ru_getR (own := RX5) (j := 0) (T := TX5) hx hb hown hK hts hin5 (by decide) rfl rfl (by decide) rfl hl10 dX5_timesShort_2) ?_
  refine ruL_c (n := 3) (n2 := 4) rfl (ru_bot) ?_
  refine ruL_c (n := 4) (n2 := 5) rfl (ru_bot) ?_
  refine ruL_c (n := 5) (n2 := 6) rfl (ru_getIN (own := RX5) (j := 3) (T := TX4) hx hb hown hK hN hts hin4 (by decide) rfl rfl (by decide) rfl hl60 dX5_timesShort_5) ?_
  refine ruL_c (n := 6) (n2 := 7) rfl (ru_bot) ?_
  refine ruL_c (n := 7) (n2 := 8) rfl (ru_bot) ?_
  refine ruL_c (n := 8) (n2 := 9) rfl (ru_callX hx hb hml hown hts hK hN hX hno hlocks (c_X5_checkNumber l hl D cI cZ cA cL ad sa hi) (va_cwS 2 hts gX5_timesShort_X5_checkNumber rfl rfl rfl (by decide +kernel) ⟨Nat.le_of_ble_eq_true rfl, Nat.le_of_ble_eq_true rfl⟩) dX5_timesShort_8 ⟨hn, Nat.mul_le_mul_left 6 hn⟩ ⟨hn, Nat.mul_le_mul_left 6 hn⟩) ?_
  refine ruL_c (n := 9) (n2 := 10) rfl (ru_bot) ?_
  refine ruL_c (n := 10) (n2 := 11) rfl (ru_bot) ?_
  refine ruL_c (n := 11) (n2 := 12) rfl (ru_aload_n (k := 0) hx hb dX5_timesShort_11) ?_
  refine ruL_c (n := 12) (n2 := 13) rfl (ru_getR (own := RX5) (j := 4) (T := TX5) hx hb hown hK hts hin5 (by decide) rfl rfl (by decide) rfl hl40 dX5_timesShort_12) ?_
  refine ruL_c (n := 13) (n2 := 14) rfl (ru_bot) ?_
  refine ruL_c (n := 14) (n2 := 15) rfl (ru_bot) ?_
  refine ruL_c (n := 15) (n2 := 16) rfl (ru_iload_n (k := 1) hx hb dX5_timesShort_15) ?_
  refine ruL_c (n := 16) (n2 := 17) rfl (ru_callV hx hb hml hown hts hK hN (by decide) rfl (c_X0_countShortLogs l D cI cZ cA cL ad hi) (cwV 1 hts gX5_timesShort_X0_countShortLogs rfl rfl rfl (by decide +kernel) ⟨Nat.le_of_ble_eq_true rfl, Nat.le_of_ble_eq_true rfl⟩) dX5_timesShort_16 ⟨Nat.le_of_lt hn, Nat.mul_le_mul_left 6 (Nat.le_of_lt hn)⟩) ?_
  refine ruL_c (n := 17) (n2 := 18) rfl (ru_bot) ?_
  refine ruL_c (n := 18) (n2 := 19) rfl (ru_bot) ?_
  refine ruL_c (n := 19) (n2 := 20) rfl (ru_iretX hx hb hK hr hlocks dX5_timesShort_19 ⟨Nat.le_of_lt hn, Nat.mul_le_mul_left 6 (Nat.le_of_lt hn)⟩) ?_
  exact trivial

