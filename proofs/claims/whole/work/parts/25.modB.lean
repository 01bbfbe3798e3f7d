-- CueTourModel.isPlayed
def f_X6_isPlayed (p0 : Int32) (σ : aM) : Option (Int32 × aM) := if inb p0 20 = true then if inb (σ 34 (ix p0)) 30 = true then if ¬ (σ 30 (ix (σ 34 (ix p0)))) = 0 then some (0, σ) else some (1, σ) else none else none
def F_X6_isPlayed : aF := fun As σ => match As with
  | [.int p0] => f_X6_isPlayed p0 σ
  | _ => none
def T_X6_isPlayed (Qa : Int32 → aM → Prop) : List aI := [I_aload 0 1, I_getR 6 30, I_bot, I_bot, I_aload 0 1, I_getR 6 34, I_bot, I_bot, I_iload 1 1, I_iald, I_zald, I_if (fun x => ¬ x = 0) 18, I_bot, I_bot, I_const 1 1, I_goto 19, I_bot, I_bot, I_const 0 1, I_zret Qa]
set_option maxHeartbeats 4000000 in
set_option maxRecDepth 100000 in
theorem s_X6_isPlayed : runs T_X6_isPlayed [.ref 6] 2 F_X6_isPlayed := by
  intro Qa K hw hf As σ r σ' h hQ
  unfold F_X6_isPlayed at h
  split at h
  · rename_i p0
    unfold f_X6_isPlayed at h
    have hQ : Qa (r, σ').1 (r, σ').2 := hQ
    generalize (r, σ') = y at h hQ
    show K (0, [.ref 6, .int p0], [], σ)
    obtain ⟨g1, h⟩ := ite_some h
    obtain ⟨g2, h⟩ := ite_some h
    rcases ite_cases h with ⟨c3, h⟩ | ⟨c3, h⟩
    · refine hw 8 _ ?_
      show kd 34 = 1 ∧ (inb p0 20 = true ∧ (kd 30 = 2 ∧ (inb (σ 34 (ix p0)) 30 = true ∧ (((¬ (σ 30 (ix (σ 34 (ix p0)))) = 0) → K (18, [.ref 6, .int p0], [], σ)) ∧ (¬ (¬ (σ 30 (ix (σ 34 (ix p0)))) = 0) → K (14, [.ref 6, .int p0], [], σ))))))
      refine ⟨rfl, g1, rfl, g2, ⟨fun _ => ?_, fun q => absurd c3 q⟩⟩
      obtain rfl := Option.some.inj h
      refine hw 2 _ ?_
      show (0 = (0:Int32) ∨ 0 = (1:Int32)) ∧ (Qa 0 σ)
      refine ⟨Or.inl rfl, hQ⟩
    · refine hw 8 _ ?_
      show kd 34 = 1 ∧ (inb p0 20 = true ∧ (kd 30 = 2 ∧ (inb (σ 34 (ix p0)) 30 = true ∧ (((¬ (σ 30 (ix (σ 34 (ix p0)))) = 0) → K (18, [.ref 6, .int p0], [], σ)) ∧ (¬ (¬ (σ 30 (ix (σ 34 (ix p0)))) = 0) → K (14, [.ref 6, .int p0], [], σ))))))
      refine ⟨rfl, g1, rfl, g2, ⟨fun q => absurd q c3, fun _ => ?_⟩⟩
      obtain rfl := Option.some.inj h
      refine hw 3 _ ?_
      show (1 = (0:Int32) ∨ 1 = (1:Int32)) ∧ (Qa 1 σ)
      refine ⟨Or.inr rfl, hQ⟩
  · cases h
theorem h_X6_isPlayed : shp [.ref 6] 2 F_X6_isPlayed := by
  intro As σ r σ' h
  unfold F_X6_isPlayed at h
  split at h
  · exact ⟨by simp [Value.category], Nat.le_of_ble_eq_true rfl⟩
  · cases h
set_option maxHeartbeats 4000000 in
set_option maxRecDepth 100000 in
theorem c_X6_isPlayed (l : Launch) (D : va_G) (cI cZ cA cL : ClassId) (ad : Nat → Nat) (hi : adI ad) : CtI l yX6_isPlayed wsX6_isPlayed { frames := 0, cells := 0, slots := 0, locals := 0 } D cI cZ cA cL ad [.ref 6] F_X6_isPlayed := by
  refine mk_I [.ref 6] F_X6_isPlayed T_X6_isPlayed (by decide +kernel) rfl ?_ h_X6_isPlayed s_X6_isPlayed
  intro p e s m args below meth c Qa ⟨hx, hb, hml, hown, hts, hr, hlocks, hK, hN⟩
  have hin6 : ∀ w ∈ u_ws RX6 TX6 30, w ∈ wsX6_isPlayed := by decide +kernel
  have hl13 : (Cond.fieldLink RX6 13 RX6 (TX6 2).2.1 (TX6 2).2.2.1) ∈ wsX6_isPlayed := by decide +kernel
  have hl26 : (Cond.fieldLink RX6 26 RX6 (TX6 7).2.1 (TX6 7).2.2.1) ∈ wsX6_isPlayed := by decide +kernel
  refine ruL_c (n := 0) (n2 := 1) rfl (ru_aload_n (k := 0) hx hb dX6_isPlayed_0) ?_
  refine ruL_c (n := 1) (n2 := 2) rfl (ru_getR (own := RX6) (j := 2) (T := TX6) hx hb hown hK hts hin6 (by decide) rfl rfl (by decide) rfl hl13 dX6_isPlayed_1) ?_
  refine ruL_c (n := 2) (n2 := 3) rfl (ru_bot) ?_
  refine ruL_c (n := 3) (n2 := 4) rfl (ru_bot) ?_
  refine ruL_c (n := 4) (n2 := 5) rfl (ru_aload_n (k := 0) hx hb dX6_isPlayed_4) ?_
  refine ruL_c (n := 5) (n2 := 6) rfl (ru_getR (own := RX6) (j := 7) (T := TX6) hx hb hown hK hts hin6 (by decide) rfl rfl (by decide) rfl hl26 dX6_isPlayed_5) ?_
  refine ruL_c (n := 6) (n2 := 7) rfl (ru_bot) ?_
  refine ruL_c (n := 7) (n2 := 8) rfl (ru_bot) ?_
  refine ruL_c (n := 8) (n2 := 9) rfl (ru_iload_n (k := 1) hx hb dX6_isPlayed_8) ?_
  refine ruL_c (n := 9) (n2 := 10) rfl (ru_iald hx hb hK dX6_isPlayed_9) ?_
  refine ruL_c (n := 10) (n2 := 11) rfl (ru_zald hx hb hK dX6_isPlayed_10) ?_
  refine ruL_c (n := 11) (n2 := 12) rfl (ru_ifne hx hb dX6_isPlayed_11 (by decide)) ?_
  refine ruL_c (n := 12) (n2 := 13) rfl (ru_bot) ?_
  refine ruL_c (n := 13) (n2 := 14) rfl (ru_bot) ?_
  refine ruL_c (n := 14) (n2 := 15) rfl (ru_iconst hx hb dX6_isPlayed_14 rfl) ?_
  refine ruL_c (n := 15) (n2 := 16) rfl (ru_goto hx hb dX6_isPlayed_15 (by decide)) ?_
  refine ruL_c (n := 16) (n2 := 17) rfl (ru_bot) ?_
  refine ruL_c (n := 17) (n2 := 18) rfl (ru_bot) ?_
  refine ruL_c (n := 18) (n2 := 19) rfl (ru_iconst hx hb dX6_isPlayed_18 rfl) ?_
  refine ruL_c (n := 19) (n2 := 20) rfl (ru_zret hx hb hK hr hlocks dX6_isPlayed_19) ?_
  exact trivial

-- CueTourModel.when
def f_X6_when (p0 : Int32) (σ : aM) : Option (Int32 × aM) := if inb p0 20 = true then if inb (σ 34 (ix p0)) 30 = true then if inb p0 20 = true then some ((σ 49 (ix (σ 34 (ix p0)))) + (σ 35 (ix p0)), σ) else none else none else none
def F_X6_when : aF := fun As σ => match As with
  | [.int p0] => f_X6_when p0 σ
  | _ => none
def T_X6_when (Qa : Int32 → aM → Prop) : List aI := [I_aload 0 1, I_getR 6 49, I_bot, I_bot, I_aload 0 1, I_getR 6 34, I_bot, I_bot, I_iload 1 1, I_iald, I_iald, I_aload 0 1, I_getR 6 35, I_bot, I_bot, I_iload 1 1, I_iald, I_bin fun x y => x + y, I_iret Qa]
set_option maxHeartbeats 4000000 in
set_option maxRecDepth 100000 in
theorem s_X6_when : runs T_X6_when [.ref 6] 2 F_X6_when := by
  intro Qa K hw hf As σ r σ' h hQ
  unfold F_X6_when at h
  split at h
  · rename_i p0
    unfold f_X6_when at h
    have hQ : Qa (r, σ').1 (r, σ').2 := hQ
    generalize (r, σ') = y at h hQ
    show K (0, [.ref 6, .int p0], [], σ)
    obtain ⟨g1, h⟩ := ite_some h
    obtain ⟨g2, h⟩ := ite_some h
    obtain ⟨g3, h⟩ := ite_some h
    obtain rfl := Option.some.inj h
    refine hw 13 _ ?_
    show kd 34 = 1 ∧ (inb p0 20 = true ∧ (kd 49 = 1 ∧ (inb (σ 34 (ix p0)) 30 = true ∧ (kd 35 = 1 ∧ (inb p0 20 = true ∧ (Qa ((σ 49 (ix (σ 34 (ix p0)))) + (σ 35 (ix p0))) σ))))))
    refine ⟨rfl, g1, rfl, g2, rfl, g3, hQ⟩
  · cases h
theorem h_X6_when : shp [.ref 6] 2 F_X6_when := by
  intro As σ r σ' h
  unfold F_X6_when at h
  split at h
  · exact ⟨by simp [Value.category], Nat.le_of_ble_eq_true rfl⟩
  · cases h
set_option maxHeartbeats 4000000 in
set_option maxRecDepth 100000 in
theorem c_X6_when (l : Launch) (D : va_G) (cI cZ cA cL : ClassId) (ad : Nat → Nat) (hi : adI ad) : CtI l yX6_when wsX6_when { frames := 0, cells := 0, slots := 0, locals := 0 } D cI cZ cA cL ad [.ref 6] F_X6_when := by
  refine mk_I [.ref 6] F_X6_when T_X6_when (by decide +kernel) rfl ?_ h_X6_when s_X6_when
  intro p e s m args below meth c Qa ⟨hx, hb, hml, hown, hts, hr, hlocks, hK, hN⟩
  have hin6 : ∀ w ∈ u_ws RX6 TX6 30, w ∈ wsX6_when := by decide +kernel
  have hl71 : (Cond.fieldLink RX6 71 RX6 (TX6 26).2.1 (TX6 26).2.2.1) ∈ wsX6_when := by decide +kernel
  have hl26 : (Cond.fieldLink RX6 26 RX6 (TX6 7).2.1 (TX6 7).2.2.1) ∈ wsX6_when := by decide +kernel
  have hl29 : (Cond.fieldLink RX6 29 RX6 (TX6 8).2.1 (TX6 8).2.2.1) ∈ wsX6_when := by decide +kernel
  refine ruL_c (n := 0) (n2 := 1) rfl (ru_aload_n (k := 0) hx hb dX6_when_0) ?_
  refine ruL_c (n := 1) (n2 := 2) rfl (ru_getR (own := RX6) (j := 26) (T := TX6) hx hb hown hK hts hin6 (by decide) rfl rfl (by decide) rfl hl71 dX6_when_1) ?_
  refine ruL_c (n := 2) (n2 := 3) rfl (ru_bot) ?_
  refine ruL_c (n := 3) (n2 := 4) rfl (ru_bot) ?_
  refine ruL_c (n := 4) (n2 := 5) rfl (ru_aload_n (k := 0) hx hb dX6_when_4) ?_
  refine ruL_c (n := 5) (n2 := 6) rfl (ru_getR (own := RX6) (j := 7) (T := TX6) hx hb hown hK hts hin6 (by decide) rfl rfl (by decide) rfl hl26 dX6_when_5) ?_
  refine ruL_c (n := 6) (n2 := 7) rfl (ru_bot) ?_
  refine ruL_c (n := 7) (n2 := 8) rfl (ru_bot) ?_
  refine ruL_c (n := 8) (n2 := 9) rfl (ru_iload_n (k := 1) hx hb dX6_when_8) ?_
  refine ruL_c (n := 9) (n2 := 10) rfl (ru_iald hx hb hK dX6_when_9) ?_
  refine ruL_c (n := 10) (n2 := 11) rfl (ru_iald hx hb hK dX6_when_10) ?_
  refine ruL_c (n := 11) (n2 := 12) rfl (ru_aload_n (k := 0) hx hb dX6_when_11) ?_
  refine ruL_c (n := 12) (n2 := 13) rfl (ru_getR (own := RX6) (j := 8) (T := TX6) hx hb hown hK hts hin6 (by decide) rfl rfl (by decide) rfl hl29 dX6_when_12) ?_
  refine ruL_c (n := 13) (n2 := 14) rfl (ru_bot) ?_
  refine ruL_c (n := 14) (n2 := 15) rfl (ru_bot) ?_
  refine ruL_c (n := 15) (n2 := 16) rfl (ru_iload_n (k := 1) hx hb dX6_when_15) ?_
  refine ruL_c (n := 16) (n2 := 17) rfl (ru_iald hx hb hK dX6_when_16) ?_
  refine ruL_c (n := 17) (n2 := 18) rfl (ru_iadd hx hb dX6_when_17) ?_
  refine ruL_c (n := 18) (n2 := 19) rfl (ru_iret hx hb hK hr hlocks dX6_when_18) ?_
  exact trivial

-- CueTourModel.isAhead
def f_X6_isAhead (p0 : Int32) (p1 : Int32) (σ : aM) : Option (Int32 × aM) := if inb p0 20 = true then if inb p1 20 = true then if (σ 34 (ix p0)) = (σ 34 (ix p1)) then if inb p0 20 = true then if inb p1 20 = true then if (σ 35 (ix p0)) < (σ 35 (ix p1)) then some (1, σ) else if inb p0 20 = true then if inb p1 20 = true then if ¬ (σ 35 (ix p0)) = (σ 35 (ix p1)) then some (0, σ) else if p1 ≤ p0 then some (0, σ) else some (1, σ) else none else none else none else none else if inb p0 20 = true then if inb p1 20 = true then if (σ 34 (ix p1)) ≤ (σ 34 (ix p0)) then some (0, σ) else some (1, σ) else none else none else none else none
def F_X6_isAhead : aF := fun As σ => match As with
  | [.int p0, .int p1] => f_X6_isAhead p0 p1 σ
  | _ => none
def T_X6_isAhead (Qa : Int32 → aM → Prop) : List aI := [I_aload 0 1, I_getR 6 34, I_bot, I_bot, I_iload 1 1, I_iald, I_aload 0 1, I_getR 6 34, I_bot, I_bot, I_iload 2 1, I_iald, I_icmp (fun x y => x = y) 36, I_bot, I_bot, I_aload 0 1, I_getR 6 34, I_bot, I_bot, I_iload 1 1, I_iald, I_aload 0 1, I_getR 6 34, I_bot, I_bot, I_iload 2 1, I_iald, I_icmp (fun x y => y ≤ x) 34, I_bot, I_bot, I_const 1 1, I_goto 35, I_bot, I_bot, I_const 0 1, I_zret Qa, I_aload 0 1, I_getR 6 35, I_bot, I_bot, I_iload 1 1, I_iald, I_aload 0 1, I_getR 6 35, I_bot, I_bot, I_iload 2 1, I_iald, I_icmp (fun x y => x < y) 71, I_bot, I_bot, I_aload 0 1, I_getR 6 35, I_bot, I_bot, I_iload 1 1, I_iald, I_aload 0 1, I_getR 6 35, I_bot, I_bot, I_iload 2 1, I_iald, I_icmp (fun x y => ¬ x = y) 75, I_bot, I_bot, I_iload 1 1, I_iload 2 1, I_icmp (fun x y => y ≤ x) 75, I_bot, I_bot, I_const 1 1, I_goto 76, I_bot, I_bot, I_const 0 1, I_zret Qa]
set_option maxHeartbeats 4000000 in
set_option maxRecDepth 100000 in
theorem s_X6_isAhead : runs T_X6_isAhead [.ref 6] 3 F_X6_isAhead := by
  intro Qa K hw hf As σ r σ' h hQ
  unfold F_X6_isAhead at h
  split at h
  · rename_i p0 p1
    unfold f_X6_isAhead at h
    have hQ : Qa (r, σ').1 (r, σ').2 := hQ
    generalize (r, σ') = y at h hQ
    show K (0, [.ref 6, .int p0, .int p1], [], σ)
    obtain ⟨g1, h⟩ := ite_some h
    obtain ⟨g2, h⟩ := ite_some h
    rcases ite_cases h with ⟨c3, h⟩ | ⟨c3, h⟩
    · refine hw 9 _ ?_
      show kd 34 = 1 ∧ (inb p0 20 = true ∧ (kd 34 = 1 ∧ (inb p1 20 = true ∧ ((((σ 34 (ix p0)) = (σ 34 (ix p1))) → K (36, [.ref 6, .int p0, .int p1], [], σ)) ∧ (¬ ((σ 34 (ix p0)) = (σ 34 (ix p1))) → K (15, [.ref 6, .int p0, .int p1], [], σ))))))
      refine ⟨rfl, g1, rfl, g2, ⟨fun _ => ?_, fun q => absurd c3 q⟩⟩
      obtain ⟨g4, h⟩ := ite_some h
      obtain ⟨g5, h⟩ := ite_some h
      rcases ite_cases h with ⟨c6, h⟩ | ⟨c6, h⟩
      · refine hw 9 _ ?_
        show kd 35 = 1 ∧ (inb p0 20 = true ∧ (kd 35 = 1 ∧ (inb p1 20 = true ∧ ((((σ 35 (ix p0)) < (σ 35 (ix p1))) → K (71, [.ref 6, .int p0, .int p1], [], σ)) ∧ (¬ ((σ 35 (ix p0)) < (σ 35 (ix p1))) → K (51, [.ref 6, .int p0, .int p1], [], σ))))))
        refine ⟨rfl, g4, rfl, g5, ⟨fun _ => ?_, fun q => absurd c6 q⟩⟩
        obtain rfl := Option.some.inj h
        refine hw 3 _ ?_
        show (1 = (0:Int32) ∨ 1 = (1:Int32)) ∧ (Qa 1 σ)
        refine ⟨Or.inr rfl, hQ⟩
      · refine hw 9 _ ?_
        show kd 35 = 1 ∧ (inb p0 20 = true ∧ (kd 35 = 1 ∧ (inb p1 20 = true ∧ ((((σ 35 (ix p0)) < (σ 35 (ix p1))) → K (71, [.ref 6, .int p0, .int p1], [], σ)) ∧ (¬ ((σ 35 (ix p0)) < (σ 35 (ix p1))) → K (51, [.ref 6, .int p0, .int p1], [], σ))))))
        refine ⟨rfl, g4, rfl, g5, ⟨fun q => absurd q c6, fun _ => ?_⟩⟩
        obtain ⟨g7, h⟩ := ite_some h
        obtain ⟨g8, h⟩ := ite_some h
        rcases ite_cases h with ⟨c9, h⟩ | ⟨c9, h⟩
        · refine hw 9 _ ?_
          show kd 35 = 1 ∧ (inb p0 20 = true ∧ (kd 35 = 1 ∧ (inb p1 20 = true ∧ (((¬ (σ 35 (ix p0)) = (σ 35 (ix p1))) → K (75, [.ref 6, .int p0, .int p1], [], σ)) ∧ (¬ (¬ (σ 35 (ix p0)) = (σ 35 (ix p1))) → K (66, [.ref 6, .int p0, .int p1], [], σ))))))
          refine ⟨rfl, g7, rfl, g8, ⟨fun _ => ?_, fun q => absurd c9 q⟩⟩
          obtain rfl := Option.some.inj h
          refine hw 2 _ ?_
          show (0 = (0:Int32) ∨ 0 = (1:Int32)) ∧ (Qa 0 σ)
          refine ⟨Or.inl rfl, hQ⟩
        · refine hw 9 _ ?_
          show kd 35 = 1 ∧ (inb p0 20 = true ∧ (kd 35 = 1 ∧ (inb p1 20 = true ∧ (((¬ (σ 35 (ix p0)) = (σ 35 (ix p1))) → K (75, [.ref 6, .int p0, .int p1], [], σ)) ∧ (¬ (¬ (σ 35 (ix p0)) = (σ 35 (ix p1))) → K (66, [.ref 6, .int p0, .int p1], [], σ))))))
          refine ⟨rfl, g7, rfl, g8, ⟨fun q => absurd q c9, fun _ => ?_⟩⟩
          rcases ite_cases h with ⟨c10, h⟩ | ⟨c10, h⟩
          · refine hw 3 _ ?_
            show ((p1 ≤ p0) → K (75, [.ref 6, .int p0, .int p1], [], σ)) ∧ (¬ (p1 ≤ p0) → K (71, [.ref 6, .int p0, .int p1], [], σ))
            refine ⟨fun _ => ?_, fun q => absurd c10 q⟩
            obtain rfl := Option.some.inj h
            refine hw 2 _ ?_
            show (0 = (0:Int32) ∨ 0 = (1:Int32)) ∧ (Qa 0 σ)
            refine ⟨Or.inl rfl, hQ⟩
          · refine hw 3 _ ?_
            show ((p1 ≤ p0) → K (75, [.ref 6, .int p0, .int p1], [], σ)) ∧ (¬ (p1 ≤ p0) → K (71, [.ref 6, .int p0, .int p1], [], σ))
            refine ⟨fun q => absurd q c10, fun _ => ?_⟩
            obtain rfl := Option.some.inj h
            refine hw 3 _ ?_
            show (1 = (0:Int32) ∨ 1 = (1:Int32)) ∧ (Qa 1 σ)
            refine ⟨Or.inr rfl, hQ⟩
    · refine hw 9 _ ?_
      show kd 34 = 1 ∧ (inb p0 20 = true ∧ (kd 34 = 1 ∧ (inb p1 20 = true ∧ ((((σ 34 (ix p0)) = (σ 34 (ix p1))) → K (36, [.ref 6, .int p0, .int p1], [], σ)) ∧ (¬ ((σ 34 (ix p0)) = (σ 34 (ix p1))) → K (15, [.ref 6, .int p0, .int p1], [], σ))))))
      refine ⟨rfl, g1, rfl, g2, ⟨fun q => absurd q c3, fun _ => ?_⟩⟩
      obtain ⟨g11, h⟩ := ite_some h
      obtain ⟨g12, h⟩ := ite_some h
      rcases ite_cases h with ⟨c13, h⟩ | ⟨c13, h⟩
      · refine hw 9 _ ?_
        show kd 34 = 1 ∧ (inb p0 20 = true ∧ (kd 34 = 1 ∧ (inb p1 20 = true ∧ ((((σ 34 (ix p1)) ≤ (σ 34 (ix p0))) → K (34, [.ref 6, .int p0, .int p1], [], σ)) ∧ (¬ ((σ 34 (ix p1)) ≤ (σ 34 (ix p0))) → K (30, [.ref 6, .int p0, .int p1], [], σ))))))
        refine ⟨rfl, g11, rfl, g12, ⟨fun _ => ?_, fun q => absurd c13 q⟩⟩
        obtain rfl := Option.some.inj h
        refine hw 2 _ ?_
        show (0 = (0:Int32) ∨ 0 = (1:Int32)) ∧ (Qa 0 σ)
        refine ⟨Or.inl rfl, hQ⟩
      · refine hw 9 _ ?_
        show kd 34 = 1 ∧ (inb p0 20 = true ∧ (kd 34 = 1 ∧ (inb p1 20 = true ∧ ((((σ 34 (ix p1)) ≤ (σ 34 (ix p0))) → K (34, [.ref 6, .int p0, .int p1], [], σ)) ∧ (¬ ((σ 34 (ix p1)) ≤ (σ 34 (ix p0))) → K (30, [.ref 6, .int p0, .int p1], [], σ))))))
        refine ⟨rfl, g11, rfl, g12, ⟨fun q => absurd q c13, fun _ => ?_⟩⟩
        obtain rfl := Option.some.inj h
        refine hw 3 _ ?_
        show (1 = (0:Int32) ∨ 1 = (1:Int32)) ∧ (Qa 1 σ)
        refine ⟨Or.inr rfl, hQ⟩
  · cases h
theorem h_X6_isAhead : shp [.ref 6] 3 F_X6_isAhead := by
  intro As σ r σ' h
  unfold F_X6_isAhead at h
  split at h
  · exact ⟨by simp [Value.category], Nat.le_of_ble_eq_true rfl⟩
  · cases h
set_option maxHeartbeats 4000000 in
set_option maxRecDepth 100000 in
theorem c_X6_isAhead (l : Launch) (D : va_G) (cI cZ cA cL : ClassId) (ad : Nat → Nat) (hi : adI ad) : CtI l yX6_isAhead wsX6_isAhead { frames := 0, cells := 0, slots := 0, locals := 0 } D cI cZ cA cL ad [.ref 6] F_X6_isAhead := by
  refine mk_I [.ref 6] F_X6_isAhead T_X6_isAhead (by decide +kernel) rfl ?_ h_X6_isAhead s_X6_isAhead
  intro p e s m args below meth c Qa ⟨hx, hb, hml, hown, hts, hr, hlocks, hK, hN⟩
  have hin6 : ∀ w ∈ u_ws RX6 TX6 30, w ∈ wsX6_isAhead := by decide +kernel
  have hl26 : (Cond.fieldLink RX6 26 RX6 (TX6 7).2.1 (TX6 7).2.2.1) ∈ wsX6_isAhead := by decide +kernel
  have hl29 : (Cond.fieldLink RX6 29 RX6 (TX6 8).2.1 (TX6 8).2.2.1) ∈ wsX6_isAhead := by decide +kernel
  refine ruL_c (n := 0) (n2 := 1) rfl (ru_aload_n (k := 0) hx hb dX6_isAhead_0) ?_
  refine ruL_c (n := 1) (n2 := 2) rfl (ru_getR (own := RX6) (j := 7) (T := TX6) hx hb hown hK hts hin6 (by decide) rfl rfl (by decide) rfl hl26 dX6_isAhead_1) ?_
  refine ruL_c (n := 2) (n2 := 3) rfl (ru_bot) ?_
  refine ruL_c (n := 3) (n2 := 4) rfl (ru_bot) ?_
  refine ruL_c (n := 4) (n2 := 5) rfl (ru_iload_n (k := 1) hx hb dX6_isAhead_4) ?_
  refine ruL_c (n := 5) (n2 := 6) rfl (ru_iald hx hb hK dX6_isAhead_5) ?_
  refine ruL_c (n := 6) (n2 := 7) rfl (ru_aload_n (k := 0) hx hb dX6_isAhead_6) ?_
  refine ruL_c (n := 7) (n2 := 8) rfl (ru_getR (own := RX6) (j := 7) (T := TX6) hx hb hown hK hts hin6 (by decide) rfl rfl (by decide) rfl hl26 dX6_isAhead_7) ?_
  refine ruL_c (n := 8) (n2 := 9) rfl (ru_bot) ?_
  refine ruL_c (n := 9) (n2 := 10) rfl (ru_bot) ?_
  refine ruL_c (n := 10) (n2 := 11) rfl (ru_iload_n (k := 2) hx hb dX6_isAhead_10) ?_
  refine ruL_c (n := 11) (n2 := 12) rfl (ru_iald hx hb hK dX6_isAhead_11) ?_
  refine ruL_c (n := 12) (n2 := 13) rfl (ru_icmpeq hx hb dX6_isAhead_12 (by decide)) ?_
  refine ruL_c (n := 13) (n2 := 14) rfl (ru_bot) ?_
  refine ruL_c (n := 14) (n2 := 15) rfl (ru_bot) ?_
  refine ruL_c (n := 15) (n2 := 16) rfl (ru_aload_n (k := 0) hx hb dX6_isAhead_15) ?_
  refine ruL_c (n := 16) (n2 := 17) rfl (ru_getR (own := RX6) (j := 7) (T := TX6) hx hb hown hK hts hin6 (by decide) rfl rfl (by decide) rfl hl26 dX6_isAhead_16) ?_
  refine ruL_c (n := 17) (n2 := 18) rfl (ru_bot) ?_
  refine ruL_c (n := 18) (n2 := 19) rfl (ru_bot) ?_
  refine ruL_c (n := 19) (n2 := 20) rfl (ru_iload_n (k := 1) hx hb dX6_isAhead_19) ?_
  refine ruL_c (n := 20) (n2 := 21) rfl (ru_iald hx hb hK dX6_isAhead_20) ?_
  refine ruL_c (n := 21) (n2 := 22) rfl (ru_aload_n (k := 0) hx hb dX6_isAhead_21) ?_
  refine ruL_c (n := 22) (n2 := 23) rfl (ru_getR (own := RX6) (j := 7) (T := TX6) hx hb hown hK hts hin6 (by decide) rfl rfl (by decide) rfl hl26 dX6_isAhead_22) ?_
  refine ruL_c (n := 23) (n2 := 24) rfl (ru_bot) ?_
  refine ruL_c (n := 24) (n2 := 25) rfl (ru_bot) ?_
  refine ruL_c (n := 25) (n2 := 26) rfl (ru_iload_n (k := 2) hx hb dX6_isAhead_25) ?_
  refine ruL_c (n := 26) (n2 := 27) rfl (ru_iald hx hb hK dX6_isAhead_26) ?_
  refine ruL_c (n := 27) (n2 := 28) rfl (ru_icmpge hx hb dX6_isAhead_27 (by decide)) ?_
  refine ruL_c (n := 28) (n2 := 29) rfl (ru_bot) ?_
  refine ruL_c (n := 29) (n2 := 30) rfl (ru_bot) ?_
  refine ruL_c (n := 30) (n2 := 31) rfl (ru_iconst hx hb dX6_isAhead_30 rfl) ?_
  refine ruL_c (n := 31) (n2 := 32) rfl (ru_goto hx hb dX6_isAhead_31 (by decide)) ?_
  refine ruL_c (n := 32) (n2 := 33) rfl (ru_bot) ?_
  refine ruL_c (n := 33) (n2 := 34) rfl (ru_bot) ?_
  refine ruL_c (n := 34) (n2 := 35) rfl (ru_iconst hx hb dX6_isAhead_34 rfl) ?_
  refine ruL_c (n := 35) (n2 := 36) rfl (ru_zret hx hb hK hr hlocks dX6_isAhead_35) ?_
  refine ruL_c (n := 36) (n2 := 37) rfl (ru_aload_n (k := 0) hx hb dX6_isAhead_36) ?_
  refine ruL_c (n := 37) (n2 := 38) rfl (ru_getR (own := RX6) (j := 8) (T := TX6) hx hb hown hK hts hin6 (by decide) rfl rfl (by decide) rfl hl29 dX6_isAhead_37) ?_
  refine ruL_c (n := 38) (n2 := 39) rfl (ru_bot) ?_
  refine ruL_c (n := 39) (n2 := 40) rfl (ru_bot) ?_
  refine ruL_c (n := 40) (n2 := 41) rfl (ru_iload_n (k := 1) hx hb dX6_isAhead_40) ?_
  refine ruL_c (n := 41) (n2 := 42) rfl (ru_iald hx hb hK dX6_isAhead_41) ?_
  refine ruL_c (n := 42) (n2 := 43) rfl (ru_aload_n (k := 0) hx hb dX6_isAhead_42) ?_
  refine ruL_c (n := 43) (n2 := 44) rfl (ru_getR (own := RX6) (j := 8) (T := TX6) hx hb hown hK hts hin6 (by decide) rfl rfl (by decide) rfl hl29 dX6_isAhead_43) ?_
  refine ruL_c (n := 44) (n2 := 45) rfl (ru_bot) ?_
  refine ruL_c (n := 45) (n2 := 46) rfl (ru_bot) ?_
  refine ruL_c (n := 46) (n2 := 47) rfl (ru_iload_n (k := 2) hx hb dX6_isAhead_46) ?_
  refine ruL_c (n := 47) (n2 := 48) rfl (ru_iald hx hb hK dX6_isAhead_47) ?_
  refine ruL_c (n := 48) (n2 := 49) rfl (ru_icmplt hx hb dX6_isAhead_48 (by decide)) ?_
  refine ruL_c (n := 49) (n2 := 50) rfl (ru_bot) ?_
  refine ruL_c (n := 50) (n2 := 51) rfl (ru_bot) ?_
  refine ruL_c (n := 51) (n2 := 52) rfl (ru_aload_n (k := 0) hx hb dX6_isAhead_51) ?_
  refine ruL_c (n := 52) (n2 := 53) rfl (ru_getR (own := RX6) (j := 8) (T := TX6) hx hb hown hK hts hin6 (by decide) rfl rfl (by decide) rfl hl29 dX6_isAhead_52) ?_
  refine ruL_c (n := 53) (n2 := 54) rfl (ru_bot) ?_
  refine ruL_c (n := 54) (n2 := 55) rfl (ru_bot) ?_
  refine ruL_c (n := 55) (n2 := 56) rfl (ru_iload_n (k := 1) hx hb dX6_isAhead_55) ?_
  refine ruL_c (n := 56) (n2 := 57) rfl (ru_iald hx hb hK dX6_isAhead_56) ?_
  refine ruL_c (n := 57) (n2 := 58) rfl (ru_aload_n (k := 0) hx hb dX6_isAhead_57) ?_
  refine ruL_c (n := 58) (n2 := 59) rfl (ru_getR (own := RX6) (j := 8) (T := TX6) hx hb hown hK hts hin6 (by decide) rfl rfl (by decide) rfl hl29 dX6_isAhead_58) ?_
  refine ruL_c (n := 59) (n2 := 60) rfl (ru_bot) ?_
  refine ruL_c (n := 60) (n2 := 61) rfl (ru_bot) ?_
  refine ruL_c (n := 61) (n2 := 62) rfl (ru_iload_n (k := 2) hx hb dX6_isAhead_61) ?_
  refine ruL_c (n := 62) (n2 := 63) rfl (ru_iald hx hb hK dX6_isAhead_62) ?_
  refine ruL_c (n := 63) (n2 := 64) rfl (ru_icmpne hx hb dX6_isAhead_63 (by decide)) ?_
  refine ruL_c (n := 64) (n2 := 65) rfl (ru_bot) ?_
  refine ruL_c (n := 65) (n2 := 66) rfl (ru_bot) ?_
  refine ruL_c (n := 66) (n2 := 67) rfl (ru_iload_n (k := 1) hx hb dX6_isAhead_66) ?_
  refine ruL_c (n := 67) (n2 := 68) rfl (ru_iload_n (k := 2) hx hb dX6_isAhead_67) ?_
  refine ruL_c (n := 68) (n2 := 69) rfl (ru_icmpge hx hb dX6_isAhead_68 (by decide)) ?_
  refine ruL_c (n := 69) (n2 := 70) rfl (ru_bot) ?_
  refine ruL_c (n := 70) (n2 := 71) rfl (ru_bot) ?_
  refine ruL_c (n := 71) (n2 := 72) rfl (ru_iconst hx hb dX6_isAhead_71 rfl) ?_
  refine ruL_c (n := 72) (n2 := 73) rfl (ru_goto hx hb dX6_isAhead_72 (by decide)) ?_
  refine ruL_c (n := 73) (n2 := 74) rfl (ru_bot) ?_
  refine ruL_c (n := 74) (n2 := 75) rfl (ru_bot) ?_
  refine ruL_c (n := 75) (n2 := 76) rfl (ru_iconst hx hb dX6_isAhead_75 rfl) ?_
  refine ruL_c (n := 76) (n2 := 77) rfl (ru_zret hx hb hK hr hlocks dX6_isAhead_76) ?_
  exact trivial

-- CueTourModel.orders
def l_X6_orders_14 (x4 : Int32) : Nat → Int32 → Int32 → aM → (Int32 → Int32 → aM → Option (Int32 × aM)) → Option (Int32 × aM)
  | 0, _, _, _, _ => none
  | n + 1, v5, v6, σ7, k => if (σ7 6 11) ≤ v6 then k v5 v6 σ7 else if v6 = x4 then l_X6_orders_14 x4 n (v5 + 0) (v6 + 1) σ7 k else bnd (f_X6_isAhead v6 x4 σ7) (fun r10 σ11 => if r10 = 0 then l_X6_orders_14 x4 n (v5 + 0) (v6 + 1) σ11 k else l_X6_orders_14 x4 n (v5 + 1) (v6 + 1) σ11 k)
def l_X6_orders_2 : Nat → Int32 → aM → (Int32 → aM → Option (Int32 × aM)) → Option (Int32 × aM)
  | 0, _, _, _ => none
  | n + 1, v1, σ2, k => if (σ2 6 11) ≤ v1 then k v1 σ2 else l_X6_orders_14 v1 lf 0 0 σ2 (fun v14 v15 σ16 => if inb v14 20 = true then l_X6_orders_2 n (v1 + 1) (mput σ16 47 (ix v14) v1) k else none)
def f_X6_orders (σ : aM) : Option (Int32 × aM) := l_X6_orders_2 lf 0 σ (fun v18 σ19 => some (0, σ19))
def F_X6_orders : aF := fun As σ => match As with
  | [] => f_X6_orders σ
  | _ => none
def T_X6_orders (Qa : Int32 → aM → Prop) : List aI := [I_const 0 1, I_istore 1 1, I_iload 1 1, I_aload 0 1, I_getI 6 11, I_bot, I_bot, I_icmp (fun x y => y ≤ x) 63, I_bot, I_bot, I_const 0 1, I_istore 2 1, I_const 0 1, I_istore 3 1, I_iload 3 1, I_aload 0 1, I_getI 6 11, I_bot, I_bot, I_icmp (fun x y => y ≤ x) 50, I_bot, I_bot, I_iload 2 1, I_iload 3 1, I_iload 1 1, I_icmp (fun x y => x = y) 41, I_bot, I_bot, I_aload 0 1, I_iload 3 1, I_iload 1 1, I_callV 6 2 F_X6_isAhead, I_bot, I_bot, I_if (fun x => x = 0) 41, I_bot, I_bot, I_const 1 1, I_goto 42, I_bot, I_bot, I_const 0 1, I_bin fun x y => x + y, I_istore 2 1, I_iinc 3 (1), I_bot, I_bot, I_goto 14, I_bot, I_bot, I_aload 0 1, I_getR 6 47, I_bot, I_bot, I_iload 2 1, I_iload 1 1, I_iast, I_iinc 1 (1), I_bot, I_bot, I_goto 2, I_bot, I_bot, I_vret Qa]
set_option maxHeartbeats 4000000 in
set_option maxRecDepth 100000 in
theorem t_X6_orders_14 {Qa : Int32 → aM → Prop} {K : aS → Prop} (hw : ∀ k x, wp (T_X6_orders Qa) k K x → K x) (hf : ∀ pc L i st σ, K (pc, L.set i .null, st, σ) → K (pc, L, st, σ)) (x4 : Int32) (y : Int32 × aM) (k : Int32 → Int32 → aM → Option (Int32 × aM)) :
    ∀ (n : Nat) (v5 : Int32) (v6 : Int32) (σ7 : aM), l_X6_orders_14 x4 n v5 v6 σ7 k = some y → (∀ (w0 : Int32) (w1 : Int32) (τ : aM), k w0 w1 τ = some y → K (50, [.ref 6, .int x4, .int w0, .int w1], [], τ)) → K (14, [.ref 6, .int x4, .int v5, .int v6], [], σ7) := by
  intro n
  induction n with
  | zero =>
    intro v5 v6 σ7 h hk
    exact absurd h (by simp [l_X6_orders_14])
  | succ n ih =>
    intro v5 v6 σ7 h hk
    unfold l_X6_orders_14 at h
    rcases ite_cases h with ⟨c8, h⟩ | ⟨c8, h⟩
    · refine hw 4 _ ?_
      show (((σ7 6 11) ≤ v6) → K (50, [.ref 6, .int x4, .int v5, .int v6], [], σ7)) ∧ (¬ ((σ7 6 11) ≤ v6) → K (22, [.ref 6, .int x4, .int v5, .int v6], [], σ7))
      refine ⟨fun _ => ?_, fun q => absurd c8 q⟩
      exact hk v5 v6 σ7 h
    · refine hw 4 _ ?_
      show (((σ7 6 11) ≤ v6) → K (50, [.ref 6, .int x4, .int v5, .int v6], [], σ7)) ∧ (¬ ((σ7 6 11) ≤ v6) → K (22, [.ref 6, .int x4, .int v5, .int v6], [], σ7))
      refine ⟨fun q => absurd q c8, fun _ => ?_⟩
      rcases ite_cases h with ⟨c9, h⟩ | ⟨c9, h⟩
      · refine hw 4 _ ?_
        show ((v6 = x4) → K (41, [.ref 6, .int x4, .int v5, .int v6], [.int v5], σ7)) ∧ (¬ (v6 = x4) → K (28, [.ref 6, .int x4, .int v5, .int v6], [.int v5], σ7))
        refine ⟨fun _ => ?_, fun q => absurd c9 q⟩
        refine hw 5 _ ?_
        show K (14, [.ref 6, .int x4, .int (v5 + 0), .int (v6 + 1)], [], σ7)
        exact ih (v5 + 0) (v6 + 1) σ7 h hk
      · refine hw 4 _ ?_
        show ((v6 = x4) → K (41, [.ref 6, .int x4, .int v5, .int v6], [.int v5], σ7)) ∧ (¬ (v6 = x4) → K (28, [.ref 6, .int x4, .int v5, .int v6], [.int v5], σ7))
        refine ⟨fun q => absurd q c9, fun _ => ?_⟩
        obtain ⟨r10, σ11, e12, h⟩ := bnd_some h
        refine hw 4 _ ?_
        show ∃ r10 σ11, f_X6_isAhead v6 x4 σ7 = some (r10, σ11) ∧ K (34, [.ref 6, .int x4, .int v5, .int v6], [.int r10, .int v5], σ11)
        refine ⟨r10, σ11, e12, ?_⟩
        rcases ite_cases h with ⟨c13, h⟩ | ⟨c13, h⟩
        · refine hw 1 _ ?_
          show ((r10 = 0) → K (41, [.ref 6, .int x4, .int v5, .int v6], [.int v5], σ11)) ∧ (¬ (r10 = 0) → K (37, [.ref 6, .int x4, .int v5, .int v6], [.int v5], σ11))
          refine ⟨fun _ => ?_, fun q => absurd c13 q⟩
          refine hw 5 _ ?_
          show K (14, [.ref 6, .int x4, .int (v5 + 0), .int (v6 + 1)], [], σ11)
          exact ih (v5 + 0) (v6 + 1) σ11 h hk
        · refine hw 1 _ ?_
          show ((r10 = 0) → K (41, [.ref 6, .int x4, .int v5, .int v6], [.int v5], σ11)) ∧ (¬ (r10 = 0) → K (37, [.ref 6, .int x4, .int v5, .int v6], [.int v5], σ11))
          refine ⟨fun q => absurd q c13, fun _ => ?_⟩
          refine hw 6 _ ?_
          show K (14, [.ref 6, .int x4, .int (v5 + 1), .int (v6 + 1)], [], σ11)
          exact ih (v5 + 1) (v6 + 1) σ11 h hk

set_option maxHeartbeats 4000000 in
set_option maxRecDepth 100000 in
theorem t_X6_orders_2 {Qa : Int32 → aM → Prop} {K : aS → Prop} (hw : ∀ k x, wp (T_X6_orders Qa) k K x → K x) (hf : ∀ pc L i st σ, K (pc, L.set i .null, st, σ) → K (pc, L, st, σ)) (y : Int32 × aM) (k : Int32 → aM → Option (Int32 × aM)) :
    ∀ (n : Nat) (v1 : Int32) (σ2 : aM), l_X6_orders_2 n v1 σ2 k = some y → (∀ (w0 : Int32) (τ : aM), k w0 τ = some y → K (63, [.ref 6, .int w0, .null, .null], [], τ)) → K (2, [.ref 6, .int v1, .null, .null], [], σ2) := by
  intro n
  induction n with
  | zero =>
    intro v1 σ2 h hk
    exact absurd h (by simp [l_X6_orders_2])
  | succ n ih =>
    intro v1 σ2 h hk
    unfold l_X6_orders_2 at h
    rcases ite_cases h with ⟨c3, h⟩ | ⟨c3, h⟩
    · refine hw 4 _ ?_
      show (((σ2 6 11) ≤ v1) → K (63, [.ref 6, .int v1, .null, .null], [], σ2)) ∧ (¬ ((σ2 6 11) ≤ v1) → K (10, [.ref 6, .int v1, .null, .null], [], σ2))
      refine ⟨fun _ => ?_, fun q => absurd c3 q⟩
      exact hk v1 σ2 h
    · refine hw 4 _ ?_
      show (((σ2 6 11) ≤ v1) → K (63, [.ref 6, .int v1, .null, .null], [], σ2)) ∧ (¬ ((σ2 6 11) ≤ v1) → K (10, [.ref 6, .int v1, .null, .null], [], σ2))
      refine ⟨fun q => absurd q c3, fun _ => ?_⟩
      refine hw 4 _ ?_
      show K (14, [.ref 6, .int v1, .int 0, .int 0], [], σ2)
      refine t_X6_orders_14 hw hf v1 _ _ lf 0 0 σ2 h (fun v14 v15 σ16 h => ?_)
      show K (50, [.ref 6, .int v1, .int v14, .int v15], [], σ16)
      obtain ⟨g17, h⟩ := ite_some h
      refine hw 7 _ ?_
      show kd 47 = 1 ∧ (inb v14 20 = true ∧ (K (2, [.ref 6, .int (v1 + 1), .int v14, .int v15], [], mput σ16 47 (ix v14) v1)))
      refine ⟨rfl, g17, ?_⟩
      refine hf _ _ 2 _ _ ?_
      show K (2, [.ref 6, .int (v1 + 1), .null, .int v15], [], mput σ16 47 (ix v14) v1)
      refine hf _ _ 3 _ _ ?_
      show K (2, [.ref 6, .int (v1 + 1), .null, .null], [], mput σ16 47 (ix v14) v1)
      exact ih (v1 + 1) (mput σ16 47 (ix v14) v1) h hk

set_option maxHeartbeats 4000000 in
set_option maxRecDepth 100000 in
theorem s_X6_orders : runs T_X6_orders [.ref 6] 4 F_X6_orders := by
  intro Qa K hw hf As σ r σ' h hQ
  unfold F_X6_orders at h
  split at h
  · unfold f_X6_orders at h
    have hQ : Qa (r, σ').1 (r, σ').2 := hQ
    generalize (r, σ') = y at h hQ
    show K (0, [.ref 6, .null, .null, .null], [], σ)
    refine hw 2 _ ?_
    show K (2, [.ref 6, .int 0, .null, .null], [], σ)
    refine t_X6_orders_2 hw hf _ _ lf 0 σ h (fun v18 σ19 h => ?_)
    show K (63, [.ref 6, .int v18, .null, .null], [], σ19)
    obtain rfl := Option.some.inj h
    refine hw 1 _ ?_
    show Qa 0 σ19
    refine hQ
  · cases h
theorem h_X6_orders : shp [.ref 6] 4 F_X6_orders := by
  intro As σ r σ' h
  unfold F_X6_orders at h
  split at h
  · exact ⟨by simp [Value.category], Nat.le_of_ble_eq_true rfl⟩
  · cases h
set_option maxHeartbeats 4000000 in
set_option maxRecDepth 100000 in
theorem c_X6_orders (l : Launch) (D : va_G) (cI cZ cA cL : ClassId) (ad : Nat → Nat) (hi : adI ad) : CtV l yX6_orders wsX6_orders { frames := 1, cells := 0, slots := 0, locals := 22 } D cI cZ cA cL ad [.ref 6] F_X6_orders := by
  refine mk_V [.ref 6] F_X6_orders T_X6_orders (by decide +kernel) rfl ?_ h_X6_orders s_X6_orders
  intro p e s m args below meth c Qa ⟨hx, hb, hml, hown, hts, hr, hlocks, hK, hN⟩
  have hin6 : ∀ w ∈ u_ws RX6 TX6 30, w ∈ wsX6_orders := by decide +kernel
  have hl111 : (Cond.fieldLink RX6 111 RX6 (TX6 11).2.1 (TX6 11).2.2.1) ∈ wsX6_orders := by decide +kernel
  have hl65 : (Cond.fieldLink RX6 65 RX6 (TX6 23).2.1 (TX6 23).2.2.1) ∈ wsX6_orders := by decide +kernel
  refine ruL_c (n := 0) (n2 := 1) rfl (ru_iconst hx hb dX6_orders_0 rfl) ?_
  refine ruL_c (n := 1) (n2 := 2) rfl (ru_istore_n (k := 1) hx hb dX6_orders_1) ?_
  refine ruL_c (n := 2) (n2 := 3) rfl (ru_iload_n (k := 1) hx hb dX6_orders_2) ?_
  refine ruL_c (n := 3) (n2 := 4) rfl (ru_aload_n (k := 0) hx hb dX6_orders_3) ?_
  refine ruL_c (n := 4) (n2 := 5) rfl (ru_getI (own := RX6) (j := 11) (T := TX6) hx hb hown hK hts hin6 (by decide) rfl rfl (by decide) rfl hl111 dX6_orders_4) ?_
  refine ruL_c (n := 5) (n2 := 6) rfl (ru_bot) ?_
  refine ruL_c (n := 6) (n2 := 7) rfl (ru_bot) ?_
  refine ruL_c (n := 7) (n2 := 8) rfl (ru_icmpge hx hb dX6_orders_7 (by decide)) ?_
  refine ruL_c (n := 8) (n2 := 9) rfl (ru_bot) ?_
  refine ruL_c (n := 9) (n2 := 10) rfl (ru_bot) ?_
  refine ruL_c (n := 10) (n2 := 11) rfl (ru_iconst hx hb dX6_orders_10 rfl) ?_
  refine ruL_c (n := 11) (n2 := 12) rfl (ru_istore_n (k := 2) hx hb dX6_orders_11) ?_
  refine ruL_c (n := 12) (n2 := 13) rfl (ru_iconst hx hb dX6_orders_12 rfl) ?_
  refine ruL_c (n := 13) (n2 := 14) rfl (ru_istore_n (k := 3) hx hb dX6_orders_13) ?_
  refine ruL_c (n := 14) (n2 := 15) rfl (ru_iload_n (k := 3) hx hb dX6_orders_14) ?_
  refine ruL_c (n := 15) (n2 := 16) rfl (ru_aload_n (k := 0) hx hb dX6_orders_15) ?_
  refine ruL_c (n := 16) (n2 := 17) rfl (ru_getI (own := RX6) (j := 11) (T := TX6) hx hb hown hK hts hin6 (by decide) rfl rfl (by decide) rfl hl111 dX6_orders_16) ?_
  refine ruL_c (n := 17) (n2 := 18) rfl (ru_bot) ?_
  refine ruL_c (n := 18) (n2 := 19) rfl (ru_bot) ?_
  refine ruL_c (n := 19) (n2 := 20) rfl (ru_icmpge hx hb dX6_orders_19 (by decide)) ?_
  refine ruL_c (n := 20) (n2 := 21) rfl (ru_bot) ?_
  refine ruL_c (n := 21) (n2 := 22) rfl (ru_bot) ?_
  refine ruL_c (n := 22) (n2 := 23) rfl (ru_iload_n (k := 2) hx hb dX6_orders_22) ?_
  refine ruL_c (n := 23) (n2 := 24) rfl (ru_iload_n (k := 3) hx hb dX6_orders_23) ?_
  refine ruL_c (n := 24) (n2 := 25) rfl (ru_iload_n (k := 1) hx hb dX6_orders_24) ?_
  refine ruL_c (n := 25) (n2 := 26) rfl (ru_icmpeq hx hb dX6_orders_25 (by decide)) ?_
  refine ruL_c (n := 26) (n2 := 27) rfl (ru_bot) ?_
  refine ruL_c (n := 27) (n2 := 28) rfl (ru_bot) ?_
  refine ruL_c (n := 28) (n2 := 29) rfl (ru_aload_n (k := 0) hx hb dX6_orders_28) ?_
  refine ruL_c (n := 29) (n2 := 30) rfl (ru_iload_n (k := 3) hx hb dX6_orders_29) ?_
  refine ruL_c (n := 30) (n2 := 31) rfl (ru_iload_n (k := 1) hx hb dX6_orders_30) ?_
  refine ruL_c (n := 31) (n2 := 32) rfl (ru_callV hx hb hml hown hts hK hN (by decide) rfl (c_X6_isAhead l D cI cZ cA cL ad hi) (cwV 2 hts gX6_orders_X6_isAhead rfl rfl rfl (by decide +kernel) ⟨Nat.le_of_ble_eq_true rfl, Nat.le_of_ble_eq_true rfl⟩) dX6_orders_31 ⟨Nat.zero_le _, Nat.zero_le _⟩) ?_
  refine ruL_c (n := 32) (n2 := 33) rfl (ru_bot) ?_
  refine ruL_c (n := 33) (n2 := 34) rfl (ru_bot) ?_
  refine ruL_c (n := 34) (n2 := 35) rfl (ru_ifeq hx hb dX6_orders_34 (by decide)) ?_
  refine ruL_c (n := 35) (n2 := 36) rfl (ru_bot) ?_
  refine ruL_c (n := 36) (n2 := 37) rfl (ru_bot) ?_
  refine ruL_c (n := 37) (n2 := 38) rfl (ru_iconst hx hb dX6_orders_37 rfl) ?_
  refine ruL_c (n := 38) (n2 := 39) rfl (ru_goto hx hb dX6_orders_38 (by decide)) ?_
  refine ruL_c (n := 39) (n2 := 40) rfl (ru_bot) ?_
  refine ruL_c (n := 40) (n2 := 41) rfl (ru_bot) ?_
  refine ruL_c (n := 41) (n2 := 42) rfl (ru_iconst hx hb dX6_orders_41 rfl) ?_
  refine ruL_c (n := 42) (n2 := 43) rfl (ru_iadd hx hb dX6_orders_42) ?_
  refine ruL_c (n := 43) (n2 := 44) rfl (ru_istore_n (k := 2) hx hb dX6_orders_43) ?_
  refine ruL_c (n := 44) (n2 := 45) rfl (ru_iinc hx hb dX6_orders_44 rfl) ?_
  refine ruL_c (n := 45) (n2 := 46) rfl (ru_bot) ?_
  refine ruL_c (n := 46) (n2 := 47) rfl (ru_bot) ?_
  refine ruL_c (n := 47) (n2 := 48) rfl (ru_goto hx hb dX6_orders_47 (by decide)) ?_
  refine ruL_c (n := 48) (n2 := 49) rfl (ru_bot) ?_
  refine ruL_c (n := 49) (n2 := 50) rfl (ru_bot) ?_
  refine ruL_c (n := 50) (n2 := 51) rfl (ru_aload_n (k := 0) hx hb dX6_orders_50) ?_
  refine ruL_c (n := 51) (n2 := 52) rfl (ru_getR (own := RX6) (j := 23) (T := TX6) hx hb hown hK hts hin6 (by decide) rfl rfl (by decide) rfl hl65 dX6_orders_51) ?_
  refine ruL_c (n := 52) (n2 := 53) rfl (ru_bot) ?_
  refine ruL_c (n := 53) (n2 := 54) rfl (ru_bot) ?_
  refine ruL_c (n := 54) (n2 := 55) rfl (ru_iload_n (k := 2) hx hb dX6_orders_54) ?_
  refine ruL_c (n := 55) (n2 := 56) rfl (ru_iload_n (k := 1) hx hb dX6_orders_55) ?_
  refine ruL_c (n := 56) (n2 := 57) rfl (ru_iast hx hb hK hi dX6_orders_56) ?_
  refine ruL_c (n := 57) (n2 := 58) rfl (ru_iinc hx hb dX6_orders_57 rfl) ?_
  refine ruL_c (n := 58) (n2 := 59) rfl (ru_bot) ?_
  refine ruL_c (n := 59) (n2 := 60) rfl (ru_bot) ?_
  refine ruL_c (n := 60) (n2 := 61) rfl (ru_goto hx hb dX6_orders_60 (by decide)) ?_
  refine ruL_c (n := 61) (n2 := 62) rfl (ru_bot) ?_
  refine ruL_c (n := 62) (n2 := 63) rfl (ru_bot) ?_
  refine ruL_c (n := 63) (n2 := 64) rfl (ru_vret hx hb hK hr hlocks dX6_orders_63) ?_
  exact trivial

-- CueTourModel.plays
def l_X6_plays_6 : Nat → Int32 → aM → (Int32 → aM → Option (Int32 × aM)) → Option (Int32 × aM)
  | 0, _, _, _ => none
  | n + 1, v4, σ5, k => if (σ5 6 4) ≤ v4 then k v4 σ5 else if ¬ v4 = 0 then if inb (v4 - 1) 30 = true then if inb (v4 - 1) 30 = true then if (σ5 30 (ix (v4 - 1))) = 0 then if inb (v4 - 1) 30 = true then if inb v4 30 = true then l_X6_plays_6 n (v4 + 1) (mput σ5 49 (ix v4) ((σ5 49 (ix (v4 - 1))) + (σ5 29 (ix (v4 - 1))))) k else none else none else if inb v4 30 = true then l_X6_plays_6 n (v4 + 1) (mput σ5 49 (ix v4) ((σ5 49 (ix (v4 - 1))) + 0)) k else none else none else none else if inb v4 30 = true then l_X6_plays_6 n (v4 + 1) (mput σ5 49 (ix v4) 0) k else none
def l_X6_plays_99 (x25 : Int32) : Nat → Int32 → aM → (Int32 → aM → Option (Int32 × aM)) → Option (Int32 × aM)
  | 0, _, _, _ => none
  | n + 1, v26, σ27, k => if v26 ≤ 0 then k v26 σ27 else if inb (v26 - 1) 20 = true then if inb (σ27 48 (ix (v26 - 1))) 20 = true then bnd (f_X6_when (σ27 47 (ix (σ27 48 (ix (v26 - 1))))) σ27) (fun r31 σ32 => if inb x25 20 = true then bnd (f_X6_when (σ32 47 (ix x25)) σ32) (fun r35 σ36 => if r31 ≤ r35 then k v26 σ36 else if inb (v26 - 1) 20 = true then if inb v26 20 = true then l_X6_plays_99 x25 n (v26 + (-1)) (mput σ36 48 (ix v26) (σ36 48 (ix (v26 - 1)))) k else none else none) else none) else none else none
def l_X6_plays_73 : Nat → Int32 → aM → (Int32 → aM → Option (Int32 × aM)) → Option (Int32 × aM)
  | 0, _, _, _ => none
  | n + 1, v17, σ18, k => if (σ18 6 11) ≤ v17 then k v17 σ18 else if inb v17 20 = true then bnd (f_X6_isPlayed (σ18 47 (ix v17)) σ18) (fun r21 σ22 => if r21 = 0 then l_X6_plays_73 n (v17 + 1) σ22 k else l_X6_plays_99 v17 lf (σ22 6 25) σ22 (fun v41 σ42 => if inb v41 20 = true then l_X6_plays_73 n (v17 + 1) (mput (mput σ42 48 (ix v41) v17) 6 25 ((σ42 6 25) + 1)) k else none)) else none
def f_X6_plays (σ : aM) : Option (Int32 × aM) := bnd (f_X6_orders σ) (fun r1 σ2 => l_X6_plays_6 lf 0 σ2 (fun v15 σ16 => l_X6_plays_73 lf 0 (mput σ16 6 25 0) (fun v44 σ45 => some (0, σ45))))
def F_X6_plays : aF := fun As σ => match As with
  | [] => f_X6_plays σ
  | _ => none
def T_X6_plays (Qa : Int32 → aM → Prop) : List aI := [I_aload 0 1, I_callVv 6 0 F_X6_orders, I_bot, I_bot, I_const 0 1, I_istore 1 1, I_iload 1 1, I_aload 0 1, I_getI 6 4, I_bot, I_bot, I_icmp (fun x y => y ≤ x) 66, I_bot, I_bot, I_aload 0 1, I_getR 6 49, I_bot, I_bot, I_iload 1 1, I_iload 1 1, I_if (fun x => ¬ x = 0) 27, I_bot, I_bot, I_const 0 1, I_goto 59, I_bot, I_bot, I_aload 0 1, I_getR 6 49, I_bot, I_bot, I_iload 1 1, I_const 1 1, I_bin fun x y => x - y, I_iald, I_aload 0 1, I_getR 6 30, I_bot, I_bot, I_iload 1 1, I_const 1 1, I_bin fun x y => x - y, I_zald, I_if (fun x => x = 0) 50, I_bot, I_bot, I_const 0 1, I_goto 58, I_bot, I_bot, I_aload 0 1, I_getR 6 29, I_bot, I_bot, I_iload 1 1, I_const 1 1, I_bin fun x y => x - y, I_iald, I_bin fun x y => x + y, I_iast, I_iinc 1 (1), I_bot, I_bot, I_goto 6, I_bot, I_bot, I_aload 0 1, I_const 0 1, I_putI 6 25, I_bot, I_bot, I_const 0 1, I_istore 1 1, I_iload 1 1, I_aload 0 1, I_getI 6 11, I_bot, I_bot, I_icmp (fun x y => y ≤ x) 176, I_bot, I_bot, I_aload 0 1, I_aload 0 1, I_getR 6 47, I_bot, I_bot, I_iload 1 1, I_iald, I_callV 6 1 F_X6_isPlayed, I_bot, I_bot, I_if (fun x => x = 0) 170, I_bot, I_bot, I_aload 0 1, I_getI 6 25, I_bot, I_bot, I_istore 2 1, I_iload 2 1, I_if (fun x => x ≤ 0) 153, I_bot, I_bot, I_aload 0 1, I_aload 0 1, I_getR 6 47, I_bot, I_bot, I_aload 0 1, I_getR 6 48, I_bot, I_bot, I_iload 2 1, I_const 1 1, I_bin fun x y => x - y, I_iald, I_iald, I_callV 6 1 F_X6_when, I_bot, I_bot, I_aload 0 1, I_aload 0 1, I_getR 6 47, I_bot, I_bot, I_iload 1 1, I_iald, I_callV 6 1 F_X6_when, I_bot, I_bot, I_icmp (fun x y => x ≤ y) 153, I_bot, I_bot, I_aload 0 1, I_getR 6 48, I_bot, I_bot, I_iload 2 1, I_aload 0 1, I_getR 6 48, I_bot, I_bot, I_iload 2 1, I_const 1 1, I_bin fun x y => x - y, I_iald, I_iast, I_iinc 2 (-1), I_bot, I_bot, I_goto 99, I_bot, I_bot, I_aload 0 1, I_getR 6 48, I_bot, I_bot, I_iload 2 1, I_iload 1 1, I_iast, I_aload 0 1, I_dup, I_getI 6 25, I_bot, I_bot, I_const 1 1, I_bin fun x y => x + y, I_putI 6 25, I_bot, I_bot, I_iinc 1 (1), I_bot, I_bot, I_goto 73, I_bot, I_bot, I_vret Qa]
set_option maxHeartbeats 4000000 in
set_option maxRecDepth 100000 in
theorem t_X6_plays_6 {Qa : Int32 → aM → Prop} {K : aS → Prop} (hw : ∀ k x, wp (T_X6_plays Qa) k K x → K x) (hf : ∀ pc L i st σ, K (pc, L.set i .null, st, σ) → K (pc, L, st, σ)) (y : Int32 × aM) (k : Int32 → aM → Option (Int32 × aM)) :
    ∀ (n : Nat) (v4 : Int32) (σ5 : aM), l_X6_plays_6 n v4 σ5 k = some y → (∀ (w0 : Int32) (τ : aM), k w0 τ = some y → K (66, [.ref 6, .int w0, .null], [], τ)) → K (6, [.ref 6, .int v4, .null], [], σ5) := by
  intro n
  induction n with
  | zero =>
    intro v4 σ5 h hk
    exact absurd h (by simp [l_X6_plays_6])
  | succ n ih =>
    intro v4 σ5 h hk
    unfold l_X6_plays_6 at h
    rcases ite_cases h with ⟨c6, h⟩ | ⟨c6, h⟩
    · refine hw 4 _ ?_
      show (((σ5 6 4) ≤ v4) → K (66, [.ref 6, .int v4, .null], [], σ5)) ∧ (¬ ((σ5 6 4) ≤ v4) → K (14, [.ref 6, .int v4, .null], [], σ5))
      refine ⟨fun _ => ?_, fun q => absurd c6 q⟩
      exact hk v4 σ5 h
    · refine hw 4 _ ?_
      show (((σ5 6 4) ≤ v4) → K (66, [.ref 6, .int v4, .null], [], σ5)) ∧ (¬ ((σ5 6 4) ≤ v4) → K (14, [.ref 6, .int v4, .null], [], σ5))
      refine ⟨fun q => absurd q c6, fun _ => ?_⟩
      rcases ite_cases h with ⟨c7, h⟩ | ⟨c7, h⟩
      · refine hw 5 _ ?_
        show ((¬ v4 = 0) → K (27, [.ref 6, .int v4, .null], [.int v4, .ref 49], σ5)) ∧ (¬ (¬ v4 = 0) → K (23, [.ref 6, .int v4, .null], [.int v4, .ref 49], σ5))
        refine ⟨fun _ => ?_, fun q => absurd c7 q⟩
        obtain ⟨g8, h⟩ := ite_some h
        obtain ⟨g9, h⟩ := ite_some h
        rcases ite_cases h with ⟨c10, h⟩ | ⟨c10, h⟩
        · refine hw 13 _ ?_
          show kd 49 = 1 ∧ (inb (v4 - 1) 30 = true ∧ (kd 30 = 2 ∧ (inb (v4 - 1) 30 = true ∧ ((((σ5 30 (ix (v4 - 1))) = 0) → K (50, [.ref 6, .int v4, .null], [.int (σ5 49 (ix (v4 - 1))), .int v4, .ref 49], σ5)) ∧ (¬ ((σ5 30 (ix (v4 - 1))) = 0) → K (46, [.ref 6, .int v4, .null], [.int (σ5 49 (ix (v4 - 1))), .int v4, .ref 49], σ5))))))
          refine ⟨rfl, g8, rfl, g9, ⟨fun _ => ?_, fun q => absurd c10 q⟩⟩
          obtain ⟨g11, h⟩ := ite_some h
          obtain ⟨g12, h⟩ := ite_some h
          refine hw 10 _ ?_
          show kd 29 = 1 ∧ (inb (v4 - 1) 30 = true ∧ (kd 49 = 1 ∧ (inb v4 30 = true ∧ (K (6, [.ref 6, .int (v4 + 1), .null], [], mput σ5 49 (ix v4) ((σ5 49 (ix (v4 - 1))) + (σ5 29 (ix (v4 - 1)))))))))
          refine ⟨rfl, g11, rfl, g12, ?_⟩
          exact ih (v4 + 1) (mput σ5 49 (ix v4) ((σ5 49 (ix (v4 - 1))) + (σ5 29 (ix (v4 - 1))))) h hk
        · refine hw 13 _ ?_
          show kd 49 = 1 ∧ (inb (v4 - 1) 30 = true ∧ (kd 30 = 2 ∧ (inb (v4 - 1) 30 = true ∧ ((((σ5 30 (ix (v4 - 1))) = 0) → K (50, [.ref 6, .int v4, .null], [.int (σ5 49 (ix (v4 - 1))), .int v4, .ref 49], σ5)) ∧ (¬ ((σ5 30 (ix (v4 - 1))) = 0) → K (46, [.ref 6, .int v4, .null], [.int (σ5 49 (ix (v4 - 1))), .int v4, .ref 49], σ5))))))
          refine ⟨rfl, g8, rfl, g9, ⟨fun q => absurd q c10, fun _ => ?_⟩⟩
          obtain ⟨g13, h⟩ := ite_some h
          refine hw 6 _ ?_
          show kd 49 = 1 ∧ (inb v4 30 = true ∧ (K (6, [.ref 6, .int (v4 + 1), .null], [], mput σ5 49 (ix v4) ((σ5 49 (ix (v4 - 1))) + 0))))
          refine ⟨rfl, g13, ?_⟩
          exact ih (v4 + 1) (mput σ5 49 (ix v4) ((σ5 49 (ix (v4 - 1))) + 0)) h hk
      · refine hw 5 _ ?_
        show ((¬ v4 = 0) → K (27, [.ref 6, .int v4, .null], [.int v4, .ref 49], σ5)) ∧ (¬ (¬ v4 = 0) → K (23, [.ref 6, .int v4, .null], [.int v4, .ref 49], σ5))
        refine ⟨fun q => absurd q c7, fun _ => ?_⟩
        obtain ⟨g14, h⟩ := ite_some h
        refine hw 5 _ ?_
        show kd 49 = 1 ∧ (inb v4 30 = true ∧ (K (6, [.ref 6, .int (v4 + 1), .null], [], mput σ5 49 (ix v4) 0)))
        refine ⟨rfl, g14, ?_⟩
        exact ih (v4 + 1) (mput σ5 49 (ix v4) 0) h hk

set_option maxHeartbeats 4000000 in
set_option maxRecDepth 100000 in
theorem t_X6_plays_99 {Qa : Int32 → aM → Prop} {K : aS → Prop} (hw : ∀ k x, wp (T_X6_plays Qa) k K x → K x) (hf : ∀ pc L i st σ, K (pc, L.set i .null, st, σ) → K (pc, L, st, σ)) (x25 : Int32) (y : Int32 × aM) (k : Int32 → aM → Option (Int32 × aM)) :
    ∀ (n : Nat) (v26 : Int32) (σ27 : aM), l_X6_plays_99 x25 n v26 σ27 k = some y → (∀ (w0 : Int32) (τ : aM), k w0 τ = some y → K (153, [.ref 6, .int x25, .int w0], [], τ)) → K (99, [.ref 6, .int x25, .int v26], [], σ27) := by
  intro n
  induction n with
  | zero =>
    intro v26 σ27 h hk
    exact absurd h (by simp [l_X6_plays_99])
  | succ n ih =>
    intro v26 σ27 h hk
    unfold l_X6_plays_99 at h
    rcases ite_cases h with ⟨c28, h⟩ | ⟨c28, h⟩
    · refine hw 2 _ ?_
      show ((v26 ≤ 0) → K (153, [.ref 6, .int x25, .int v26], [], σ27)) ∧ (¬ (v26 ≤ 0) → K (103, [.ref 6, .int x25, .int v26], [], σ27))
      refine ⟨fun _ => ?_, fun q => absurd c28 q⟩
      exact hk v26 σ27 h
    · refine hw 2 _ ?_
      show ((v26 ≤ 0) → K (153, [.ref 6, .int x25, .int v26], [], σ27)) ∧ (¬ (v26 ≤ 0) → K (103, [.ref 6, .int x25, .int v26], [], σ27))
      refine ⟨fun q => absurd q c28, fun _ => ?_⟩
      obtain ⟨g29, h⟩ := ite_some h
      obtain ⟨g30, h⟩ := ite_some h
      obtain ⟨r31, σ32, e33, h⟩ := bnd_some h
      refine hw 11 _ ?_
      show kd 48 = 1 ∧ (inb (v26 - 1) 20 = true ∧ (kd 47 = 1 ∧ (inb (σ27 48 (ix (v26 - 1))) 20 = true ∧ (∃ r31 σ32, f_X6_when (σ27 47 (ix (σ27 48 (ix (v26 - 1))))) σ27 = some (r31, σ32) ∧ K (120, [.ref 6, .int x25, .int v26], [.int r31], σ32)))))
      refine ⟨rfl, g29, rfl, g30, ⟨r31, σ32, e33, ?_⟩⟩
      obtain ⟨g34, h⟩ := ite_some h
      obtain ⟨r35, σ36, e37, h⟩ := bnd_some h
      refine hw 6 _ ?_
      show kd 47 = 1 ∧ (inb x25 20 = true ∧ (∃ r35 σ36, f_X6_when (σ32 47 (ix x25)) σ32 = some (r35, σ36) ∧ K (130, [.ref 6, .int x25, .int v26], [.int r35, .int r31], σ36)))
      refine ⟨rfl, g34, ⟨r35, σ36, e37, ?_⟩⟩
      rcases ite_cases h with ⟨c38, h⟩ | ⟨c38, h⟩
      · refine hw 1 _ ?_
        show ((r31 ≤ r35) → K (153, [.ref 6, .int x25, .int v26], [], σ36)) ∧ (¬ (r31 ≤ r35) → K (133, [.ref 6, .int x25, .int v26], [], σ36))
        refine ⟨fun _ => ?_, fun q => absurd c38 q⟩
        exact hk v26 σ36 h
      · refine hw 1 _ ?_
        show ((r31 ≤ r35) → K (153, [.ref 6, .int x25, .int v26], [], σ36)) ∧ (¬ (r31 ≤ r35) → K (133, [.ref 6, .int x25, .int v26], [], σ36))
        refine ⟨fun q => absurd q c38, fun _ => ?_⟩
        obtain ⟨g39, h⟩ := ite_some h
        obtain ⟨g40, h⟩ := ite_some h
        refine hw 12 _ ?_
        show kd 48 = 1 ∧ (inb (v26 - 1) 20 = true ∧ (kd 48 = 1 ∧ (inb v26 20 = true ∧ (K (99, [.ref 6, .int x25, .int (v26 + (-1))], [], mput σ36 48 (ix v26) (σ36 48 (ix (v26 - 1))))))))
        refine ⟨rfl, g39, rfl, g40, ?_⟩
        exact ih (v26 + (-1)) (mput σ36 48 (ix v26) (σ36 48 (ix (v26 - 1)))) h hk

set_option maxHeartbeats 4000000 in
set_option maxRecDepth 100000 in
theorem t_X6_plays_73 {Qa : Int32 → aM → Prop} {K : aS → Prop} (hw : ∀ k x, wp (T_X6_plays Qa) k K x → K x) (hf : ∀ pc L i st σ, K (pc, L.set i .null, st, σ) → K (pc, L, st, σ)) (y : Int32 × aM) (k : Int32 → aM → Option (Int32 × aM)) :
    ∀ (n : Nat) (v17 : Int32) (σ18 : aM), l_X6_plays_73 n v17 σ18 k = some y → (∀ (w0 : Int32) (τ : aM), k w0 τ = some y → K (176, [.ref 6, .int w0, .null], [], τ)) → K (73, [.ref 6, .int v17, .null], [], σ18) := by
  intro n
  induction n with
  | zero =>
    intro v17 σ18 h hk
    exact absurd h (by simp [l_X6_plays_73])
  | succ n ih =>
    intro v17 σ18 h hk
    unfold l_X6_plays_73 at h
    rcases ite_cases h with ⟨c19, h⟩ | ⟨c19, h⟩
    · refine hw 4 _ ?_
      show (((σ18 6 11) ≤ v17) → K (176, [.ref 6, .int v17, .null], [], σ18)) ∧ (¬ ((σ18 6 11) ≤ v17) → K (81, [.ref 6, .int v17, .null], [], σ18))
      refine ⟨fun _ => ?_, fun q => absurd c19 q⟩
      exact hk v17 σ18 h
    · refine hw 4 _ ?_
      show (((σ18 6 11) ≤ v17) → K (176, [.ref 6, .int v17, .null], [], σ18)) ∧ (¬ ((σ18 6 11) ≤ v17) → K (81, [.ref 6, .int v17, .null], [], σ18))
      refine ⟨fun q => absurd q c19, fun _ => ?_⟩
      obtain ⟨g20, h⟩ := ite_some h
      obtain ⟨r21, σ22, e23, h⟩ := bnd_some h
      refine hw 6 _ ?_
      show kd 47 = 1 ∧ (inb v17 20 = true ∧ (∃ r21 σ22, f_X6_isPlayed (σ18 47 (ix v17)) σ18 = some (r21, σ22) ∧ K (91, [.ref 6, .int v17, .null], [.int r21], σ22)))
      refine ⟨rfl, g20, ⟨r21, σ22, e23, ?_⟩⟩
      rcases ite_cases h with ⟨c24, h⟩ | ⟨c24, h⟩
      · refine hw 1 _ ?_
        show ((r21 = 0) → K (170, [.ref 6, .int v17, .null], [], σ22)) ∧ (¬ (r21 = 0) → K (94, [.ref 6, .int v17, .null], [], σ22))
        refine ⟨fun _ => ?_, fun q => absurd c24 q⟩
        refine hw 2 _ ?_
        show K (73, [.ref 6, .int (v17 + 1), .null], [], σ22)
        exact ih (v17 + 1) σ22 h hk
      · refine hw 1 _ ?_
        show ((r21 = 0) → K (170, [.ref 6, .int v17, .null], [], σ22)) ∧ (¬ (r21 = 0) → K (94, [.ref 6, .int v17, .null], [], σ22))
        refine ⟨fun q => absurd q c24, fun _ => ?_⟩
        refine hw 3 _ ?_
        show K (99, [.ref 6, .int v17, .int (σ22 6 25)], [], σ22)
        refine t_X6_plays_99 hw hf v17 _ _ lf (σ22 6 25) σ22 h (fun v41 σ42 h => ?_)
        show K (153, [.ref 6, .int v17, .int v41], [], σ42)
        obtain ⟨g43, h⟩ := ite_some h
        refine hw 13 _ ?_
        show kd 48 = 1 ∧ (inb v41 20 = true ∧ (K (73, [.ref 6, .int (v17 + 1), .int v41], [], mput (mput σ42 48 (ix v41) v17) 6 25 ((σ42 6 25) + 1))))
        refine ⟨rfl, g43, ?_⟩
        refine hf _ _ 2 _ _ ?_
        show K (73, [.ref 6, .int (v17 + 1), .null], [], mput (mput σ42 48 (ix v41) v17) 6 25 ((σ42 6 25) + 1))
        exact ih (v17 + 1) (mput (mput σ42 48 (ix v41) v17) 6 25 ((σ42 6 25) + 1)) h hk

set_option maxHeartbeats 4000000 in
set_option maxRecDepth 100000 in
theorem s_X6_plays : runs T_X6_plays [.ref 6] 3 F_X6_plays := by
  intro Qa K hw hf As σ r σ' h hQ
  unfold F_X6_plays at h
  split at h
  · unfold f_X6_plays at h
    have hQ : Qa (r, σ').1 (r, σ').2 := hQ
    generalize (r, σ') = y at h hQ
    show K (0, [.ref 6, .null, .null], [], σ)
    obtain ⟨r1, σ2, e3, h⟩ := bnd_some h
    refine hw 2 _ ?_
    show ∃ r1 σ2, f_X6_orders σ = some (r1, σ2) ∧ K (4, [.ref 6, .null, .null], [], σ2)
    refine ⟨r1, σ2, e3, ?_⟩
    refine hw 2 _ ?_
    show K (6, [.ref 6, .int 0, .null], [], σ2)
    refine t_X6_plays_6 hw hf _ _ lf 0 σ2 h (fun v15 σ16 h => ?_)
    show K (66, [.ref 6, .int v15, .null], [], σ16)
    refine hw 5 _ ?_
    show K (73, [.ref 6, .int 0, .null], [], mput σ16 6 25 0)
    refine t_X6_plays_73 hw hf _ _ lf 0 (mput σ16 6 25 0) h (fun v44 σ45 h => ?_)
    show K (176, [.ref 6, .int v44, .null], [], σ45)
    obtain rfl := Option.some.inj h
    refine hw 1 _ ?_
    show Qa 0 σ45
    refine hQ
  · cases h
theorem h_X6_plays : shp [.ref 6] 3 F_X6_plays := by
  intro As σ r σ' h
  unfold F_X6_plays at h
  split at h
  · exact ⟨by simp [Value.category], Nat.le_of_ble_eq_true rfl⟩
  · cases h
set_option maxHeartbeats 4000000 in
set_option maxRecDepth 100000 in
theorem c_X6_plays (l : Launch) (D : va_G) (cI cZ cA cL : ClassId) (ad : Nat → Nat) (hi : adI ad) : CtV l yX6_plays wsX6_plays { frames := 2, cells := 0, slots := 0, locals := 45 } D cI cZ cA cL ad [.ref 6] F_X6_plays := by
  refine mk_V [.ref 6] F_X6_plays T_X6_plays (by decide +kernel) rfl ?_ h_X6_plays s_X6_plays
  intro p e s m args below meth c Qa ⟨hx, hb, hml, hown, hts, hr, hlocks, hK, hN⟩
  have hin6 : ∀ w ∈ u_ws RX6 TX6 30, w ∈ wsX6_plays := by decide +kernel
  have hl87 : (Cond.fieldLink RX6 87 RX6 (TX6 4).2.1 (TX6 4).2.2.1) ∈ wsX6_plays := by decide +kernel
  have hl71 : (Cond.fieldLink RX6 71 RX6 (TX6 26).2.1 (TX6 26).2.2.1) ∈ wsX6_plays := by decide +kernel
  have hl13 : (Cond.fieldLink RX6 13 RX6 (TX6 2).2.1 (TX6 2).2.2.1) ∈ wsX6_plays := by decide +kernel
  have hl7 : (Cond.fieldLink RX6 7 RX6 (TX6 1).2.1 (TX6 1).2.2.1) ∈ wsX6_plays := by decide +kernel
  have hl127 : (Cond.fieldLink RX6 127 RX6 (TX6 25).2.1 (TX6 25).2.2.1) ∈ wsX6_plays := by decide +kernel
  have hl111 : (Cond.fieldLink RX6 111 RX6 (TX6 11).2.1 (TX6 11).2.2.1) ∈ wsX6_plays := by decide +kernel
  have hl65 : (Cond.fieldLink RX6 65 RX6 (TX6 23).2.1 (TX6 23).2.2.1) ∈ wsX6_plays := by decide +kernel
  have hl68 : (Cond.fieldLink RX6 68 RX6 (TX6 24).2.1 (TX6 24).2.2.1) ∈ wsX6_plays := by decide +kernel
  refine ruL_c (n := 0) (n2 := 1) rfl (ru_aload_n (k := 0) hx hb dX6_plays_0) ?_
  refine ruL_c (n := 1) (n2 := 2) rfl (ru_callVv hx hb hml hown hts hK hN (by decide) rfl (c_X6_orders l D cI cZ cA cL ad hi) (cwV 0 hts gX6_plays_X6_orders rfl rfl rfl (by decide +kernel) ⟨Nat.le_of_ble_eq_true rfl, Nat.le_of_ble_eq_true rfl⟩) dX6_plays_1 ⟨Nat.zero_le _, Nat.zero_le _⟩) ?_
  refine ruL_c (n := 2) (n2 := 3) rfl (ru_bot) ?_
  refine ruL_c (n := 3) (n2 := 4) rfl (ru_bot) ?_
  refine ruL_c (n := 4) (n2 := 5) rfl (ru_iconst hx hb dX6_plays_4 rfl) ?_
  refine ruL_c (n := 5) (n2 := 6) rfl (ru_istore_n (k := 1) hx hb dX6_plays_5) ?_
  refine ruL_c (n := 6) (n2 := 7) rfl (ru_iload_n (k := 1) hx hb dX6_plays_6) ?_
  refine ruL_c (n := 7) (n2 := 8) rfl (ru_aload_n (k := 0) hx hb dX6_plays_7) ?_
  refine ruL_c (n := 8) (n2 := 9) rfl (ru_getI (own := RX6) (j := 4) (T := TX6) hx hb hown hK hts hin6 (by decide) rfl rfl (by decide) rfl hl87 dX6_plays_8) ?_
  refine ruL_c (n := 9) (n2 := 10) rfl (ru_bot) ?_
  refine ruL_c (n := 10) (n2 := 11) rfl (ru_bot) ?_
  refine ruL_c (n := 11) (n2 := 12) rfl (ru_icmpge hx hb dX6_plays_11 (by decide)) ?_
  refine ruL_c (n := 12) (n2 := 13) rfl (ru_bot) ?_
  refine ruL_c (n := 13) (n2 := 14) rfl (ru_bot) ?_
  refine ruL_c (n := 14) (n2 := 15) rfl (ru_aload_n (k := 0) hx hb dX6_plays_14) ?_
  refine ruL_c (n := 15) (n2 := 16) rfl (ru_getR (own := RX6) (j := 26) (T := TX6) hx hb hown hK hts hin6 (by decide) rfl rfl (by decide) rfl hl71 dX6_plays_15) ?_
  refine ruL_c (n := 16) (n2 := 17) rfl (ru_bot) ?_
  refine ruL_c (n := 17) (n2 := 18) rfl (ru_bot) ?_
  refine ruL_c (n := 18) (n2 := 19) rfl (ru_iload_n (k := 1) hx hb dX6_plays_18) ?_
  refine ruL_c (n := 19) (n2 := 20) rfl (ru_iload_n (k := 1) hx hb dX6_plays_19) ?_
  refine ruL_c (n := 20) (n2 := 21) rfl (ru_ifne hx hb dX6_plays_20 (by decide)) ?_
  refine ruL_c (n := 21) (n2 := 22) rfl (ru_bot) ?_
  refine ruL_c (n := 22) (n2 := 23) rfl (ru_bot) ?_
  refine ruL_c (n := 23) (n2 := 24) rfl (ru_iconst hx hb dX6_plays_23 rfl) ?_
  refine ruL_c (n := 24) (n2 := 25) rfl (ru_goto hx hb dX6_plays_24 (by decide)) ?_
  refine ruL_c (n := 25) (n2 := 26) rfl (ru_bot) ?_
  refine ruL_c (n := 26) (n2 := 27) rfl (ru_bot) ?_
  refine ruL_c (n := 27) (n2 := 28) rfl (ru_aload_n (k := 0) hx hb dX6_plays_27) ?_
  refine ruL_c (n := 28) (n2 := 29) rfl (ru_getR (own := RX6) (j := 26) (T := TX6) hx hb hown hK hts hin6 (by decide) rfl rfl (by decide) rfl hl71 dX6_plays_28) ?_
  refine ruL_c (n := 29) (n2 := 30) rfl (ru_bot) ?_
  refine ruL_c (n := 30) (n2 := 31) rfl (ru_bot) ?_
  refine ruL_c (n := 31) (n2 := 32) rfl (ru_iload_n (k := 1) hx hb dX6_plays_31) ?_
  refine ruL_c (n := 32) (n2 := 33) rfl (ru_iconst hx hb dX6_plays_32 rfl) ?_
  refine ruL_c (n := 33) (n2 := 34) rfl (ru_isub hx hb dX6_plays_33) ?_
  refine ruL_c (n := 34) (n2 := 35) rfl (ru_iald hx hb hK dX6_plays_34) ?_
  refine ruL_c (n := 35) (n2 := 36) rfl (ru_aload_n (k := 0) hx hb dX6_plays_35) ?_
  refine ruL_c (n := 36) (n2 := 37) rfl (ru_getR (own := RX6) (j := 2) (T := TX6) hx hb hown hK hts hin6 (by decide) rfl rfl (by decide) rfl hl13 dX6_plays_36) ?_
  refine ruL_c (n := 37) (n2 := 38) rfl (ru_bot) ?_
  refine ruL_c (n := 38) (n2 := 39) rfl (ru_bot) ?_
  refine ruL_c (n := 39) (n2 := 40) rfl (ru_iload_n (k := 1) hx hb dX6_plays_39) ?_
  refine ruL_c (n := 40) (n2 := 41) rfl (ru_iconst hx hb dX6_plays_40 rfl) ?_
  refine ruL_c (n := 41) (n2 := 42) rfl (ru_isub hx hb dX6_plays_41) ?_
  refine ruL_c (n := 42) (n2 := 43) rfl (ru_zald hx hb hK dX6_plays_42) ?_
  refine ruL_c (n := 43) (n2 := 44) rfl (ru_ifeq hx hb dX6_plays_43 (by decide)) ?_
  refine ruL_c (n := 44) (n2 := 45) rfl (ru_bot) ?_
  refine ruL_c (n := 45) (n2 := 46) rfl (ru_bot) ?_
  refine ruL_c (n := 46) (n2 := 47) rfl (ru_iconst hx hb dX6_plays_46 rfl) ?_
  refine ruL_c (n := 47) (n2 := 48) rfl (ru_goto hx hb dX6_plays_47 (by decide)) ?_
  refine ruL_c (n := 48) (n2 := 49) rfl (ru_bot) ?_
  refine ruL_c (n := 49) (n2 := 50) rfl (ru_bot) ?_
  refine ruL_c (n := 50) (n2 := 51) rfl (ru_aload_n (k := 0) hx hb dX6_plays_50) ?_
  refine ruL_c (n := 51) (n2 := 52) rfl (ru_getR (own := RX6) (j := 1) (T := TX6) hx hb hown hK hts hin6 (by decide) rfl rfl (by decide) rfl hl7 dX6_plays_51) ?_
  refine ruL_c (n := 52) (n2 := 53) rfl (ru_bot) ?_
  refine ruL_c (n := 53) (n2 := 54) rfl (ru_bot) ?_
  refine ruL_c (n := 54) (n2 := 55) rfl (ru_iload_n (k := 1) hx hb dX6_plays_54) ?_
  refine ruL_c (n := 55) (n2 := 56) rfl (ru_iconst hx hb dX6_plays_55 rfl) ?_
  refine ruL_c (n := 56) (n2 := 57) rfl (ru_isub hx hb dX6_plays_56) ?_
  refine ruL_c (n := 57) (n2 := 58) rfl (ru_iald hx hb hK dX6_plays_57) ?_
  refine ruL_c (n := 58) (n2 := 59) rfl (ru_iadd hx hb dX6_plays_58) ?_
  refine ruL_c (n := 59) (n2 := 60) rfl (ru_iast hx hb hK hi dX6_plays_59) ?_
  refine ruL_c (n := 60) (n2 := 61) rfl (ru_iinc hx hb dX6_plays_60 rfl) ?_
  refine ruL_c (n := 61) (n2 := 62) rfl (ru_bot) ?_
  refine ruL_c (n := 62) (n2 := 63) rfl (ru_bot) ?_
  refine ruL_c (n := 63) (n2 := 64) rfl (ru_goto hx hb dX6_plays_63 (by decide)) ?_
  refine ruL_c (n := 64) (n2 := 65) rfl (ru_bot) ?_
  refine ruL_c (n := 65) (n2 := 66) rfl (ru_bot) ?_
  refine ruL_c (n := 66) (n2 := 67) rfl (ru_aload_n (k := 0) hx hb dX6_plays_66) ?_
  refine ruL_c (n := 67) (n2 := 68) rfl (ru_iconst hx hb dX6_plays_67 rfl) ?_
  refine ruL_c (n := 68) (n2 := 69) rfl (ru_putI (own := RX6) (j := 25) (T := TX6) hx hb hown hK hi hts hin6 tyX6 tyX6_ok nmX6 (by decide) rfl rfl (by decide) rfl hl127 rfl (by decide +kernel) dX6_plays_68) ?_
  refine ruL_c (n := 69) (n2 := 70) rfl (ru_bot) ?_
  refine ruL_c (n := 70) (n2 := 71) rfl (ru_bot) ?_
  refine ruL_c (n := 71) (n2 := 72) rfl (ru_iconst hx hb dX6_plays_71 rfl) ?_
  refine ruL_c (n := 72) (n2 := 73) rfl (ru_istore_n (k := 1) hx hb dX6_plays_72) ?_
  refine ruL_c (n := 73) (n2 := 74) rfl (ru_iload_n (k := 1) hx hb dX6_plays_73) ?_
  refine ruL_c (n := 74) (n2 := 75) rfl (ru_aload_n (k := 0) hx hb dX6_plays_74) ?_
  refine ruL_c (n := 75) (n2 := 76) rfl (ru_getI (own := RX6) (j := 11) (T := TX6) hx hb hown hK hts hin6 (by decide) rfl rfl (by decide) rfl hl111 dX6_plays_75) ?_
  refine ruL_c (n := 76) (n2 := 77) rfl (ru_bot) ?_
  refine ruL_c (n := 77) (n2 := 78) rfl (ru_bot) ?_
  refine ruL_c (n := 78) (n2 := 79) rfl (ru_icmpge hx hb dX6_plays_78 (by decide)) ?_
  refine ruL_c (n := 79) (n2 := 80) rfl (ru_bot) ?_
  refine ruL_c (n := 80) (n2 := 81) rfl (ru_bot) ?_
  refine ruL_c (n := 81) (n2 := 82) rfl (ru_aload_n (k := 0) hx hb dX6_plays_81) ?_
  refine ruL_c (n := 82) (n2 := 83) rfl (ru_aload_n (k := 0) hx hb dX6_plays_82) ?_
  refine ruL_c (n := 83) (n2 := 84) rfl (ru_getR (own := RX6) (j := 23) (T := TX6) hx hb hown hK hts hin6 (by decide) rfl rfl (by decide) rfl hl65 dX6_plays_83) ?_
  refine ruL_c (n := 84) (n2 := 85) rfl (ru_bot) ?_
  refine ruL_c (n := 85) (n2 := 86) rfl (ru_bot) ?_
  refine ruL_c (n := 86) (n2 := 87) rfl (ru_iload_n (k := 1) hx hb dX6_plays_86) ?_
  refine ruL_c (n := 87) (n2 := 88) rfl (ru_iald hx hb hK dX6_plays_87) ?_
  refine ruL_c (n := 88) (n2 := 89) rfl (ru_callV hx hb hml hown hts hK hN (by decide) rfl (c_X6_isPlayed l D cI cZ cA cL ad hi) (cwV 1 hts gX6_plays_X6_isPlayed rfl rfl rfl (by decide +kernel) ⟨Nat.le_of_ble_eq_true rfl, Nat.le_of_ble_eq_true rfl⟩) dX6_plays_88 ⟨Nat.zero_le _, Nat.zero_le _⟩) ?_
  refine ruL_c (n := 89) (n2 := 90) rfl (ru_bot) ?_
  refine ruL_c (n := 90) (n2 := 91) rfl (ru_bot) ?_
  refine ruL_c (n := 91) (n2 := 92) rfl (ru_ifeq hx hb dX6_plays_91 (by decide)) ?_
  refine ruL_c (n := 92) (n2 := 93) rfl (ru_bot) ?_
  refine ruL_c (n := 93) (n2 := 94) rfl (ru_bot) ?_
  refine ruL_c (n := 94) (n2 := 95) rfl (ru_aload_n (k := 0) hx hb dX6_plays_94) ?_
  refine ruL_c (n := 95) (n2 := 96) rfl (ru_getI (own := RX6) (j := 25) (T := TX6) hx hb hown hK hts hin6 (by decide) rfl rfl (by decide) rfl hl127 dX6_plays_95) ?_
  refine ruL_c (n := 96) (n2 := 97) rfl (ru_bot) ?_
  refine ruL_c (n := 97) (n2 := 98) rfl (ru_bot) ?_
  refine ruL_c (n := 98) (n2 := 99) rfl (ru_istore_n (k := 2) hx hb dX6_plays_98) ?_
  refine ruL_c (n := 99) (n2 := 100) rfl (ru_iload_n (k := 2) hx hb dX6_plays_99) ?_
  refine ruL_c (n := 100) (n2 := 101) rfl (ru_ifle hx hb dX6_plays_100 (by decide)) ?_
  refine ruL_c (n := 101) (n2 := 102) rfl (ru_bot) ?_
  refine ruL_c (n := 102) (n2 := 103) rfl (ru_bot) ?_
  refine ruL_c (n := 103) (n2 := 104) rfl (ru_aload_n (k := 0) hx hb dX6_plays_103) ?_
  refine ruL_c (n := 104) (n2 := 105) rfl (ru_aload_n (k := 0) hx hb dX6_plays_104) ?_
  refine ruL_c (n := 105) (n2 := 106) rfl (ru_getR (own := RX6) (j := 23) (T := TX6) hx hb hown hK hts hin6 (by decide) rfl rfl (by decide) rfl hl65 dX6_plays_105) ?_
  refine ruL_c (n := 106) (n2 := 107) rfl (ru_bot) ?_
  refine ruL_c (n := 107) (n2 := 108) rfl (ru_bot) ?_
  refine ruL_c (n := 108) (n2 := 109) rfl (ru_aload_n (k := 0) hx hb dX6_plays_108) ?_
  refine ruL_c (n := 109) (n2 := 110) rfl (ru_getR (own := RX6) (j := 24) (T := TX6) hx hb hown hK hts hin6 (by decide) rfl rfl (by decide) rfl hl68 dX6_plays_109) ?_
  refine ruL_c (n := 110) (n2 := 111) rfl (ru_bot) ?_
  refine ruL_c (n := 111) (n2 := 112) rfl (ru_bot) ?_
  refine ruL_c (n := 112) (n2 := 113) rfl (ru_iload_n (k := 2) hx hb dX6_plays_112) ?_
  refine ruL_c (n := 113) (n2 := 114) rfl (ru_iconst hx hb dX6_plays_113 rfl) ?_
  refine ruL_c (n := 114) (n2 := 115) rfl (ru_isub hx hb dX6_plays_114) ?_
  refine ruL_c (n := 115) (n2 := 116) rfl (ru_iald hx hb hK dX6_plays_115) ?_
  refine ruL_c (n := 116) (n2 := 117) rfl (ru_iald hx hb hK dX6_plays_116) ?_
  refine ruL_c (n := 117) (n2 := 118) rfl (ru_callV hx hb hml hown hts hK hN (by decide) rfl (c_X6_when l D cI cZ cA cL ad hi) (cwV 1 hts gX6_plays_X6_when rfl rfl rfl (by decide +kernel) ⟨Nat.le_of_ble_eq_true rfl, Nat.le_of_ble_eq_true rfl⟩) dX6_plays_117 ⟨Nat.zero_le _, Nat.zero_le _⟩) ?_
  refine ruL_c (n := 118) (n2 := 119) rfl (ru_bot) ?_
  refine ruL_c (n := 119) (n2 := 120) rfl (ru_bot) ?_
  refine ruL_c (n := 120) (n2 := 121) rfl (ru_aload_n (k := 0) hx hb dX6_plays_120) ?_
  refine ruL_c (n := 121) (n2 := 122) rfl (ru_aload_n (k := 0) hx hb dX6_plays_121) ?_
  refine ruL_c (n := 122) (n2 := 123) rfl (ru_getR (own := RX6) (j := 23) (T := TX6) hx hb hown hK hts hin6 (by decide) rfl rfl (by decide) rfl hl65 dX6_plays_122) ?_
  refine ruL_c (n := 123) (n2 := 124) rfl (ru_bot) ?_
  refine ruL_c (n := 124) (n2 := 125) rfl (ru_bot) ?_
  refine ruL_c (n := 125) (n2 := 126) rfl (ru_iload_n (k := 1) hx hb dX6_plays_125) ?_
  refine ruL_c (n := 126) (n2 := 127) rfl (ru_iald hx hb hK dX6_plays_126) ?_
  refine ruL_c (n := 127) (n2 := 128) rfl (ru_callV hx hb hml hown hts hK hN (by decide) rfl (c_X6_when l D cI cZ cA cL ad hi) (cwV 1 hts gX6_plays_X6_when rfl rfl rfl (by decide +kernel) ⟨Nat.le_of_ble_eq_true rfl, Nat.le_of_ble_eq_true rfl⟩) dX6_plays_127 ⟨Nat.zero_le _, Nat.zero_le _⟩) ?_
  refine ruL_c (n := 128) (n2 := 129) rfl (ru_bot) ?_
  refine ruL_c (n := 129) (n2 := 130) rfl (ru_bot) ?_
  refine ruL_c (n := 130) (n2 := 131) rfl (ru_icmple hx hb dX6_plays_130 (by decide)) ?_
  refine ruL_c (n := 131) (n2 := 132) rfl (ru_bot) ?_
  refine ruL_c (n := 132) (n2 := 133) rfl (ru_bot) ?_
  refine ruL_c (n := 133) (n2 := 134) rfl (ru_aload_n (k := 0) hx hb dX6_plays_133) ?_
  refine ruL_c (n := 134) (n2 := 135) rfl (ru_getR (own := RX6) (j := 24) (T := TX6) hx hb hown hK hts hin6 (by decide) rfl rfl (by decide) rfl hl68 dX6_plays_134) ?_
  refine ruL_c (n := 135) (n2 := 136) rfl (ru_bot) ?_
  refine ruL_c (n := 136) (n2 := 137) rfl (ru_bot) ?_
  refine ruL_c (n := 137) (n2 := 138) rfl (ru_iload_n (k := 2) hx hb dX6_plays_137) ?_
  refine ruL_c (n := 138) (n2 := 139) rfl (ru_aload_n (k := 0) hx hb dX6_plays_138) ?_
  refine ruL_c (n := 139) (n2 := 140) rfl (ru_getR (own := RX6) (j := 24) (T := TX6) hx hb hown hK hts hin6 (by decide) rfl rfl (by decide) rfl hl68 dX6_plays_139) ?_
  refine ruL_c (n := 140) (n2 := 141) rfl (ru_bot) ?_
  refine ruL_c (n := 141) (n2 := 142) rfl (ru_bot) ?_
  refine ruL_c (n := 142) (n2 := 143) rfl (ru_iload_n (k := 2) hx hb dX6_plays_142) ?_
  refine ruL_c (n := 143) (n2 := 144) rfl (ru_iconst hx hb dX6_plays_143 rfl) ?_
  refine ruL_c (n := 144) (n2 := 145) rfl (ru_isub hx hb dX6_plays_144) ?_
  refine ruL_c (n := 145) (n2 := 146) rfl (ru_iald hx hb hK dX6_plays_145) ?_
  refine ruL_c (n := 146) (n2 := 147) rfl (ru_iast hx hb hK hi dX6_plays_146) ?_
  refine ruL_c (n := 147) (n2 := 148) rfl (ru_iinc hx hb dX6_plays_147 rfl) ?_
  refine ruL_c (n := 148) (n2 := 149) rfl (ru_bot) ?_
  refine ruL_c (n := 149) (n2 := 150) rfl (ru_bot) ?_
  refine ruL_c (n := 150) (n2 := 151) rfl (ru_goto hx hb dX6_plays_150 (by decide)) ?_
  refine ruL_c (n := 151) (n2 := 152) rfl (ru_bot) ?_
  refine ruL_c (n := 152) (n2 := 153) rfl (ru_bot) ?_
  refine ruL_c (n := 153) (n2 := 154) rfl (ru_aload_n (k := 0) hx hb dX6_plays_153) ?_
  refine ruL_c (n := 154) (n2 := 155) rfl (ru_getR (own := RX6) (j := 24) (T := TX6) hx hb hown hK hts hin6 (by decide) rfl rfl (by decide) rfl hl68 dX6_plays_154) ?_
  refine ruL_c (n := 155) (n2 := 156) rfl (ru_bot) ?_
  refine ruL_c (n := 156) (n2 := 157) rfl (ru_bot) ?_
  refine ruL_c (n := 157) (n2 := 158) rfl (ru_iload_n (k := 2) hx hb dX6_plays_157) ?_
  refine ruL_c (n := 158) (n2 := 159) rfl (ru_iload_n (k := 1) hx hb dX6_plays_158) ?_
  refine ruL_c (n := 159) (n2 := 160) rfl (ru_iast hx hb hK hi dX6_plays_159) ?_
  refine ruL_c (n := 160) (n2 := 161) rfl (ru_aload_n (k := 0) hx hb dX6_plays_160) ?_
  refine ruL_c (n := 161) (n2 := 162) rfl (ru_dup hx hb dX6_plays_161) ?_
  refine ruL_c (n := 162) (n2 := 163) rfl (ru_getI (own := RX6) (j := 25) (T := TX6) hx hb hown hK hts hin6 (by decide) rfl rfl (by decide) rfl hl127 dX6_plays_162) ?_
  refine ruL_c (n := 163) (n2 := 164) rfl (ru_bot) ?_
  refine ruL_c (n := 164) (n2 := 165) rfl (ru_bot) ?_
  refine ruL_c (n := 165) (n2 := 166) rfl (ru_iconst hx hb dX6_plays_165 rfl) ?_
  refine ruL_c (n := 166) (n2 := 167) rfl (ru_iadd hx hb dX6_plays_166) ?_
  refine ruL_c (n := 167) (n2 := 168) rfl (ru_putI (own := RX6) (j := 25) (T := TX6) hx hb hown hK hi hts hin6 tyX6 tyX6_ok nmX6 (by decide) rfl rfl (by decide) rfl hl127 rfl (by decide +kernel) dX6_plays_167) ?_
  refine ruL_c (n := 168) (n2 := 169) rfl (ru_bot) ?_
  refine ruL_c (n := 169) (n2 := 170) rfl (ru_bot) ?_
  refine ruL_c (n := 170) (n2 := 171) rfl (ru_iinc hx hb dX6_plays_170 rfl) ?_
  refine ruL_c (n := 171) (n2 := 172) rfl (ru_bot) ?_
  refine ruL_c (n := 172) (n2 := 173) rfl (ru_bot) ?_
  refine ruL_c (n := 173) (n2 := 174) rfl (ru_goto hx hb dX6_plays_173 (by decide)) ?_
  refine ruL_c (n := 174) (n2 := 175) rfl (ru_bot) ?_
  refine ruL_c (n := 175) (n2 := 176) rfl (ru_bot) ?_
  refine ruL_c (n := 176) (n2 := 177) rfl (ru_vret hx hb hK hr hlocks dX6_plays_176) ?_
  exact trivial

-- CueTourModel.placeOf
def l_X6_placeOf_2 (x1 : Int32) : Nat → Int32 → aM → (Int32 → aM → Option (Int32 × aM)) → Option (Int32 × aM)
  | 0, _, _, _ => none
  | n + 1, v2, σ3, k => if inb v2 20 = true then if (σ3 47 (ix v2)) = x1 then k v2 σ3 else l_X6_placeOf_2 x1 n (v2 + 1) σ3 k else none
def f_X6_placeOf (p0 : Int32) (σ : aM) : Option (Int32 × aM) := l_X6_placeOf_2 p0 lf 0 σ (fun v6 σ7 => some (v6, σ7))
def F_X6_placeOf : aF := fun As σ => match As with
  | [.int p0] => f_X6_placeOf p0 σ
  | _ => none
def T_X6_placeOf (Qa : Int32 → aM → Prop) : List aI := [I_const 0 1, I_istore 2 1, I_aload 0 1, I_getR 6 47, I_bot, I_bot, I_iload 2 1, I_iald, I_iload 1 1, I_icmp (fun x y => x = y) 18, I_bot, I_bot, I_iinc 2 (1), I_bot, I_bot, I_goto 2, I_bot, I_bot, I_iload 2 1, I_iret Qa]
set_option maxHeartbeats 4000000 in
set_option maxRecDepth 100000 in
theorem t_X6_placeOf_2 {Qa : Int32 → aM → Prop} {K : aS → Prop} (hw : ∀ k x, wp (T_X6_placeOf Qa) k K x → K x) (hf : ∀ pc L i st σ, K (pc, L.set i .null, st, σ) → K (pc, L, st, σ)) (x1 : Int32) (y : Int32 × aM) (k : Int32 → aM → Option (Int32 × aM)) :
    ∀ (n : Nat) (v2 : Int32) (σ3 : aM), l_X6_placeOf_2 x1 n v2 σ3 k = some y → (∀ (w0 : Int32) (τ : aM), k w0 τ = some y → K (18, [.ref 6, .int x1, .int w0], [], τ)) → K (2, [.ref 6, .int x1, .int v2], [], σ3) := by
  intro n
  induction n with
  | zero =>
    intro v2 σ3 h hk
    exact absurd h (by simp [l_X6_placeOf_2])
  | succ n ih =>
    intro v2 σ3 h hk
    unfold l_X6_placeOf_2 at h
    obtain ⟨g4, h⟩ := ite_some h
    rcases ite_cases h with ⟨c5, h⟩ | ⟨c5, h⟩
    · refine hw 6 _ ?_
      show kd 47 = 1 ∧ (inb v2 20 = true ∧ ((((σ3 47 (ix v2)) = x1) → K (18, [.ref 6, .int x1, .int v2], [], σ3)) ∧ (¬ ((σ3 47 (ix v2)) = x1) → K (12, [.ref 6, .int x1, .int v2], [], σ3))))
      refine ⟨rfl, g4, ⟨fun _ => ?_, fun q => absurd c5 q⟩⟩
      exact hk v2 σ3 h
    · refine hw 6 _ ?_
      show kd 47 = 1 ∧ (inb v2 20 = true ∧ ((((σ3 47 (ix v2)) = x1) → K (18, [.ref 6, .int x1, .int v2], [], σ3)) ∧ (¬ ((σ3 47 (ix v2)) = x1) → K (12, [.ref 6, .int x1, .int v2], [], σ3))))
      refine ⟨rfl, g4, ⟨fun q => absurd q c5, fun _ => ?_⟩⟩
      refine hw 2 _ ?_
      show K (2, [.ref 6, .int x1, .int (v2 + 1)], [], σ3)
      exact ih (v2 + 1) σ3 h hk

set_option maxHeartbeats 4000000 in
set_option maxRecDepth 100000 in
theorem s_X6_placeOf : runs T_X6_placeOf [.ref 6] 3 F_X6_placeOf := by
  intro Qa K hw hf As σ r σ' h hQ
  unfold F_X6_placeOf at h
  split at h
  · rename_i p0
    unfold f_X6_placeOf at h
    have hQ : Qa (r, σ').1 (r, σ').2 := hQ
    generalize (r, σ') = y at h hQ
    show K (0, [.ref 6, .int p0, .null], [], σ)
    refine hw 2 _ ?_
    show K (2, [.ref 6, .int p0, .int 0], [], σ)
    refine t_X6_placeOf_2 hw hf p0 _ _ lf 0 σ h (fun v6 σ7 h => ?_)
    show K (18, [.ref 6, .int p0, .int v6], [], σ7)
    obtain rfl := Option.some.inj h
    refine hw 2 _ ?_
    show Qa v6 σ7
    refine hQ
  · cases h
theorem h_X6_placeOf : shp [.ref 6] 3 F_X6_placeOf := by
  intro As σ r σ' h
  unfold F_X6_placeOf at h
  split at h
  · exact ⟨by simp [Value.category], Nat.le_of_ble_eq_true rfl⟩
  · cases h
set_option maxHeartbeats 4000000 in
set_option maxRecDepth 100000 in
theorem c_X6_placeOf (l : Launch) (D : va_G) (cI cZ cA cL : ClassId) (ad : Nat → Nat) (hi : adI ad) : CtI l yX6_placeOf wsX6_placeOf { frames := 0, cells := 0, slots := 0, locals := 0 } D cI cZ cA cL ad [.ref 6] F_X6_placeOf := by
  refine mk_I [.ref 6] F_X6_placeOf T_X6_placeOf (by decide +kernel) rfl ?_ h_X6_placeOf s_X6_placeOf
  intro p e s m args below meth c Qa ⟨hx, hb, hml, hown, hts, hr, hlocks, hK, hN⟩
  have hin6 : ∀ w ∈ u_ws RX6 TX6 30, w ∈ wsX6_placeOf := by decide +kernel
  have hl65 : (Cond.fieldLink RX6 65 RX6 (TX6 23).2.1 (TX6 23).2.2.1) ∈ wsX6_placeOf := by decide +kernel
  refine ruL_c (n := 0) (n2 := 1) rfl (ru_iconst hx hb dX6_placeOf_0 rfl) ?_
  refine ruL_c (n := 1) (n2 := 2) rfl (ru_istore_n (k := 2) hx hb dX6_placeOf_1) ?_
  refine ruL_c (n := 2) (n2 := 3) rfl (ru_aload_n (k := 0) hx hb dX6_placeOf_2) ?_
  refine ruL_c (n := 3) (n2 := 4) rfl (ru_getR (own := RX6) (j := 23) (T := TX6) hx hb hown hK hts hin6 (by decide) rfl rfl (by decide) rfl hl65 dX6_placeOf_3) ?_
  refine ruL_c (n := 4) (n2 := 5) rfl (ru_bot) ?_
  refine ruL_c (n := 5) (n2 := 6) rfl (ru_bot) ?_
  refine ruL_c (n := 6) (n2 := 7) rfl (ru_iload_n (k := 2) hx hb dX6_placeOf_6) ?_
  refine ruL_c (n := 7) (n2 := 8) rfl (ru_iald hx hb hK dX6_placeOf_7) ?_
  refine ruL_c (n := 8) (n2 := 9) rfl (ru_iload_n (k := 1) hx hb dX6_placeOf_8) ?_
  refine ruL_c (n := 9) (n2 := 10) rfl (ru_icmpeq hx hb dX6_placeOf_9 (by decide)) ?_
  refine ruL_c (n := 10) (n2 := 11) rfl (ru_bot) ?_
  refine ruL_c (n := 11) (n2 := 12) rfl (ru_bot) ?_
  refine ruL_c (n := 12) (n2 := 13) rfl (ru_iinc hx hb dX6_placeOf_12 rfl) ?_
  refine ruL_c (n := 13) (n2 := 14) rfl (ru_bot) ?_
  refine ruL_c (n := 14) (n2 := 15) rfl (ru_bot) ?_
  refine ruL_c (n := 15) (n2 := 16) rfl (ru_goto hx hb dX6_placeOf_15 (by decide)) ?_
  refine ruL_c (n := 16) (n2 := 17) rfl (ru_bot) ?_
  refine ruL_c (n := 17) (n2 := 18) rfl (ru_bot) ?_
  refine ruL_c (n := 18) (n2 := 19) rfl (ru_iload_n (k := 2) hx hb dX6_placeOf_18) ?_
  refine ruL_c (n := 19) (n2 := 20) rfl (ru_iret hx hb hK hr hlocks dX6_placeOf_19) ?_
  exact trivial

-- CueTourModel.cueAt
def f_X6_cueAt (p0 : Int32) (σ : aM) : Option (Int32 × aM) := bnd (f_X6_isIn p0 0 ((σ 6 11) - 1) σ) (fun r1 σ2 => if r1 = 0 then bnd (f_X6_isFine 1 σ2) (fun r5 σ6 => if ¬ r5 = 0 then bnd (f_X6_orders σ6) (fun r9 σ10 => if inb p0 20 = true then some (σ10 47 (ix p0), σ10) else none) else some (0, σ6)) else bnd (f_X6_isFine 0 σ2) (fun r13 σ14 => if ¬ r13 = 0 then bnd (f_X6_orders σ14) (fun r17 σ18 => if inb p0 20 = true then some (σ18 47 (ix p0), σ18) else none) else some (0, σ14)))
def F_X6_cueAt : aF := fun As σ => match As with
  | [.int p0] => f_X6_cueAt p0 σ
  | _ => none
def T_X6_cueAt (Qa : Int32 → aM → Prop) : List aI := [I_aload 0 1, I_iload 1 1, I_const 0 1, I_aload 0 1, I_getI 6 11, I_bot, I_bot, I_const 1 1, I_bin fun x y => x - y, I_callS 3 F_X6_isIn, I_bot, I_bot, I_if (fun x => x = 0) 19, I_bot, I_bot, I_const 0 1, I_goto 20, I_bot, I_bot, I_const 1 1, I_callV 6 1 F_X6_isFine, I_bot, I_bot, I_if (fun x => ¬ x = 0) 28, I_bot, I_bot, I_const 0 1, I_iret Qa, I_aload 0 1, I_callVv 6 0 F_X6_orders, I_bot, I_bot, I_aload 0 1, I_getR 6 47, I_bot, I_bot, I_iload 1 1, I_iald, I_iret Qa]
set_option maxHeartbeats 4000000 in
set_option maxRecDepth 100000 in
theorem s_X6_cueAt : runs T_X6_cueAt [.ref 6] 2 F_X6_cueAt := by
  intro Qa K hw hf As σ r σ' h hQ
  unfold F_X6_cueAt at h
  split at h
  · rename_i p0
    unfold f_X6_cueAt at h
    have hQ : Qa (r, σ').1 (r, σ').2 := hQ
    generalize (r, σ') = y at h hQ
    show K (0, [.ref 6, .int p0], [], σ)
    obtain ⟨r1, σ2, e3, h⟩ := bnd_some h
    refine hw 8 _ ?_
    show ∃ r1 σ2, f_X6_isIn p0 0 ((σ 6 11) - 1) σ = some (r1, σ2) ∧ K (12, [.ref 6, .int p0], [.int r1, .ref 6], σ2)
    refine ⟨r1, σ2, e3, ?_⟩
    rcases ite_cases h with ⟨c4, h⟩ | ⟨c4, h⟩
    · refine hw 1 _ ?_
      show ((r1 = 0) → K (19, [.ref 6, .int p0], [.ref 6], σ2)) ∧ (¬ (r1 = 0) → K (15, [.ref 6, .int p0], [.ref 6], σ2))
      refine ⟨fun _ => ?_, fun q => absurd c4 q⟩
      obtain ⟨r5, σ6, e7, h⟩ := bnd_some h
      refine hw 2 _ ?_
      show ∃ r5 σ6, f_X6_isFine 1 σ2 = some (r5, σ6) ∧ K (23, [.ref 6, .int p0], [.int r5], σ6)
      refine ⟨r5, σ6, e7, ?_⟩
      rcases ite_cases h with ⟨c8, h⟩ | ⟨c8, h⟩
      · refine hw 1 _ ?_
        show ((¬ r5 = 0) → K (28, [.ref 6, .int p0], [], σ6)) ∧ (¬ (¬ r5 = 0) → K (26, [.ref 6, .int p0], [], σ6))
        refine ⟨fun _ => ?_, fun q => absurd c8 q⟩
        obtain ⟨r9, σ10, e11, h⟩ := bnd_some h
        refine hw 2 _ ?_
        show ∃ r9 σ10, f_X6_orders σ6 = some (r9, σ10) ∧ K (32, [.ref 6, .int p0], [], σ10)
        refine ⟨r9, σ10, e11, ?_⟩
        obtain ⟨g12, h⟩ := ite_some h
        obtain rfl := Option.some.inj h
        refine hw 5 _ ?_
        show kd 47 = 1 ∧ (inb p0 20 = true ∧ (Qa (σ10 47 (ix p0)) σ10))
        refine ⟨rfl, g12, hQ⟩
      · refine hw 1 _ ?_
        show ((¬ r5 = 0) → K (28, [.ref 6, .int p0], [], σ6)) ∧ (¬ (¬ r5 = 0) → K (26, [.ref 6, .int p0], [], σ6))
        refine ⟨fun q => absurd q c8, fun _ => ?_⟩
        obtain rfl := Option.some.inj h
        refine hw 2 _ ?_
        show Qa 0 σ6
        refine hQ
    · refine hw 1 _ ?_
      show ((r1 = 0) → K (19, [.ref 6, .int p0], [.ref 6], σ2)) ∧ (¬ (r1 = 0) → K (15, [.ref 6, .int p0], [.ref 6], σ2))
      refine ⟨fun q => absurd q c4, fun _ => ?_⟩
      obtain ⟨r13, σ14, e15, h⟩ := bnd_some h
      refine hw 3 _ ?_
      show ∃ r13 σ14, f_X6_isFine 0 σ2 = some (r13, σ14) ∧ K (23, [.ref 6, .int p0], [.int r13], σ14)
      refine ⟨r13, σ14, e15, ?_⟩
      rcases ite_cases h with ⟨c16, h⟩ | ⟨c16, h⟩
      · refine hw 1 _ ?_
        show ((¬ r13 = 0) → K (28, [.ref 6, .int p0], [], σ14)) ∧ (¬ (¬ r13 = 0) → K (26, [.ref 6, .int p0], [], σ14))
        refine ⟨fun _ => ?_, fun q => absurd c16 q⟩
        obtain ⟨r17, σ18, e19, h⟩ := bnd_some h
        refine hw 2 _ ?_
        show ∃ r17 σ18, f_X6_orders σ14 = some (r17, σ18) ∧ K (32, [.ref 6, .int p0], [], σ18)
        refine ⟨r17, σ18, e19, ?_⟩
        obtain ⟨g20, h⟩ := ite_some h
        obtain rfl := Option.some.inj h
        refine hw 5 _ ?_
        show kd 47 = 1 ∧ (inb p0 20 = true ∧ (Qa (σ18 47 (ix p0)) σ18))
        refine ⟨rfl, g20, hQ⟩
      · refine hw 1 _ ?_
        show ((¬ r13 = 0) → K (28, [.ref 6, .int p0], [], σ14)) ∧ (¬ (¬ r13 = 0) → K (26, [.ref 6, .int p0], [], σ14))
        refine ⟨fun q => absurd q c16, fun _ => ?_⟩
        obtain rfl := Option.some.inj h
        refine hw 2 _ ?_
        show Qa 0 σ14
        refine hQ
  · cases h
theorem h_X6_cueAt : shp [.ref 6] 2 F_X6_cueAt := by
  intro As σ r σ' h
  unfold F_X6_cueAt at h
  split at h
  · exact ⟨by simp [Value.category], Nat.le_of_ble_eq_true rfl⟩
  · cases h
set_option maxHeartbeats 4000000 in
set_option maxRecDepth 100000 in
theorem c_X6_cueAt (l : Launch) (D : va_G) (cI cZ cA cL : ClassId) (ad : Nat → Nat) (hi : adI ad) : CtI l yX6_cueAt wsX6_cueAt { frames := 2, cells := 0, slots := 0, locals := 45 } D cI cZ cA cL ad [.ref 6] F_X6_cueAt := by
  refine mk_I [.ref 6] F_X6_cueAt T_X6_cueAt (by decide +kernel) rfl ?_ h_X6_cueAt s_X6_cueAt
  intro p e s m args below meth c Qa ⟨hx, hb, hml, hown, hts, hr, hlocks, hK, hN⟩
  have hin6 : ∀ w ∈ u_ws RX6 TX6 30, w ∈ wsX6_cueAt := by decide +kernel
  have hl111 : (Cond.fieldLink RX6 111 RX6 (TX6 11).2.1 (TX6 11).2.2.1) ∈ wsX6_cueAt := by decide +kernel
  have hl65 : (Cond.fieldLink RX6 65 RX6 (TX6 23).2.1 (TX6 23).2.2.1) ∈ wsX6_cueAt := by decide +kernel
  refine ruL_c (n := 0) (n2 := 1) rfl (ru_aload_n (k := 0) hx hb dX6_cueAt_0) ?_
  refine ruL_c (n := 1) (n2 := 2) rfl (ru_iload_n (k := 1) hx hb dX6_cueAt_1) ?_
  refine ruL_c (n := 2) (n2 := 3) rfl (ru_iconst hx hb dX6_cueAt_2 rfl) ?_
  refine ruL_c (n := 3) (n2 := 4) rfl (ru_aload_n (k := 0) hx hb dX6_cueAt_3) ?_
  refine ruL_c (n := 4) (n2 := 5) rfl (ru_getI (own := RX6) (j := 11) (T := TX6) hx hb hown hK hts hin6 (by decide) rfl rfl (by decide) rfl hl111 dX6_cueAt_4) ?_
  refine ruL_c (n := 5) (n2 := 6) rfl (ru_bot) ?_
  refine ruL_c (n := 6) (n2 := 7) rfl (ru_bot) ?_
  refine ruL_c (n := 7) (n2 := 8) rfl (ru_iconst hx hb dX6_cueAt_7 rfl) ?_
  refine ruL_c (n := 8) (n2 := 9) rfl (ru_isub hx hb dX6_cueAt_8) ?_
  refine ruL_c (n := 9) (n2 := 10) rfl (ru_callS hx hb hml hown hts hK hN (c_X6_isIn l D cI cZ cA cL ad hi) (va_cwS 3 hts gX6_cueAt_X6_isIn rfl rfl rfl (by decide +kernel) ⟨Nat.le_of_ble_eq_true rfl, Nat.le_of_ble_eq_true rfl⟩) dX6_cueAt_9 ⟨Nat.zero_le _, Nat.zero_le _⟩) ?_
  refine ruL_c (n := 10) (n2 := 11) rfl (ru_bot) ?_
  refine ruL_c (n := 11) (n2 := 12) rfl (ru_bot) ?_
  refine ruL_c (n := 12) (n2 := 13) rfl (ru_ifeq hx hb dX6_cueAt_12 (by decide)) ?_
  refine ruL_c (n := 13) (n2 := 14) rfl (ru_bot) ?_
  refine ruL_c (n := 14) (n2 := 15) rfl (ru_bot) ?_
  refine ruL_c (n := 15) (n2 := 16) rfl (ru_iconst hx hb dX6_cueAt_15 rfl) ?_
  refine ruL_c (n := 16) (n2 := 17) rfl (ru_goto hx hb dX6_cueAt_16 (by decide)) ?_
  refine ruL_c (n := 17) (n2 := 18) rfl (ru_bot) ?_
  refine ruL_c (n := 18) (n2 := 19) rfl (ru_bot) ?_
  refine ruL_c (n := 19) (n2 := 20) rfl (ru_iconst hx hb dX6_cueAt_19 rfl) ?_
  refine ruL_c (n := 20) (n2 := 21) rfl (ru_callV hx hb hml hown hts hK hN (by decide) rfl (c_X6_isFine l D cI cZ cA cL ad hi) (cwV 1 hts gX6_cueAt_X6_isFine rfl rfl rfl (by decide +kernel) ⟨Nat.le_of_ble_eq_true rfl, Nat.le_of_ble_eq_true rfl⟩) dX6_cueAt_20 ⟨Nat.zero_le _, Nat.zero_le _⟩) ?_
  refine ruL_c (n := 21) (n2 := 22) rfl (ru_bot) ?_
  refine ruL_c (n := 22) (n2 := 23) rfl (ru_bot) ?_
  refine ruL_c (n := 23) (n2 := 24) rfl (ru_ifne hx hb dX6_cueAt_23 (by decide)) ?_
  refine ruL_c (n := 24) (n2 := 25) rfl (ru_bot) ?_
  refine ruL_c (n := 25) (n2 := 26) rfl (ru_bot) ?_
  refine ruL_c (n := 26) (n2 := 27) rfl (ru_iconst hx hb dX6_cueAt_26 rfl) ?_
  refine ruL_c (n := 27) (n2 := 28) rfl (ru_iret hx hb hK hr hlocks dX6_cueAt_27) ?_
  refine ruL_c (n := 28) (n2 := 29) rfl (ru_aload_n (k := 0) hx hb dX6_cueAt_28) ?_
  refine ruL_c (n := 29) (n2 := 30) rfl (ru_callVv hx hb hml hown hts hK hN (by decide) rfl (c_X6_orders l D cI cZ cA cL ad hi) (cwV 0 hts gX6_cueAt_X6_orders rfl rfl rfl (by decide +kernel) ⟨Nat.le_of_ble_eq_true rfl, Nat.le_of_ble_eq_true rfl⟩) dX6_cueAt_29 ⟨Nat.zero_le _, Nat.zero_le _⟩) ?_
  refine ruL_c (n := 30) (n2 := 31) rfl (ru_bot) ?_
  refine ruL_c (n := 31) (n2 := 32) rfl (ru_bot) ?_
  refine ruL_c (n := 32) (n2 := 33) rfl (ru_aload_n (k := 0) hx hb dX6_cueAt_32) ?_
  refine ruL_c (n := 33) (n2 := 34) rfl (ru_getR (own := RX6) (j := 23) (T := TX6) hx hb hown hK hts hin6 (by decide) rfl rfl (by decide) rfl hl65 dX6_cueAt_33) ?_
  refine ruL_c (n := 34) (n2 := 35) rfl (ru_bot) ?_
  refine ruL_c (n := 35) (n2 := 36) rfl (ru_bot) ?_
  refine ruL_c (n := 36) (n2 := 37) rfl (ru_iload_n (k := 1) hx hb dX6_cueAt_36) ?_
  refine ruL_c (n := 37) (n2 := 38) rfl (ru_iald hx hb hK dX6_cueAt_37) ?_
  refine ruL_c (n := 38) (n2 := 39) rfl (ru_iret hx hb hK hr hlocks dX6_cueAt_38) ?_
  exact trivial

-- CueTourModel.timeOf
def f_X6_timeOf (p0 : Int32) (σ : aM) : Option (Int32 × aM) := bnd (f_X6_isCue p0 σ) (fun r1 σ2 => if r1 = 0 then bnd (f_X6_isFine 1 σ2) (fun r5 σ6 => if ¬ r5 = 0 then bnd (f_X6_isPlayed p0 σ6) (fun r9 σ10 => if r9 = 0 then some ((-1), σ10) else if inb p0 20 = true then bnd (f_X6_ahead (σ10 34 (ix p0)) σ10) (fun r14 σ15 => if inb p0 20 = true then some (r14 + (σ15 35 (ix p0)), σ15) else none) else none) else some (0, σ6)) else bnd (f_X6_isFine 0 σ2) (fun r18 σ19 => if ¬ r18 = 0 then bnd (f_X6_isPlayed p0 σ19) (fun r22 σ23 => if r22 = 0 then some ((-1), σ23) else if inb p0 20 = true then bnd (f_X6_ahead (σ23 34 (ix p0)) σ23) (fun r27 σ28 => if inb p0 20 = true then some (r27 + (σ28 35 (ix p0)), σ28) else none) else none) else some (0, σ19)))
def F_X6_timeOf : aF := fun As σ => match As with
  | [.int p0] => f_X6_timeOf p0 σ
  | _ => none
def T_X6_timeOf (Qa : Int32 → aM → Prop) : List aI := [I_aload 0 1, I_aload 0 1, I_iload 1 1, I_callV 6 1 F_X6_isCue, I_bot, I_bot, I_if (fun x => x = 0) 13, I_bot, I_bot, I_const 0 1, I_goto 14, I_bot, I_bot, I_const 1 1, I_callV 6 1 F_X6_isFine, I_bot, I_bot, I_if (fun x => ¬ x = 0) 22, I_bot, I_bot, I_const 0 1, I_iret Qa, I_aload 0 1, I_iload 1 1, I_callV 6 1 F_X6_isPlayed, I_bot, I_bot, I_if (fun x => x = 0) 50, I_bot, I_bot, I_aload 0 1, I_aload 0 1, I_getR 6 34, I_bot, I_bot, I_iload 1 1, I_iald, I_callV 6 1 F_X6_ahead, I_bot, I_bot, I_aload 0 1, I_getR 6 35, I_bot, I_bot, I_iload 1 1, I_iald, I_bin fun x y => x + y, I_goto 51, I_bot, I_bot, I_const (-1) 1, I_iret Qa]
set_option maxHeartbeats 4000000 in
set_option maxRecDepth 100000 in
theorem s_X6_timeOf : runs T_X6_timeOf [.ref 6] 2 F_X6_timeOf := by
  intro Qa K hw hf As σ r σ' h hQ
  unfold F_X6_timeOf at h
  split at h
  · rename_i p0
    unfold f_X6_timeOf at h
    have hQ : Qa (r, σ').1 (r, σ').2 := hQ
    generalize (r, σ') = y at h hQ
    show K (0, [.ref 6, .int p0], [], σ)
    obtain ⟨r1, σ2, e3, h⟩ := bnd_some h
    refine hw 4 _ ?_
    show ∃ r1 σ2, f_X6_isCue p0 σ = some (r1, σ2) ∧ K (6, [.ref 6, .int p0], [.int r1, .ref 6], σ2)
    refine ⟨r1, σ2, e3, ?_⟩
    rcases ite_cases h with ⟨c4, h⟩ | ⟨c4, h⟩
    · refine hw 1 _ ?_
      show ((r1 = 0) → K (13, [.ref 6, .int p0], [.ref 6], σ2)) ∧ (¬ (r1 = 0) → K (9, [.ref 6, .int p0], [.ref 6], σ2))
      refine ⟨fun _ => ?_, fun q => absurd c4 q⟩
      obtain ⟨r5, σ6, e7, h⟩ := bnd_some h
      refine hw 2 _ ?_
      show ∃ r5 σ6, f_X6_isFine 1 σ2 = some (r5, σ6) ∧ K (17, [.ref 6, .int p0], [.int r5], σ6)
      refine ⟨r5, σ6, e7, ?_⟩
      rcases ite_cases h with ⟨c8, h⟩ | ⟨c8, h⟩
      · refine hw 1 _ ?_
        show ((¬ r5 = 0) → K (22, [.ref 6, .int p0], [], σ6)) ∧ (¬ (¬ r5 = 0) → K (20, [.ref 6, .int p0], [], σ6))
        refine ⟨fun _ => ?_, fun q => absurd c8 q⟩
        obtain ⟨r9, σ10, e11, h⟩ := bnd_some h
        refine hw 3 _ ?_
        show ∃ r9 σ10, f_X6_isPlayed p0 σ6 = some (r9, σ10) ∧ K (27, [.ref 6, .int p0], [.int r9], σ10)
        refine ⟨r9, σ10, e11, ?_⟩
        rcases ite_cases h with ⟨c12, h⟩ | ⟨c12, h⟩
        · refine hw 1 _ ?_
          show ((r9 = 0) → K (50, [.ref 6, .int p0], [], σ10)) ∧ (¬ (r9 = 0) → K (30, [.ref 6, .int p0], [], σ10))
          refine ⟨fun _ => ?_, fun q => absurd c12 q⟩
          obtain rfl := Option.some.inj h
          refine hw 2 _ ?_
          show Qa ((-1)) σ10
          refine hQ
        · refine hw 1 _ ?_
          show ((r9 = 0) → K (50, [.ref 6, .int p0], [], σ10)) ∧ (¬ (r9 = 0) → K (30, [.ref 6, .int p0], [], σ10))
          refine ⟨fun q => absurd q c12, fun _ => ?_⟩
          obtain ⟨g13, h⟩ := ite_some h
          obtain ⟨r14, σ15, e16, h⟩ := bnd_some h
          refine hw 6 _ ?_
          show kd 34 = 1 ∧ (inb p0 20 = true ∧ (∃ r14 σ15, f_X6_ahead (σ10 34 (ix p0)) σ10 = some (r14, σ15) ∧ K (40, [.ref 6, .int p0], [.int r14], σ15)))
          refine ⟨rfl, g13, ⟨r14, σ15, e16, ?_⟩⟩
          obtain ⟨g17, h⟩ := ite_some h
          obtain rfl := Option.some.inj h
          refine hw 7 _ ?_
          show kd 35 = 1 ∧ (inb p0 20 = true ∧ (Qa (r14 + (σ15 35 (ix p0))) σ15))
          refine ⟨rfl, g17, hQ⟩
      · refine hw 1 _ ?_
        show ((¬ r5 = 0) → K (22, [.ref 6, .int p0], [], σ6)) ∧ (¬ (¬ r5 = 0) → K (20, [.ref 6, .int p0], [], σ6))
        refine ⟨fun q => absurd q c8, fun _ => ?_⟩
        obtain rfl := Option.some.inj h
        refine hw 2 _ ?_
        show Qa 0 σ6
        refine hQ
    · refine hw 1 _ ?_
      show ((r1 = 0) → K (13, [.ref 6, .int p0], [.ref 6], σ2)) ∧ (¬ (r1 = 0) → K (9, [.ref 6, .int p0], [.ref 6], σ2))
      refine ⟨fun q => absurd q c4, fun _ => ?_⟩
      obtain ⟨r18, σ19, e20, h⟩ := bnd_some h
      refine hw 3 _ ?_
      show ∃ r18 σ19, f_X6_isFine 0 σ2 = some (r18, σ19) ∧ K (17, [.ref 6, .int p0], [.int r18], σ19)
      refine ⟨r18, σ19, e20, ?_⟩
      rcases ite_cases h with ⟨c21, h⟩ | ⟨c21, h⟩
      · refine hw 1 _ ?_
        show ((¬ r18 = 0) → K (22, [.ref 6, .int p0], [], σ19)) ∧ (¬ (¬ r18 = 0) → K (20, [.ref 6, .int p0], [], σ19))
        refine ⟨fun _ => ?_, fun q => absurd c21 q⟩
        obtain ⟨r22, σ23, e24, h⟩ := bnd_some h
        refine hw 3 _ ?_
        show ∃ r22 σ23, f_X6_isPlayed p0 σ19 = some (r22, σ23) ∧ K (27, [.ref 6, .int p0], [.int r22], σ23)
        refine ⟨r22, σ23, e24, ?_⟩
        rcases ite_cases h with ⟨c25, h⟩ | ⟨c25, h⟩
        · refine hw 1 _ ?_
          show ((r22 = 0) → K (50, [.ref 6, .int p0], [], σ23)) ∧ (¬ (r22 = 0) → K (30, [.ref 6, .int p0], [], σ23))
          refine ⟨fun _ => ?_, fun q => absurd c25 q⟩
          obtain rfl := Option.some.inj h
          refine hw 2 _ ?_
          show Qa ((-1)) σ23
          refine hQ
        · refine hw 1 _ ?_
          show ((r22 = 0) → K (50, [.ref 6, .int p0], [], σ23)) ∧ (¬ (r22 = 0) → K (30, [.ref 6, .int p0], [], σ23))
          refine ⟨fun q => absurd q c25, fun _ => ?_⟩
          obtain ⟨g26, h⟩ := ite_some h
          obtain ⟨r27, σ28, e29, h⟩ := bnd_some h
          refine hw 6 _ ?_
          show kd 34 = 1 ∧ (inb p0 20 = true ∧ (∃ r27 σ28, f_X6_ahead (σ23 34 (ix p0)) σ23 = some (r27, σ28) ∧ K (40, [.ref 6, .int p0], [.int r27], σ28)))
          refine ⟨rfl, g26, ⟨r27, σ28, e29, ?_⟩⟩
          obtain ⟨g30, h⟩ := ite_some h
          obtain rfl := Option.some.inj h
          refine hw 7 _ ?_
          show kd 35 = 1 ∧ (inb p0 20 = true ∧ (Qa (r27 + (σ28 35 (ix p0))) σ28))
          refine ⟨rfl, g30, hQ⟩
      · refine hw 1 _ ?_
        show ((¬ r18 = 0) → K (22, [.ref 6, .int p0], [], σ19)) ∧ (¬ (¬ r18 = 0) → K (20, [.ref 6, .int p0], [], σ19))
        refine ⟨fun q => absurd q c21, fun _ => ?_⟩
        obtain rfl := Option.some.inj h
        refine hw 2 _ ?_
        show Qa 0 σ19
        refine hQ
  · cases h
theorem h_X6_timeOf : shp [.ref 6] 2 F_X6_timeOf := by
  intro As σ r σ' h
  unfold F_X6_timeOf at h
  split at h
  · exact ⟨by simp [Value.category], Nat.le_of_ble_eq_true rfl⟩
  · cases h
set_option maxHeartbeats 4000000 in
set_option maxRecDepth 100000 in
theorem c_X6_timeOf (l : Launch) (D : va_G) (cI cZ cA cL : ClassId) (ad : Nat → Nat) (hi : adI ad) : CtI l yX6_timeOf wsX6_timeOf { frames := 2, cells := 0, slots := 0, locals := 43 } D cI cZ cA cL ad [.ref 6] F_X6_timeOf := by
  refine mk_I [.ref 6] F_X6_timeOf T_X6_timeOf (by decide +kernel) rfl ?_ h_X6_timeOf s_X6_timeOf
  intro p e s m args below meth c Qa ⟨hx, hb, hml, hown, hts, hr, hlocks, hK, hN⟩
  have hin6 : ∀ w ∈ u_ws RX6 TX6 30, w ∈ wsX6_timeOf := by decide +kernel
  have hl26 : (Cond.fieldLink RX6 26 RX6 (TX6 7).2.1 (TX6 7).2.2.1) ∈ wsX6_timeOf := by decide +kernel
  have hl29 : (Cond.fieldLink RX6 29 RX6 (TX6 8).2.1 (TX6 8).2.2.1) ∈ wsX6_timeOf := by decide +kernel
  refine ruL_c (n := 0) (n2 := 1) rfl (ru_aload_n (k := 0) hx hb dX6_timeOf_0) ?_
  refine ruL_c (n := 1) (n2 := 2) rfl (ru_aload_n (k := 0) hx hb dX6_timeOf_1) ?_
  refine ruL_c (n := 2) (n2 := 3) rfl (ru_iload_n (k := 1) hx hb dX6_timeOf_2) ?_
  refine ruL_c (n := 3) (n2 := 4) rfl (ru_callV hx hb hml hown hts hK hN (by decide) rfl (c_X6_isCue l D cI cZ cA cL ad hi) (cwV 1 hts gX6_timeOf_X6_isCue rfl rfl rfl (by decide +kernel) ⟨Nat.le_of_ble_eq_true rfl, Nat.le_of_ble_eq_true rfl⟩) dX6_timeOf_3 ⟨Nat.zero_le _, Nat.zero_le _⟩) ?_
  refine ruL_c (n := 4) (n2 := 5) rfl (ru_bot) ?_
  refine ruL_c (n := 5) (n2 := 6) rfl (ru_bot) ?_
  refine ruL_c (n := 6) (n2 := 7) rfl (ru_ifeq hx hb dX6_timeOf_6 (by decide)) ?_
  refine ruL_c (n := 7) (n2 := 8) rfl (ru_bot) ?_
  refine ruL_c (n := 8) (n2 := 9) rfl (ru_bot) ?_
  refine ruL_c (n := 9) (n2 := 10) rfl (ru_iconst hx hb dX6_timeOf_9 rfl) ?_
  refine ruL_c (n := 10) (n2 := 11) rfl (ru_goto hx hb dX6_timeOf_10 (by decide)) ?_
  refine ruL_c (n := 11) (n2 := 12) rfl (ru_bot) ?_
  refine ruL_c (n := 12) (n2 := 13) rfl (ru_bot) ?_
  refine ruL_c (n := 13) (n2 := 14) rfl (ru_iconst hx hb dX6_timeOf_13 rfl) ?_
  refine ruL_c (n := 14) (n2 := 15) rfl (ru_callV hx hb hml hown hts hK hN (by decide) rfl (c_X6_isFine l D cI cZ cA cL ad hi) (cwV 1 hts gX6_timeOf_X6_isFine rfl rfl rfl (by decide +kernel) ⟨Nat.le_of_ble_eq_true rfl, Nat.le_of_ble_eq_true rfl⟩) dX6_timeOf_14 ⟨Nat.zero_le _, Nat.zero_le _⟩) ?_
  refine ruL_c (n := 15) (n2 := 16) rfl (ru_bot) ?_
  refine ruL_c (n := 16) (n2 := 17) rfl (ru_bot) ?_
  refine ruL_c (n := 17) (n2 := 18) rfl (ru_ifne hx hb dX6_timeOf_17 (by decide)) ?_
  refine ruL_c (n := 18) (n2 := 19) rfl (ru_bot) ?_
  refine ruL_c (n := 19) (n2 := 20) rfl (ru_bot) ?_
  refine ruL_c (n := 20) (n2 := 21) rfl (ru_iconst hx hb dX6_timeOf_20 rfl) ?_
  refine ruL_c (n := 21) (n2 := 22) rfl (ru_iret hx hb hK hr hlocks dX6_timeOf_21) ?_
  refine ruL_c (n := 22) (n2 := 23) rfl (ru_aload_n (k := 0) hx hb dX6_timeOf_22) ?_
  refine ruL_c (n := 23) (n2 := 24) rfl (ru_iload_n (k := 1) hx hb dX6_timeOf_23) ?_
  refine ruL_c (n := 24) (n2 := 25) rfl (ru_callV hx hb hml hown hts hK hN (by decide) rfl (c_X6_isPlayed l D cI cZ cA cL ad hi) (cwV 1 hts gX6_timeOf_X6_isPlayed rfl rfl rfl (by decide +kernel) ⟨Nat.le_of_ble_eq_true rfl, Nat.le_of_ble_eq_true rfl⟩) dX6_timeOf_24 ⟨Nat.zero_le _, Nat.zero_le _⟩) ?_
  refine ruL_c (n := 25) (n2 := 26) rfl (ru_bot) ?_
  refine ruL_c (n := 26) (n2 := 27) rfl (ru_bot) ?_
  refine ruL_c (n := 27) (n2 := 28) rfl (ru_ifeq hx hb dX6_timeOf_27 (by decide)) ?_
  refine ruL_c (n := 28) (n2 := 29) rfl (ru_bot) ?_
  refine ruL_c (n := 29) (n2 := 30) rfl (ru_bot) ?_
  refine ruL_c (n := 30) (n2 := 31) rfl (ru_aload_n (k := 0) hx hb dX6_timeOf_30) ?_
  refine ruL_c (n := 31) (n2 := 32) rfl (ru_aload_n (k := 0) hx hb dX6_timeOf_31) ?_
  refine ruL_c (n := 32) (n2 := 33) rfl (ru_getR (own := RX6) (j := 7) (T := TX6) hx hb hown hK hts hin6 (by decide) rfl rfl (by decide) rfl hl26 dX6_timeOf_32) ?_
  refine ruL_c (n := 33) (n2 := 34) rfl (ru_bot) ?_
  refine ruL_c (n := 34) (n2 := 35) rfl (ru_bot) ?_
  refine ruL_c (n := 35) (n2 := 36) rfl (ru_iload_n (k := 1) hx hb dX6_timeOf_35) ?_
  refine ruL_c (n := 36) (n2 := 37) rfl (ru_iald hx hb hK dX6_timeOf_36) ?_
  refine ruL_c (n := 37) (n2 := 38) rfl (ru_callV hx hb hml hown hts hK hN (by decide) rfl (c_X6_ahead l D cI cZ cA cL ad hi) (cwV 1 hts gX6_timeOf_X6_ahead rfl rfl rfl (by decide +kernel) ⟨Nat.le_of_ble_eq_true rfl, Nat.le_of_ble_eq_true rfl⟩) dX6_timeOf_37 ⟨Nat.zero_le _, Nat.zero_le _⟩) ?_
  refine ruL_c (n := 38) (n2 := 39) rfl (ru_bot) ?_
  refine ruL_c (n := 39) (n2 := 40) rfl (ru_bot) ?_
  refine ruL_c (n := 40) (n2 := 41) rfl (ru_aload_n (k := 0) hx hb dX6_timeOf_40) ?_
  refine ruL_c (n := 41) (n2 := 42) rfl (ru_getR (own := RX6) (j := 8) (T := TX6) hx hb hown hK hts hin6 (by decide) rfl rfl (by decide) rfl hl29 dX6_timeOf_41) ?_
  refine ruL_c (n := 42) (n2 := 43) rfl (ru_bot) ?_
  refine ruL_c (n := 43) (n2 := 44) rfl (ru_bot) ?_
  refine ruL_c (n := 44) (n2 := 45) rfl (ru_iload_n (k := 1) hx hb dX6_timeOf_44) ?_
  refine ruL_c (n := 45) (n2 := 46) rfl (ru_iald hx hb hK dX6_timeOf_45) ?_
  refine ruL_c (n := 46) (n2 := 47) rfl (ru_iadd hx hb dX6_timeOf_46) ?_
  refine ruL_c (n := 47) (n2 := 48) rfl (ru_goto hx hb dX6_timeOf_47 (by decide)) ?_
  refine ruL_c (n := 48) (n2 := 49) rfl (ru_bot) ?_
  refine ruL_c (n := 49) (n2 := 50) rfl (ru_bot) ?_
  refine ruL_c (n := 50) (n2 := 51) rfl (ru_iconst hx hb dX6_timeOf_50 rfl) ?_
  refine ruL_c (n := 51) (n2 := 52) rfl (ru_iret hx hb hK hr hlocks dX6_timeOf_51) ?_
  exact trivial

-- CueTourModel.foldedInto
def l_X6_foldedInto_32 (x15 : Int32) : Nat → Int32 → aM → (Int32 → aM → Option (Int32 × aM)) → Option (Int32 × aM)
  | 0, _, _, _ => none
  | n + 1, v16, σ17, k => if (σ17 6 11) ≤ v16 then k v16 σ17 else if inb v16 20 = true then bnd (f_X6_isPlayed (σ17 47 (ix v16)) σ17) (fun r20 σ21 => if ¬ r20 = 0 then k v16 σ21 else l_X6_foldedInto_32 x15 n (v16 + 1) σ21 k) else none
def f_X6_foldedInto (p0 : Int32) (σ : aM) : Option (Int32 × aM) := bnd (f_X6_isCue p0 σ) (fun r1 σ2 => if r1 = 0 then bnd (f_X6_isFine 1 σ2) (fun r5 σ6 => if ¬ r5 = 0 then bnd (f_X6_orders σ6) (fun r9 σ10 => bnd (f_X6_placeOf p0 σ10) (fun r12 σ13 => l_X6_foldedInto_32 p0 lf r12 σ13 (fun v24 σ25 => if (σ25 6 11) ≤ v24 then some ((-1), σ25) else if inb v24 20 = true then some (σ25 47 (ix v24), σ25) else none))) else some (0, σ6)) else bnd (f_X6_isFine 0 σ2) (fun r28 σ29 => if ¬ r28 = 0 then bnd (f_X6_orders σ29) (fun r32 σ33 => bnd (f_X6_placeOf p0 σ33) (fun r35 σ36 => l_X6_foldedInto_32 p0 lf r35 σ36 (fun v38 σ39 => if (σ39 6 11) ≤ v38 then some ((-1), σ39) else if inb v38 20 = true then some (σ39 47 (ix v38), σ39) else none))) else some (0, σ29)))
def F_X6_foldedInto : aF := fun As σ => match As with
  | [.int p0] => f_X6_foldedInto p0 σ
  | _ => none
def T_X6_foldedInto (Qa : Int32 → aM → Prop) : List aI := [I_aload 0 1, I_aload 0 1, I_iload 1 1, I_callV 6 1 F_X6_isCue, I_bot, I_bot, I_if (fun x => x = 0) 13, I_bot, I_bot, I_const 0 1, I_goto 14, I_bot, I_bot, I_const 1 1, I_callV 6 1 F_X6_isFine, I_bot, I_bot, I_if (fun x => ¬ x = 0) 22, I_bot, I_bot, I_const 0 1, I_iret Qa, I_aload 0 1, I_callVv 6 0 F_X6_orders, I_bot, I_bot, I_aload 0 1, I_iload 1 1, I_callV 6 1 F_X6_placeOf, I_bot, I_bot, I_istore 2 1, I_iload 2 1, I_aload 0 1, I_getI 6 11, I_bot, I_bot, I_icmp (fun x y => y ≤ x) 59, I_bot, I_bot, I_aload 0 1, I_aload 0 1, I_getR 6 47, I_bot, I_bot, I_iload 2 1, I_iald, I_callV 6 1 F_X6_isPlayed, I_bot, I_bot, I_if (fun x => ¬ x = 0) 59, I_bot, I_bot, I_iinc 2 (1), I_bot, I_bot, I_goto 32, I_bot, I_bot, I_iload 2 1, I_aload 0 1, I_getI 6 11, I_bot, I_bot, I_icmp (fun x y => y ≤ x) 76, I_bot, I_bot, I_aload 0 1, I_getR 6 47, I_bot, I_bot, I_iload 2 1, I_iald, I_goto 77, I_bot, I_bot, I_const (-1) 1, I_iret Qa]
set_option maxHeartbeats 4000000 in
set_option maxRecDepth 100000 in
theorem t_X6_foldedInto_32 {Qa : Int32 → aM → Prop} {K : aS → Prop} (hw : ∀ k x, wp (T_X6_foldedInto Qa) k K x → K x) (hf : ∀ pc L i st σ, K (pc, L.set i .null, st, σ) → K (pc, L, st, σ)) (x15 : Int32) (y : Int32 × aM) (k : Int32 → aM → Option (Int32 × aM)) :
    ∀ (n : Nat) (v16 : Int32) (σ17 : aM), l_X6_foldedInto_32 x15 n v16 σ17 k = some y → (∀ (w0 : Int32) (τ : aM), k w0 τ = some y → K (59, [.ref 6, .int x15, .int w0], [], τ)) → K (32, [.ref 6, .int x15, .int v16], [], σ17) := by
  intro n
  induction n with
  | zero =>
    intro v16 σ17 h hk
    exact absurd h (by simp [l_X6_foldedInto_32])
  | succ n ih =>
    intro v16 σ17 h hk
    unfold l_X6_foldedInto_32 at h
    rcases ite_cases h with ⟨c18, h⟩ | ⟨c18, h⟩
    · refine hw 4 _ ?_
      show (((σ17 6 11) ≤ v16) → K (59, [.ref 6, .int x15, .int v16], [], σ17)) ∧ (¬ ((σ17 6 11) ≤ v16) → K (40, [.ref 6, .int x15, .int v16], [], σ17))
      refine ⟨fun _ => ?_, fun q => absurd c18 q⟩
      exact hk v16 σ17 h
    · refine hw 4 _ ?_
      show (((σ17 6 11) ≤ v16) → K (59, [.ref 6, .int x15, .int v16], [], σ17)) ∧ (¬ ((σ17 6 11) ≤ v16) → K (40, [.ref 6, .int x15, .int v16], [], σ17))
      refine ⟨fun q => absurd q c18, fun _ => ?_⟩
      obtain ⟨g19, h⟩ := ite_some h
      obtain ⟨r20, σ21, e22, h⟩ := bnd_some h
      refine hw 6 _ ?_
      show kd 47 = 1 ∧ (inb v16 20 = true ∧ (∃ r20 σ21, f_X6_isPlayed (σ17 47 (ix v16)) σ17 = some (r20, σ21) ∧ K (50, [.ref 6, .int x15, .int v16], [.int r20], σ21)))
      refine ⟨rfl, g19, ⟨r20, σ21, e22, ?_⟩⟩
      rcases ite_cases h with ⟨c23, h⟩ | ⟨c23, h⟩
      · refine hw 1 _ ?_
        show ((¬ r20 = 0) → K (59, [.ref 6, .int x15, .int v16], [], σ21)) ∧ (¬ (¬ r20 = 0) → K (53, [.ref 6, .int x15, .int v16], [], σ21))
        refine ⟨fun _ => ?_, fun q => absurd c23 q⟩
        exact hk v16 σ21 h
      · refine hw 1 _ ?_
        show ((¬ r20 = 0) → K (59, [.ref 6, .int x15, .int v16], [], σ21)) ∧ (¬ (¬ r20 = 0) → K (53, [.ref 6, .int x15, .int v16], [], σ21))
        refine ⟨fun q => absurd q c23, fun _ => ?_⟩
        refine hw 2 _ ?_
        show K (32, [.ref 6, .int x15, .int (v16 + 1)], [], σ21)
        exact ih (v16 + 1) σ21 h hk

set_option maxHeartbeats 4000000 in
set_option maxRecDepth 100000 in
theorem s_X6_foldedInto : runs T_X6_foldedInto [.ref 6] 3 F_X6_foldedInto := by
  intro Qa K hw hf As σ r σ' h hQ
  unfold F_X6_foldedInto at h
  split at h
  · rename_i p0
    unfold f_X6_foldedInto at h
    have hQ : Qa (r, σ').1 (r, σ').2 := hQ
    generalize (r, σ') = y at h hQ
    show K (0, [.ref 6, .int p0, .null], [], σ)
    obtain ⟨r1, σ2, e3, h⟩ := bnd_some h
    refine hw 4 _ ?_
    show ∃ r1 σ2, f_X6_isCue p0 σ = some (r1, σ2) ∧ K (6, [.ref 6, .int p0, .null], [.int r1, .ref 6], σ2)
    refine ⟨r1, σ2, e3, ?_⟩
    rcases ite_cases h with ⟨c4, h⟩ | ⟨c4, h⟩
    · refine hw 1 _ ?_
      show ((r1 = 0) → K (13, [.ref 6, .int p0, .null], [.ref 6], σ2)) ∧ (¬ (r1 = 0) → K (9, [.ref 6, .int p0, .null], [.ref 6], σ2))
      refine ⟨fun _ => ?_, fun q => absurd c4 q⟩
      obtain ⟨r5, σ6, e7, h⟩ := bnd_some h
      refine hw 2 _ ?_
      show ∃ r5 σ6, f_X6_isFine 1 σ2 = some (r5, σ6) ∧ K (17, [.ref 6, .int p0, .null], [.int r5], σ6)
      refine ⟨r5, σ6, e7, ?_⟩
      rcases ite_cases h with ⟨c8, h⟩ | ⟨c8, h⟩
      · refine hw 1 _ ?_
        show ((¬ r5 = 0) → K (22, [.ref 6, .int p0, .null], [], σ6)) ∧ (¬ (¬ r5 = 0) → K (20, [.ref 6, .int p0, .null], [], σ6))
        refine ⟨fun _ => ?_, fun q => absurd c8 q⟩
        obtain ⟨r9, σ10, e11, h⟩ := bnd_some h
        refine hw 2 _ ?_
        show ∃ r9 σ10, f_X6_orders σ6 = some (r9, σ10) ∧ K (26, [.ref 6, .int p0, .null], [], σ10)
        refine ⟨r9, σ10, e11, ?_⟩
        obtain ⟨r12, σ13, e14, h⟩ := bnd_some h
        refine hw 3 _ ?_
        show ∃ r12 σ13, f_X6_placeOf p0 σ10 = some (r12, σ13) ∧ K (31, [.ref 6, .int p0, .null], [.int r12], σ13)
        refine ⟨r12, σ13, e14, ?_⟩
        refine hw 1 _ ?_
        show K (32, [.ref 6, .int p0, .int r12], [], σ13)
        refine t_X6_foldedInto_32 hw hf p0 _ _ lf r12 σ13 h (fun v24 σ25 h => ?_)
        show K (59, [.ref 6, .int p0, .int v24], [], σ25)
        rcases ite_cases h with ⟨c26, h⟩ | ⟨c26, h⟩
        · refine hw 4 _ ?_
          show (((σ25 6 11) ≤ v24) → K (76, [.ref 6, .int p0, .int v24], [], σ25)) ∧ (¬ ((σ25 6 11) ≤ v24) → K (67, [.ref 6, .int p0, .int v24], [], σ25))
          refine ⟨fun _ => ?_, fun q => absurd c26 q⟩
          obtain rfl := Option.some.inj h
          refine hw 2 _ ?_
          show Qa ((-1)) σ25
          refine hQ
        · refine hw 4 _ ?_
          show (((σ25 6 11) ≤ v24) → K (76, [.ref 6, .int p0, .int v24], [], σ25)) ∧ (¬ ((σ25 6 11) ≤ v24) → K (67, [.ref 6, .int p0, .int v24], [], σ25))
          refine ⟨fun q => absurd q c26, fun _ => ?_⟩
          obtain ⟨g27, h⟩ := ite_some h
          obtain rfl := Option.some.inj h
          refine hw 6 _ ?_
          show kd 47 = 1 ∧ (inb v24 20 = true ∧ (Qa (σ25 47 (ix v24)) σ25))
          refine ⟨rfl, g27, hQ⟩
      · refine hw 1 _ ?_
        show ((¬ r5 = 0) → K (22, [.ref 6, .int p0, .null], [], σ6)) ∧ (¬ (¬ r5 = 0) → K (20, [.ref 6, .int p0, .null], [], σ6))
        refine ⟨fun q => absurd q c8, fun _ => ?_⟩
        obtain rfl := Option.some.inj h
        refine hw 2 _ ?_
        show Qa 0 σ6
        refine hQ
    · refine hw 1 _ ?_
      show ((r1 = 0) → K (13, [.ref 6, .int p0, .null], [.ref 6], σ2)) ∧ (¬ (r1 = 0) → K (9, [.ref 6, .int p0, .null], [.ref 6], σ2))
      refine ⟨fun q => absurd q c4, fun _ => ?_⟩
      obtain ⟨r28, σ29, e30, h⟩ := bnd_some h
      refine hw 3 _ ?_
      show ∃ r28 σ29, f_X6_isFine 0 σ2 = some (r28, σ29) ∧ K (17, [.ref 6, .int p0, .null], [.int r28], σ29)
      refine ⟨r28, σ29, e30, ?_⟩
      rcases ite_cases h with ⟨c31, h⟩ | ⟨c31, h⟩
      · refine hw 1 _ ?_
        show ((¬ r28 = 0) → K (22, [.ref 6, .int p0, .null], [], σ29)) ∧ (¬ (¬ r28 = 0) → K (20, [.ref 6, .int p0, .null], [], σ29))
        refine ⟨fun _ => ?_, fun q => absurd c31 q⟩
        obtain ⟨r32, σ33, e34, h⟩ := bnd_some h
        refine hw 2 _ ?_
        show ∃ r32 σ33, f_X6_orders σ29 = some (r32, σ33) ∧ K (26, [.ref 6, .int p0, .null], [], σ33)
        refine ⟨r32, σ33, e34, ?_⟩
        obtain ⟨r35, σ36, e37, h⟩ := bnd_some h
        refine hw 3 _ ?_
        show ∃ r35 σ36, f_X6_placeOf p0 σ33 = some (r35, σ36) ∧ K (31, [.ref 6, .int p0, .null], [.int r35], σ36)
        refine ⟨r35, σ36, e37, ?_⟩
        refine hw 1 _ ?_
        show K (32, [.ref 6, .int p0, .int r35], [], σ36)
        refine t_X6_foldedInto_32 hw hf p0 _ _ lf r35 σ36 h (fun v38 σ39 h => ?_)
        show K (59, [.ref 6, .int p0, .int v38], [], σ39)
        rcases ite_cases h with ⟨c40, h⟩ | ⟨c40, h⟩
        · refine hw 4 _ ?_
          show (((σ39 6 11) ≤ v38) → K (76, [.ref 6, .int p0, .int v38], [], σ39)) ∧ (¬ ((σ39 6 11) ≤ v38) → K (67, [.ref 6, .int p0, .int v38], [], σ39))
          refine ⟨fun _ => ?_, fun q => absurd c40 q⟩
          obtain rfl := Option.some.inj h
          refine hw 2 _ ?_
          show Qa ((-1)) σ39
          refine hQ
        · refine hw 4 _ ?_
          show (((σ39 6 11) ≤ v38) → K (76, [.ref 6, .int p0, .int v38], [], σ39)) ∧ (¬ ((σ39 6 11) ≤ v38) → K (67, [.ref 6, .int p0, .int v38], [], σ39))
          refine ⟨fun q => absurd q c40, fun _ => ?_⟩
          obtain ⟨g41, h⟩ := ite_some h
          obtain rfl := Option.some.inj h
          refine hw 6 _ ?_
          show kd 47 = 1 ∧ (inb v38 20 = true ∧ (Qa (σ39 47 (ix v38)) σ39))
          refine ⟨rfl, g41, hQ⟩
      · refine hw 1 _ ?_
        show ((¬ r28 = 0) → K (22, [.ref 6, .int p0, .null], [], σ29)) ∧ (¬ (¬ r28 = 0) → K (20, [.ref 6, .int p0, .null], [], σ29))
        refine ⟨fun q => absurd q c31, fun _ => ?_⟩
        obtain rfl := Option.some.inj h
        refine hw 2 _ ?_
        show Qa 0 σ29
        refine hQ
  · cases h
theorem h_X6_foldedInto : shp [.ref 6] 3 F_X6_foldedInto := by
  intro As σ r σ' h
  unfold F_X6_foldedInto at h
  split at h
  · exact ⟨by simp [Value.category], Nat.le_of_ble_eq_true rfl⟩
  · cases h
set_option maxHeartbeats 4000000 in
set_option maxRecDepth 100000 in
theorem c_X6_foldedInto (l : Launch) (D : va_G) (cI cZ cA cL : ClassId) (ad : Nat → Nat) (hi : adI ad) : CtI l yX6_foldedInto wsX6_foldedInto { frames := 2, cells := 0, slots := 0, locals := 45 } D cI cZ cA cL ad [.ref 6] F_X6_foldedInto := by
  refine mk_I [.ref 6] F_X6_foldedInto T_X6_foldedInto (by decide +kernel) rfl ?_ h_X6_foldedInto s_X6_foldedInto
  intro p e s m args below meth c Qa ⟨hx, hb, hml, hown, hts, hr, hlocks, hK, hN⟩
  have hin6 : ∀ w ∈ u_ws RX6 TX6 30, w ∈ wsX6_foldedInto := by decide +kernel
  have hl111 : (Cond.fieldLink RX6 111 RX6 (TX6 11).2.1 (TX6 11).2.2.1) ∈ wsX6_foldedInto := by decide +kernel
  have hl65 : (Cond.fieldLink RX6 65 RX6 (TX6 23).2.1 (TX6 23).2.2.1) ∈ wsX6_foldedInto := by decide +kernel
  refine ruL_c (n := 0) (n2 := 1) rfl (ru_aload_n (k := 0) hx hb dX6_foldedInto_0) ?_
  refine ruL_c (n := 1) (n2 := 2) rfl (ru_aload_n (k := 0) hx hb dX6_foldedInto_1) ?_
  refine ruL_c (n := 2) (n2 := 3) rfl (ru_iload_n (k := 1) hx hb dX6_foldedInto_2) ?_
  refine ruL_c (n := 3) (n2 := 4) rfl (ru_callV hx hb hml hown hts hK hN (by decide) rfl (c_X6_isCue l D cI cZ cA cL ad hi) (cwV 1 hts gX6_foldedInto_X6_isCue rfl rfl rfl (by decide +kernel) ⟨Nat.le_of_ble_eq_true rfl, Nat.le_of_ble_eq_true rfl⟩) dX6_foldedInto_3 ⟨Nat.zero_le _, Nat.zero_le _⟩) ?_
  refine ruL_c (n := 4) (n2 := 5) rfl (ru_bot) ?_
  refine ruL_c (n := 5) (n2 := 6) rfl (ru_bot) ?_
  refine ruL_c (n := 6) (n2 := 7) rfl (ru_ifeq hx hb dX6_foldedInto_6 (by decide)) ?_
  refine ruL_c (n := 7) (n2 := 8) rfl (ru_bot) ?_
  refine ruL_c (n := 8) (n2 := 9) rfl (ru_bot) ?_
  refine ruL_c (n := 9) (n2 := 10) rfl (ru_iconst hx hb dX6_foldedInto_9 rfl) ?_
  refine ruL_c (n := 10) (n2 := 11) rfl (ru_goto hx hb dX6_foldedInto_10 (by decide)) ?_
  refine ruL_c (n := 11) (n2 := 12) rfl (ru_bot) ?_
  refine ruL_c (n := 12) (n2 := 13) rfl (ru_bot) ?_
  refine ruL_c (n := 13) (n2 := 14) rfl (ru_iconst hx hb dX6_foldedInto_13 rfl) ?_
  refine ruL_c (n := 14) (n2 := 15) rfl (ru_callV hx hb hml hown hts hK hN (by decide) rfl (c_X6_isFine l D cI cZ cA cL ad hi) (cwV 1 hts gX6_foldedInto_X6_isFine rfl rfl rfl (by decide +kernel) ⟨Nat.le_of_ble_eq_true rfl, Nat.le_of_ble_eq_true rfl⟩) dX6_foldedInto_14 ⟨Nat.zero_le _, Nat.zero_le _⟩) ?_
  refine ruL_c (n := 15) (n2 := 16) rfl (ru_bot) ?_
  refine ruL_c (n := 16) (n2 := 17) rfl (ru_bot) ?_
  refine ruL_c (n := 17) (n2 := 18) rfl (ru_ifne hx hb dX6_foldedInto_17 (by decide)) ?_
  refine ruL_c (n := 18) (n2 := 19) rfl (ru_bot) ?_
  refine ruL_c (n := 19) (n2 := 20) rfl (ru_bot) ?_
  refine ruL_c (n := 20) (n2 := 21) rfl (ru_iconst hx hb dX6_foldedInto_20 rfl) ?_
  refine ruL_c (n := 21) (n2 := 22) rfl (ru_iret hx hb hK hr hlocks dX6_foldedInto_21) ?_
  refine ruL_c (n := 22) (n2 := 23) rfl (ru_aload_n (k := 0) hx hb dX6_foldedInto_22) ?_
  refine ruL_c (n := 23) (n2 := 24) rfl (ru_callVv hx hb hml hown hts hK hN (by decide) rfl (c_X6_orders l D cI cZ cA cL ad hi) (cwV 0 hts gX6_foldedInto_X6_orders rfl rfl rfl (by decide +kernel) ⟨Nat.le_of_ble_eq_true rfl, Nat.le_of_ble_eq_true rfl⟩) dX6_foldedInto_23 ⟨Nat.zero_le _, Nat.zero_le _⟩) ?_
  refine ruL_c (n := 24) (n2 := 25) rfl (ru_bot) ?_
  refine ruL_c (n := 25) (n2 := 26) rfl (ru_bot) ?_
  refine ruL_c (n := 26) (n2 := 27) rfl (ru_aload_n (k := 0) hx hb dX6_foldedInto_26) ?_
  refine ruL_c (n := 27) (n2 := 28) rfl (ru_iload_n (k := 1) hx hb dX6_foldedInto_27) ?_
  refine ruL_c (n := 28) (n2 := 29) rfl (ru_callV hx hb hml hown hts hK hN (by decide) rfl (c_X6_placeOf l D cI cZ cA cL ad hi) (cwV 1 hts gX6_foldedInto_X6_placeOf rfl rfl rfl (by decide +kernel) ⟨Nat.le_of_ble_eq_true rfl, Nat.le_of_ble_eq_true rfl⟩) dX6_foldedInto_28 ⟨Nat.zero_le _, Nat.zero_le _⟩) ?_
  refine ruL_c (n := 29) (n2 := 30) rfl (ru_bot) ?_
  refine ruL_c (n := 30) (n2 := 31) rfl (ru_bot) ?_
  refine ruL_c (n := 31) (n2 := 32) rfl (ru_istore_n (k := 2) hx hb dX6_foldedInto_31) ?_
  refine ruL_c (n := 32) (n2 := 33) rfl (ru_iload_n (k := 2) hx hb dX6_foldedInto_32) ?_
  refine ruL_c (n := 33) (n2 := 34) rfl (ru_aload_n (k := 0) hx hb dX6_foldedInto_33) ?_
  refine ruL_c (n := 34) (n2 := 35) rfl (ru_getI (own := RX6) (j := 11) (T := TX6) hx hb hown hK hts hin6 (by decide) rfl rfl (by decide) rfl hl111 dX6_foldedInto_34) ?_
  refine ruL_c (n := 35) (n2 := 36) rfl (ru_bot) ?_
  refine ruL_c (n := 36) (n2 := 37) rfl (ru_bot) ?_
  refine ruL_c (n := 37) (n2 := 38) rfl (ru_icmpge hx hb dX6_foldedInto_37 (by decide)) ?_
  refine ruL_c (n := 38) (n2 := 39) rfl (ru_bot) ?_
  refine ruL_c (n := 39) (n2 := 40) rfl (ru_bot) ?_
  refine ruL_c (n := 40) (n2 := 41) rfl (ru_aload_n (k := 0) hx hb dX6_foldedInto_40) ?_
  refine ruL_c (n := 41) (n2 := 42) rfl (ru_aload_n (k := 0) hx hb dX6_foldedInto_41) ?_
  refine ruL_c (n := 42) (n2 := 43) rfl (ru_getR (own := RX6) (j := 23) (T := TX6) hx hb hown hK hts hin6 (by decide) rfl rfl (by decide) rfl hl65 dX6_foldedInto_42) ?_
  refine ruL_c (n := 43) (n2 := 44) rfl (ru_bot) ?_
  refine ruL_c (n := 44) (n2 := 45) rfl (ru_bot) ?_
  refine ruL_c (n := 45) (n2 := 46) rfl (ru_iload_n (k := 2) hx hb dX6_foldedInto_45) ?_
  refine ruL_c (n := 46) (n2 := 47) rfl (ru_iald hx hb hK dX6_foldedInto_46) ?_
  refine ruL_c (n := 47) (n2 := 48) rfl (ru_callV hx hb hml hown hts hK hN (by decide) rfl (c_X6_isPlayed l D cI cZ cA cL ad hi) (cwV 1 hts gX6_foldedInto_X6_isPlayed rfl rfl rfl (by decide +kernel) ⟨Nat.le_of_ble_eq_true rfl, Nat.le_of_ble_eq_true rfl⟩) dX6_foldedInto_47 ⟨Nat.zero_le _, Nat.zero_le _⟩) ?_
  refine ruL_c (n := 48) (n2 := 49) rfl (ru_bot) ?_
  refine ruL_c (n := 49) (n2 := 50) rfl (ru_bot) ?_
  refine ruL_c (n := 50) (n2 := 51) rfl (ru_ifne hx hb dX6_foldedInto_50 (by decide)) ?_
  refine ruL_c (n := 51) (n2 := 52) rfl (ru_bot) ?_
  refine ruL_c (n := 52) (n2 := 53) rfl (ru_bot) ?_
  refine ruL_c (n := 53) (n2 := 54) rfl (ru_iinc hx hb dX6_foldedInto_53 rfl) ?_
  refine ruL_c (n := 54) (n2 := 55) rfl (ru_bot) ?_
  refine ruL_c (n := 55) (n2 := 56) rfl (ru_bot) ?_
  refine ruL_c (n := 56) (n2 := 57) rfl (ru_goto hx hb dX6_foldedInto_56 (by decide)) ?_
  refine ruL_c (n := 57) (n2 := 58) rfl (ru_bot) ?_
  refine ruL_c (n := 58) (n2 := 59) rfl (ru_bot) ?_
  refine ruL_c (n := 59) (n2 := 60) rfl (ru_iload_n (k := 2) hx hb dX6_foldedInto_59) ?_
  refine ruL_c (n := 60) (n2 := 61) rfl (ru_aload_n (k := 0) hx hb dX6_foldedInto_60) ?_
  refine ruL_c (n := 61) (n2 := 62) rfl (ru_getI (own := RX6) (j := 11) (T := TX6) hx hb hown hK hts hin6 (by decide) rfl rfl (by decide) rfl hl111 dX6_foldedInto_61) ?_
  refine ruL_c (n := 62) (n2 := 63) rfl (ru_bot) ?_
  refine ruL_c (n := 63) (n2 := 64) rfl (ru_bot) ?_
  refine ruL_c (n := 64) (n2 := 65) rfl (ru_icmpge hx hb dX6_foldedInto_64 (by decide)) ?_
  refine ruL_c (n := 65) (n2 := 66) rfl (ru_bot) ?_
  refine ruL_c (n := 66) (n2 := 67) rfl (ru_bot) ?_
  refine ruL_c (n := 67) (n2 := 68) rfl (ru_aload_n (k := 0) hx hb dX6_foldedInto_67) ?_
  refine ruL_c (n := 68) (n2 := 69) rfl (ru_getR (own := RX6) (j := 23) (T := TX6) hx hb hown hK hts hin6 (by decide) rfl rfl (by decide) rfl hl65 dX6_foldedInto_68) ?_
  refine ruL_c (n := 69) (n2 := 70) rfl (ru_bot) ?_
  refine ruL_c (n := 70) (n2 := 71) rfl (ru_bot) ?_
  refine ruL_c (n := 71) (n2 := 72) rfl (ru_iload_n (k := 2) hx hb dX6_foldedInto_71) ?_
  refine ruL_c (n := 72) (n2 := 73) rfl (ru_iald hx hb hK dX6_foldedInto_72) ?_
  refine ruL_c (n := 73) (n2 := 74) rfl (ru_goto hx hb dX6_foldedInto_73 (by decide)) ?_
  refine ruL_c (n := 74) (n2 := 75) rfl (ru_bot) ?_
  refine ruL_c (n := 75) (n2 := 76) rfl (ru_bot) ?_
  refine ruL_c (n := 76) (n2 := 77) rfl (ru_iconst hx hb dX6_foldedInto_76 rfl) ?_
  refine ruL_c (n := 77) (n2 := 78) rfl (ru_iret hx hb hK hr hlocks dX6_foldedInto_77) ?_
  exact trivial

-- CueTourModel.changesAt
def l_X6_changesAt_22 (x3 : Int32) (x4 : Int32) : Nat → Int32 → Int32 → aM → (Int32 → Int32 → aM → Option (Int32 × aM)) → Option (Int32 × aM)
  | 0, _, _, _, _ => none
  | n + 1, v5, v6, σ7, k => if v6 < 0 then k v5 v6 σ7 else if inb v6 20 = true then bnd (f_X6_isPlayed (σ7 47 (ix v6)) σ7) (fun r10 σ11 => if ¬ r10 = 0 then k v5 v6 σ11 else if ¬ v5 = ((-1)) then k v5 v6 σ11 else if inb v6 20 = true then if inb ((10 * (σ11 47 (ix v6))) + x4) 200 = true then l_X6_changesAt_22 x3 x4 n (σ11 37 (ix ((10 * (σ11 47 (ix v6))) + x4))) (v6 + (-1)) σ11 k else none else none) else none
def f_X6_changesAt (p0 : Int32) (p1 : Int32) (σ : aM) : Option (Int32 × aM) := if inb p0 20 = true then if inb ((10 * (σ 47 (ix p0))) + p1) 200 = true then l_X6_changesAt_22 p0 p1 lf (σ 37 (ix ((10 * (σ 47 (ix p0))) + p1))) (p0 - 1) σ (fun v17 v18 σ19 => some (v17, σ19)) else none else none
def F_X6_changesAt : aF := fun As σ => match As with
  | [.int p0, .int p1] => f_X6_changesAt p0 p1 σ
  | _ => none
def T_X6_changesAt (Qa : Int32 → aM → Prop) : List aI := [I_aload 0 1, I_getR 6 37, I_bot, I_bot, I_const (10) 2, I_bot, I_aload 0 1, I_getR 6 47, I_bot, I_bot, I_iload 1 1, I_iald, I_bin fun x y => x * y, I_iload 2 1, I_bin fun x y => x + y, I_iald, I_istore 3 1, I_iload 1 1, I_const 1 1, I_bin fun x y => x - y, I_istore 4 2, I_bot, I_iload 4 2, I_bot, I_if (fun x => x < 0) 70, I_bot, I_bot, I_aload 0 1, I_aload 0 1, I_getR 6 47, I_bot, I_bot, I_iload 4 2, I_bot, I_iald, I_callV 6 1 F_X6_isPlayed, I_bot, I_bot, I_if (fun x => ¬ x = 0) 70, I_bot, I_bot, I_iload 3 1, I_const (-1) 1, I_icmp (fun x y => ¬ x = y) 70, I_bot, I_bot, I_aload 0 1, I_getR 6 37, I_bot, I_bot, I_const (10) 2, I_bot, I_aload 0 1, I_getR 6 47, I_bot, I_bot, I_iload 4 2, I_bot, I_iald, I_bin fun x y => x * y, I_iload 2 1, I_bin fun x y => x + y, I_iald, I_istore 3 1, I_iinc 4 (-1), I_bot, I_bot, I_goto 22, I_bot, I_bot, I_iload 3 1, I_iret Qa]
set_option maxHeartbeats 4000000 in
set_option maxRecDepth 100000 in
theorem t_X6_changesAt_22 {Qa : Int32 → aM → Prop} {K : aS → Prop} (hw : ∀ k x, wp (T_X6_changesAt Qa) k K x → K x) (hf : ∀ pc L i st σ, K (pc, L.set i .null, st, σ) → K (pc, L, st, σ)) (x3 : Int32) (x4 : Int32) (y : Int32 × aM) (k : Int32 → Int32 → aM → Option (Int32 × aM)) :
    ∀ (n : Nat) (v5 : Int32) (v6 : Int32) (σ7 : aM), l_X6_changesAt_22 x3 x4 n v5 v6 σ7 k = some y → (∀ (w0 : Int32) (w1 : Int32) (τ : aM), k w0 w1 τ = some y → K (70, [.ref 6, .int x3, .int x4, .int w0, .int w1], [], τ)) → K (22, [.ref 6, .int x3, .int x4, .int v5, .int v6], [], σ7) := by
  intro n
  induction n with
  | zero =>
    intro v5 v6 σ7 h hk
    exact absurd h (by simp [l_X6_changesAt_22])
  | succ n ih =>
    intro v5 v6 σ7 h hk
    unfold l_X6_changesAt_22 at h
    rcases ite_cases h with ⟨c8, h⟩ | ⟨c8, h⟩
    · refine hw 2 _ ?_
      show ((v6 < 0) → K (70, [.ref 6, .int x3, .int x4, .int v5, .int v6], [], σ7)) ∧ (¬ (v6 < 0) → K (27, [.ref 6, .int x3, .int x4, .int v5, .int v6], [], σ7))
      refine ⟨fun _ => ?_, fun q => absurd c8 q⟩
      exact hk v5 v6 σ7 h
    · refine hw 2 _ ?_
      show ((v6 < 0) → K (70, [.ref 6, .int x3, .int x4, .int v5, .int v6], [], σ7)) ∧ (¬ (v6 < 0) → K (27, [.ref 6, .int x3, .int x4, .int v5, .int v6], [], σ7))
      refine ⟨fun q => absurd q c8, fun _ => ?_⟩
      obtain ⟨g9, h⟩ := ite_some h
      obtain ⟨r10, σ11, e12, h⟩ := bnd_some h
      refine hw 6 _ ?_
      show kd 47 = 1 ∧ (inb v6 20 = true ∧ (∃ r10 σ11, f_X6_isPlayed (σ7 47 (ix v6)) σ7 = some (r10, σ11) ∧ K (38, [.ref 6, .int x3, .int x4, .int v5, .int v6], [.int r10], σ11)))
      refine ⟨rfl, g9, ⟨r10, σ11, e12, ?_⟩⟩
      rcases ite_cases h with ⟨c13, h⟩ | ⟨c13, h⟩
      · refine hw 1 _ ?_
        show ((¬ r10 = 0) → K (70, [.ref 6, .int x3, .int x4, .int v5, .int v6], [], σ11)) ∧ (¬ (¬ r10 = 0) → K (41, [.ref 6, .int x3, .int x4, .int v5, .int v6], [], σ11))
        refine ⟨fun _ => ?_, fun q => absurd c13 q⟩
        exact hk v5 v6 σ11 h
      · refine hw 1 _ ?_
        show ((¬ r10 = 0) → K (70, [.ref 6, .int x3, .int x4, .int v5, .int v6], [], σ11)) ∧ (¬ (¬ r10 = 0) → K (41, [.ref 6, .int x3, .int x4, .int v5, .int v6], [], σ11))
        refine ⟨fun q => absurd q c13, fun _ => ?_⟩
        rcases ite_cases h with ⟨c14, h⟩ | ⟨c14, h⟩
        · refine hw 3 _ ?_
          show ((¬ v5 = ((-1))) → K (70, [.ref 6, .int x3, .int x4, .int v5, .int v6], [], σ11)) ∧ (¬ (¬ v5 = ((-1))) → K (46, [.ref 6, .int x3, .int x4, .int v5, .int v6], [], σ11))
          refine ⟨fun _ => ?_, fun q => absurd c14 q⟩
          exact hk v5 v6 σ11 h
        · refine hw 3 _ ?_
          show ((¬ v5 = ((-1))) → K (70, [.ref 6, .int x3, .int x4, .int v5, .int v6], [], σ11)) ∧ (¬ (¬ v5 = ((-1))) → K (46, [.ref 6, .int x3, .int x4, .int v5, .int v6], [], σ11))
          refine ⟨fun q => absurd q c14, fun _ => ?_⟩
          obtain ⟨g15, h⟩ := ite_some h
          obtain ⟨g16, h⟩ := ite_some h
          refine hw 14 _ ?_
          show kd 47 = 1 ∧ (inb v6 20 = true ∧ (kd 37 = 1 ∧ (inb ((10 * (σ11 47 (ix v6))) + x4) 200 = true ∧ (K (22, [.ref 6, .int x3, .int x4, .int (σ11 37 (ix ((10 * (σ11 47 (ix v6))) + x4))), .int (v6 + (-1))], [], σ11)))))
          refine ⟨rfl, g15, rfl, g16, ?_⟩
          exact ih (σ11 37 (ix ((10 * (σ11 47 (ix v6))) + x4))) (v6 + (-1)) σ11 h hk

set_option maxHeartbeats 4000000 in
set_option maxRecDepth 100000 in
theorem s_X6_changesAt : runs T_X6_changesAt [.ref 6] 5 F_X6_changesAt := by
  intro Qa K hw hf As σ r σ' h hQ
  unfold F_X6_changesAt at h
  split at h
  · rename_i p0 p1
    unfold f_X6_changesAt at h
    have hQ : Qa (r, σ').1 (r, σ').2 := hQ
    generalize (r, σ') = y at h hQ
    show K (0, [.ref 6, .int p0, .int p1, .null, .null], [], σ)
    obtain ⟨g1, h⟩ := ite_some h
    obtain ⟨g2, h⟩ := ite_some h
    refine hw 16 _ ?_
    show kd 47 = 1 ∧ (inb p0 20 = true ∧ (kd 37 = 1 ∧ (inb ((10 * (σ 47 (ix p0))) + p1) 200 = true ∧ (K (22, [.ref 6, .int p0, .int p1, .int (σ 37 (ix ((10 * (σ 47 (ix p0))) + p1))), .int (p0 - 1)], [], σ)))))
    refine ⟨rfl, g1, rfl, g2, ?_⟩
    refine t_X6_changesAt_22 hw hf p0 p1 _ _ lf (σ 37 (ix ((10 * (σ 47 (ix p0))) + p1))) (p0 - 1) σ h (fun v17 v18 σ19 h => ?_)
    show K (70, [.ref 6, .int p0, .int p1, .int v17, .int v18], [], σ19)
    obtain rfl := Option.some.inj h
    refine hw 2 _ ?_
    show Qa v17 σ19
    refine hQ
  · cases h
theorem h_X6_changesAt : shp [.ref 6] 5 F_X6_changesAt := by
  intro As σ r σ' h
  unfold F_X6_changesAt at h
  split at h
  · exact ⟨by simp [Value.category], Nat.le_of_ble_eq_true rfl⟩
  · cases h
set_option maxHeartbeats 4000000 in
set_option maxRecDepth 100000 in
theorem c_X6_changesAt (l : Launch) (D : va_G) (cI cZ cA cL : ClassId) (ad : Nat → Nat) (hi : adI ad) : CtI l yX6_changesAt wsX6_changesAt { frames := 1, cells := 0, slots := 0, locals := 21 } D cI cZ cA cL ad [.ref 6] F_X6_changesAt := by
  refine mk_I [.ref 6] F_X6_changesAt T_X6_changesAt (by decide +kernel) rfl ?_ h_X6_changesAt s_X6_changesAt
  intro p e s m args below meth c Qa ⟨hx, hb, hml, hown, hts, hr, hlocks, hK, hN⟩
  have hin6 : ∀ w ∈ u_ws RX6 TX6 30, w ∈ wsX6_changesAt := by decide +kernel
  have hl35 : (Cond.fieldLink RX6 35 RX6 (TX6 10).2.1 (TX6 10).2.2.1) ∈ wsX6_changesAt := by decide +kernel
  have hl65 : (Cond.fieldLink RX6 65 RX6 (TX6 23).2.1 (TX6 23).2.2.1) ∈ wsX6_changesAt := by decide +kernel
  refine ruL_c (n := 0) (n2 := 1) rfl (ru_aload_n (k := 0) hx hb dX6_changesAt_0) ?_
  refine ruL_c (n := 1) (n2 := 2) rfl (ru_getR (own := RX6) (j := 10) (T := TX6) hx hb hown hK hts hin6 (by decide) rfl rfl (by decide) rfl hl35 dX6_changesAt_1) ?_
  refine ruL_c (n := 2) (n2 := 3) rfl (ru_bot) ?_
  refine ruL_c (n := 3) (n2 := 4) rfl (ru_bot) ?_
  refine ruL_c (n := 4) (n2 := 5) rfl (ru_bipush hx hb dX6_changesAt_4 rfl) ?_
  refine ruL_c (n := 5) (n2 := 6) rfl (ru_bot) ?_
  refine ruL_c (n := 6) (n2 := 7) rfl (ru_aload_n (k := 0) hx hb dX6_changesAt_6) ?_
  refine ruL_c (n := 7) (n2 := 8) rfl (ru_getR (own := RX6) (j := 23) (T := TX6) hx hb hown hK hts hin6 (by decide) rfl rfl (by decide) rfl hl65 dX6_changesAt_7) ?_
  refine ruL_c (n := 8) (n2 := 9) rfl (ru_bot) ?_
  refine ruL_c (n := 9) (n2 := 10) rfl (ru_bot) ?_
  refine ruL_c (n := 10) (n2 := 11) rfl (ru_iload_n (k := 1) hx hb dX6_changesAt_10) ?_
  refine ruL_c (n := 11) (n2 := 12) rfl (ru_iald hx hb hK dX6_changesAt_11) ?_
  refine ruL_c (n := 12) (n2 := 13) rfl (ru_imul hx hb dX6_changesAt_12) ?_
  refine ruL_c (n := 13) (n2 := 14) rfl (ru_iload_n (k := 2) hx hb dX6_changesAt_13) ?_
  refine ruL_c (n := 14) (n2 := 15) rfl (ru_iadd hx hb dX6_changesAt_14) ?_
  refine ruL_c (n := 15) (n2 := 16) rfl (ru_iald hx hb hK dX6_changesAt_15) ?_
  refine ruL_c (n := 16) (n2 := 17) rfl (ru_istore_n (k := 3) hx hb dX6_changesAt_16) ?_
  refine ruL_c (n := 17) (n2 := 18) rfl (ru_iload_n (k := 1) hx hb dX6_changesAt_17) ?_
  refine ruL_c (n := 18) (n2 := 19) rfl (ru_iconst hx hb dX6_changesAt_18 rfl) ?_
  refine ruL_c (n := 19) (n2 := 20) rfl (ru_isub hx hb dX6_changesAt_19) ?_
  refine ruL_c (n := 20) (n2 := 21) rfl (ru_istore hx hb dX6_changesAt_20) ?_
  refine ruL_c (n := 21) (n2 := 22) rfl (ru_bot) ?_
  refine ruL_c (n := 22) (n2 := 23) rfl (ru_iload hx hb dX6_changesAt_22) ?_
  refine ruL_c (n := 23) (n2 := 24) rfl (ru_bot) ?_
  refine ruL_c (n := 24) (n2 := 25) rfl (ru_iflt hx hb dX6_changesAt_24 (by decide)) ?_
  refine ruL_c (n := 25) (n2 := 26) rfl (ru_bot) ?_
  refine ruL_c (n := 26) (n2 := 27) rfl (ru_bot) ?_
  refine ruL_c (n := 27) (n2 := 28) rfl (ru_aload_n (k := 0) hx hb dX6_changesAt_27) ?_
  refine ruL_c (n := 28) (n2 := 29) rfl (ru_aload_n (k := 0) hx hb dX6_changesAt_28) ?_
  refine ruL_c (n := 29) (n2 := 30) rfl (ru_getR (own := RX6) (j := 23) (T := TX6) hx hb hown hK hts hin6 (by decide) rfl rfl (by decide) rfl hl65 dX6_changesAt_29) ?_
  refine ruL_c (n := 30) (n2 := 31) rfl (ru_bot) ?_
  refine ruL_c (n := 31) (n2 := 32) rfl (ru_bot) ?_
  refine ruL_c (n := 32) (n2 := 33) rfl (ru_iload hx hb dX6_changesAt_32) ?_
  refine ruL_c (n := 33) (n2 := 34) rfl (ru_bot) ?_
  refine ruL_c (n := 34) (n2 := 35) rfl (ru_iald hx hb hK dX6_changesAt_34) ?_
  refine ruL_c (n := 35) (n2 := 36) rfl (ru_callV hx hb hml hown hts hK hN (by decide) rfl (c_X6_isPlayed l D cI cZ cA cL ad hi) (cwV 1 hts gX6_changesAt_X6_isPlayed rfl rfl rfl (by decide +kernel) ⟨Nat.le_of_ble_eq_true rfl, Nat.le_of_ble_eq_true rfl⟩) dX6_changesAt_35 ⟨Nat.zero_le _, Nat.zero_le _⟩) ?_
  refine ruL_c (n := 36) (n2 := 37) rfl (ru_bot) ?_
  refine ruL_c (n := 37) (n2 := 38) rfl (ru_bot) ?_
  refine ruL_c (n := 38) (n2 := 39) rfl (ru_ifne hx hb dX6_changesAt_38 (by decide)) ?_
  refine ruL_c (n := 39) (n2 := 40) rfl (ru_bot) ?_
  refine ruL_c (n := 40) (n2 := 41) rfl (ru_bot) ?_
  refine ruL_c (n := 41) (n2 := 42) rfl (ru_iload_n (k := 3) hx hb dX6_changesAt_41) ?_
  refine ruL_c (n := 42) (n2 := 43) rfl (ru_iconst hx hb dX6_changesAt_42 rfl) ?_
  refine ruL_c (n := 43) (n2 := 44) rfl (ru_icmpne hx hb dX6_changesAt_43 (by decide)) ?_
  refine ruL_c (n := 44) (n2 := 45) rfl (ru_bot) ?_
  refine ruL_c (n := 45) (n2 := 46) rfl (ru_bot) ?_
  refine ruL_c (n := 46) (n2 := 47) rfl (ru_aload_n (k := 0) hx hb dX6_changesAt_46) ?_
  refine ruL_c (n := 47) (n2 := 48) rfl (ru_getR (own := RX6) (j := 10) (T := TX6) hx hb hown hK hts hin6 (by decide) rfl rfl (by decide) rfl hl35 dX6_changesAt_47) ?_
  refine ruL_c (n := 48) (n2 := 49) rfl (ru_bot) ?_
  refine ruL_c (n := 49) (n2 := 50) rfl (ru_bot) ?_
  refine ruL_c (n := 50) (n2 := 51) rfl (ru_bipush hx hb dX6_changesAt_50 rfl) ?_
  refine ruL_c (n := 51) (n2 := 52) rfl (ru_bot) ?_
  refine ruL_c (n := 52) (n2 := 53) rfl (ru_aload_n (k := 0) hx hb dX6_changesAt_52) ?_
  refine ruL_c (n := 53) (n2 := 54) rfl (ru_getR (own := RX6) (j := 23) (T := TX6) hx hb hown hK hts hin6 (by decide) rfl rfl (by decide) rfl hl65 dX6_changesAt_53) ?_
  refine ruL_c (n := 54) (n2 := 55) rfl (ru_bot) ?_
  refine ruL_c (n := 55) (n2 := 56) rfl (ru_bot) ?_
  refine ruL_c (n := 56) (n2 := 57) rfl (ru_iload hx hb dX6_changesAt_56) ?_
  refine ruL_c (n := 57) (n2 := 58) rfl (ru_bot) ?_
  refine ruL_c (n := 58) (n2 := 59) rfl (ru_iald hx hb hK dX6_changesAt_58) ?_
  refine ruL_c (n := 59) (n2 := 60) rfl (ru_imul hx hb dX6_changesAt_59) ?_
  refine ruL_c (n := 60) (n2 := 61) rfl (ru_iload_n (k := 2) hx hb dX6_changesAt_60) ?_
  refine ruL_c (n := 61) (n2 := 62) rfl (ru_iadd hx hb dX6_changesAt_61) ?_
  refine ruL_c (n := 62) (n2 := 63) rfl (ru_iald hx hb hK dX6_changesAt_62) ?_
  refine ruL_c (n := 63) (n2 := 64) rfl (ru_istore_n (k := 3) hx hb dX6_changesAt_63) ?_
  refine ruL_c (n := 64) (n2 := 65) rfl (ru_iinc hx hb dX6_changesAt_64 rfl) ?_
  refine ruL_c (n := 65) (n2 := 66) rfl (ru_bot) ?_
  refine ruL_c (n := 66) (n2 := 67) rfl (ru_bot) ?_
  refine ruL_c (n := 67) (n2 := 68) rfl (ru_goto hx hb dX6_changesAt_67 (by decide)) ?_
  refine ruL_c (n := 68) (n2 := 69) rfl (ru_bot) ?_
  refine ruL_c (n := 69) (n2 := 70) rfl (ru_bot) ?_
  refine ruL_c (n := 70) (n2 := 71) rfl (ru_iload_n (k := 3) hx hb dX6_changesAt_70) ?_
  refine ruL_c (n := 71) (n2 := 72) rfl (ru_iret hx hb hK hr hlocks dX6_changesAt_71) ?_
  exact trivial

-- CueTourModel.changes
def f_X6_changes (p0 : Int32) (p1 : Int32) (σ : aM) : Option (Int32 × aM) := bnd (f_X6_isCue p0 σ) (fun r1 σ2 => if r1 = 0 then bnd (f_X6_isFine 1 σ2) (fun r5 σ6 => if ¬ r5 = 0 then bnd (f_X6_orders σ6) (fun r9 σ10 => bnd (f_X6_isPlayed p0 σ10) (fun r12 σ13 => if r12 = 0 then some ((-1), σ13) else bnd (f_X6_placeOf p0 σ13) (fun r16 σ17 => bnd (f_X6_changesAt r16 p1 σ17) (fun r19 σ20 => some (r19, σ20))))) else some (0, σ6)) else bnd (f_X6_isChannel p1 σ2) (fun r22 σ23 => if r22 = 0 then bnd (f_X6_isFine 1 σ23) (fun r26 σ27 => if ¬ r26 = 0 then bnd (f_X6_orders σ27) (fun r30 σ31 => bnd (f_X6_isPlayed p0 σ31) (fun r33 σ34 => if r33 = 0 then some ((-1), σ34) else bnd (f_X6_placeOf p0 σ34) (fun r37 σ38 => bnd (f_X6_changesAt r37 p1 σ38) (fun r40 σ41 => some (r40, σ41))))) else some (0, σ27)) else bnd (f_X6_isFine 0 σ23) (fun r43 σ44 => if ¬ r43 = 0 then bnd (f_X6_orders σ44) (fun r47 σ48 => bnd (f_X6_isPlayed p0 σ48) (fun r50 σ51 => if r50 = 0 then some ((-1), σ51) else bnd (f_X6_placeOf p0 σ51) (fun r54 σ55 => bnd (f_X6_changesAt r54 p1 σ55) (fun r57 σ58 => some (r57, σ58))))) else some (0, σ44))))
def F_X6_changes : aF := fun As σ => match As with
  | [.int p0, .int p1] => f_X6_changes p0 p1 σ
  | _ => none
def T_X6_changes (Qa : Int32 → aM → Prop) : List aI := [I_aload 0 1, I_aload 0 1, I_iload 1 1, I_callV 6 1 F_X6_isCue, I_bot, I_bot, I_if (fun x => x = 0) 20, I_bot, I_bot, I_iload 2 1, I_callS 1 F_X6_isChannel, I_bot, I_bot, I_if (fun x => x = 0) 20, I_bot, I_bot, I_const 0 1, I_goto 21, I_bot, I_bot, I_const 1 1, I_callV 6 1 F_X6_isFine, I_bot, I_bot, I_if (fun x => ¬ x = 0) 29, I_bot, I_bot, I_const 0 1, I_iret Qa, I_aload 0 1, I_callVv 6 0 F_X6_orders, I_bot, I_bot, I_aload 0 1, I_iload 1 1, I_callV 6 1 F_X6_isPlayed, I_bot, I_bot, I_if (fun x => x = 0) 54, I_bot, I_bot, I_aload 0 1, I_aload 0 1, I_iload 1 1, I_callV 6 1 F_X6_placeOf, I_bot, I_bot, I_iload 2 1, I_callV 6 2 F_X6_changesAt, I_bot, I_bot, I_goto 55, I_bot, I_bot, I_const (-1) 1, I_iret Qa]
set_option maxHeartbeats 4000000 in
set_option maxRecDepth 100000 in
theorem s_X6_changes : runs T_X6_changes [.ref 6] 3 F_X6_changes := by
  intro Qa K hw hf As σ r σ' h hQ
  unfold F_X6_changes at h
  split at h
  · rename_i p0 p1
    unfold f_X6_changes at h
    have hQ : Qa (r, σ').1 (r, σ').2 := hQ
    generalize (r, σ') = y at h hQ
    show K (0, [.ref 6, .int p0, .int p1], [], σ)
    obtain ⟨r1, σ2, e3, h⟩ := bnd_some h
    refine hw 4 _ ?_
    show ∃ r1 σ2, f_X6_isCue p0 σ = some (r1, σ2) ∧ K (6, [.ref 6, .int p0, .int p1], [.int r1, .ref 6], σ2)
    refine ⟨r1, σ2, e3, ?_⟩
    rcases ite_cases h with ⟨c4, h⟩ | ⟨c4, h⟩
    · refine hw 1 _ ?_
      show ((r1 = 0) → K (20, [.ref 6, .int p0, .int p1], [.ref 6], σ2)) ∧ (¬ (r1 = 0) → K (9, [.ref 6, .int p0, .int p1], [.ref 6], σ2))
      refine ⟨fun _ => ?_, fun q => absurd c4 q⟩
      obtain ⟨r5, σ6, e7, h⟩ := bnd_some h
      refine hw 2 _ ?_
      show ∃ r5 σ6, f_X6_isFine 1 σ2 = some (r5, σ6) ∧ K (24, [.ref 6, .int p0, .int p1], [.int r5], σ6)
      refine ⟨r5, σ6, e7, ?_⟩
      rcases ite_cases h with ⟨c8, h⟩ | ⟨c8, h⟩
      · refine hw 1 _ ?_
        show ((¬ r5 = 0) → K (29, [.ref 6, .int p0, .int p1], [], σ6)) ∧ (¬ (¬ r5 = 0) → K (27, [.ref 6, .int p0, .int p1], [], σ6))
        refine ⟨fun _ => ?_, fun q => absurd c8 q⟩
        obtain ⟨r9, σ10, e11, h⟩ := bnd_some h
        refine hw 2 _ ?_
        show ∃ r9 σ10, f_X6_orders σ6 = some (r9, σ10) ∧ K (33, [.ref 6, .int p0, .int p1], [], σ10)
        refine ⟨r9, σ10, e11, ?_⟩
        obtain ⟨r12, σ13, e14, h⟩ := bnd_some h
        refine hw 3 _ ?_
        show ∃ r12 σ13, f_X6_isPlayed p0 σ10 = some (r12, σ13) ∧ K (38, [.ref 6, .int p0, .int p1], [.int r12], σ13)
        refine ⟨r12, σ13, e14, ?_⟩
        rcases ite_cases h with ⟨c15, h⟩ | ⟨c15, h⟩
        · refine hw 1 _ ?_
          show ((r12 = 0) → K (54, [.ref 6, .int p0, .int p1], [], σ13)) ∧ (¬ (r12 = 0) → K (41, [.ref 6, .int p0, .int p1], [], σ13))
          refine ⟨fun _ => ?_, fun q => absurd c15 q⟩
          obtain rfl := Option.some.inj h
          refine hw 2 _ ?_
          show Qa ((-1)) σ13
          refine hQ
        · refine hw 1 _ ?_
          show ((r12 = 0) → K (54, [.ref 6, .int p0, .int p1], [], σ13)) ∧ (¬ (r12 = 0) → K (41, [.ref 6, .int p0, .int p1], [], σ13))
          refine ⟨fun q => absurd q c15, fun _ => ?_⟩
          obtain ⟨r16, σ17, e18, h⟩ := bnd_some h
          refine hw 4 _ ?_
          show ∃ r16 σ17, f_X6_placeOf p0 σ13 = some (r16, σ17) ∧ K (47, [.ref 6, .int p0, .int p1], [.int r16, .ref 6], σ17)
          refine ⟨r16, σ17, e18, ?_⟩
          obtain ⟨r19, σ20, e21, h⟩ := bnd_some h
          refine hw 2 _ ?_
          show ∃ r19 σ20, f_X6_changesAt r16 p1 σ17 = some (r19, σ20) ∧ K (51, [.ref 6, .int p0, .int p1], [.int r19], σ20)
          refine ⟨r19, σ20, e21, ?_⟩
          obtain rfl := Option.some.inj h
          refine hw 2 _ ?_
          show Qa r19 σ20
          refine hQ
      · refine hw 1 _ ?_
        show ((¬ r5 = 0) → K (29, [.ref 6, .int p0, .int p1], [], σ6)) ∧ (¬ (¬ r5 = 0) → K (27, [.ref 6, .int p0, .int p1], [], σ6))
        refine ⟨fun q => absurd q c8, fun _ => ?_⟩
        obtain rfl := Option.some.inj h
        refine hw 2 _ ?_
        show Qa 0 σ6
        refine hQ
    · refine hw 1 _ ?_
      show ((r1 = 0) → K (20, [.ref 6, .int p0, .int p1], [.ref 6], σ2)) ∧ (¬ (r1 = 0) → K (9, [.ref 6, .int p0, .int p1], [.ref 6], σ2))
      refine ⟨fun q => absurd q c4, fun _ => ?_⟩
      obtain ⟨r22, σ23, e24, h⟩ := bnd_some h
      refine hw 2 _ ?_
      show ∃ r22 σ23, f_X6_isChannel p1 σ2 = some (r22, σ23) ∧ K (13, [.ref 6, .int p0, .int p1], [.int r22, .ref 6], σ23)
      refine ⟨r22, σ23, e24, ?_⟩
      rcases ite_cases h with ⟨c25, h⟩ | ⟨c25, h⟩
      · refine hw 1 _ ?_
        show ((r22 = 0) → K (20, [.ref 6, .int p0, .int p1], [.ref 6], σ23)) ∧ (¬ (r22 = 0) → K (16, [.ref 6, .int p0, .int p1], [.ref 6], σ23))
        refine ⟨fun _ => ?_, fun q => absurd c25 q⟩
        obtain ⟨r26, σ27, e28, h⟩ := bnd_some h
        refine hw 2 _ ?_
        show ∃ r26 σ27, f_X6_isFine 1 σ23 = some (r26, σ27) ∧ K (24, [.ref 6, .int p0, .int p1], [.int r26], σ27)
        refine ⟨r26, σ27, e28, ?_⟩
        rcases ite_cases h with ⟨c29, h⟩ | ⟨c29, h⟩
        · refine hw 1 _ ?_
          show ((¬ r26 = 0) → K (29, [.ref 6, .int p0, .int p1], [], σ27)) ∧ (¬ (¬ r26 = 0) → K (27, [.ref 6, .int p0, .int p1], [], σ27))
          refine ⟨fun _ => ?_, fun q => absurd c29 q⟩
          obtain ⟨r30, σ31, e32, h⟩ := bnd_some h
          refine hw 2 _ ?_
          show ∃ r30 σ31, f_X6_orders σ27 = some (r30, σ31) ∧ K (33, [.ref 6, .int p0, .int p1], [], σ31)
          refine ⟨r30, σ31, e32, ?_⟩
          obtain ⟨r33, σ34, e35, h⟩ := bnd_some h
          refine hw 3 _ ?_
          show ∃ r33 σ34, f_X6_isPlayed p0 σ31 = some (r33, σ34) ∧ K (38, [.ref 6, .int p0, .int p1], [.int r33], σ34)
          refine ⟨r33, σ34, e35, ?_⟩
          rcases ite_cases h with ⟨c36, h⟩ | ⟨c36, h⟩
          · refine hw 1 _ ?_
            show ((r33 = 0) → K (54, [.ref 6, .int p0, .int p1], [], σ34)) ∧ (¬ (r33 = 0) → K (41, [.ref 6, .int p0, .int p1], [], σ34))
            refine ⟨fun _ => ?_, fun q => absurd c36 q⟩
            obtain rfl := Option.some.inj h
            refine hw 2 _ ?_
            show Qa ((-1)) σ34
            refine hQ
          · refine hw 1 _ ?_
            show ((r33 = 0) → K (54, [.ref 6, .int p0, .int p1], [], σ34)) ∧ (¬ (r33 = 0) → K (41, [.ref 6, .int p0, .int p1], [], σ34))
            refine ⟨fun q => absurd q c36, fun _ => ?_⟩
            obtain ⟨r37, σ38, e39, h⟩ := bnd_some h
            refine hw 4 _ ?_
            show ∃ r37 σ38, f_X6_placeOf p0 σ34 = some (r37, σ38) ∧ K (47, [.ref 6, .int p0, .int p1], [.int r37, .ref 6], σ38)
            refine ⟨r37, σ38, e39, ?_⟩
            obtain ⟨r40, σ41, e42, h⟩ := bnd_some h
            refine hw 2 _ ?_
            show ∃ r40 σ41, f_X6_changesAt r37 p1 σ38 = some (r40, σ41) ∧ K (51, [.ref 6, .int p0, .int p1], [.int r40], σ41)
            refine ⟨r40, σ41, e42, ?_⟩
            obtain rfl := Option.some.inj h
            refine hw 2 _ ?_
            show Qa r40 σ41
            refine hQ
        · refine hw 1 _ ?_
          show ((¬ r26 = 0) → K (29, [.ref 6, .int p0, .int p1], [], σ27)) ∧ (¬ (¬ r26 = 0) → K (27, [.ref 6, .int p0, .int p1], [], σ27))
          refine ⟨fun q => absurd q c29, fun _ => ?_⟩
          obtain rfl := Option.some.inj h
          refine hw 2 _ ?_
          show Qa 0 σ27
          refine hQ
      · refine hw 1 _ ?_
        show ((r22 = 0) → K (20, [.ref 6, .int p0, .int p1], [.ref 6], σ23)) ∧ (¬ (r22 = 0) → K (16, [.ref 6, .int p0, .int p1], [.ref 6], σ23))
        refine ⟨fun q => absurd q c25, fun _ => ?_⟩
        obtain ⟨r43, σ44, e45, h⟩ := bnd_some h
        refine hw 3 _ ?_
        show ∃ r43 σ44, f_X6_isFine 0 σ23 = some (r43, σ44) ∧ K (24, [.ref 6, .int p0, .int p1], [.int r43], σ44)
        refine ⟨r43, σ44, e45, ?_⟩
        rcases ite_cases h with ⟨c46, h⟩ | ⟨c46, h⟩
        · refine hw 1 _ ?_
          show ((¬ r43 = 0) → K (29, [.ref 6, .int p0, .int p1], [], σ44)) ∧ (¬ (¬ r43 = 0) → K (27, [.ref 6, .int p0, .int p1], [], σ44))
          refine ⟨fun _ => ?_, fun q => absurd c46 q⟩
          obtain ⟨r47, σ48, e49, h⟩ := bnd_some h
          refine hw 2 _ ?_
          show ∃ r47 σ48, f_X6_orders σ44 = some (r47, σ48) ∧ K (33, [.ref 6, .int p0, .int p1], [], σ48)
          refine ⟨r47, σ48, e49, ?_⟩
          obtain ⟨r50, σ51, e52, h⟩ := bnd_some h
          refine hw 3 _ ?_
          show ∃ r50 σ51, f_X6_isPlayed p0 σ48 = some (r50, σ51) ∧ K (38, [.ref 6, .int p0, .int p1], [.int r50], σ51)
          refine ⟨r50, σ51, e52, ?_⟩
          rcases ite_cases h with ⟨c53, h⟩ | ⟨c53, h⟩
          · refine hw 1 _ ?_
            show ((r50 = 0) → K (54, [.ref 6, .int p0, .int p1], [], σ51)) ∧ (¬ (r50 = 0) → K (41, [.ref 6, .int p0, .int p1], [], σ51))
            refine ⟨fun _ => ?_, fun q => absurd c53 q⟩
            obtain rfl := Option.some.inj h
            refine hw 2 _ ?_
            show Qa ((-1)) σ51
            refine hQ
          · refine hw 1 _ ?_
            show ((r50 = 0) → K (54, [.ref 6, .int p0, .int p1], [], σ51)) ∧ (¬ (r50 = 0) → K (41, [.ref 6, .int p0, .int p1], [], σ51))
            refine ⟨fun q => absurd q c53, fun _ => ?_⟩
            obtain ⟨r54, σ55, e56, h⟩ := bnd_some h
            refine hw 4 _ ?_
            show ∃ r54 σ55, f_X6_placeOf p0 σ51 = some (r54, σ55) ∧ K (47, [.ref 6, .int p0, .int p1], [.int r54, .ref 6], σ55)
            refine ⟨r54, σ55, e56, ?_⟩
            obtain ⟨r57, σ58, e59, h⟩ := bnd_some h
            refine hw 2 _ ?_
            show ∃ r57 σ58, f_X6_changesAt r54 p1 σ55 = some (r57, σ58) ∧ K (51, [.ref 6, .int p0, .int p1], [.int r57], σ58)
            refine ⟨r57, σ58, e59, ?_⟩
            obtain rfl := Option.some.inj h
            refine hw 2 _ ?_
            show Qa r57 σ58
            refine hQ
        · refine hw 1 _ ?_
          show ((¬ r43 = 0) → K (29, [.ref 6, .int p0, .int p1], [], σ44)) ∧ (¬ (¬ r43 = 0) → K (27, [.ref 6, .int p0, .int p1], [], σ44))
          refine ⟨fun q => absurd q c46, fun _ => ?_⟩
          obtain rfl := Option.some.inj h
          refine hw 2 _ ?_
          show Qa 0 σ44
          refine hQ
  · cases h
theorem h_X6_changes : shp [.ref 6] 3 F_X6_changes := by
  intro As σ r σ' h
  unfold F_X6_changes at h
  split at h
  · exact ⟨by simp [Value.category], Nat.le_of_ble_eq_true rfl⟩
  · cases h
set_option maxHeartbeats 4000000 in
set_option maxRecDepth 100000 in
theorem c_X6_changes (l : Launch) (D : va_G) (cI cZ cA cL : ClassId) (ad : Nat → Nat) (hi : adI ad) : CtI l yX6_changes wsX6_changes { frames := 2, cells := 0, slots := 0, locals := 45 } D cI cZ cA cL ad [.ref 6] F_X6_changes := by
  refine mk_I [.ref 6] F_X6_changes T_X6_changes (by decide +kernel) rfl ?_ h_X6_changes s_X6_changes
  intro p e s m args below meth c Qa ⟨hx, hb, hml, hown, hts, hr, hlocks, hK, hN⟩
  refine ruL_c (n := 0) (n2 := 1) rfl (ru_aload_n (k := 0) hx hb dX6_changes_0) ?_
  refine ruL_c (n := 1) (n2 := 2) rfl (ru_aload_n (k := 0) hx hb dX6_changes_1) ?_
  refine ruL_c (n := 2) (n2 := 3) rfl (ru_iload_n (k := 1) hx hb dX6_changes_2) ?_
  refine ruL_c (n := 3) (n2 := 4) rfl (ru_callV hx hb hml hown hts hK hN (by decide) rfl (c_X6_isCue l D cI cZ cA cL ad hi) (cwV 1 hts gX6_changes_X6_isCue rfl rfl rfl (by decide +kernel) ⟨Nat.le_of_ble_eq_true rfl, Nat.le_of_ble_eq_true rfl⟩) dX6_changes_3 ⟨Nat.zero_le _, Nat.zero_le _⟩) ?_
  refine ruL_c (n := 4) (n2 := 5) rfl (ru_bot) ?_
  refine ruL_c (n := 5) (n2 := 6) rfl (ru_bot) ?_
  refine ruL_c (n := 6) (n2 := 7) rfl (ru_ifeq hx hb dX6_changes_6 (by decide)) ?_
  refine ruL_c (n := 7) (n2 := 8) rfl (ru_bot) ?_
  refine ruL_c (n := 8) (n2 := 9) rfl (ru_bot) ?_
  refine ruL_c (n := 9) (n2 := 10) rfl (ru_iload_n (k := 2) hx hb dX6_changes_9) ?_
  refine ruL_c (n := 10) (n2 := 11) rfl (ru_callS hx hb hml hown hts hK hN (c_X6_isChannel l D cI cZ cA cL ad hi) (va_cwS 1 hts gX6_changes_X6_isChannel rfl rfl rfl (by decide +kernel) ⟨Nat.le_of_ble_eq_true rfl, Nat.le_of_ble_eq_true rfl⟩) dX6_changes_10 ⟨Nat.zero_le _, Nat.zero_le _⟩) ?_
  refine ruL_c (n := 11) (n2 := 12) rfl (ru_bot) ?_
  refine ruL_c (n := 12) (n2 := 13) rfl (ru_bot) ?_
  refine ruL_c (n := 13) (n2 := 14) rfl (ru_ifeq hx hb dX6_changes_13 (by decide)) ?_
  refine ruL_c (n := 14) (n2 := 15) rfl (ru_bot) ?_
  refine ruL_c (n := 15) (n2 := 16) rfl (ru_bot) ?_
  refine ruL_c (n := 16) (n2 := 17) rfl (ru_iconst hx hb dX6_changes_16 rfl) ?_
  refine ruL_c (n := 17) (n2 := 18) rfl (ru_goto hx hb dX6_changes_17 (by decide)) ?_
  refine ruL_c (n := 18) (n2 := 19) rfl (ru_bot) ?_
  refine ruL_c (n := 19) (n2 := 20) rfl (ru_bot) ?_
  refine ruL_c (n := 20) (n2 := 21) rfl (ru_iconst hx hb dX6_changes_20 rfl) ?_
  refine ruL_c (n := 21) (n2 := 22) rfl (ru_callV hx hb hml hown hts hK hN (by decide) rfl (c_X6_isFine l D cI cZ cA cL ad hi) (cwV 1 hts gX6_changes_X6_isFine rfl rfl rfl (by decide +kernel) ⟨Nat.le_of_ble_eq_true rfl, Nat.le_of_ble_eq_true rfl⟩) dX6_changes_21 ⟨Nat.zero_le _, Nat.zero_le _⟩) ?_
  refine ruL_c (n := 22) (n2 := 23) rfl (ru_bot) ?_
  refine ruL_c (n := 23) (n2 := 24) rfl (ru_bot) ?_
  refine ruL_c (n := 24) (n2 := 25) rfl (ru_ifne hx hb dX6_changes_24 (by decide)) ?_
  refine ruL_c (n := 25) (n2 := 26) rfl (ru_bot) ?_
  refine ruL_c (n := 26) (n2 := 27) rfl (ru_bot) ?_
  refine ruL_c (n := 27) (n2 := 28) rfl (ru_iconst hx hb dX6_changes_27 rfl) ?_
  refine ruL_c (n := 28) (n2 := 29) rfl (ru_iret hx hb hK hr hlocks dX6_changes_28) ?_
  refine ruL_c (n := 29) (n2 := 30) rfl (ru_aload_n (k := 0) hx hb dX6_changes_29) ?_
  refine ruL_c (n := 30) (n2 := 31) rfl (ru_callVv hx hb hml hown hts hK hN (by decide) rfl (c_X6_orders l D cI cZ cA cL ad hi) (cwV 0 hts gX6_changes_X6_orders rfl rfl rfl (by decide +kernel) ⟨Nat.le_of_ble_eq_true rfl, Nat.le_of_ble_eq_true rfl⟩) dX6_changes_30 ⟨Nat.zero_le _, Nat.zero_le _⟩) ?_
  refine ruL_c (n := 31) (n2 := 32) rfl (ru_bot) ?_
  refine ruL_c (n := 32) (n2 := 33) rfl (ru_bot) ?_
  refine ruL_c (n := 33) (n2 := 34) rfl (ru_aload_n (k := 0) hx hb dX6_changes_33) ?_
  refine ruL_c (n := 34) (n2 := 35) rfl (ru_iload_n (k := 1) hx hb dX6_changes_34) ?_
  refine ruL_c (n := 35) (n2 := 36) rfl (ru_callV hx hb hml hown hts hK hN (by decide) rfl (c_X6_isPlayed l D cI cZ cA cL ad hi) (cwV 1 hts gX6_changes_X6_isPlayed rfl rfl rfl (by decide +kernel) ⟨Nat.le_of_ble_eq_true rfl, Nat.le_of_ble_eq_true rfl⟩) dX6_changes_35 ⟨Nat.zero_le _, Nat.zero_le _⟩) ?_
  refine ruL_c (n := 36) (n2 := 37) rfl (ru_bot) ?_
  refine ruL_c (n := 37) (n2 := 38) rfl (ru_bot) ?_
  refine ruL_c (n := 38) (n2 := 39) rfl (ru_ifeq hx hb dX6_changes_38 (by decide)) ?_
  refine ruL_c (n := 39) (n2 := 40) rfl (ru_bot) ?_
  refine ruL_c (n := 40) (n2 := 41) rfl (ru_bot) ?_
  refine ruL_c (n := 41) (n2 := 42) rfl (ru_aload_n (k := 0) hx hb dX6_changes_41) ?_
  refine ruL_c (n := 42) (n2 := 43) rfl (ru_aload_n (k := 0) hx hb dX6_changes_42) ?_
  refine ruL_c (n := 43) (n2 := 44) rfl (ru_iload_n (k := 1) hx hb dX6_changes_43) ?_
  refine ruL_c (n := 44) (n2 := 45) rfl (ru_callV hx hb hml hown hts hK hN (by decide) rfl (c_X6_placeOf l D cI cZ cA cL ad hi) (cwV 1 hts gX6_changes_X6_placeOf rfl rfl rfl (by decide +kernel) ⟨Nat.le_of_ble_eq_true rfl, Nat.le_of_ble_eq_true rfl⟩) dX6_changes_44 ⟨Nat.zero_le _, Nat.zero_le _⟩) ?_
  refine ruL_c (n := 45) (n2 := 46) rfl (ru_bot) ?_
  refine ruL_c (n := 46) (n2 := 47) rfl (ru_bot) ?_
  refine ruL_c (n := 47) (n2 := 48) rfl (ru_iload_n (k := 2) hx hb dX6_changes_47) ?_
  refine ruL_c (n := 48) (n2 := 49) rfl (ru_callV hx hb hml hown hts hK hN (by decide) rfl (c_X6_changesAt l D cI cZ cA cL ad hi) (cwV 2 hts gX6_changes_X6_changesAt rfl rfl rfl (by decide +kernel) ⟨Nat.le_of_ble_eq_true rfl, Nat.le_of_ble_eq_true rfl⟩) dX6_changes_48 ⟨Nat.zero_le _, Nat.zero_le _⟩) ?_
  refine ruL_c (n := 49) (n2 := 50) rfl (ru_bot) ?_
  refine ruL_c (n := 50) (n2 := 51) rfl (ru_bot) ?_
  refine ruL_c (n := 51) (n2 := 52) rfl (ru_goto hx hb dX6_changes_51 (by decide)) ?_
  refine ruL_c (n := 52) (n2 := 53) rfl (ru_bot) ?_
  refine ruL_c (n := 53) (n2 := 54) rfl (ru_bot) ?_
  refine ruL_c (n := 54) (n2 := 55) rfl (ru_iconst hx hb dX6_changes_54 rfl) ?_
  refine ruL_c (n := 55) (n2 := 56) rfl (ru_iret hx hb hK hr hlocks dX6_changes_55) ?_
  exact trivial

-- CueTourModel.behind
def f_X6_behind (p0 : Int32) (p1 : Int32) (p2 : Int32) (p3 : Int32) (σ : aM) : Option (Int32 × aM) := if p2 < p3 then if ¬ p3 = 0 then some (p0 + (((p1 - p0) * p2) / p3), σ) else none else some (p1, σ)
def F_X6_behind : aF := fun As σ => match As with
  | [.int p0, .int p1, .int p2, .int p3] => f_X6_behind p0 p1 p2 p3 σ
  | _ => none
def T_X6_behind (Qa : Int32 → aM → Prop) : List aI := [I_iload 2 1, I_iload 3 1, I_icmp (fun x y => x < y) 9, I_bot, I_bot, I_iload 1 1, I_goto 18, I_bot, I_bot, I_iload 0 1, I_iload 1 1, I_iload 0 1, I_bin fun x y => x - y, I_iload 2 1, I_bin fun x y => x * y, I_iload 3 1, I_div fun x y => x / y, I_bin fun x y => x + y, I_iret Qa]
set_option maxHeartbeats 4000000 in
set_option maxRecDepth 100000 in
theorem s_X6_behind : runs T_X6_behind [] 4 F_X6_behind := by
  intro Qa K hw hf As σ r σ' h hQ
  unfold F_X6_behind at h
  split at h
  · rename_i p0 p1 p2 p3
    unfold f_X6_behind at h
    have hQ : Qa (r, σ').1 (r, σ').2 := hQ
    generalize (r, σ') = y at h hQ
    show K (0, [.int p0, .int p1, .int p2, .int p3], [], σ)
    rcases ite_cases h with ⟨c1, h⟩ | ⟨c1, h⟩
    · refine hw 3 _ ?_
      show ((p2 < p3) → K (9, [.int p0, .int p1, .int p2, .int p3], [], σ)) ∧ (¬ (p2 < p3) → K (5, [.int p0, .int p1, .int p2, .int p3], [], σ))
      refine ⟨fun _ => ?_, fun q => absurd c1 q⟩
      obtain ⟨g2, h⟩ := ite_some h
      obtain rfl := Option.some.inj h
      refine hw 10 _ ?_
      show ¬ p3 = 0 ∧ (Qa (p0 + (((p1 - p0) * p2) / p3)) σ)
      refine ⟨g2, hQ⟩
    · refine hw 3 _ ?_
      show ((p2 < p3) → K (9, [.int p0, .int p1, .int p2, .int p3], [], σ)) ∧ (¬ (p2 < p3) → K (5, [.int p0, .int p1, .int p2, .int p3], [], σ))
      refine ⟨fun q => absurd q c1, fun _ => ?_⟩
      obtain rfl := Option.some.inj h
      refine hw 3 _ ?_
      show Qa p1 σ
      refine hQ
  · cases h
theorem h_X6_behind : shp [] 4 F_X6_behind := by
  intro As σ r σ' h
  unfold F_X6_behind at h
  split at h
  · exact ⟨by simp [Value.category], Nat.le_of_ble_eq_true rfl⟩
  · cases h
set_option maxHeartbeats 4000000 in
set_option maxRecDepth 100000 in
theorem c_X6_behind (l : Launch) (D : va_G) (cI cZ cA cL : ClassId) (ad : Nat → Nat) (hi : adI ad) : CtI l yX6_behind wsX6_behind { frames := 0, cells := 0, slots := 0, locals := 0 } D cI cZ cA cL ad [] F_X6_behind := by
  refine mk_I [] F_X6_behind T_X6_behind (by decide +kernel) rfl ?_ h_X6_behind s_X6_behind
  intro p e s m args below meth c Qa ⟨hx, hb, hml, hown, hts, hr, hlocks, hK, hN⟩
  refine ruL_c (n := 0) (n2 := 1) rfl (ru_iload_n (k := 2) hx hb dX6_behind_0) ?_
  refine ruL_c (n := 1) (n2 := 2) rfl (ru_iload_n (k := 3) hx hb dX6_behind_1) ?_
  refine ruL_c (n := 2) (n2 := 3) rfl (ru_icmplt hx hb dX6_behind_2 (by decide)) ?_
  refine ruL_c (n := 3) (n2 := 4) rfl (ru_bot) ?_
  refine ruL_c (n := 4) (n2 := 5) rfl (ru_bot) ?_
  refine ruL_c (n := 5) (n2 := 6) rfl (ru_iload_n (k := 1) hx hb dX6_behind_5) ?_
  refine ruL_c (n := 6) (n2 := 7) rfl (ru_goto hx hb dX6_behind_6 (by decide)) ?_
  refine ruL_c (n := 7) (n2 := 8) rfl (ru_bot) ?_
  refine ruL_c (n := 8) (n2 := 9) rfl (ru_bot) ?_
  refine ruL_c (n := 9) (n2 := 10) rfl (ru_iload_n (k := 0) hx hb dX6_behind_9) ?_
  refine ruL_c (n := 10) (n2 := 11) rfl (ru_iload_n (k := 1) hx hb dX6_behind_10) ?_
  refine ruL_c (n := 11) (n2 := 12) rfl (ru_iload_n (k := 0) hx hb dX6_behind_11) ?_
  refine ruL_c (n := 12) (n2 := 13) rfl (ru_isub hx hb dX6_behind_12) ?_
  refine ruL_c (n := 13) (n2 := 14) rfl (ru_iload_n (k := 2) hx hb dX6_behind_13) ?_
  refine ruL_c (n := 14) (n2 := 15) rfl (ru_imul hx hb dX6_behind_14) ?_
  refine ruL_c (n := 15) (n2 := 16) rfl (ru_iload_n (k := 3) hx hb dX6_behind_15) ?_
  refine ruL_c (n := 16) (n2 := 17) rfl (ru_idiv hx hb dX6_behind_16) ?_
  refine ruL_c (n := 17) (n2 := 18) rfl (ru_iadd hx hb dX6_behind_17) ?_
  refine ruL_c (n := 18) (n2 := 19) rfl (ru_iret hx hb hK hr hlocks dX6_behind_18) ?_
  exact trivial

-- CueTourModel.level
def l_X6_level_14 (x1 : Int32) (x2 : Int32) : Nat → Int32 → Int32 → Int32 → Int32 → Int32 → aM → (Int32 → Int32 → Int32 → Int32 → Int32 → aM → Option (Int32 × aM)) → Option (Int32 × aM)
  | 0, _, _, _, _, _, _, _ => none
  | n + 1, v3, v4, v5, v6, v7, σ8, k => if (σ8 6 25) ≤ v7 then k v3 v4 v5 v6 v7 σ8 else if inb v7 20 = true then if inb (σ8 48 (ix v7)) 20 = true then bnd (f_X6_when (σ8 47 (ix (σ8 48 (ix v7)))) σ8) (fun r12 σ13 => if x2 < r12 then l_X6_level_14 x1 x2 n v3 v4 v5 v6 (v7 + 1) σ13 k else if inb v7 20 = true then bnd (f_X6_changesAt (σ13 48 (ix v7)) x1 σ13) (fun r17 σ18 => if r17 = ((-1)) then l_X6_level_14 x1 x2 n v3 v4 v5 v6 (v7 + 1) σ18 k else bnd (f_X6_behind v3 v4 (r12 - v5) v6 σ18) (fun r21 σ22 => if inb (σ8 47 (ix (σ8 48 (ix v7)))) 20 = true then l_X6_level_14 x1 x2 n r21 r17 r12 (σ22 36 (ix (σ8 47 (ix (σ8 48 (ix v7)))))) (v7 + 1) σ22 k else none)) else none) else none else none
def f_X6_level (p0 : Int32) (p1 : Int32) (σ : aM) : Option (Int32 × aM) := l_X6_level_14 p0 p1 lf 0 0 0 0 0 σ (fun v25 v26 v27 v28 v29 σ30 => bnd (f_X6_behind v25 v26 (p1 - v27) v28 σ30) (fun r31 σ32 => some (r31, σ32)))
def F_X6_level : aF := fun As σ => match As with
  | [.int p0, .int p1] => f_X6_level p0 p1 σ
  | _ => none
def T_X6_level (Qa : Int32 → aM → Prop) : List aI := [I_const 0 1, I_istore 3 1, I_const 0 1, I_istore 4 2, I_bot, I_const 0 1, I_istore 5 2, I_bot, I_const 0 1, I_istore 6 2, I_bot, I_const 0 1, I_istore 7 2, I_bot, I_iload 7 2, I_bot, I_aload 0 1, I_getI 6 25, I_bot, I_bot, I_icmp (fun x y => y ≤ x) 112, I_bot, I_bot, I_aload 0 1, I_getR 6 47, I_bot, I_bot, I_aload 0 1, I_getR 6 48, I_bot, I_bot, I_iload 7 2, I_bot, I_iald, I_iald, I_istore 8 2, I_bot, I_aload 0 1, I_iload 8 2, I_bot, I_callV 6 1 F_X6_when, I_bot, I_bot, I_istore 9 2, I_bot, I_iload 9 2, I_bot, I_iload 2 1, I_icmp (fun x y => y < x) 66, I_bot, I_bot, I_aload 0 1, I_aload 0 1, I_getR 6 48, I_bot, I_bot, I_iload 7 2, I_bot, I_iald, I_iload 1 1, I_callV 6 2 F_X6_changesAt, I_bot, I_bot, I_goto 67, I_bot, I_bot, I_const (-1) 1, I_istore 10 2, I_bot, I_iload 10 2, I_bot, I_const (-1) 1, I_icmp (fun x y => x = y) 106, I_bot, I_bot, I_iload 3 1, I_iload 4 2, I_bot, I_iload 9 2, I_bot, I_iload 5 2, I_bot, I_bin fun x y => x - y, I_iload 6 2, I_bot, I_callS 4 F_X6_behind, I_bot, I_bot, I_istore 3 1, I_iload 10 2, I_bot, I_istore 4 2, I_bot, I_iload 9 2, I_bot, I_istore 5 2, I_bot, I_aload 0 1, I_getR 6 36, I_bot, I_bot, I_iload 8 2, I_bot, I_iald, I_istore 6 2, I_bot, I_iinc 7 (1), I_bot, I_bot, I_goto 14, I_bot, I_bot, I_iload 3 1, I_iload 4 2, I_bot, I_iload 2 1, I_iload 5 2, I_bot, I_bin fun x y => x - y, I_iload 6 2, I_bot, I_callS 4 F_X6_behind, I_bot, I_bot, I_iret Qa]
set_option maxHeartbeats 4000000 in
set_option maxRecDepth 100000 in
theorem t_X6_level_14 {Qa : Int32 → aM → Prop} {K : aS → Prop} (hw : ∀ k x, wp (T_X6_level Qa) k K x → K x) (hf : ∀ pc L i st σ, K (pc, L.set i .null, st, σ) → K (pc, L, st, σ)) (x1 : Int32) (x2 : Int32) (y : Int32 × aM) (k : Int32 → Int32 → Int32 → Int32 → Int32 → aM → Option (Int32 × aM)) :
    ∀ (n : Nat) (v3 : Int32) (v4 : Int32) (v5 : Int32) (v6 : Int32) (v7 : Int32) (σ8 : aM), l_X6_level_14 x1 x2 n v3 v4 v5 v6 v7 σ8 k = some y → (∀ (w0 : Int32) (w1 : Int32) (w2 : Int32) (w3 : Int32) (w4 : Int32) (τ : aM), k w0 w1 w2 w3 w4 τ = some y → K (112, [.ref 6, .int x1, .int x2, .int w0, .int w1, .int w2, .int w3, .int w4, .null, .null, .null], [], τ)) → K (14, [.ref 6, .int x1, .int x2, .int v3, .int v4, .int v5, .int v6, .int v7, .null, .null, .null], [], σ8) := by
  intro n
  induction n with
  | zero =>
    intro v3 v4 v5 v6 v7 σ8 h hk
    exact absurd h (by simp [l_X6_level_14])
  | succ n ih =>
    intro v3 v4 v5 v6 v7 σ8 h hk
    unfold l_X6_level_14 at h
    rcases ite_cases h with ⟨c9, h⟩ | ⟨c9, h⟩
    · refine hw 4 _ ?_
      show (((σ8 6 25) ≤ v7) → K (112, [.ref 6, .int x1, .int x2, .int v3, .int v4, .int v5, .int v6, .int v7, .null, .null, .null], [], σ8)) ∧ (¬ ((σ8 6 25) ≤ v7) → K (23, [.ref 6, .int x1, .int x2, .int v3, .int v4, .int v5, .int v6, .int v7, .null, .null, .null], [], σ8))
      refine ⟨fun _ => ?_, fun q => absurd c9 q⟩
      exact hk v3 v4 v5 v6 v7 σ8 h
    · refine hw 4 _ ?_
      show (((σ8 6 25) ≤ v7) → K (112, [.ref 6, .int x1, .int x2, .int v3, .int v4, .int v5, .int v6, .int v7, .null, .null, .null], [], σ8)) ∧ (¬ ((σ8 6 25) ≤ v7) → K (23, [.ref 6, .int x1, .int x2, .int v3, .int v4, .int v5, .int v6, .int v7, .null, .null, .null], [], σ8))
      refine ⟨fun q => absurd q c9, fun _ => ?_⟩
      obtain ⟨g10, h⟩ := ite_some h
      obtain ⟨g11, h⟩ := ite_some h
      obtain ⟨r12, σ13, e14, h⟩ := bnd_some h
      refine hw 11 _ ?_
      show kd 48 = 1 ∧ (inb v7 20 = true ∧ (kd 47 = 1 ∧ (inb (σ8 48 (ix v7)) 20 = true ∧ (∃ r12 σ13, f_X6_when (σ8 47 (ix (σ8 48 (ix v7)))) σ8 = some (r12, σ13) ∧ K (43, [.ref 6, .int x1, .int x2, .int v3, .int v4, .int v5, .int v6, .int v7, .int (σ8 47 (ix (σ8 48 (ix v7)))), .null, .null], [.int r12], σ13)))))
      refine ⟨rfl, g10, rfl, g11, ⟨r12, σ13, e14, ?_⟩⟩
      rcases ite_cases h with ⟨c15, h⟩ | ⟨c15, h⟩
      · refine hw 4 _ ?_
        show ((x2 < r12) → K (66, [.ref 6, .int x1, .int x2, .int v3, .int v4, .int v5, .int v6, .int v7, .int (σ8 47 (ix (σ8 48 (ix v7)))), .int r12, .null], [], σ13)) ∧ (¬ (x2 < r12) → K (51, [.ref 6, .int x1, .int x2, .int v3, .int v4, .int v5, .int v6, .int v7, .int (σ8 47 (ix (σ8 48 (ix v7)))), .int r12, .null], [], σ13))
        refine ⟨fun _ => ?_, fun q => absurd c15 q⟩
        refine hw 5 _ ?_
        show (((-1 : Int32) = (-1 : Int32)) → K (106, [.ref 6, .int x1, .int x2, .int v3, .int v4, .int v5, .int v6, .int v7, .int (σ8 47 (ix (σ8 48 (ix v7)))), .int r12, .int ((-1))], [], σ13)) ∧ (¬ ((-1 : Int32) = (-1 : Int32)) → K (75, [.ref 6, .int x1, .int x2, .int v3, .int v4, .int v5, .int v6, .int v7, .int (σ8 47 (ix (σ8 48 (ix v7)))), .int r12, .int ((-1))], [], σ13))
        refine ⟨fun _ => ?_, fun q => absurd (by decide) q⟩
        refine hw 2 _ ?_
        show K (14, [.ref 6, .int x1, .int x2, .int v3, .int v4, .int v5, .int v6, .int (v7 + 1), .int (σ8 47 (ix (σ8 48 (ix v7)))), .int r12, .int ((-1))], [], σ13)
        refine hf _ _ 8 _ _ ?_
        show K (14, [.ref 6, .int x1, .int x2, .int v3, .int v4, .int v5, .int v6, .int (v7 + 1), .null, .int r12, .int ((-1))], [], σ13)
        refine hf _ _ 9 _ _ ?_
        show K (14, [.ref 6, .int x1, .int x2, .int v3, .int v4, .int v5, .int v6, .int (v7 + 1), .null, .null, .int ((-1))], [], σ13)
        refine hf _ _ 10 _ _ ?_
        show K (14, [.ref 6, .int x1, .int x2, .int v3, .int v4, .int v5, .int v6, .int (v7 + 1), .null, .null, .null], [], σ13)
        exact ih v3 v4 v5 v6 (v7 + 1) σ13 h hk
      · refine hw 4 _ ?_
        show ((x2 < r12) → K (66, [.ref 6, .int x1, .int x2, .int v3, .int v4, .int v5, .int v6, .int v7, .int (σ8 47 (ix (σ8 48 (ix v7)))), .int r12, .null], [], σ13)) ∧ (¬ (x2 < r12) → K (51, [.ref 6, .int x1, .int x2, .int v3, .int v4, .int v5, .int v6, .int v7, .int (σ8 47 (ix (σ8 48 (ix v7)))), .int r12, .null], [], σ13))
        refine ⟨fun q => absurd q c15, fun _ => ?_⟩
        obtain ⟨g16, h⟩ := ite_some h
        obtain ⟨r17, σ18, e19, h⟩ := bnd_some h
        refine hw 7 _ ?_
        show kd 48 = 1 ∧ (inb v7 20 = true ∧ (∃ r17 σ18, f_X6_changesAt (σ13 48 (ix v7)) x1 σ13 = some (r17, σ18) ∧ K (63, [.ref 6, .int x1, .int x2, .int v3, .int v4, .int v5, .int v6, .int v7, .int (σ8 47 (ix (σ8 48 (ix v7)))), .int r12, .null], [.int r17], σ18)))
        refine ⟨rfl, g16, ⟨r17, σ18, e19, ?_⟩⟩
        rcases ite_cases h with ⟨c20, h⟩ | ⟨c20, h⟩
        · refine hw 5 _ ?_
          show ((r17 = ((-1))) → K (106, [.ref 6, .int x1, .int x2, .int v3, .int v4, .int v5, .int v6, .int v7, .int (σ8 47 (ix (σ8 48 (ix v7)))), .int r12, .int r17], [], σ18)) ∧ (¬ (r17 = ((-1))) → K (75, [.ref 6, .int x1, .int x2, .int v3, .int v4, .int v5, .int v6, .int v7, .int (σ8 47 (ix (σ8 48 (ix v7)))), .int r12, .int r17], [], σ18))
          refine ⟨fun _ => ?_, fun q => absurd c20 q⟩
          refine hw 2 _ ?_
          show K (14, [.ref 6, .int x1, .int x2, .int v3, .int v4, .int v5, .int v6, .int (v7 + 1), .int (σ8 47 (ix (σ8 48 (ix v7)))), .int r12, .int r17], [], σ18)
          refine hf _ _ 8 _ _ ?_
          show K (14, [.ref 6, .int x1, .int x2, .int v3, .int v4, .int v5, .int v6, .int (v7 + 1), .null, .int r12, .int r17], [], σ18)
          refine hf _ _ 9 _ _ ?_
          show K (14, [.ref 6, .int x1, .int x2, .int v3, .int v4, .int v5, .int v6, .int (v7 + 1), .null, .null, .int r17], [], σ18)
          refine hf _ _ 10 _ _ ?_
          show K (14, [.ref 6, .int x1, .int x2, .int v3, .int v4, .int v5, .int v6, .int (v7 + 1), .null, .null, .null], [], σ18)
          exact ih v3 v4 v5 v6 (v7 + 1) σ18 h hk
        · refine hw 5 _ ?_
          show ((r17 = ((-1))) → K (106, [.ref 6, .int x1, .int x2, .int v3, .int v4, .int v5, .int v6, .int v7, .int (σ8 47 (ix (σ8 48 (ix v7)))), .int r12, .int r17], [], σ18)) ∧ (¬ (r17 = ((-1))) → K (75, [.ref 6, .int x1, .int x2, .int v3, .int v4, .int v5, .int v6, .int v7, .int (σ8 47 (ix (σ8 48 (ix v7)))), .int r12, .int r17], [], σ18))
          refine ⟨fun q => absurd q c20, fun _ => ?_⟩
          obtain ⟨r21, σ22, e23, h⟩ := bnd_some h
          refine hw 7 _ ?_
          show ∃ r21 σ22, f_X6_behind v3 v4 (r12 - v5) v6 σ18 = some (r21, σ22) ∧ K (88, [.ref 6, .int x1, .int x2, .int v3, .int v4, .int v5, .int v6, .int v7, .int (σ8 47 (ix (σ8 48 (ix v7)))), .int r12, .int r17], [.int r21], σ22)
          refine ⟨r21, σ22, e23, ?_⟩
          obtain ⟨g24, h⟩ := ite_some h
          refine hw 12 _ ?_
          show kd 36 = 1 ∧ (inb (σ8 47 (ix (σ8 48 (ix v7)))) 20 = true ∧ (K (14, [.ref 6, .int x1, .int x2, .int r21, .int r17, .int r12, .int (σ22 36 (ix (σ8 47 (ix (σ8 48 (ix v7)))))), .int (v7 + 1), .int (σ8 47 (ix (σ8 48 (ix v7)))), .int r12, .int r17], [], σ22)))
          refine ⟨rfl, g24, ?_⟩
          refine hf _ _ 8 _ _ ?_
          show K (14, [.ref 6, .int x1, .int x2, .int r21, .int r17, .int r12, .int (σ22 36 (ix (σ8 47 (ix (σ8 48 (ix v7)))))), .int (v7 + 1), .null, .int r12, .int r17], [], σ22)
          refine hf _ _ 9 _ _ ?_
          show K (14, [.ref 6, .int x1, .int x2, .int r21, .int r17, .int r12, .int (σ22 36 (ix (σ8 47 (ix (σ8 48 (ix v7)))))), .int (v7 + 1), .null, .null, .int r17], [], σ22)
          refine hf _ _ 10 _ _ ?_
          show K (14, [.ref 6, .int x1, .int x2, .int r21, .int r17, .int r12, .int (σ22 36 (ix (σ8 47 (ix (σ8 48 (ix v7)))))), .int (v7 + 1), .null, .null, .null], [], σ22)
          exact ih r21 r17 r12 (σ22 36 (ix (σ8 47 (ix (σ8 48 (ix v7)))))) (v7 + 1) σ22 h hk

set_option maxHeartbeats 4000000 in
set_option maxRecDepth 100000 in
theorem s_X6_level : runs T_X6_level [.ref 6] 11 F_X6_level := by
  intro Qa K hw hf As σ r σ' h hQ
  unfold F_X6_level at h
  split at h
  · rename_i p0 p1
    unfold f_X6_level at h
    have hQ : Qa (r, σ').1 (r, σ').2 := hQ
    generalize (r, σ') = y at h hQ
    show K (0, [.ref 6, .int p0, .int p1, .null, .null, .null, .null, .null, .null, .null, .null], [], σ)
    refine hw 10 _ ?_
    show K (14, [.ref 6, .int p0, .int p1, .int 0, .int 0, .int 0, .int 0, .int 0, .null, .null, .null], [], σ)
    refine t_X6_level_14 hw hf p0 p1 _ _ lf 0 0 0 0 0 σ h (fun v25 v26 v27 v28 v29 σ30 h => ?_)
    show K (112, [.ref 6, .int p0, .int p1, .int v25, .int v26, .int v27, .int v28, .int v29, .null, .null, .null], [], σ30)
    obtain ⟨r31, σ32, e33, h⟩ := bnd_some h
    refine hw 7 _ ?_
    show ∃ r31 σ32, f_X6_behind v25 v26 (p1 - v27) v28 σ30 = some (r31, σ32) ∧ K (124, [.ref 6, .int p0, .int p1, .int v25, .int v26, .int v27, .int v28, .int v29, .null, .null, .null], [.int r31], σ32)
    refine ⟨r31, σ32, e33, ?_⟩
    obtain rfl := Option.some.inj h
    refine hw 1 _ ?_
    show Qa r31 σ32
    refine hQ
  · cases h
theorem h_X6_level : shp [.ref 6] 11 F_X6_level := by
  intro As σ r σ' h
  unfold F_X6_level at h
  split at h
  · exact ⟨by simp [Value.category], Nat.le_of_ble_eq_true rfl⟩
  · cases h
set_option maxHeartbeats 4000000 in
set_option maxRecDepth 100000 in
theorem c_X6_level (l : Launch) (D : va_G) (cI cZ cA cL : ClassId) (ad : Nat → Nat) (hi : adI ad) : CtI l yX6_level wsX6_level { frames := 2, cells := 0, slots := 0, locals := 45 } D cI cZ cA cL ad [.ref 6] F_X6_level := by
  refine mk_I [.ref 6] F_X6_level T_X6_level (by decide +kernel) rfl ?_ h_X6_level s_X6_level
  intro p e s m args below meth c Qa ⟨hx, hb, hml, hown, hts, hr, hlocks, hK, hN⟩
  have hin6 : ∀ w ∈ u_ws RX6 TX6 30, w ∈ wsX6_level := by decide +kernel
  have hl127 : (Cond.fieldLink RX6 127 RX6 (TX6 25).2.1 (TX6 25).2.2.1) ∈ wsX6_level := by decide +kernel
  have hl65 : (Cond.fieldLink RX6 65 RX6 (TX6 23).2.1 (TX6 23).2.2.1) ∈ wsX6_level := by decide +kernel
  have hl68 : (Cond.fieldLink RX6 68 RX6 (TX6 24).2.1 (TX6 24).2.2.1) ∈ wsX6_level := by decide +kernel
  have hl32 : (Cond.fieldLink RX6 32 RX6 (TX6 9).2.1 (TX6 9).2.2.1) ∈ wsX6_level := by decide +kernel
  refine ruL_c (n := 0) (n2 := 1) rfl (ru_iconst hx hb dX6_level_0 rfl) ?_
  refine ruL_c (n := 1) (n2 := 2) rfl (ru_istore_n (k := 3) hx hb dX6_level_1) ?_
  refine ruL_c (n := 2) (n2 := 3) rfl (ru_iconst hx hb dX6_level_2 rfl) ?_
  refine ruL_c (n := 3) (n2 := 4) rfl (ru_istore hx hb dX6_level_3) ?_
  refine ruL_c (n := 4) (n2 := 5) rfl (ru_bot) ?_
  refine ruL_c (n := 5) (n2 := 6) rfl (ru_iconst hx hb dX6_level_5 rfl) ?_
  refine ruL_c (n := 6) (n2 := 7) rfl (ru_istore hx hb dX6_level_6) ?_
  refine ruL_c (n := 7) (n2 := 8) rfl (ru_bot) ?_
  refine ruL_c (n := 8) (n2 := 9) rfl (ru_iconst hx hb dX6_level_8 rfl) ?_
  refine ruL_c (n := 9) (n2 := 10) rfl (ru_istore hx hb dX6_level_9) ?_
  refine ruL_c (n := 10) (n2 := 11) rfl (ru_bot) ?_
  refine ruL_c (n := 11) (n2 := 12) rfl (ru_iconst hx hb dX6_level_11 rfl) ?_
  refine ruL_c (n := 12) (n2 := 13) rfl (ru_istore hx hb dX6_level_12) ?_
  refine ruL_c (n := 13) (n2 := 14) rfl (ru_bot) ?_
  refine ruL_c (n := 14) (n2 := 15) rfl (ru_iload hx hb dX6_level_14) ?_
  refine ruL_c (n := 15) (n2 := 16) rfl (ru_bot) ?_
  refine ruL_c (n := 16) (n2 := 17) rfl (ru_aload_n (k := 0) hx hb dX6_level_16) ?_
  refine ruL_c (n := 17) (n2 := 18) rfl (ru_getI (own := RX6) (j := 25) (T := TX6) hx hb hown hK hts hin6 (by decide) rfl rfl (by decide) rfl hl127 dX6_level_17) ?_
  refine ruL_c (n := 18) (n2 := 19) rfl (ru_bot) ?_
  refine ruL_c (n := 19) (n2 := 20) rfl (ru_bot) ?_
  refine ruL_c (n := 20) (n2 := 21) rfl (ru_icmpge hx hb dX6_level_20 (by decide)) ?_
  refine ruL_c (n := 21) (n2 := 22) rfl (ru_bot) ?_
  refine ruL_c (n := 22) (n2 := 23) rfl (ru_bot) ?_
  refine ruL_c (n := 23) (n2 := 24) rfl (ru_aload_n (k := 0) hx hb dX6_level_23) ?_
  refine ruL_c (n := 24) (n2 := 25) rfl (ru_getR (own := RX6) (j := 23) (T := TX6) hx hb hown hK hts hin6 (by decide) rfl rfl (by decide) rfl hl65 dX6_level_24) ?_
  refine ruL_c (n := 25) (n2 := 26) rfl (ru_bot) ?_
  refine ruL_c (n := 26) (n2 := 27) rfl (ru_bot) ?_
  refine ruL_c (n := 27) (n2 := 28) rfl (ru_aload_n (k := 0) hx hb dX6_level_27) ?_
  refine ruL_c (n := 28) (n2 := 29) rfl (ru_getR (own := RX6) (j := 24) (T := TX6) hx hb hown hK hts hin6 (by decide) rfl rfl (by decide) rfl hl68 dX6_level_28) ?_
  refine ruL_c (n := 29) (n2 := 30) rfl (ru_bot) ?_
  refine ruL_c (n := 30) (n2 := 31) rfl (ru_bot) ?_
  refine ruL_c (n := 31) (n2 := 32) rfl (ru_iload hx hb dX6_level_31) ?_
  refine ruL_c (n := 32) (n2 := 33) rfl (ru_bot) ?_
  refine ruL_c (n := 33) (n2 := 34) rfl (ru_iald hx hb hK dX6_level_33) ?_
  refine ruL_c (n := 34) (n2 := 35) rfl (ru_iald hx hb hK dX6_level_34) ?_
  refine ruL_c (n := 35) (n2 := 36) rfl (ru_istore hx hb dX6_level_35) ?_
  refine ruL_c (n := 36) (n2 := 37) rfl (ru_bot) ?_
  refine ruL_c (n := 37) (n2 := 38) rfl (ru_aload_n (k := 0) hx hb dX6_level_37) ?_
  refine ruL_c (n := 38) (n2 := 39) rfl (ru_iload hx hb dX6_level_38) ?_
  refine ruL_c (n := 39) (n2 := 40) rfl (ru_bot) ?_
  refine ruL_c (n := 40) (n2 := 41) rfl (ru_callV hx hb hml hown hts hK hN (by decide) rfl (c_X6_when l D cI cZ cA cL ad hi) (cwV 1 hts gX6_level_X6_when rfl rfl rfl (by decide +kernel) ⟨Nat.le_of_ble_eq_true rfl, Nat.le_of_ble_eq_true rfl⟩) dX6_level_40 ⟨Nat.zero_le _, Nat.zero_le _⟩) ?_
  refine ruL_c (n := 41) (n2 := 42) rfl (ru_bot) ?_
  refine ruL_c (n := 42) (n2 := 43) rfl (ru_bot) ?_
  refine ruL_c (n := 43) (n2 := 44) rfl (ru_istore hx hb dX6_level_43) ?_
  refine ruL_c (n := 44) (n2 := 45) rfl (ru_bot) ?_
  refine ruL_c (n := 45) (n2 := 46) rfl (ru_iload hx hb dX6_level_45) ?_
  refine ruL_c (n := 46) (n2 := 47) rfl (ru_bot) ?_
  refine ruL_c (n := 47) (n2 := 48) rfl (ru_iload_n (k := 2) hx hb dX6_level_47) ?_
  refine ruL_c (n := 48) (n2 := 49) rfl (ru_icmpgt hx hb dX6_level_48 (by decide)) ?_
  refine ruL_c (n := 49) (n2 := 50) rfl (ru_bot) ?_
  refine ruL_c (n := 50) (n2 := 51) rfl (ru_bot) ?_
  refine ruL_c (n := 51) (n2 := 52) rfl (ru_aload_n (k := 0) hx hb dX6_level_51) ?_
  refine ruL_c (n := 52) (n2 := 53) rfl (ru_aload_n (k := 0) hx hb dX6_level_52) ?_
  refine ruL_c (n := 53) (n2 := 54) rfl (ru_getR (own := RX6) (j := 24) (T := TX6) hx hb hown hK hts hin6 (by decide) rfl rfl (by decide) rfl hl68 dX6_level_53) ?_
  refine ruL_c (n := 54) (n2 := 55) rfl (ru_bot) ?_
  refine ruL_c (n := 55) (n2 := 56) rfl (ru_bot) ?_
  refine ruL_c (n := 56) (n2 := 57) rfl (ru_iload hx hb dX6_level_56) ?_
  refine ruL_c (n := 57) (n2 := 58) rfl (ru_bot) ?_
  refine ruL_c (n := 58) (n2 := 59) rfl (ru_iald hx hb hK dX6_level_58) ?_
  refine ruL_c (n := 59) (n2 := 60) rfl (ru_iload_n (k := 1) hx hb dX6_level_59) ?_
  refine ruL_c (n := 60) (n2 := 61) rfl (ru_callV hx hb hml hown hts hK hN (by decide) rfl (c_X6_changesAt l D cI cZ cA cL ad hi) (cwV 2 hts gX6_level_X6_changesAt rfl rfl rfl (by decide +kernel) ⟨Nat.le_of_ble_eq_true rfl, Nat.le_of_ble_eq_true rfl⟩) dX6_level_60 ⟨Nat.zero_le _, Nat.zero_le _⟩) ?_
  refine ruL_c (n := 61) (n2 := 62) rfl (ru_bot) ?_
  refine ruL_c (n := 62) (n2 := 63) rfl (ru_bot) ?_
  refine ruL_c (n := 63) (n2 := 64) rfl (ru_goto hx hb dX6_level_63 (by decide)) ?_
  refine ruL_c (n := 64) (n2 := 65) rfl (ru_bot) ?_
  refine ruL_c (n := 65) (n2 := 66) rfl (ru_bot) ?_
  refine ruL_c (n := 66) (n2 := 67) rfl (ru_iconst hx hb dX6_level_66 rfl) ?_
  refine ruL_c (n := 67) (n2 := 68) rfl (ru_istore hx hb dX6_level_67) ?_
  refine ruL_c (n := 68) (n2 := 69) rfl (ru_bot) ?_
  refine ruL_c (n := 69) (n2 := 70) rfl (ru_iload hx hb dX6_level_69) ?_
  refine ruL_c (n := 70) (n2 := 71) rfl (ru_bot) ?_
  refine ruL_c (n := 71) (n2 := 72) rfl (ru_iconst hx hb dX6_level_71 rfl) ?_
  refine ruL_c (n := 72) (n2 := 73) rfl (ru_icmpeq hx hb dX6_level_72 (by decide)) ?_
  refine ruL_c (n := 73) (n2 := 74) rfl (ru_bot) ?_
  refine ruL_c (n := 74) (n2 := 75) rfl (ru_bot) ?_
  refine ruL_c (n := 75) (n2 := 76) rfl (ru_iload_n (k := 3) hx hb dX6_level_75) ?_
  refine ruL_c (n := 76) (n2 := 77) rfl (ru_iload hx hb dX6_level_76) ?_
  refine ruL_c (n := 77) (n2 := 78) rfl (ru_bot) ?_
  refine ruL_c (n := 78) (n2 := 79) rfl (ru_iload hx hb dX6_level_78) ?_
  refine ruL_c (n := 79) (n2 := 80) rfl (ru_bot) ?_
  refine ruL_c (n := 80) (n2 := 81) rfl (ru_iload hx hb dX6_level_80) ?_
  refine ruL_c (n := 81) (n2 := 82) rfl (ru_bot) ?_
  refine ruL_c (n := 82) (n2 := 83) rfl (ru_isub hx hb dX6_level_82) ?_
  refine ruL_c (n := 83) (n2 := 84) rfl (ru_iload hx hb dX6_level_83) ?_
  refine ruL_c (n := 84) (n2 := 85) rfl (ru_bot) ?_
  refine ruL_c (n := 85) (n2 := 86) rfl (ru_callS hx hb hml hown hts hK hN (c_X6_behind l D cI cZ cA cL ad hi) (va_cwS 4 hts gX6_level_X6_behind rfl rfl rfl (by decide +kernel) ⟨Nat.le_of_ble_eq_true rfl, Nat.le_of_ble_eq_true rfl⟩) dX6_level_85 ⟨Nat.zero_le _, Nat.zero_le _⟩) ?_
  refine ruL_c (n := 86) (n2 := 87) rfl (ru_bot) ?_
  refine ruL_c (n := 87) (n2 := 88) rfl (ru_bot) ?_
  refine ruL_c (n := 88) (n2 := 89) rfl (ru_istore_n (k := 3) hx hb dX6_level_88) ?_
  refine ruL_c (n := 89) (n2 := 90) rfl (ru_iload hx hb dX6_level_89) ?_
  refine ruL_c (n := 90) (n2 := 91) rfl (ru_bot) ?_
  refine ruL_c (n := 91) (n2 := 92) rfl (ru_istore hx hb dX6_level_91) ?_
  refine ruL_c (n := 92) (n2 := 93) rfl (ru_bot) ?_
  refine ruL_c (n := 93) (n2 := 94) rfl (ru_iload hx hb dX6_level_93) ?_
  refine ruL_c (n := 94) (n2 := 95) rfl (ru_bot) ?_
  refine ruL_c (n := 95) (n2 := 96) rfl (ru_istore hx hb dX6_level_95) ?_
  refine ruL_c (n := 96) (n2 := 97) rfl (ru_bot) ?_
  refine ruL_c (n := 97) (n2 := 98) rfl (ru_aload_n (k := 0) hx hb dX6_level_97) ?_
  refine ruL_c (n := 98) (n2 := 99) rfl (ru_getR (own := RX6) (j := 9) (T := TX6) hx hb hown hK hts hin6 (by decide) rfl rfl (by decide) rfl hl32 dX6_level_98) ?_
  refine ruL_c (n := 99) (n2 := 100) rfl (ru_bot) ?_
  refine ruL_c (n := 100) (n2 := 101) rfl (ru_bot) ?_
  refine ruL_c (n := 101) (n2 := 102) rfl (ru_iload hx hb dX6_level_101) ?_
  refine ruL_c (n := 102) (n2 := 103) rfl (ru_bot) ?_
  refine ruL_c (n := 103) (n2 := 104) rfl (ru_iald hx hb hK dX6_level_103) ?_
  refine ruL_c (n := 104) (n2 := 105) rfl (ru_istore hx hb dX6_level_104) ?_
  refine ruL_c (n := 105) (n2 := 106) rfl (ru_bot) ?_
  refine ruL_c (n := 106) (n2 := 107) rfl (ru_iinc hx hb dX6_level_106 rfl) ?_
  refine ruL_c (n := 107) (n2 := 108) rfl (ru_bot) ?_
  refine ruL_c (n := 108) (n2 := 109) rfl (ru_bot) ?_
  refine ruL_c (n := 109) (n2 := 110) rfl (ru_goto hx hb dX6_level_109 (by decide)) ?_
  refine ruL_c (n := 110) (n2 := 111) rfl (ru_bot) ?_
  refine ruL_c (n := 111) (n2 := 112) rfl (ru_bot) ?_
  refine ruL_c (n := 112) (n2 := 113) rfl (ru_iload_n (k := 3) hx hb dX6_level_112) ?_
  refine ruL_c (n := 113) (n2 := 114) rfl (ru_iload hx hb dX6_level_113) ?_
  refine ruL_c (n := 114) (n2 := 115) rfl (ru_bot) ?_
  refine ruL_c (n := 115) (n2 := 116) rfl (ru_iload_n (k := 2) hx hb dX6_level_115) ?_
  refine ruL_c (n := 116) (n2 := 117) rfl (ru_iload hx hb dX6_level_116) ?_
  refine ruL_c (n := 117) (n2 := 118) rfl (ru_bot) ?_
  refine ruL_c (n := 118) (n2 := 119) rfl (ru_isub hx hb dX6_level_118) ?_
  refine ruL_c (n := 119) (n2 := 120) rfl (ru_iload hx hb dX6_level_119) ?_
  refine ruL_c (n := 120) (n2 := 121) rfl (ru_bot) ?_
  refine ruL_c (n := 121) (n2 := 122) rfl (ru_callS hx hb hml hown hts hK hN (c_X6_behind l D cI cZ cA cL ad hi) (va_cwS 4 hts gX6_level_X6_behind rfl rfl rfl (by decide +kernel) ⟨Nat.le_of_ble_eq_true rfl, Nat.le_of_ble_eq_true rfl⟩) dX6_level_121 ⟨Nat.zero_le _, Nat.zero_le _⟩) ?_
  refine ruL_c (n := 122) (n2 := 123) rfl (ru_bot) ?_
  refine ruL_c (n := 123) (n2 := 124) rfl (ru_bot) ?_
  refine ruL_c (n := 124) (n2 := 125) rfl (ru_iret hx hb hK hr hlocks dX6_level_124) ?_
  exact trivial

-- CueTourModel.levelNow
def f_X6_levelNow (p0 : Int32) (p1 : Int32) (σ : aM) : Option (Int32 × aM) := bnd (f_X6_isChannel p0 σ) (fun r1 σ2 => if ¬ r1 = 0 then bnd (f_X6_isTime p1 σ2) (fun r5 σ6 => if ¬ r5 = 0 then bnd (f_X6_isFine 0 σ6) (fun r9 σ10 => if ¬ r9 = 0 then bnd (f_X6_plays σ10) (fun r13 σ14 => bnd (f_X6_level p0 p1 σ14) (fun r16 σ17 => some (r16, σ17))) else some (0, σ10)) else bnd (f_X6_isFine 2 σ6) (fun r19 σ20 => if ¬ r19 = 0 then bnd (f_X6_plays σ20) (fun r23 σ24 => bnd (f_X6_level p0 p1 σ24) (fun r26 σ27 => some (r26, σ27))) else some (0, σ20))) else bnd (f_X6_isFine 1 σ2) (fun r29 σ30 => if ¬ r29 = 0 then bnd (f_X6_plays σ30) (fun r33 σ34 => bnd (f_X6_level p0 p1 σ34) (fun r36 σ37 => some (r36, σ37))) else some (0, σ30)))
def F_X6_levelNow : aF := fun As σ => match As with
  | [.int p0, .int p1] => f_X6_levelNow p0 p1 σ
  | _ => none
def T_X6_levelNow (Qa : Int32 → aM → Prop) : List aI := [I_aload 0 1, I_iload 1 1, I_callS 1 F_X6_isChannel, I_bot, I_bot, I_if (fun x => ¬ x = 0) 12, I_bot, I_bot, I_const 1 1, I_goto 24, I_bot, I_bot, I_iload 2 1, I_callS 1 F_X6_isTime, I_bot, I_bot, I_if (fun x => ¬ x = 0) 23, I_bot, I_bot, I_const 2 1, I_goto 24, I_bot, I_bot, I_const 0 1, I_callV 6 1 F_X6_isFine, I_bot, I_bot, I_if (fun x => ¬ x = 0) 32, I_bot, I_bot, I_const 0 1, I_iret Qa, I_aload 0 1, I_callVv 6 0 F_X6_plays, I_bot, I_bot, I_aload 0 1, I_iload 1 1, I_iload 2 1, I_callV 6 2 F_X6_level, I_bot, I_bot, I_iret Qa]
set_option maxHeartbeats 4000000 in
set_option maxRecDepth 100000 in
theorem s_X6_levelNow : runs T_X6_levelNow [.ref 6] 3 F_X6_levelNow := by
  intro Qa K hw hf As σ r σ' h hQ
  unfold F_X6_levelNow at h
  split at h
  · rename_i p0 p1
    unfold f_X6_levelNow at h
    have hQ : Qa (r, σ').1 (r, σ').2 := hQ
    generalize (r, σ') = y at h hQ
    show K (0, [.ref 6, .int p0, .int p1], [], σ)
    obtain ⟨r1, σ2, e3, h⟩ := bnd_some h
    refine hw 3 _ ?_
    show ∃ r1 σ2, f_X6_isChannel p0 σ = some (r1, σ2) ∧ K (5, [.ref 6, .int p0, .int p1], [.int r1, .ref 6], σ2)
    refine ⟨r1, σ2, e3, ?_⟩
    rcases ite_cases h with ⟨c4, h⟩ | ⟨c4, h⟩
    · refine hw 1 _ ?_
      show ((¬ r1 = 0) → K (12, [.ref 6, .int p0, .int p1], [.ref 6], σ2)) ∧ (¬ (¬ r1 = 0) → K (8, [.ref 6, .int p0, .int p1], [.ref 6], σ2))
      refine ⟨fun _ => ?_, fun q => absurd c4 q⟩
      obtain ⟨r5, σ6, e7, h⟩ := bnd_some h
      refine hw 2 _ ?_
      show ∃ r5 σ6, f_X6_isTime p1 σ2 = some (r5, σ6) ∧ K (16, [.ref 6, .int p0, .int p1], [.int r5, .ref 6], σ6)
      refine ⟨r5, σ6, e7, ?_⟩
      rcases ite_cases h with ⟨c8, h⟩ | ⟨c8, h⟩
      · refine hw 1 _ ?_
        show ((¬ r5 = 0) → K (23, [.ref 6, .int p0, .int p1], [.ref 6], σ6)) ∧ (¬ (¬ r5 = 0) → K (19, [.ref 6, .int p0, .int p1], [.ref 6], σ6))
        refine ⟨fun _ => ?_, fun q => absurd c8 q⟩
        obtain ⟨r9, σ10, e11, h⟩ := bnd_some h
        refine hw 2 _ ?_
        show ∃ r9 σ10, f_X6_isFine 0 σ6 = some (r9, σ10) ∧ K (27, [.ref 6, .int p0, .int p1], [.int r9], σ10)
        refine ⟨r9, σ10, e11, ?_⟩
        rcases ite_cases h with ⟨c12, h⟩ | ⟨c12, h⟩
        · refine hw 1 _ ?_
          show ((¬ r9 = 0) → K (32, [.ref 6, .int p0, .int p1], [], σ10)) ∧ (¬ (¬ r9 = 0) → K (30, [.ref 6, .int p0, .int p1], [], σ10))
          refine ⟨fun _ => ?_, fun q => absurd c12 q⟩
          obtain ⟨r13, σ14, e15, h⟩ := bnd_some h
          refine hw 2 _ ?_
          show ∃ r13 σ14, f_X6_plays σ10 = some (r13, σ14) ∧ K (36, [.ref 6, .int p0, .int p1], [], σ14)
          refine ⟨r13, σ14, e15, ?_⟩
          obtain ⟨r16, σ17, e18, h⟩ := bnd_some h
          refine hw 4 _ ?_
          show ∃ r16 σ17, f_X6_level p0 p1 σ14 = some (r16, σ17) ∧ K (42, [.ref 6, .int p0, .int p1], [.int r16], σ17)
          refine ⟨r16, σ17, e18, ?_⟩
          obtain rfl := Option.some.inj h
          refine hw 1 _ ?_
          show Qa r16 σ17
          refine hQ
        · refine hw 1 _ ?_
          show ((¬ r9 = 0) → K (32, [.ref 6, .int p0, .int p1], [], σ10)) ∧ (¬ (¬ r9 = 0) → K (30, [.ref 6, .int p0, .int p1], [], σ10))
          refine ⟨fun q => absurd q c12, fun _ => ?_⟩
          obtain rfl := Option.some.inj h
          refine hw 2 _ ?_
          show Qa 0 σ10
          refine hQ
      · refine hw 1 _ ?_
        show ((¬ r5 = 0) → K (23, [.ref 6, .int p0, .int p1], [.ref 6], σ6)) ∧ (¬ (¬ r5 = 0) → K (19, [.ref 6, .int p0, .int p1], [.ref 6], σ6))
        refine ⟨fun q => absurd q c8, fun _ => ?_⟩
        obtain ⟨r19, σ20, e21, h⟩ := bnd_some h
        refine hw 3 _ ?_
        show ∃ r19 σ20, f_X6_isFine 2 σ6 = some (r19, σ20) ∧ K (27, [.ref 6, .int p0, .int p1], [.int r19], σ20)
        refine ⟨r19, σ20, e21, ?_⟩
        rcases ite_cases h with ⟨c22, h⟩ | ⟨c22, h⟩
        · refine hw 1 _ ?_
          show ((¬ r19 = 0) → K (32, [.ref 6, .int p0, .int p1], [], σ20)) ∧ (¬ (¬ r19 = 0) → K (30, [.ref 6, .int p0, .int p1], [], σ20))
          refine ⟨fun _ => ?_, fun q => absurd c22 q⟩
          obtain ⟨r23, σ24, e25, h⟩ := bnd_some h
          refine hw 2 _ ?_
          show ∃ r23 σ24, f_X6_plays σ20 = some (r23, σ24) ∧ K (36, [.ref 6, .int p0, .int p1], [], σ24)
          refine ⟨r23, σ24, e25, ?_⟩
          obtain ⟨r26, σ27, e28, h⟩ := bnd_some h
          refine hw 4 _ ?_
          show ∃ r26 σ27, f_X6_level p0 p1 σ24 = some (r26, σ27) ∧ K (42, [.ref 6, .int p0, .int p1], [.int r26], σ27)
          refine ⟨r26, σ27, e28, ?_⟩
          obtain rfl := Option.some.inj h
          refine hw 1 _ ?_
          show Qa r26 σ27
          refine hQ
        · refine hw 1 _ ?_
          show ((¬ r19 = 0) → K (32, [.ref 6, .int p0, .int p1], [], σ20)) ∧ (¬ (¬ r19 = 0) → K (30, [.ref 6, .int p0, .int p1], [], σ20))
          refine ⟨fun q => absurd q c22, fun _ => ?_⟩
          obtain rfl := Option.some.inj h
          refine hw 2 _ ?_
          show Qa 0 σ20
          refine hQ
    · refine hw 1 _ ?_
      show ((¬ r1 = 0) → K (12, [.ref 6, .int p0, .int p1], [.ref 6], σ2)) ∧ (¬ (¬ r1 = 0) → K (8, [.ref 6, .int p0, .int p1], [.ref 6], σ2))
      refine ⟨fun q => absurd q c4, fun _ => ?_⟩
      obtain ⟨r29, σ30, e31, h⟩ := bnd_some h
      refine hw 3 _ ?_
      show ∃ r29 σ30, f_X6_isFine 1 σ2 = some (r29, σ30) ∧ K (27, [.ref 6, .int p0, .int p1], [.int r29], σ30)
      refine ⟨r29, σ30, e31, ?_⟩
      rcases ite_cases h with ⟨c32, h⟩ | ⟨c32, h⟩
      · refine hw 1 _ ?_
        show ((¬ r29 = 0) → K (32, [.ref 6, .int p0, .int p1], [], σ30)) ∧ (¬ (¬ r29 = 0) → K (30, [.ref 6, .int p0, .int p1], [], σ30))
        refine ⟨fun _ => ?_, fun q => absurd c32 q⟩
        obtain ⟨r33, σ34, e35, h⟩ := bnd_some h
        refine hw 2 _ ?_
        show ∃ r33 σ34, f_X6_plays σ30 = some (r33, σ34) ∧ K (36, [.ref 6, .int p0, .int p1], [], σ34)
        refine ⟨r33, σ34, e35, ?_⟩
        obtain ⟨r36, σ37, e38, h⟩ := bnd_some h
        refine hw 4 _ ?_
        show ∃ r36 σ37, f_X6_level p0 p1 σ34 = some (r36, σ37) ∧ K (42, [.ref 6, .int p0, .int p1], [.int r36], σ37)
        refine ⟨r36, σ37, e38, ?_⟩
        obtain rfl := Option.some.inj h
        refine hw 1 _ ?_
        show Qa r36 σ37
        refine hQ
      · refine hw 1 _ ?_
        show ((¬ r29 = 0) → K (32, [.ref 6, .int p0, .int p1], [], σ30)) ∧ (¬ (¬ r29 = 0) → K (30, [.ref 6, .int p0, .int p1], [], σ30))
        refine ⟨fun q => absurd q c32, fun _ => ?_⟩
        obtain rfl := Option.some.inj h
        refine hw 2 _ ?_
        show Qa 0 σ30
        refine hQ
  · cases h
theorem h_X6_levelNow : shp [.ref 6] 3 F_X6_levelNow := by
  intro As σ r σ' h
  unfold F_X6_levelNow at h
  split at h
  · exact ⟨by simp [Value.category], Nat.le_of_ble_eq_true rfl⟩
  · cases h
set_option maxHeartbeats 4000000 in
set_option maxRecDepth 100000 in
theorem c_X6_levelNow (l : Launch) (D : va_G) (cI cZ cA cL : ClassId) (ad : Nat → Nat) (hi : adI ad) : CtI l yX6_levelNow wsX6_levelNow { frames := 3, cells := 0, slots := 0, locals := 75 } D cI cZ cA cL ad [.ref 6] F_X6_levelNow := by
  refine mk_I [.ref 6] F_X6_levelNow T_X6_levelNow (by decide +kernel) rfl ?_ h_X6_levelNow s_X6_levelNow
  intro p e s m args below meth c Qa ⟨hx, hb, hml, hown, hts, hr, hlocks, hK, hN⟩
  refine ruL_c (n := 0) (n2 := 1) rfl (ru_aload_n (k := 0) hx hb dX6_levelNow_0) ?_
  refine ruL_c (n := 1) (n2 := 2) rfl (ru_iload_n (k := 1) hx hb dX6_levelNow_1) ?_
  refine ruL_c (n := 2) (n2 := 3) rfl (ru_callS hx hb hml hown hts hK hN (c_X6_isChannel l D cI cZ cA cL ad hi) (va_cwS 1 hts gX6_levelNow_X6_isChannel rfl rfl rfl (by decide +kernel) ⟨Nat.le_of_ble_eq_true rfl, Nat.le_of_ble_eq_true rfl⟩) dX6_levelNow_2 ⟨Nat.zero_le _, Nat.zero_le _⟩) ?_
  refine ruL_c (n := 3) (n2 := 4) rfl (ru_bot) ?_
  refine ruL_c (n := 4) (n2 := 5) rfl (ru_bot) ?_
  refine ruL_c (n := 5) (n2 := 6) rfl (ru_ifne hx hb dX6_levelNow_5 (by decide)) ?_
  refine ruL_c (n := 6) (n2 := 7) rfl (ru_bot) ?_
  refine ruL_c (n := 7) (n2 := 8) rfl (ru_bot) ?_
  refine ruL_c (n := 8) (n2 := 9) rfl (ru_iconst hx hb dX6_levelNow_8 rfl) ?_
  refine ruL_c (n := 9) (n2 := 10) rfl (ru_goto hx hb dX6_levelNow_9 (by decide)) ?_
  refine ruL_c (n := 10) (n2 := 11) rfl (ru_bot) ?_
  refine ruL_c (n := 11) (n2 := 12) rfl (ru_bot) ?_
  refine ruL_c (n := 12) (n2 := 13) rfl (ru_iload_n (k := 2) hx hb dX6_levelNow_12) ?_
  refine ruL_c (n := 13) (n2 := 14) rfl (ru_callS hx hb hml hown hts hK hN (c_X6_isTime l D cI cZ cA cL ad hi) (va_cwS 1 hts gX6_levelNow_X6_isTime rfl rfl rfl (by decide +kernel) ⟨Nat.le_of_ble_eq_true rfl, Nat.le_of_ble_eq_true rfl⟩) dX6_levelNow_13 ⟨Nat.zero_le _, Nat.zero_le _⟩) ?_
  refine ruL_c (n := 14) (n2 := 15) rfl (ru_bot) ?_
  refine ruL_c (n := 15) (n2 := 16) rfl (ru_bot) ?_
  refine ruL_c (n := 16) (n2 := 17) rfl (ru_ifne hx hb dX6_levelNow_16 (by decide)) ?_
  refine ruL_c (n := 17) (n2 := 18) rfl (ru_bot) ?_
  refine ruL_c (n := 18) (n2 := 19) rfl (ru_bot) ?_
  refine ruL_c (n := 19) (n2 := 20) rfl (ru_iconst hx hb dX6_levelNow_19 rfl) ?_
  refine ruL_c (n := 20) (n2 := 21) rfl (ru_goto hx hb dX6_levelNow_20 (by decide)) ?_
  refine ruL_c (n := 21) (n2 := 22) rfl (ru_bot) ?_
  refine ruL_c (n := 22) (n2 := 23) rfl (ru_bot) ?_
  refine ruL_c (n := 23) (n2 := 24) rfl (ru_iconst hx hb dX6_levelNow_23 rfl) ?_
  refine ruL_c (n := 24) (n2 := 25) rfl (ru_callV hx hb hml hown hts hK hN (by decide) rfl (c_X6_isFine l D cI cZ cA cL ad hi) (cwV 1 hts gX6_levelNow_X6_isFine rfl rfl rfl (by decide +kernel) ⟨Nat.le_of_ble_eq_true rfl, Nat.le_of_ble_eq_true rfl⟩) dX6_levelNow_24 ⟨Nat.zero_le _, Nat.zero_le _⟩) ?_
  refine ruL_c (n := 25) (n2 := 26) rfl (ru_bot) ?_
  refine ruL_c (n := 26) (n2 := 27) rfl (ru_bot) ?_
  refine ruL_c (n := 27) (n2 := 28) rfl (ru_ifne hx hb dX6_levelNow_27 (by decide)) ?_
  refine ruL_c (n := 28) (n2 := 29) rfl (ru_bot) ?_
  refine ruL_c (n := 29) (n2 := 30) rfl (ru_bot) ?_
  refine ruL_c (n := 30) (n2 := 31) rfl (ru_iconst hx hb dX6_levelNow_30 rfl) ?_
  refine ruL_c (n := 31) (n2 := 32) rfl (ru_iret hx hb hK hr hlocks dX6_levelNow_31) ?_
  refine ruL_c (n := 32) (n2 := 33) rfl (ru_aload_n (k := 0) hx hb dX6_levelNow_32) ?_
  refine ruL_c (n := 33) (n2 := 34) rfl (ru_callVv hx hb hml hown hts hK hN (by decide) rfl (c_X6_plays l D cI cZ cA cL ad hi) (cwV 0 hts gX6_levelNow_X6_plays rfl rfl rfl (by decide +kernel) ⟨Nat.le_of_ble_eq_true rfl, Nat.le_of_ble_eq_true rfl⟩) dX6_levelNow_33 ⟨Nat.zero_le _, Nat.zero_le _⟩) ?_
  refine ruL_c (n := 34) (n2 := 35) rfl (ru_bot) ?_
  refine ruL_c (n := 35) (n2 := 36) rfl (ru_bot) ?_
  refine ruL_c (n := 36) (n2 := 37) rfl (ru_aload_n (k := 0) hx hb dX6_levelNow_36) ?_
  refine ruL_c (n := 37) (n2 := 38) rfl (ru_iload_n (k := 1) hx hb dX6_levelNow_37) ?_
  refine ruL_c (n := 38) (n2 := 39) rfl (ru_iload_n (k := 2) hx hb dX6_levelNow_38) ?_
  refine ruL_c (n := 39) (n2 := 40) rfl (ru_callV hx hb hml hown hts hK hN (by decide) rfl (c_X6_level l D cI cZ cA cL ad hi) (cwV 2 hts gX6_levelNow_X6_level rfl rfl rfl (by decide +kernel) ⟨Nat.le_of_ble_eq_true rfl, Nat.le_of_ble_eq_true rfl⟩) dX6_levelNow_39 ⟨Nat.zero_le _, Nat.zero_le _⟩) ?_
  refine ruL_c (n := 40) (n2 := 41) rfl (ru_bot) ?_
  refine ruL_c (n := 41) (n2 := 42) rfl (ru_bot) ?_
  refine ruL_c (n := 42) (n2 := 43) rfl (ru_iret hx hb hK hr hlocks dX6_levelNow_42) ?_
  exact trivial

-- CueTourModel.levelAt
def f_X6_levelAt (p0 : Int32) (p1 : Int32) (σ : aM) : Option (Int32 × aM) := bnd (f_X6_levelNow p0 p1 σ) (fun r1 σ2 => some (r1, σ2))
def F_X6_levelAt : aF := fun As σ => match As with
  | [.int p0, .int p1] => f_X6_levelAt p0 p1 σ
  | _ => none
def T_X6_levelAt (Qa : Int32 → aM → Prop) : List aI := [I_aload 0 1, I_iload 1 1, I_iload 2 1, I_callV 6 2 F_X6_levelNow, I_bot, I_bot, I_iret Qa]
set_option maxHeartbeats 4000000 in
set_option maxRecDepth 100000 in
theorem s_X6_levelAt : runs T_X6_levelAt [.ref 6] 3 F_X6_levelAt := by
  intro Qa K hw hf As σ r σ' h hQ
  unfold F_X6_levelAt at h
  split at h
  · rename_i p0 p1
    unfold f_X6_levelAt at h
    have hQ : Qa (r, σ').1 (r, σ').2 := hQ
    generalize (r, σ') = y at h hQ
    show K (0, [.ref 6, .int p0, .int p1], [], σ)
    obtain ⟨r1, σ2, e3, h⟩ := bnd_some h
    refine hw 4 _ ?_
    show ∃ r1 σ2, f_X6_levelNow p0 p1 σ = some (r1, σ2) ∧ K (6, [.ref 6, .int p0, .int p1], [.int r1], σ2)
    refine ⟨r1, σ2, e3, ?_⟩
    obtain rfl := Option.some.inj h
    refine hw 1 _ ?_
    show Qa r1 σ2
    refine hQ
  · cases h
theorem h_X6_levelAt : shp [.ref 6] 3 F_X6_levelAt := by
  intro As σ r σ' h
  unfold F_X6_levelAt at h
  split at h
  · exact ⟨by simp [Value.category], Nat.le_of_ble_eq_true rfl⟩
  · cases h
set_option maxHeartbeats 4000000 in
set_option maxRecDepth 100000 in
theorem c_X6_levelAt (l : Launch) (D : va_G) (cI cZ cA cL : ClassId) (ad : Nat → Nat) (hi : adI ad) : CtI l yX6_levelAt wsX6_levelAt { frames := 4, cells := 0, slots := 0, locals := 97 } D cI cZ cA cL ad [.ref 6] F_X6_levelAt := by
  refine mk_I [.ref 6] F_X6_levelAt T_X6_levelAt (by decide +kernel) rfl ?_ h_X6_levelAt s_X6_levelAt
  intro p e s m args below meth c Qa ⟨hx, hb, hml, hown, hts, hr, hlocks, hK, hN⟩
  refine ruL_c (n := 0) (n2 := 1) rfl (ru_aload_n (k := 0) hx hb dX6_levelAt_0) ?_
  refine ruL_c (n := 1) (n2 := 2) rfl (ru_iload_n (k := 1) hx hb dX6_levelAt_1) ?_
  refine ruL_c (n := 2) (n2 := 3) rfl (ru_iload_n (k := 2) hx hb dX6_levelAt_2) ?_
  refine ruL_c (n := 3) (n2 := 4) rfl (ru_callV hx hb hml hown hts hK hN (by decide) rfl (c_X6_levelNow l D cI cZ cA cL ad hi) (cwV 2 hts gX6_levelAt_X6_levelNow rfl rfl rfl (by decide +kernel) ⟨Nat.le_of_ble_eq_true rfl, Nat.le_of_ble_eq_true rfl⟩) dX6_levelAt_3 ⟨Nat.zero_le _, Nat.zero_le _⟩) ?_
  refine ruL_c (n := 4) (n2 := 5) rfl (ru_bot) ?_
  refine ruL_c (n := 5) (n2 := 6) rfl (ru_bot) ?_
  refine ruL_c (n := 6) (n2 := 7) rfl (ru_iret hx hb hK hr hlocks dX6_levelAt_6) ?_
  exact trivial

-- CueTourModel.levelBySeconds
def f_X6_levelBySeconds (p0 : Int32) (p1 : Int32) (σ : aM) : Option (Int32 × aM) := bnd (f_X6_levelNow p0 p1 σ) (fun r1 σ2 => some (r1, σ2))
def F_X6_levelBySeconds : aF := fun As σ => match As with
  | [.int p0, .int p1] => f_X6_levelBySeconds p0 p1 σ
  | _ => none
def T_X6_levelBySeconds (Qa : Int32 → aM → Prop) : List aI := [I_aload 0 1, I_iload 1 1, I_iload 2 1, I_callV 6 2 F_X6_levelNow, I_bot, I_bot, I_iret Qa]
set_option maxHeartbeats 4000000 in
set_option maxRecDepth 100000 in
theorem s_X6_levelBySeconds : runs T_X6_levelBySeconds [.ref 6] 3 F_X6_levelBySeconds := by
  intro Qa K hw hf As σ r σ' h hQ
  unfold F_X6_levelBySeconds at h
  split at h
  · rename_i p0 p1
    unfold f_X6_levelBySeconds at h
    have hQ : Qa (r, σ').1 (r, σ').2 := hQ
    generalize (r, σ') = y at h hQ
    show K (0, [.ref 6, .int p0, .int p1], [], σ)
    obtain ⟨r1, σ2, e3, h⟩ := bnd_some h
    refine hw 4 _ ?_
    show ∃ r1 σ2, f_X6_levelNow p0 p1 σ = some (r1, σ2) ∧ K (6, [.ref 6, .int p0, .int p1], [.int r1], σ2)
    refine ⟨r1, σ2, e3, ?_⟩
    obtain rfl := Option.some.inj h
    refine hw 1 _ ?_
    show Qa r1 σ2
    refine hQ
  · cases h
theorem h_X6_levelBySeconds : shp [.ref 6] 3 F_X6_levelBySeconds := by
  intro As σ r σ' h
  unfold F_X6_levelBySeconds at h
  split at h
  · exact ⟨by simp [Value.category], Nat.le_of_ble_eq_true rfl⟩
  · cases h
set_option maxHeartbeats 4000000 in
set_option maxRecDepth 100000 in
theorem c_X6_levelBySeconds (l : Launch) (D : va_G) (cI cZ cA cL : ClassId) (ad : Nat → Nat) (hi : adI ad) : CtI l yX6_levelBySeconds wsX6_levelBySeconds { frames := 4, cells := 0, slots := 0, locals := 97 } D cI cZ cA cL ad [.ref 6] F_X6_levelBySeconds := by
  refine mk_I [.ref 6] F_X6_levelBySeconds T_X6_levelBySeconds (by decide +kernel) rfl ?_ h_X6_levelBySeconds s_X6_levelBySeconds
  intro p e s m args below meth c Qa ⟨hx, hb, hml, hown, hts, hr, hlocks, hK, hN⟩
  refine ruL_c (n := 0) (n2 := 1) rfl (ru_aload_n (k := 0) hx hb dX6_levelBySeconds_0) ?_
  refine ruL_c (n := 1) (n2 := 2) rfl (ru_iload_n (k := 1) hx hb dX6_levelBySeconds_1) ?_
  refine ruL_c (n := 2) (n2 := 3) rfl (ru_iload_n (k := 2) hx hb dX6_levelBySeconds_2) ?_
  refine ruL_c (n := 3) (n2 := 4) rfl (ru_callV hx hb hml hown hts hK hN (by decide) rfl (c_X6_levelNow l D cI cZ cA cL ad hi) (cwV 2 hts gX6_levelBySeconds_X6_levelNow rfl rfl rfl (by decide +kernel) ⟨Nat.le_of_ble_eq_true rfl, Nat.le_of_ble_eq_true rfl⟩) dX6_levelBySeconds_3 ⟨Nat.zero_le _, Nat.zero_le _⟩) ?_
  refine ruL_c (n := 4) (n2 := 5) rfl (ru_bot) ?_
  refine ruL_c (n := 5) (n2 := 6) rfl (ru_bot) ?_
  refine ruL_c (n := 6) (n2 := 7) rfl (ru_iret hx hb hK hr hlocks dX6_levelBySeconds_6) ?_
  exact trivial

