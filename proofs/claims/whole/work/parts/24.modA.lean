-- CueTourModel.thrown
def f_X6_thrown (σ : aM) : Option (Int32 × aM) := some (σ 6 0, σ)
def F_X6_thrown : aF := fun As σ => match As with
  | [] => f_X6_thrown σ
  | _ => none
def T_X6_thrown (Qa : Int32 → aM → Prop) : List aI := [I_aload 0 1, I_getI 6 0, I_bot, I_bot, I_iret Qa]
set_option maxHeartbeats 4000000 in
set_option maxRecDepth 100000 in
theorem s_X6_thrown : runs T_X6_thrown [.ref 6] 1 F_X6_thrown := by
  intro Qa K hw hf As σ r σ' h hQ
  unfold F_X6_thrown at h
  split at h
  · unfold f_X6_thrown at h
    have hQ : Qa (r, σ').1 (r, σ').2 := hQ
    generalize (r, σ') = y at h hQ
    show K (0, [.ref 6], [], σ)
    obtain rfl := Option.some.inj h
    refine hw 3 _ ?_
    show Qa (σ 6 0) σ
    refine hQ
  · cases h
theorem h_X6_thrown : shp [.ref 6] 1 F_X6_thrown := by
  intro As σ r σ' h
  unfold F_X6_thrown at h
  split at h
  · exact ⟨by simp [Value.category], Nat.le_of_ble_eq_true rfl⟩
  · cases h
set_option maxHeartbeats 4000000 in
set_option maxRecDepth 100000 in
theorem c_X6_thrown (l : Launch) (D : va_G) (cI cZ cA cL : ClassId) (ad : Nat → Nat) (hi : adI ad) : CtI l yX6_thrown wsX6_thrown { frames := 0, cells := 0, slots := 0, locals := 0 } D cI cZ cA cL ad [.ref 6] F_X6_thrown := by
  refine mk_I [.ref 6] F_X6_thrown T_X6_thrown (by decide +kernel) rfl ?_ h_X6_thrown s_X6_thrown
  intro p e s m args below meth c Qa ⟨hx, hb, hml, hown, hts, hr, hlocks, hK, hN⟩
  have hin6 : ∀ w ∈ u_ws RX6 TX6 30, w ∈ wsX6_thrown := by decide +kernel
  have hl83 : (Cond.fieldLink RX6 83 RX6 (TX6 0).2.1 (TX6 0).2.2.1) ∈ wsX6_thrown := by decide +kernel
  refine ruL_c (n := 0) (n2 := 1) rfl (ru_aload_n (k := 0) hx hb dX6_thrown_0) ?_
  refine ruL_c (n := 1) (n2 := 2) rfl (ru_getI (own := RX6) (j := 0) (T := TX6) hx hb hown hK hts hin6 (by decide) rfl rfl (by decide) rfl hl83 dX6_thrown_1) ?_
  refine ruL_c (n := 2) (n2 := 3) rfl (ru_bot) ?_
  refine ruL_c (n := 3) (n2 := 4) rfl (ru_bot) ?_
  refine ruL_c (n := 4) (n2 := 5) rfl (ru_iret hx hb hK hr hlocks dX6_thrown_4) ?_
  exact trivial

-- CueTourModel.isFine
def f_X6_isFine (p0 : Int32) (σ : aM) : Option (Int32 × aM) := if ¬ p0 = 0 then some (0, mput σ 6 0 p0) else some (1, mput σ 6 0 p0)
def F_X6_isFine : aF := fun As σ => match As with
  | [.int p0] => f_X6_isFine p0 σ
  | _ => none
def T_X6_isFine (Qa : Int32 → aM → Prop) : List aI := [I_aload 0 1, I_iload 1 1, I_putI 6 0, I_bot, I_bot, I_iload 1 1, I_if (fun x => ¬ x = 0) 13, I_bot, I_bot, I_const 1 1, I_goto 14, I_bot, I_bot, I_const 0 1, I_zret Qa]
set_option maxHeartbeats 4000000 in
set_option maxRecDepth 100000 in
theorem s_X6_isFine : runs T_X6_isFine [.ref 6] 2 F_X6_isFine := by
  intro Qa K hw hf As σ r σ' h hQ
  unfold F_X6_isFine at h
  split at h
  · rename_i p0
    unfold f_X6_isFine at h
    have hQ : Qa (r, σ').1 (r, σ').2 := hQ
    generalize (r, σ') = y at h hQ
    show K (0, [.ref 6, .int p0], [], σ)
    rcases ite_cases h with ⟨c1, h⟩ | ⟨c1, h⟩
    · refine hw 5 _ ?_
      show ((¬ p0 = 0) → K (13, [.ref 6, .int p0], [], mput σ 6 0 p0)) ∧ (¬ (¬ p0 = 0) → K (9, [.ref 6, .int p0], [], mput σ 6 0 p0))
      refine ⟨fun _ => ?_, fun q => absurd c1 q⟩
      obtain rfl := Option.some.inj h
      refine hw 2 _ ?_
      show (0 = (0:Int32) ∨ 0 = (1:Int32)) ∧ (Qa 0 (mput σ 6 0 p0))
      refine ⟨Or.inl rfl, hQ⟩
    · refine hw 5 _ ?_
      show ((¬ p0 = 0) → K (13, [.ref 6, .int p0], [], mput σ 6 0 p0)) ∧ (¬ (¬ p0 = 0) → K (9, [.ref 6, .int p0], [], mput σ 6 0 p0))
      refine ⟨fun q => absurd q c1, fun _ => ?_⟩
      obtain rfl := Option.some.inj h
      refine hw 3 _ ?_
      show (1 = (0:Int32) ∨ 1 = (1:Int32)) ∧ (Qa 1 (mput σ 6 0 p0))
      refine ⟨Or.inr rfl, hQ⟩
  · cases h
theorem h_X6_isFine : shp [.ref 6] 2 F_X6_isFine := by
  intro As σ r σ' h
  unfold F_X6_isFine at h
  split at h
  · exact ⟨by simp [Value.category], Nat.le_of_ble_eq_true rfl⟩
  · cases h
set_option maxHeartbeats 4000000 in
set_option maxRecDepth 100000 in
theorem c_X6_isFine (l : Launch) (D : va_G) (cI cZ cA cL : ClassId) (ad : Nat → Nat) (hi : adI ad) : CtI l yX6_isFine wsX6_isFine { frames := 0, cells := 0, slots := 0, locals := 0 } D cI cZ cA cL ad [.ref 6] F_X6_isFine := by
  refine mk_I [.ref 6] F_X6_isFine T_X6_isFine (by decide +kernel) rfl ?_ h_X6_isFine s_X6_isFine
  intro p e s m args below meth c Qa ⟨hx, hb, hml, hown, hts, hr, hlocks, hK, hN⟩
  have hin6 : ∀ w ∈ u_ws RX6 TX6 30, w ∈ wsX6_isFine := by decide +kernel
  have hl83 : (Cond.fieldLink RX6 83 RX6 (TX6 0).2.1 (TX6 0).2.2.1) ∈ wsX6_isFine := by decide +kernel
  refine ruL_c (n := 0) (n2 := 1) rfl (ru_aload_n (k := 0) hx hb dX6_isFine_0) ?_
  refine ruL_c (n := 1) (n2 := 2) rfl (ru_iload_n (k := 1) hx hb dX6_isFine_1) ?_
  refine ruL_c (n := 2) (n2 := 3) rfl (ru_putI (own := RX6) (j := 0) (T := TX6) hx hb hown hK hi hts hin6 tyX6 tyX6_ok nmX6 (by decide) rfl rfl (by decide) rfl hl83 rfl (by decide +kernel) dX6_isFine_2) ?_
  refine ruL_c (n := 3) (n2 := 4) rfl (ru_bot) ?_
  refine ruL_c (n := 4) (n2 := 5) rfl (ru_bot) ?_
  refine ruL_c (n := 5) (n2 := 6) rfl (ru_iload_n (k := 1) hx hb dX6_isFine_5) ?_
  refine ruL_c (n := 6) (n2 := 7) rfl (ru_ifne hx hb dX6_isFine_6 (by decide)) ?_
  refine ruL_c (n := 7) (n2 := 8) rfl (ru_bot) ?_
  refine ruL_c (n := 8) (n2 := 9) rfl (ru_bot) ?_
  refine ruL_c (n := 9) (n2 := 10) rfl (ru_iconst hx hb dX6_isFine_9 rfl) ?_
  refine ruL_c (n := 10) (n2 := 11) rfl (ru_goto hx hb dX6_isFine_10 (by decide)) ?_
  refine ruL_c (n := 11) (n2 := 12) rfl (ru_bot) ?_
  refine ruL_c (n := 12) (n2 := 13) rfl (ru_bot) ?_
  refine ruL_c (n := 13) (n2 := 14) rfl (ru_iconst hx hb dX6_isFine_13 rfl) ?_
  refine ruL_c (n := 14) (n2 := 15) rfl (ru_zret hx hb hK hr hlocks dX6_isFine_14) ?_
  exact trivial

-- CueTourModel.isIn
def f_X6_isIn (p0 : Int32) (p1 : Int32) (p2 : Int32) (σ : aM) : Option (Int32 × aM) := if p0 < p1 then some (0, σ) else if p2 < p0 then some (0, σ) else some (1, σ)
def F_X6_isIn : aF := fun As σ => match As with
  | [.int p0, .int p1, .int p2] => f_X6_isIn p0 p1 p2 σ
  | _ => none
def T_X6_isIn (Qa : Int32 → aM → Prop) : List aI := [I_iload 0 1, I_iload 1 1, I_icmp (fun x y => x < y) 14, I_bot, I_bot, I_iload 0 1, I_iload 2 1, I_icmp (fun x y => y < x) 14, I_bot, I_bot, I_const 1 1, I_goto 15, I_bot, I_bot, I_const 0 1, I_zret Qa]
set_option maxHeartbeats 4000000 in
set_option maxRecDepth 100000 in
theorem s_X6_isIn : runs T_X6_isIn [] 3 F_X6_isIn := by
  intro Qa K hw hf As σ r σ' h hQ
  unfold F_X6_isIn at h
  split at h
  · rename_i p0 p1 p2
    unfold f_X6_isIn at h
    have hQ : Qa (r, σ').1 (r, σ').2 := hQ
    generalize (r, σ') = y at h hQ
    show K (0, [.int p0, .int p1, .int p2], [], σ)
    rcases ite_cases h with ⟨c1, h⟩ | ⟨c1, h⟩
    · refine hw 3 _ ?_
      show ((p0 < p1) → K (14, [.int p0, .int p1, .int p2], [], σ)) ∧ (¬ (p0 < p1) → K (5, [.int p0, .int p1, .int p2], [], σ))
      refine ⟨fun _ => ?_, fun q => absurd c1 q⟩
      obtain rfl := Option.some.inj h
      refine hw 2 _ ?_
      show (0 = (0:Int32) ∨ 0 = (1:Int32)) ∧ (Qa 0 σ)
      refine ⟨Or.inl rfl, hQ⟩
    · refine hw 3 _ ?_
      show ((p0 < p1) → K (14, [.int p0, .int p1, .int p2], [], σ)) ∧ (¬ (p0 < p1) → K (5, [.int p0, .int p1, .int p2], [], σ))
      refine ⟨fun q => absurd q c1, fun _ => ?_⟩
      rcases ite_cases h with ⟨c2, h⟩ | ⟨c2, h⟩
      · refine hw 3 _ ?_
        show ((p2 < p0) → K (14, [.int p0, .int p1, .int p2], [], σ)) ∧ (¬ (p2 < p0) → K (10, [.int p0, .int p1, .int p2], [], σ))
        refine ⟨fun _ => ?_, fun q => absurd c2 q⟩
        obtain rfl := Option.some.inj h
        refine hw 2 _ ?_
        show (0 = (0:Int32) ∨ 0 = (1:Int32)) ∧ (Qa 0 σ)
        refine ⟨Or.inl rfl, hQ⟩
      · refine hw 3 _ ?_
        show ((p2 < p0) → K (14, [.int p0, .int p1, .int p2], [], σ)) ∧ (¬ (p2 < p0) → K (10, [.int p0, .int p1, .int p2], [], σ))
        refine ⟨fun q => absurd q c2, fun _ => ?_⟩
        obtain rfl := Option.some.inj h
        refine hw 3 _ ?_
        show (1 = (0:Int32) ∨ 1 = (1:Int32)) ∧ (Qa 1 σ)
        refine ⟨Or.inr rfl, hQ⟩
  · cases h
theorem h_X6_isIn : shp [] 3 F_X6_isIn := by
  intro As σ r σ' h
  unfold F_X6_isIn at h
  split at h
  · exact ⟨by simp [Value.category], Nat.le_of_ble_eq_true rfl⟩
  · cases h
set_option maxHeartbeats 4000000 in
set_option maxRecDepth 100000 in
theorem c_X6_isIn (l : Launch) (D : va_G) (cI cZ cA cL : ClassId) (ad : Nat → Nat) (hi : adI ad) : CtI l yX6_isIn wsX6_isIn { frames := 0, cells := 0, slots := 0, locals := 0 } D cI cZ cA cL ad [] F_X6_isIn := by
  refine mk_I [] F_X6_isIn T_X6_isIn (by decide +kernel) rfl ?_ h_X6_isIn s_X6_isIn
  intro p e s m args below meth c Qa ⟨hx, hb, hml, hown, hts, hr, hlocks, hK, hN⟩
  refine ruL_c (n := 0) (n2 := 1) rfl (ru_iload_n (k := 0) hx hb dX6_isIn_0) ?_
  refine ruL_c (n := 1) (n2 := 2) rfl (ru_iload_n (k := 1) hx hb dX6_isIn_1) ?_
  refine ruL_c (n := 2) (n2 := 3) rfl (ru_icmplt hx hb dX6_isIn_2 (by decide)) ?_
  refine ruL_c (n := 3) (n2 := 4) rfl (ru_bot) ?_
  refine ruL_c (n := 4) (n2 := 5) rfl (ru_bot) ?_
  refine ruL_c (n := 5) (n2 := 6) rfl (ru_iload_n (k := 0) hx hb dX6_isIn_5) ?_
  refine ruL_c (n := 6) (n2 := 7) rfl (ru_iload_n (k := 2) hx hb dX6_isIn_6) ?_
  refine ruL_c (n := 7) (n2 := 8) rfl (ru_icmpgt hx hb dX6_isIn_7 (by decide)) ?_
  refine ruL_c (n := 8) (n2 := 9) rfl (ru_bot) ?_
  refine ruL_c (n := 9) (n2 := 10) rfl (ru_bot) ?_
  refine ruL_c (n := 10) (n2 := 11) rfl (ru_iconst hx hb dX6_isIn_10 rfl) ?_
  refine ruL_c (n := 11) (n2 := 12) rfl (ru_goto hx hb dX6_isIn_11 (by decide)) ?_
  refine ruL_c (n := 12) (n2 := 13) rfl (ru_bot) ?_
  refine ruL_c (n := 13) (n2 := 14) rfl (ru_bot) ?_
  refine ruL_c (n := 14) (n2 := 15) rfl (ru_iconst hx hb dX6_isIn_14 rfl) ?_
  refine ruL_c (n := 15) (n2 := 16) rfl (ru_zret hx hb hK hr hlocks dX6_isIn_15) ?_
  exact trivial

-- CueTourModel.isLine
def f_X6_isLine (p0 : Int32) (σ : aM) : Option (Int32 × aM) := bnd (f_X6_isIn p0 0 ((σ 6 4) - 1) σ) (fun r1 σ2 => if r1 = 0 ∨ r1 = 1 then some (r1, σ2) else none)
def F_X6_isLine : aF := fun As σ => match As with
  | [.int p0] => f_X6_isLine p0 σ
  | _ => none
def T_X6_isLine (Qa : Int32 → aM → Prop) : List aI := [I_iload 1 1, I_const 0 1, I_aload 0 1, I_getI 6 4, I_bot, I_bot, I_const 1 1, I_bin fun x y => x - y, I_callS 3 F_X6_isIn, I_bot, I_bot, I_zret Qa]
set_option maxHeartbeats 4000000 in
set_option maxRecDepth 100000 in
theorem s_X6_isLine : runs T_X6_isLine [.ref 6] 2 F_X6_isLine := by
  intro Qa K hw hf As σ r σ' h hQ
  unfold F_X6_isLine at h
  split at h
  · rename_i p0
    unfold f_X6_isLine at h
    have hQ : Qa (r, σ').1 (r, σ').2 := hQ
    generalize (r, σ') = y at h hQ
    show K (0, [.ref 6, .int p0], [], σ)
    obtain ⟨r1, σ2, e3, h⟩ := bnd_some h
    refine hw 7 _ ?_
    show ∃ r1 σ2, f_X6_isIn p0 0 ((σ 6 4) - 1) σ = some (r1, σ2) ∧ K (11, [.ref 6, .int p0], [.int r1], σ2)
    refine ⟨r1, σ2, e3, ?_⟩
    obtain ⟨g4, h⟩ := ite_some h
    obtain rfl := Option.some.inj h
    refine hw 1 _ ?_
    show (r1 = 0 ∨ r1 = 1) ∧ (Qa r1 σ2)
    refine ⟨g4, hQ⟩
  · cases h
theorem h_X6_isLine : shp [.ref 6] 2 F_X6_isLine := by
  intro As σ r σ' h
  unfold F_X6_isLine at h
  split at h
  · exact ⟨by simp [Value.category], Nat.le_of_ble_eq_true rfl⟩
  · cases h
set_option maxHeartbeats 4000000 in
set_option maxRecDepth 100000 in
theorem c_X6_isLine (l : Launch) (D : va_G) (cI cZ cA cL : ClassId) (ad : Nat → Nat) (hi : adI ad) : CtI l yX6_isLine wsX6_isLine { frames := 1, cells := 0, slots := 0, locals := 22 } D cI cZ cA cL ad [.ref 6] F_X6_isLine := by
  refine mk_I [.ref 6] F_X6_isLine T_X6_isLine (by decide +kernel) rfl ?_ h_X6_isLine s_X6_isLine
  intro p e s m args below meth c Qa ⟨hx, hb, hml, hown, hts, hr, hlocks, hK, hN⟩
  have hin6 : ∀ w ∈ u_ws RX6 TX6 30, w ∈ wsX6_isLine := by decide +kernel
  have hl87 : (Cond.fieldLink RX6 87 RX6 (TX6 4).2.1 (TX6 4).2.2.1) ∈ wsX6_isLine := by decide +kernel
  refine ruL_c (n := 0) (n2 := 1) rfl (ru_iload_n (k := 1) hx hb dX6_isLine_0) ?_
  refine ruL_c (n := 1) (n2 := 2) rfl (ru_iconst hx hb dX6_isLine_1 rfl) ?_
  refine ruL_c (n := 2) (n2 := 3) rfl (ru_aload_n (k := 0) hx hb dX6_isLine_2) ?_
  refine ruL_c (n := 3) (n2 := 4) rfl (ru_getI (own := RX6) (j := 4) (T := TX6) hx hb hown hK hts hin6 (by decide) rfl rfl (by decide) rfl hl87 dX6_isLine_3) ?_
  refine ruL_c (n := 4) (n2 := 5) rfl (ru_bot) ?_
  refine ruL_c (n := 5) (n2 := 6) rfl (ru_bot) ?_
  refine ruL_c (n := 6) (n2 := 7) rfl (ru_iconst hx hb dX6_isLine_6 rfl) ?_
  refine ruL_c (n := 7) (n2 := 8) rfl (ru_isub hx hb dX6_isLine_7) ?_
  refine ruL_c (n := 8) (n2 := 9) rfl (ru_callS hx hb hml hown hts hK hN (c_X6_isIn l D cI cZ cA cL ad hi) (va_cwS 3 hts gX6_isLine_X6_isIn rfl rfl rfl (by decide +kernel) ⟨Nat.le_of_ble_eq_true rfl, Nat.le_of_ble_eq_true rfl⟩) dX6_isLine_8 ⟨Nat.zero_le _, Nat.zero_le _⟩) ?_
  refine ruL_c (n := 9) (n2 := 10) rfl (ru_bot) ?_
  refine ruL_c (n := 10) (n2 := 11) rfl (ru_bot) ?_
  refine ruL_c (n := 11) (n2 := 12) rfl (ru_zret hx hb hK hr hlocks dX6_isLine_11) ?_
  exact trivial

-- CueTourModel.isArea
def f_X6_isArea (p0 : Int32) (σ : aM) : Option (Int32 × aM) := bnd (f_X6_isIn p0 0 3 σ) (fun r1 σ2 => if r1 = 0 ∨ r1 = 1 then some (r1, σ2) else none)
def F_X6_isArea : aF := fun As σ => match As with
  | [.int p0] => f_X6_isArea p0 σ
  | _ => none
def T_X6_isArea (Qa : Int32 → aM → Prop) : List aI := [I_iload 0 1, I_const 0 1, I_const 3 1, I_callS 3 F_X6_isIn, I_bot, I_bot, I_zret Qa]
set_option maxHeartbeats 4000000 in
set_option maxRecDepth 100000 in
theorem s_X6_isArea : runs T_X6_isArea [] 1 F_X6_isArea := by
  intro Qa K hw hf As σ r σ' h hQ
  unfold F_X6_isArea at h
  split at h
  · rename_i p0
    unfold f_X6_isArea at h
    have hQ : Qa (r, σ').1 (r, σ').2 := hQ
    generalize (r, σ') = y at h hQ
    show K (0, [.int p0], [], σ)
    obtain ⟨r1, σ2, e3, h⟩ := bnd_some h
    refine hw 4 _ ?_
    show ∃ r1 σ2, f_X6_isIn p0 0 3 σ = some (r1, σ2) ∧ K (6, [.int p0], [.int r1], σ2)
    refine ⟨r1, σ2, e3, ?_⟩
    obtain ⟨g4, h⟩ := ite_some h
    obtain rfl := Option.some.inj h
    refine hw 1 _ ?_
    show (r1 = 0 ∨ r1 = 1) ∧ (Qa r1 σ2)
    refine ⟨g4, hQ⟩
  · cases h
theorem h_X6_isArea : shp [] 1 F_X6_isArea := by
  intro As σ r σ' h
  unfold F_X6_isArea at h
  split at h
  · exact ⟨by simp [Value.category], Nat.le_of_ble_eq_true rfl⟩
  · cases h
set_option maxHeartbeats 4000000 in
set_option maxRecDepth 100000 in
theorem c_X6_isArea (l : Launch) (D : va_G) (cI cZ cA cL : ClassId) (ad : Nat → Nat) (hi : adI ad) : CtI l yX6_isArea wsX6_isArea { frames := 1, cells := 0, slots := 0, locals := 22 } D cI cZ cA cL ad [] F_X6_isArea := by
  refine mk_I [] F_X6_isArea T_X6_isArea (by decide +kernel) rfl ?_ h_X6_isArea s_X6_isArea
  intro p e s m args below meth c Qa ⟨hx, hb, hml, hown, hts, hr, hlocks, hK, hN⟩
  refine ruL_c (n := 0) (n2 := 1) rfl (ru_iload_n (k := 0) hx hb dX6_isArea_0) ?_
  refine ruL_c (n := 1) (n2 := 2) rfl (ru_iconst hx hb dX6_isArea_1 rfl) ?_
  refine ruL_c (n := 2) (n2 := 3) rfl (ru_iconst hx hb dX6_isArea_2 rfl) ?_
  refine ruL_c (n := 3) (n2 := 4) rfl (ru_callS hx hb hml hown hts hK hN (c_X6_isIn l D cI cZ cA cL ad hi) (va_cwS 3 hts gX6_isArea_X6_isIn rfl rfl rfl (by decide +kernel) ⟨Nat.le_of_ble_eq_true rfl, Nat.le_of_ble_eq_true rfl⟩) dX6_isArea_3 ⟨Nat.zero_le _, Nat.zero_le _⟩) ?_
  refine ruL_c (n := 4) (n2 := 5) rfl (ru_bot) ?_
  refine ruL_c (n := 5) (n2 := 6) rfl (ru_bot) ?_
  refine ruL_c (n := 6) (n2 := 7) rfl (ru_zret hx hb hK hr hlocks dX6_isArea_6) ?_
  exact trivial

-- CueTourModel.isChannel
def f_X6_isChannel (p0 : Int32) (σ : aM) : Option (Int32 × aM) := bnd (f_X6_isIn p0 0 9 σ) (fun r1 σ2 => if r1 = 0 ∨ r1 = 1 then some (r1, σ2) else none)
def F_X6_isChannel : aF := fun As σ => match As with
  | [.int p0] => f_X6_isChannel p0 σ
  | _ => none
def T_X6_isChannel (Qa : Int32 → aM → Prop) : List aI := [I_iload 0 1, I_const 0 1, I_const (9) 2, I_bot, I_callS 3 F_X6_isIn, I_bot, I_bot, I_zret Qa]
set_option maxHeartbeats 4000000 in
set_option maxRecDepth 100000 in
theorem s_X6_isChannel : runs T_X6_isChannel [] 1 F_X6_isChannel := by
  intro Qa K hw hf As σ r σ' h hQ
  unfold F_X6_isChannel at h
  split at h
  · rename_i p0
    unfold f_X6_isChannel at h
    have hQ : Qa (r, σ').1 (r, σ').2 := hQ
    generalize (r, σ') = y at h hQ
    show K (0, [.int p0], [], σ)
    obtain ⟨r1, σ2, e3, h⟩ := bnd_some h
    refine hw 4 _ ?_
    show ∃ r1 σ2, f_X6_isIn p0 0 9 σ = some (r1, σ2) ∧ K (7, [.int p0], [.int r1], σ2)
    refine ⟨r1, σ2, e3, ?_⟩
    obtain ⟨g4, h⟩ := ite_some h
    obtain rfl := Option.some.inj h
    refine hw 1 _ ?_
    show (r1 = 0 ∨ r1 = 1) ∧ (Qa r1 σ2)
    refine ⟨g4, hQ⟩
  · cases h
theorem h_X6_isChannel : shp [] 1 F_X6_isChannel := by
  intro As σ r σ' h
  unfold F_X6_isChannel at h
  split at h
  · exact ⟨by simp [Value.category], Nat.le_of_ble_eq_true rfl⟩
  · cases h
set_option maxHeartbeats 4000000 in
set_option maxRecDepth 100000 in
theorem c_X6_isChannel (l : Launch) (D : va_G) (cI cZ cA cL : ClassId) (ad : Nat → Nat) (hi : adI ad) : CtI l yX6_isChannel wsX6_isChannel { frames := 1, cells := 0, slots := 0, locals := 22 } D cI cZ cA cL ad [] F_X6_isChannel := by
  refine mk_I [] F_X6_isChannel T_X6_isChannel (by decide +kernel) rfl ?_ h_X6_isChannel s_X6_isChannel
  intro p e s m args below meth c Qa ⟨hx, hb, hml, hown, hts, hr, hlocks, hK, hN⟩
  refine ruL_c (n := 0) (n2 := 1) rfl (ru_iload_n (k := 0) hx hb dX6_isChannel_0) ?_
  refine ruL_c (n := 1) (n2 := 2) rfl (ru_iconst hx hb dX6_isChannel_1 rfl) ?_
  refine ruL_c (n := 2) (n2 := 3) rfl (ru_bipush hx hb dX6_isChannel_2 rfl) ?_
  refine ruL_c (n := 3) (n2 := 4) rfl (ru_bot) ?_
  refine ruL_c (n := 4) (n2 := 5) rfl (ru_callS hx hb hml hown hts hK hN (c_X6_isIn l D cI cZ cA cL ad hi) (va_cwS 3 hts gX6_isChannel_X6_isIn rfl rfl rfl (by decide +kernel) ⟨Nat.le_of_ble_eq_true rfl, Nat.le_of_ble_eq_true rfl⟩) dX6_isChannel_4 ⟨Nat.zero_le _, Nat.zero_le _⟩) ?_
  refine ruL_c (n := 5) (n2 := 6) rfl (ru_bot) ?_
  refine ruL_c (n := 6) (n2 := 7) rfl (ru_bot) ?_
  refine ruL_c (n := 7) (n2 := 8) rfl (ru_zret hx hb hK hr hlocks dX6_isChannel_7) ?_
  exact trivial

-- CueTourModel.isStage
def f_X6_isStage (p0 : Int32) (σ : aM) : Option (Int32 × aM) := bnd (f_X6_isIn p0 0 3 σ) (fun r1 σ2 => if r1 = 0 ∨ r1 = 1 then some (r1, σ2) else none)
def F_X6_isStage : aF := fun As σ => match As with
  | [.int p0] => f_X6_isStage p0 σ
  | _ => none
def T_X6_isStage (Qa : Int32 → aM → Prop) : List aI := [I_iload 0 1, I_const 0 1, I_const 3 1, I_callS 3 F_X6_isIn, I_bot, I_bot, I_zret Qa]
set_option maxHeartbeats 4000000 in
set_option maxRecDepth 100000 in
theorem s_X6_isStage : runs T_X6_isStage [] 1 F_X6_isStage := by
  intro Qa K hw hf As σ r σ' h hQ
  unfold F_X6_isStage at h
  split at h
  · rename_i p0
    unfold f_X6_isStage at h
    have hQ : Qa (r, σ').1 (r, σ').2 := hQ
    generalize (r, σ') = y at h hQ
    show K (0, [.int p0], [], σ)
    obtain ⟨r1, σ2, e3, h⟩ := bnd_some h
    refine hw 4 _ ?_
    show ∃ r1 σ2, f_X6_isIn p0 0 3 σ = some (r1, σ2) ∧ K (6, [.int p0], [.int r1], σ2)
    refine ⟨r1, σ2, e3, ?_⟩
    obtain ⟨g4, h⟩ := ite_some h
    obtain rfl := Option.some.inj h
    refine hw 1 _ ?_
    show (r1 = 0 ∨ r1 = 1) ∧ (Qa r1 σ2)
    refine ⟨g4, hQ⟩
  · cases h
theorem h_X6_isStage : shp [] 1 F_X6_isStage := by
  intro As σ r σ' h
  unfold F_X6_isStage at h
  split at h
  · exact ⟨by simp [Value.category], Nat.le_of_ble_eq_true rfl⟩
  · cases h
set_option maxHeartbeats 4000000 in
set_option maxRecDepth 100000 in
theorem c_X6_isStage (l : Launch) (D : va_G) (cI cZ cA cL : ClassId) (ad : Nat → Nat) (hi : adI ad) : CtI l yX6_isStage wsX6_isStage { frames := 1, cells := 0, slots := 0, locals := 22 } D cI cZ cA cL ad [] F_X6_isStage := by
  refine mk_I [] F_X6_isStage T_X6_isStage (by decide +kernel) rfl ?_ h_X6_isStage s_X6_isStage
  intro p e s m args below meth c Qa ⟨hx, hb, hml, hown, hts, hr, hlocks, hK, hN⟩
  refine ruL_c (n := 0) (n2 := 1) rfl (ru_iload_n (k := 0) hx hb dX6_isStage_0) ?_
  refine ruL_c (n := 1) (n2 := 2) rfl (ru_iconst hx hb dX6_isStage_1 rfl) ?_
  refine ruL_c (n := 2) (n2 := 3) rfl (ru_iconst hx hb dX6_isStage_2 rfl) ?_
  refine ruL_c (n := 3) (n2 := 4) rfl (ru_callS hx hb hml hown hts hK hN (c_X6_isIn l D cI cZ cA cL ad hi) (va_cwS 3 hts gX6_isStage_X6_isIn rfl rfl rfl (by decide +kernel) ⟨Nat.le_of_ble_eq_true rfl, Nat.le_of_ble_eq_true rfl⟩) dX6_isStage_3 ⟨Nat.zero_le _, Nat.zero_le _⟩) ?_
  refine ruL_c (n := 4) (n2 := 5) rfl (ru_bot) ?_
  refine ruL_c (n := 5) (n2 := 6) rfl (ru_bot) ?_
  refine ruL_c (n := 6) (n2 := 7) rfl (ru_zret hx hb hK hr hlocks dX6_isStage_6) ?_
  exact trivial

-- CueTourModel.isTime
def f_X6_isTime (p0 : Int32) (σ : aM) : Option (Int32 × aM) := bnd (f_X6_isIn p0 0 2000 σ) (fun r1 σ2 => if r1 = 0 ∨ r1 = 1 then some (r1, σ2) else none)
def F_X6_isTime : aF := fun As σ => match As with
  | [.int p0] => f_X6_isTime p0 σ
  | _ => none
def T_X6_isTime (Qa : Int32 → aM → Prop) : List aI := [I_iload 0 1, I_const 0 1, I_const (2000) 3, I_bot, I_bot, I_callS 3 F_X6_isIn, I_bot, I_bot, I_zret Qa]
set_option maxHeartbeats 4000000 in
set_option maxRecDepth 100000 in
theorem s_X6_isTime : runs T_X6_isTime [] 1 F_X6_isTime := by
  intro Qa K hw hf As σ r σ' h hQ
  unfold F_X6_isTime at h
  split at h
  · rename_i p0
    unfold f_X6_isTime at h
    have hQ : Qa (r, σ').1 (r, σ').2 := hQ
    generalize (r, σ') = y at h hQ
    show K (0, [.int p0], [], σ)
    obtain ⟨r1, σ2, e3, h⟩ := bnd_some h
    refine hw 4 _ ?_
    show ∃ r1 σ2, f_X6_isIn p0 0 2000 σ = some (r1, σ2) ∧ K (8, [.int p0], [.int r1], σ2)
    refine ⟨r1, σ2, e3, ?_⟩
    obtain ⟨g4, h⟩ := ite_some h
    obtain rfl := Option.some.inj h
    refine hw 1 _ ?_
    show (r1 = 0 ∨ r1 = 1) ∧ (Qa r1 σ2)
    refine ⟨g4, hQ⟩
  · cases h
theorem h_X6_isTime : shp [] 1 F_X6_isTime := by
  intro As σ r σ' h
  unfold F_X6_isTime at h
  split at h
  · exact ⟨by simp [Value.category], Nat.le_of_ble_eq_true rfl⟩
  · cases h
set_option maxHeartbeats 4000000 in
set_option maxRecDepth 100000 in
theorem c_X6_isTime (l : Launch) (D : va_G) (cI cZ cA cL : ClassId) (ad : Nat → Nat) (hi : adI ad) : CtI l yX6_isTime wsX6_isTime { frames := 1, cells := 0, slots := 0, locals := 22 } D cI cZ cA cL ad [] F_X6_isTime := by
  refine mk_I [] F_X6_isTime T_X6_isTime (by decide +kernel) rfl ?_ h_X6_isTime s_X6_isTime
  intro p e s m args below meth c Qa ⟨hx, hb, hml, hown, hts, hr, hlocks, hK, hN⟩
  refine ruL_c (n := 0) (n2 := 1) rfl (ru_iload_n (k := 0) hx hb dX6_isTime_0) ?_
  refine ruL_c (n := 1) (n2 := 2) rfl (ru_iconst hx hb dX6_isTime_1 rfl) ?_
  refine ruL_c (n := 2) (n2 := 3) rfl (ru_sipush hx hb dX6_isTime_2 rfl) ?_
  refine ruL_c (n := 3) (n2 := 4) rfl (ru_bot) ?_
  refine ruL_c (n := 4) (n2 := 5) rfl (ru_bot) ?_
  refine ruL_c (n := 5) (n2 := 6) rfl (ru_callS hx hb hml hown hts hK hN (c_X6_isIn l D cI cZ cA cL ad hi) (va_cwS 3 hts gX6_isTime_X6_isIn rfl rfl rfl (by decide +kernel) ⟨Nat.le_of_ble_eq_true rfl, Nat.le_of_ble_eq_true rfl⟩) dX6_isTime_5 ⟨Nat.zero_le _, Nat.zero_le _⟩) ?_
  refine ruL_c (n := 6) (n2 := 7) rfl (ru_bot) ?_
  refine ruL_c (n := 7) (n2 := 8) rfl (ru_bot) ?_
  refine ruL_c (n := 8) (n2 := 9) rfl (ru_zret hx hb hK hr hlocks dX6_isTime_8) ?_
  exact trivial

-- CueTourModel.addLine
def f_X6_addLine (p0 : Int32) (σ : aM) : Option (Int32 × aM) := bnd (f_X6_isIn p0 1 30 σ) (fun r1 σ2 => if ¬ r1 = 0 then if ¬ (σ2 6 4) = 30 then bnd (f_X6_isFine 0 σ2) (fun r6 σ7 => if ¬ r6 = 0 then if inb (σ7 6 4) 30 = true then some (((σ7 6 4) + 1) - 1, mput (mput σ7 29 (ix (σ7 6 4)) p0) 6 4 ((σ7 6 4) + 1)) else none else some (0, σ7)) else bnd (f_X6_isFine 2 σ2) (fun r11 σ12 => if ¬ r11 = 0 then if inb (σ12 6 4) 30 = true then some (((σ12 6 4) + 1) - 1, mput (mput σ12 29 (ix (σ12 6 4)) p0) 6 4 ((σ12 6 4) + 1)) else none else some (0, σ12)) else bnd (f_X6_isFine 1 σ2) (fun r16 σ17 => if ¬ r16 = 0 then if inb (σ17 6 4) 30 = true then some (((σ17 6 4) + 1) - 1, mput (mput σ17 29 (ix (σ17 6 4)) p0) 6 4 ((σ17 6 4) + 1)) else none else some (0, σ17)))
def F_X6_addLine : aF := fun As σ => match As with
  | [.int p0] => f_X6_addLine p0 σ
  | _ => none
def T_X6_addLine (Qa : Int32 → aM → Prop) : List aI := [I_aload 0 1, I_iload 1 1, I_const 1 1, I_const (30) 2, I_bot, I_callS 3 F_X6_isIn, I_bot, I_bot, I_if (fun x => ¬ x = 0) 15, I_bot, I_bot, I_const 1 1, I_goto 29, I_bot, I_bot, I_aload 0 1, I_getI 6 4, I_bot, I_bot, I_const (30) 2, I_bot, I_icmp (fun x y => ¬ x = y) 28, I_bot, I_bot, I_const 2 1, I_goto 29, I_bot, I_bot, I_const 0 1, I_callV 6 1 F_X6_isFine, I_bot, I_bot, I_if (fun x => ¬ x = 0) 37, I_bot, I_bot, I_const 0 1, I_iret Qa, I_aload 0 1, I_getR 6 29, I_bot, I_bot, I_aload 0 1, I_getI 6 4, I_bot, I_bot, I_iload 1 1, I_iast, I_aload 0 1, I_dup, I_getI 6 4, I_bot, I_bot, I_const 1 1, I_bin fun x y => x + y, I_putI 6 4, I_bot, I_bot, I_aload 0 1, I_getI 6 4, I_bot, I_bot, I_const 1 1, I_bin fun x y => x - y, I_iret Qa]
set_option maxHeartbeats 4000000 in
set_option maxRecDepth 100000 in
theorem s_X6_addLine : runs T_X6_addLine [.ref 6] 2 F_X6_addLine := by
  intro Qa K hw hf As σ r σ' h hQ
  unfold F_X6_addLine at h
  split at h
  · rename_i p0
    unfold f_X6_addLine at h
    have hQ : Qa (r, σ').1 (r, σ').2 := hQ
    generalize (r, σ') = y at h hQ
    show K (0, [.ref 6, .int p0], [], σ)
    obtain ⟨r1, σ2, e3, h⟩ := bnd_some h
    refine hw 5 _ ?_
    show ∃ r1 σ2, f_X6_isIn p0 1 30 σ = some (r1, σ2) ∧ K (8, [.ref 6, .int p0], [.int r1, .ref 6], σ2)
    refine ⟨r1, σ2, e3, ?_⟩
    rcases ite_cases h with ⟨c4, h⟩ | ⟨c4, h⟩
    · refine hw 1 _ ?_
      show ((¬ r1 = 0) → K (15, [.ref 6, .int p0], [.ref 6], σ2)) ∧ (¬ (¬ r1 = 0) → K (11, [.ref 6, .int p0], [.ref 6], σ2))
      refine ⟨fun _ => ?_, fun q => absurd c4 q⟩
      rcases ite_cases h with ⟨c5, h⟩ | ⟨c5, h⟩
      · refine hw 4 _ ?_
        show ((¬ (σ2 6 4) = 30) → K (28, [.ref 6, .int p0], [.ref 6], σ2)) ∧ (¬ (¬ (σ2 6 4) = 30) → K (24, [.ref 6, .int p0], [.ref 6], σ2))
        refine ⟨fun _ => ?_, fun q => absurd c5 q⟩
        obtain ⟨r6, σ7, e8, h⟩ := bnd_some h
        refine hw 2 _ ?_
        show ∃ r6 σ7, f_X6_isFine 0 σ2 = some (r6, σ7) ∧ K (32, [.ref 6, .int p0], [.int r6], σ7)
        refine ⟨r6, σ7, e8, ?_⟩
        rcases ite_cases h with ⟨c9, h⟩ | ⟨c9, h⟩
        · refine hw 1 _ ?_
          show ((¬ r6 = 0) → K (37, [.ref 6, .int p0], [], σ7)) ∧ (¬ (¬ r6 = 0) → K (35, [.ref 6, .int p0], [], σ7))
          refine ⟨fun _ => ?_, fun q => absurd c9 q⟩
          obtain ⟨g10, h⟩ := ite_some h
          obtain rfl := Option.some.inj h
          refine hw 17 _ ?_
          show kd 29 = 1 ∧ (inb (σ7 6 4) 30 = true ∧ (Qa (((σ7 6 4) + 1) - 1) (mput (mput σ7 29 (ix (σ7 6 4)) p0) 6 4 ((σ7 6 4) + 1))))
          refine ⟨rfl, g10, hQ⟩
        · refine hw 1 _ ?_
          show ((¬ r6 = 0) → K (37, [.ref 6, .int p0], [], σ7)) ∧ (¬ (¬ r6 = 0) → K (35, [.ref 6, .int p0], [], σ7))
          refine ⟨fun q => absurd q c9, fun _ => ?_⟩
          obtain rfl := Option.some.inj h
          refine hw 2 _ ?_
          show Qa 0 σ7
          refine hQ
      · refine hw 4 _ ?_
        show ((¬ (σ2 6 4) = 30) → K (28, [.ref 6, .int p0], [.ref 6], σ2)) ∧ (¬ (¬ (σ2 6 4) = 30) → K (24, [.ref 6, .int p0], [.ref 6], σ2))
        refine ⟨fun q => absurd q c5, fun _ => ?_⟩
        obtain ⟨r11, σ12, e13, h⟩ := bnd_some h
        refine hw 3 _ ?_
        show ∃ r11 σ12, f_X6_isFine 2 σ2 = some (r11, σ12) ∧ K (32, [.ref 6, .int p0], [.int r11], σ12)
        refine ⟨r11, σ12, e13, ?_⟩
        rcases ite_cases h with ⟨c14, h⟩ | ⟨c14, h⟩
        · refine hw 1 _ ?_
          show ((¬ r11 = 0) → K (37, [.ref 6, .int p0], [], σ12)) ∧ (¬ (¬ r11 = 0) → K (35, [.ref 6, .int p0], [], σ12))
          refine ⟨fun _ => ?_, fun q => absurd c14 q⟩
          obtain ⟨g15, h⟩ := ite_some h
          obtain rfl := Option.some.inj h
          refine hw 17 _ ?_
          show kd 29 = 1 ∧ (inb (σ12 6 4) 30 = true ∧ (Qa (((σ12 6 4) + 1) - 1) (mput (mput σ12 29 (ix (σ12 6 4)) p0) 6 4 ((σ12 6 4) + 1))))
          refine ⟨rfl, g15, hQ⟩
        · refine hw 1 _ ?_
          show ((¬ r11 = 0) → K (37, [.ref 6, .int p0], [], σ12)) ∧ (¬ (¬ r11 = 0) → K (35, [.ref 6, .int p0], [], σ12))
          refine ⟨fun q => absurd q c14, fun _ => ?_⟩
          obtain rfl := Option.some.inj h
          refine hw 2 _ ?_
          show Qa 0 σ12
          refine hQ
    · refine hw 1 _ ?_
      show ((¬ r1 = 0) → K (15, [.ref 6, .int p0], [.ref 6], σ2)) ∧ (¬ (¬ r1 = 0) → K (11, [.ref 6, .int p0], [.ref 6], σ2))
      refine ⟨fun q => absurd q c4, fun _ => ?_⟩
      obtain ⟨r16, σ17, e18, h⟩ := bnd_some h
      refine hw 3 _ ?_
      show ∃ r16 σ17, f_X6_isFine 1 σ2 = some (r16, σ17) ∧ K (32, [.ref 6, .int p0], [.int r16], σ17)
      refine ⟨r16, σ17, e18, ?_⟩
      rcases ite_cases h with ⟨c19, h⟩ | ⟨c19, h⟩
      · refine hw 1 _ ?_
        show ((¬ r16 = 0) → K (37, [.ref 6, .int p0], [], σ17)) ∧ (¬ (¬ r16 = 0) → K (35, [.ref 6, .int p0], [], σ17))
        refine ⟨fun _ => ?_, fun q => absurd c19 q⟩
        obtain ⟨g20, h⟩ := ite_some h
        obtain rfl := Option.some.inj h
        refine hw 17 _ ?_
        show kd 29 = 1 ∧ (inb (σ17 6 4) 30 = true ∧ (Qa (((σ17 6 4) + 1) - 1) (mput (mput σ17 29 (ix (σ17 6 4)) p0) 6 4 ((σ17 6 4) + 1))))
        refine ⟨rfl, g20, hQ⟩
      · refine hw 1 _ ?_
        show ((¬ r16 = 0) → K (37, [.ref 6, .int p0], [], σ17)) ∧ (¬ (¬ r16 = 0) → K (35, [.ref 6, .int p0], [], σ17))
        refine ⟨fun q => absurd q c19, fun _ => ?_⟩
        obtain rfl := Option.some.inj h
        refine hw 2 _ ?_
        show Qa 0 σ17
        refine hQ
  · cases h
theorem h_X6_addLine : shp [.ref 6] 2 F_X6_addLine := by
  intro As σ r σ' h
  unfold F_X6_addLine at h
  split at h
  · exact ⟨by simp [Value.category], Nat.le_of_ble_eq_true rfl⟩
  · cases h
set_option maxHeartbeats 4000000 in
set_option maxRecDepth 100000 in
theorem c_X6_addLine (l : Launch) (D : va_G) (cI cZ cA cL : ClassId) (ad : Nat → Nat) (hi : adI ad) : CtI l yX6_addLine wsX6_addLine { frames := 1, cells := 0, slots := 0, locals := 22 } D cI cZ cA cL ad [.ref 6] F_X6_addLine := by
  refine mk_I [.ref 6] F_X6_addLine T_X6_addLine (by decide +kernel) rfl ?_ h_X6_addLine s_X6_addLine
  intro p e s m args below meth c Qa ⟨hx, hb, hml, hown, hts, hr, hlocks, hK, hN⟩
  have hin6 : ∀ w ∈ u_ws RX6 TX6 30, w ∈ wsX6_addLine := by decide +kernel
  have hl87 : (Cond.fieldLink RX6 87 RX6 (TX6 4).2.1 (TX6 4).2.2.1) ∈ wsX6_addLine := by decide +kernel
  have hl7 : (Cond.fieldLink RX6 7 RX6 (TX6 1).2.1 (TX6 1).2.2.1) ∈ wsX6_addLine := by decide +kernel
  refine ruL_c (n := 0) (n2 := 1) rfl (ru_aload_n (k := 0) hx hb dX6_addLine_0) ?_
  refine ruL_c (n := 1) (n2 := 2) rfl (ru_iload_n (k := 1) hx hb dX6_addLine_1) ?_
  refine ruL_c (n := 2) (n2 := 3) rfl (ru_iconst hx hb dX6_addLine_2 rfl) ?_
  refine ruL_c (n := 3) (n2 := 4) rfl (ru_bipush hx hb dX6_addLine_3 rfl) ?_
  refine ruL_c (n := 4) (n2 := 5) rfl (ru_bot) ?_
  refine ruL_c (n := 5) (n2 := 6) rfl (ru_callS hx hb hml hown hts hK hN (c_X6_isIn l D cI cZ cA cL ad hi) (va_cwS 3 hts gX6_addLine_X6_isIn rfl rfl rfl (by decide +kernel) ⟨Nat.le_of_ble_eq_true rfl, Nat.le_of_ble_eq_true rfl⟩) dX6_addLine_5 ⟨Nat.zero_le _, Nat.zero_le _⟩) ?_
  refine ruL_c (n := 6) (n2 := 7) rfl (ru_bot) ?_
  refine ruL_c (n := 7) (n2 := 8) rfl (ru_bot) ?_
  refine ruL_c (n := 8) (n2 := 9) rfl (ru_ifne hx hb dX6_addLine_8 (by decide)) ?_
  refine ruL_c (n := 9) (n2 := 10) rfl (ru_bot) ?_
  refine ruL_c (n := 10) (n2 := 11) rfl (ru_bot) ?_
  refine ruL_c (n := 11) (n2 := 12) rfl (ru_iconst hx hb dX6_addLine_11 rfl) ?_
  refine ruL_c (n := 12) (n2 := 13) rfl (ru_goto hx hb dX6_addLine_12 (by decide)) ?_
  refine ruL_c (n := 13) (n2 := 14) rfl (ru_bot) ?_
  refine ruL_c (n := 14) (n2 := 15) rfl (ru_bot) ?_
  refine ruL_c (n := 15) (n2 := 16) rfl (ru_aload_n (k := 0) hx hb dX6_addLine_15) ?_
  refine ruL_c (n := 16) (n2 := 17) rfl (ru_getI (own := RX6) (j := 4) (T := TX6) hx hb hown hK hts hin6 (by decide) rfl rfl (by decide) rfl hl87 dX6_addLine_16) ?_
  refine ruL_c (n := 17) (n2 := 18) rfl (ru_bot) ?_
  refine ruL_c (n := 18) (n2 := 19) rfl (ru_bot) ?_
  refine ruL_c (n := 19) (n2 := 20) rfl (ru_bipush hx hb dX6_addLine_19 rfl) ?_
  refine ruL_c (n := 20) (n2 := 21) rfl (ru_bot) ?_
  refine ruL_c (n := 21) (n2 := 22) rfl (ru_icmpne hx hb dX6_addLine_21 (by decide)) ?_
  refine ruL_c (n := 22) (n2 := 23) rfl (ru_bot) ?_
  refine ruL_c (n := 23) (n2 := 24) rfl (ru_bot) ?_
  refine ruL_c (n := 24) (n2 := 25) rfl (ru_iconst hx hb dX6_addLine_24 rfl) ?_
  refine ruL_c (n := 25) (n2 := 26) rfl (ru_goto hx hb dX6_addLine_25 (by decide)) ?_
  refine ruL_c (n := 26) (n2 := 27) rfl (ru_bot) ?_
  refine ruL_c (n := 27) (n2 := 28) rfl (ru_bot) ?_
  refine ruL_c (n := 28) (n2 := 29) rfl (ru_iconst hx hb dX6_addLine_28 rfl) ?_
  refine ruL_c (n := 29) (n2 := 30) rfl (ru_callV hx hb hml hown hts hK hN (by decide) rfl (c_X6_isFine l D cI cZ cA cL ad hi) (cwV 1 hts gX6_addLine_X6_isFine rfl rfl rfl (by decide +kernel) ⟨Nat.le_of_ble_eq_true rfl, Nat.le_of_ble_eq_true rfl⟩) dX6_addLine_29 ⟨Nat.zero_le _, Nat.zero_le _⟩) ?_
  refine ruL_c (n := 30) (n2 := 31) rfl (ru_bot) ?_
  refine ruL_c (n := 31) (n2 := 32) rfl (ru_bot) ?_
  refine ruL_c (n := 32) (n2 := 33) rfl (ru_ifne hx hb dX6_addLine_32 (by decide)) ?_
  refine ruL_c (n := 33) (n2 := 34) rfl (ru_bot) ?_
  refine ruL_c (n := 34) (n2 := 35) rfl (ru_bot) ?_
  refine ruL_c (n := 35) (n2 := 36) rfl (ru_iconst hx hb dX6_addLine_35 rfl) ?_
  refine ruL_c (n := 36) (n2 := 37) rfl (ru_iret hx hb hK hr hlocks dX6_addLine_36) ?_
  refine ruL_c (n := 37) (n2 := 38) rfl (ru_aload_n (k := 0) hx hb dX6_addLine_37) ?_
  refine ruL_c (n := 38) (n2 := 39) rfl (ru_getR (own := RX6) (j := 1) (T := TX6) hx hb hown hK hts hin6 (by decide) rfl rfl (by decide) rfl hl7 dX6_addLine_38) ?_
  refine ruL_c (n := 39) (n2 := 40) rfl (ru_bot) ?_
  refine ruL_c (n := 40) (n2 := 41) rfl (ru_bot) ?_
  refine ruL_c (n := 41) (n2 := 42) rfl (ru_aload_n (k := 0) hx hb dX6_addLine_41) ?_
  refine ruL_c (n := 42) (n2 := 43) rfl (ru_getI (own := RX6) (j := 4) (T := TX6) hx hb hown hK hts hin6 (by decide) rfl rfl (by decide) rfl hl87 dX6_addLine_42) ?_
  refine ruL_c (n := 43) (n2 := 44) rfl (ru_bot) ?_
  refine ruL_c (n := 44) (n2 := 45) rfl (ru_bot) ?_
  refine ruL_c (n := 45) (n2 := 46) rfl (ru_iload_n (k := 1) hx hb dX6_addLine_45) ?_
  refine ruL_c (n := 46) (n2 := 47) rfl (ru_iast hx hb hK hi dX6_addLine_46) ?_
  refine ruL_c (n := 47) (n2 := 48) rfl (ru_aload_n (k := 0) hx hb dX6_addLine_47) ?_
  refine ruL_c (n := 48) (n2 := 49) rfl (ru_dup hx hb dX6_addLine_48) ?_
  refine ruL_c (n := 49) (n2 := 50) rfl (ru_getI (own := RX6) (j := 4) (T := TX6) hx hb hown hK hts hin6 (by decide) rfl rfl (by decide) rfl hl87 dX6_addLine_49) ?_
  refine ruL_c (n := 50) (n2 := 51) rfl (ru_bot) ?_
  refine ruL_c (n := 51) (n2 := 52) rfl (ru_bot) ?_
  refine ruL_c (n := 52) (n2 := 53) rfl (ru_iconst hx hb dX6_addLine_52 rfl) ?_
  refine ruL_c (n := 53) (n2 := 54) rfl (ru_iadd hx hb dX6_addLine_53) ?_
  refine ruL_c (n := 54) (n2 := 55) rfl (ru_putI (own := RX6) (j := 4) (T := TX6) hx hb hown hK hi hts hin6 tyX6 tyX6_ok nmX6 (by decide) rfl rfl (by decide) rfl hl87 rfl (by decide +kernel) dX6_addLine_54) ?_
  refine ruL_c (n := 55) (n2 := 56) rfl (ru_bot) ?_
  refine ruL_c (n := 56) (n2 := 57) rfl (ru_bot) ?_
  refine ruL_c (n := 57) (n2 := 58) rfl (ru_aload_n (k := 0) hx hb dX6_addLine_57) ?_
  refine ruL_c (n := 58) (n2 := 59) rfl (ru_getI (own := RX6) (j := 4) (T := TX6) hx hb hown hK hts hin6 (by decide) rfl rfl (by decide) rfl hl87 dX6_addLine_58) ?_
  refine ruL_c (n := 59) (n2 := 60) rfl (ru_bot) ?_
  refine ruL_c (n := 60) (n2 := 61) rfl (ru_bot) ?_
  refine ruL_c (n := 61) (n2 := 62) rfl (ru_iconst hx hb dX6_addLine_61 rfl) ?_
  refine ruL_c (n := 62) (n2 := 63) rfl (ru_isub hx hb dX6_addLine_62) ?_
  refine ruL_c (n := 63) (n2 := 64) rfl (ru_iret hx hb hK hr hlocks dX6_addLine_63) ?_
  exact trivial

-- CueTourModel.need
def f_X6_need (p0 : Int32) (p1 : Int32) (p2 : Int32) (σ : aM) : Option (Int32 × aM) := bnd (f_X6_isLine p0 σ) (fun r1 σ2 => if r1 = 0 then bnd (f_X6_isFine 1 σ2) (fun r5 σ6 => if ¬ r5 = 0 then if inb ((4 * p0) + p1) 120 = true then if inb ((4 * p0) + p1) 120 = true then some (σ6 31 (ix ((4 * p0) + p1)), mput σ6 31 (ix ((4 * p0) + p1)) p2) else none else none else some (0, σ6)) else bnd (f_X6_isArea p1 σ2) (fun r11 σ12 => if r11 = 0 then bnd (f_X6_isFine 1 σ12) (fun r15 σ16 => if ¬ r15 = 0 then if inb ((4 * p0) + p1) 120 = true then if inb ((4 * p0) + p1) 120 = true then some (σ16 31 (ix ((4 * p0) + p1)), mput σ16 31 (ix ((4 * p0) + p1)) p2) else none else none else some (0, σ16)) else bnd (f_X6_isIn p2 0 100 σ12) (fun r21 σ22 => if ¬ r21 = 0 then bnd (f_X6_isFine 0 σ22) (fun r25 σ26 => if ¬ r25 = 0 then if inb ((4 * p0) + p1) 120 = true then if inb ((4 * p0) + p1) 120 = true then some (σ26 31 (ix ((4 * p0) + p1)), mput σ26 31 (ix ((4 * p0) + p1)) p2) else none else none else some (0, σ26)) else bnd (f_X6_isFine 2 σ22) (fun r31 σ32 => if ¬ r31 = 0 then if inb ((4 * p0) + p1) 120 = true then if inb ((4 * p0) + p1) 120 = true then some (σ32 31 (ix ((4 * p0) + p1)), mput σ32 31 (ix ((4 * p0) + p1)) p2) else none else none else some (0, σ32)))))
def F_X6_need : aF := fun As σ => match As with
  | [.int p0, .int p1, .int p2] => f_X6_need p0 p1 p2 σ
  | _ => none
def T_X6_need (Qa : Int32 → aM → Prop) : List aI := [I_aload 0 1, I_iload 1 1, I_callV 6 1 F_X6_isLine, I_bot, I_bot, I_if (fun x => x = 0) 19, I_bot, I_bot, I_iload 2 1, I_callS 1 F_X6_isArea, I_bot, I_bot, I_if (fun x => x = 0) 19, I_bot, I_bot, I_const 1 1, I_goto 20, I_bot, I_bot, I_const 0 1, I_istore 4 2, I_bot, I_aload 0 1, I_iload 4 2, I_bot, I_if (fun x => ¬ x = 0) 32, I_bot, I_bot, I_const 1 1, I_goto 47, I_bot, I_bot, I_iload 3 1, I_const 0 1, I_const (100) 2, I_bot, I_callS 3 F_X6_isIn, I_bot, I_bot, I_if (fun x => ¬ x = 0) 46, I_bot, I_bot, I_const 2 1, I_goto 47, I_bot, I_bot, I_const 0 1, I_callV 6 1 F_X6_isFine, I_bot, I_bot, I_if (fun x => ¬ x = 0) 55, I_bot, I_bot, I_const 0 1, I_iret Qa, I_aload 0 1, I_getR 6 31, I_bot, I_bot, I_const 4 1, I_iload 1 1, I_bin fun x y => x * y, I_iload 2 1, I_bin fun x y => x + y, I_iald, I_istore 5 2, I_bot, I_aload 0 1, I_getR 6 31, I_bot, I_bot, I_const 4 1, I_iload 1 1, I_bin fun x y => x * y, I_iload 2 1, I_bin fun x y => x + y, I_iload 3 1, I_iast, I_iload 5 2, I_bot, I_iret Qa]
set_option maxHeartbeats 4000000 in
set_option maxRecDepth 100000 in
theorem s_X6_need : runs T_X6_need [.ref 6] 6 F_X6_need := by
  intro Qa K hw hf As σ r σ' h hQ
  unfold F_X6_need at h
  split at h
  · rename_i p0 p1 p2
    unfold f_X6_need at h
    have hQ : Qa (r, σ').1 (r, σ').2 := hQ
    generalize (r, σ') = y at h hQ
    show K (0, [.ref 6, .int p0, .int p1, .int p2, .null, .null], [], σ)
    obtain ⟨r1, σ2, e3, h⟩ := bnd_some h
    refine hw 3 _ ?_
    show ∃ r1 σ2, f_X6_isLine p0 σ = some (r1, σ2) ∧ K (5, [.ref 6, .int p0, .int p1, .int p2, .null, .null], [.int r1], σ2)
    refine ⟨r1, σ2, e3, ?_⟩
    rcases ite_cases h with ⟨c4, h⟩ | ⟨c4, h⟩
    · refine hw 1 _ ?_
      show ((r1 = 0) → K (19, [.ref 6, .int p0, .int p1, .int p2, .null, .null], [], σ2)) ∧ (¬ (r1 = 0) → K (8, [.ref 6, .int p0, .int p1, .int p2, .null, .null], [], σ2))
      refine ⟨fun _ => ?_, fun q => absurd c4 q⟩
      refine hw 5 _ ?_
      show ((¬ (0 : Int32) = 0) → K (32, [.ref 6, .int p0, .int p1, .int p2, .int 0, .null], [.ref 6], σ2)) ∧ (¬ (¬ (0 : Int32) = 0) → K (28, [.ref 6, .int p0, .int p1, .int p2, .int 0, .null], [.ref 6], σ2))
      refine ⟨fun q => absurd q (by decide), fun _ => ?_⟩
      obtain ⟨r5, σ6, e7, h⟩ := bnd_some h
      refine hw 3 _ ?_
      show ∃ r5 σ6, f_X6_isFine 1 σ2 = some (r5, σ6) ∧ K (50, [.ref 6, .int p0, .int p1, .int p2, .int 0, .null], [.int r5], σ6)
      refine ⟨r5, σ6, e7, ?_⟩
      rcases ite_cases h with ⟨c8, h⟩ | ⟨c8, h⟩
      · refine hw 1 _ ?_
        show ((¬ r5 = 0) → K (55, [.ref 6, .int p0, .int p1, .int p2, .int 0, .null], [], σ6)) ∧ (¬ (¬ r5 = 0) → K (53, [.ref 6, .int p0, .int p1, .int p2, .int 0, .null], [], σ6))
        refine ⟨fun _ => ?_, fun q => absurd c8 q⟩
        obtain ⟨g9, h⟩ := ite_some h
        obtain ⟨g10, h⟩ := ite_some h
        obtain rfl := Option.some.inj h
        refine hw 20 _ ?_
        show kd 31 = 1 ∧ (inb ((4 * p0) + p1) 120 = true ∧ (kd 31 = 1 ∧ (inb ((4 * p0) + p1) 120 = true ∧ (Qa (σ6 31 (ix ((4 * p0) + p1))) (mput σ6 31 (ix ((4 * p0) + p1)) p2)))))
        refine ⟨rfl, g9, rfl, g10, hQ⟩
      · refine hw 1 _ ?_
        show ((¬ r5 = 0) → K (55, [.ref 6, .int p0, .int p1, .int p2, .int 0, .null], [], σ6)) ∧ (¬ (¬ r5 = 0) → K (53, [.ref 6, .int p0, .int p1, .int p2, .int 0, .null], [], σ6))
        refine ⟨fun q => absurd q c8, fun _ => ?_⟩
        obtain rfl := Option.some.inj h
        refine hw 2 _ ?_
        show Qa 0 σ6
        refine hQ
    · refine hw 1 _ ?_
      show ((r1 = 0) → K (19, [.ref 6, .int p0, .int p1, .int p2, .null, .null], [], σ2)) ∧ (¬ (r1 = 0) → K (8, [.ref 6, .int p0, .int p1, .int p2, .null, .null], [], σ2))
      refine ⟨fun q => absurd q c4, fun _ => ?_⟩
      obtain ⟨r11, σ12, e13, h⟩ := bnd_some h
      refine hw 2 _ ?_
      show ∃ r11 σ12, f_X6_isArea p1 σ2 = some (r11, σ12) ∧ K (12, [.ref 6, .int p0, .int p1, .int p2, .null, .null], [.int r11], σ12)
      refine ⟨r11, σ12, e13, ?_⟩
      rcases ite_cases h with ⟨c14, h⟩ | ⟨c14, h⟩
      · refine hw 1 _ ?_
        show ((r11 = 0) → K (19, [.ref 6, .int p0, .int p1, .int p2, .null, .null], [], σ12)) ∧ (¬ (r11 = 0) → K (15, [.ref 6, .int p0, .int p1, .int p2, .null, .null], [], σ12))
        refine ⟨fun _ => ?_, fun q => absurd c14 q⟩
        refine hw 5 _ ?_
        show ((¬ (0 : Int32) = 0) → K (32, [.ref 6, .int p0, .int p1, .int p2, .int 0, .null], [.ref 6], σ12)) ∧ (¬ (¬ (0 : Int32) = 0) → K (28, [.ref 6, .int p0, .int p1, .int p2, .int 0, .null], [.ref 6], σ12))
        refine ⟨fun q => absurd q (by decide), fun _ => ?_⟩
        obtain ⟨r15, σ16, e17, h⟩ := bnd_some h
        refine hw 3 _ ?_
        show ∃ r15 σ16, f_X6_isFine 1 σ12 = some (r15, σ16) ∧ K (50, [.ref 6, .int p0, .int p1, .int p2, .int 0, .null], [.int r15], σ16)
        refine ⟨r15, σ16, e17, ?_⟩
        rcases ite_cases h with ⟨c18, h⟩ | ⟨c18, h⟩
        · refine hw 1 _ ?_
          show ((¬ r15 = 0) → K (55, [.ref 6, .int p0, .int p1, .int p2, .int 0, .null], [], σ16)) ∧ (¬ (¬ r15 = 0) → K (53, [.ref 6, .int p0, .int p1, .int p2, .int 0, .null], [], σ16))
          refine ⟨fun _ => ?_, fun q => absurd c18 q⟩
          obtain ⟨g19, h⟩ := ite_some h
          obtain ⟨g20, h⟩ := ite_some h
          obtain rfl := Option.some.inj h
          refine hw 20 _ ?_
          show kd 31 = 1 ∧ (inb ((4 * p0) + p1) 120 = true ∧ (kd 31 = 1 ∧ (inb ((4 * p0) + p1) 120 = true ∧ (Qa (σ16 31 (ix ((4 * p0) + p1))) (mput σ16 31 (ix ((4 * p0) + p1)) p2)))))
          refine ⟨rfl, g19, rfl, g20, hQ⟩
        · refine hw 1 _ ?_
          show ((¬ r15 = 0) → K (55, [.ref 6, .int p0, .int p1, .int p2, .int 0, .null], [], σ16)) ∧ (¬ (¬ r15 = 0) → K (53, [.ref 6, .int p0, .int p1, .int p2, .int 0, .null], [], σ16))
          refine ⟨fun q => absurd q c18, fun _ => ?_⟩
          obtain rfl := Option.some.inj h
          refine hw 2 _ ?_
          show Qa 0 σ16
          refine hQ
      · refine hw 1 _ ?_
        show ((r11 = 0) → K (19, [.ref 6, .int p0, .int p1, .int p2, .null, .null], [], σ12)) ∧ (¬ (r11 = 0) → K (15, [.ref 6, .int p0, .int p1, .int p2, .null, .null], [], σ12))
        refine ⟨fun q => absurd q c14, fun _ => ?_⟩
        refine hw 6 _ ?_
        show ((¬ (1 : Int32) = 0) → K (32, [.ref 6, .int p0, .int p1, .int p2, .int 1, .null], [.ref 6], σ12)) ∧ (¬ (¬ (1 : Int32) = 0) → K (28, [.ref 6, .int p0, .int p1, .int p2, .int 1, .null], [.ref 6], σ12))
        refine ⟨fun _ => ?_, fun q => absurd (by decide) q⟩
        obtain ⟨r21, σ22, e23, h⟩ := bnd_some h
        refine hw 4 _ ?_
        show ∃ r21 σ22, f_X6_isIn p2 0 100 σ12 = some (r21, σ22) ∧ K (39, [.ref 6, .int p0, .int p1, .int p2, .int 1, .null], [.int r21, .ref 6], σ22)
        refine ⟨r21, σ22, e23, ?_⟩
        rcases ite_cases h with ⟨c24, h⟩ | ⟨c24, h⟩
        · refine hw 1 _ ?_
          show ((¬ r21 = 0) → K (46, [.ref 6, .int p0, .int p1, .int p2, .int 1, .null], [.ref 6], σ22)) ∧ (¬ (¬ r21 = 0) → K (42, [.ref 6, .int p0, .int p1, .int p2, .int 1, .null], [.ref 6], σ22))
          refine ⟨fun _ => ?_, fun q => absurd c24 q⟩
          obtain ⟨r25, σ26, e27, h⟩ := bnd_some h
          refine hw 2 _ ?_
          show ∃ r25 σ26, f_X6_isFine 0 σ22 = some (r25, σ26) ∧ K (50, [.ref 6, .int p0, .int p1, .int p2, .int 1, .null], [.int r25], σ26)
          refine ⟨r25, σ26, e27, ?_⟩
          rcases ite_cases h with ⟨c28, h⟩ | ⟨c28, h⟩
          · refine hw 1 _ ?_
            show ((¬ r25 = 0) → K (55, [.ref 6, .int p0, .int p1, .int p2, .int 1, .null], [], σ26)) ∧ (¬ (¬ r25 = 0) → K (53, [.ref 6, .int p0, .int p1, .int p2, .int 1, .null], [], σ26))
            refine ⟨fun _ => ?_, fun q => absurd c28 q⟩
            obtain ⟨g29, h⟩ := ite_some h
            obtain ⟨g30, h⟩ := ite_some h
            obtain rfl := Option.some.inj h
            refine hw 20 _ ?_
            show kd 31 = 1 ∧ (inb ((4 * p0) + p1) 120 = true ∧ (kd 31 = 1 ∧ (inb ((4 * p0) + p1) 120 = true ∧ (Qa (σ26 31 (ix ((4 * p0) + p1))) (mput σ26 31 (ix ((4 * p0) + p1)) p2)))))
            refine ⟨rfl, g29, rfl, g30, hQ⟩
          · refine hw 1 _ ?_
            show ((¬ r25 = 0) → K (55, [.ref 6, .int p0, .int p1, .int p2, .int 1, .null], [], σ26)) ∧ (¬ (¬ r25 = 0) → K (53, [.ref 6, .int p0, .int p1, .int p2, .int 1, .null], [], σ26))
            refine ⟨fun q => absurd q c28, fun _ => ?_⟩
            obtain rfl := Option.some.inj h
            refine hw 2 _ ?_
            show Qa 0 σ26
            refine hQ
        · refine hw 1 _ ?_
          show ((¬ r21 = 0) → K (46, [.ref 6, .int p0, .int p1, .int p2, .int 1, .null], [.ref 6], σ22)) ∧ (¬ (¬ r21 = 0) → K (42, [.ref 6, .int p0, .int p1, .int p2, .int 1, .null], [.ref 6], σ22))
          refine ⟨fun q => absurd q c24, fun _ => ?_⟩
          obtain ⟨r31, σ32, e33, h⟩ := bnd_some h
          refine hw 3 _ ?_
          show ∃ r31 σ32, f_X6_isFine 2 σ22 = some (r31, σ32) ∧ K (50, [.ref 6, .int p0, .int p1, .int p2, .int 1, .null], [.int r31], σ32)
          refine ⟨r31, σ32, e33, ?_⟩
          rcases ite_cases h with ⟨c34, h⟩ | ⟨c34, h⟩
          · refine hw 1 _ ?_
            show ((¬ r31 = 0) → K (55, [.ref 6, .int p0, .int p1, .int p2, .int 1, .null], [], σ32)) ∧ (¬ (¬ r31 = 0) → K (53, [.ref 6, .int p0, .int p1, .int p2, .int 1, .null], [], σ32))
            refine ⟨fun _ => ?_, fun q => absurd c34 q⟩
            obtain ⟨g35, h⟩ := ite_some h
            obtain ⟨g36, h⟩ := ite_some h
            obtain rfl := Option.some.inj h
            refine hw 20 _ ?_
            show kd 31 = 1 ∧ (inb ((4 * p0) + p1) 120 = true ∧ (kd 31 = 1 ∧ (inb ((4 * p0) + p1) 120 = true ∧ (Qa (σ32 31 (ix ((4 * p0) + p1))) (mput σ32 31 (ix ((4 * p0) + p1)) p2)))))
            refine ⟨rfl, g35, rfl, g36, hQ⟩
          · refine hw 1 _ ?_
            show ((¬ r31 = 0) → K (55, [.ref 6, .int p0, .int p1, .int p2, .int 1, .null], [], σ32)) ∧ (¬ (¬ r31 = 0) → K (53, [.ref 6, .int p0, .int p1, .int p2, .int 1, .null], [], σ32))
            refine ⟨fun q => absurd q c34, fun _ => ?_⟩
            obtain rfl := Option.some.inj h
            refine hw 2 _ ?_
            show Qa 0 σ32
            refine hQ
  · cases h
theorem h_X6_need : shp [.ref 6] 6 F_X6_need := by
  intro As σ r σ' h
  unfold F_X6_need at h
  split at h
  · exact ⟨by simp [Value.category], Nat.le_of_ble_eq_true rfl⟩
  · cases h
set_option maxHeartbeats 4000000 in
set_option maxRecDepth 100000 in
theorem c_X6_need (l : Launch) (D : va_G) (cI cZ cA cL : ClassId) (ad : Nat → Nat) (hi : adI ad) : CtI l yX6_need wsX6_need { frames := 2, cells := 0, slots := 0, locals := 43 } D cI cZ cA cL ad [.ref 6] F_X6_need := by
  refine mk_I [.ref 6] F_X6_need T_X6_need (by decide +kernel) rfl ?_ h_X6_need s_X6_need
  intro p e s m args below meth c Qa ⟨hx, hb, hml, hown, hts, hr, hlocks, hK, hN⟩
  have hin6 : ∀ w ∈ u_ws RX6 TX6 30, w ∈ wsX6_need := by decide +kernel
  have hl17 : (Cond.fieldLink RX6 17 RX6 (TX6 3).2.1 (TX6 3).2.2.1) ∈ wsX6_need := by decide +kernel
  refine ruL_c (n := 0) (n2 := 1) rfl (ru_aload_n (k := 0) hx hb dX6_need_0) ?_
  refine ruL_c (n := 1) (n2 := 2) rfl (ru_iload_n (k := 1) hx hb dX6_need_1) ?_
  refine ruL_c (n := 2) (n2 := 3) rfl (ru_callV hx hb hml hown hts hK hN (by decide) rfl (c_X6_isLine l D cI cZ cA cL ad hi) (cwV 1 hts gX6_need_X6_isLine rfl rfl rfl (by decide +kernel) ⟨Nat.le_of_ble_eq_true rfl, Nat.le_of_ble_eq_true rfl⟩) dX6_need_2 ⟨Nat.zero_le _, Nat.zero_le _⟩) ?_
  refine ruL_c (n := 3) (n2 := 4) rfl (ru_bot) ?_
  refine ruL_c (n := 4) (n2 := 5) rfl (ru_bot) ?_
  refine ruL_c (n := 5) (n2 := 6) rfl (ru_ifeq hx hb dX6_need_5 (by decide)) ?_
  refine ruL_c (n := 6) (n2 := 7) rfl (ru_bot) ?_
  refine ruL_c (n := 7) (n2 := 8) rfl (ru_bot) ?_
  refine ruL_c (n := 8) (n2 := 9) rfl (ru_iload_n (k := 2) hx hb dX6_need_8) ?_
  refine ruL_c (n := 9) (n2 := 10) rfl (ru_callS hx hb hml hown hts hK hN (c_X6_isArea l D cI cZ cA cL ad hi) (va_cwS 1 hts gX6_need_X6_isArea rfl rfl rfl (by decide +kernel) ⟨Nat.le_of_ble_eq_true rfl, Nat.le_of_ble_eq_true rfl⟩) dX6_need_9 ⟨Nat.zero_le _, Nat.zero_le _⟩) ?_
  refine ruL_c (n := 10) (n2 := 11) rfl (ru_bot) ?_
  refine ruL_c (n := 11) (n2 := 12) rfl (ru_bot) ?_
  refine ruL_c (n := 12) (n2 := 13) rfl (ru_ifeq hx hb dX6_need_12 (by decide)) ?_
  refine ruL_c (n := 13) (n2 := 14) rfl (ru_bot) ?_
  refine ruL_c (n := 14) (n2 := 15) rfl (ru_bot) ?_
  refine ruL_c (n := 15) (n2 := 16) rfl (ru_iconst hx hb dX6_need_15 rfl) ?_
  refine ruL_c (n := 16) (n2 := 17) rfl (ru_goto hx hb dX6_need_16 (by decide)) ?_
  refine ruL_c (n := 17) (n2 := 18) rfl (ru_bot) ?_
  refine ruL_c (n := 18) (n2 := 19) rfl (ru_bot) ?_
  refine ruL_c (n := 19) (n2 := 20) rfl (ru_iconst hx hb dX6_need_19 rfl) ?_
  refine ruL_c (n := 20) (n2 := 21) rfl (ru_istore hx hb dX6_need_20) ?_
  refine ruL_c (n := 21) (n2 := 22) rfl (ru_bot) ?_
  refine ruL_c (n := 22) (n2 := 23) rfl (ru_aload_n (k := 0) hx hb dX6_need_22) ?_
  refine ruL_c (n := 23) (n2 := 24) rfl (ru_iload hx hb dX6_need_23) ?_
  refine ruL_c (n := 24) (n2 := 25) rfl (ru_bot) ?_
  refine ruL_c (n := 25) (n2 := 26) rfl (ru_ifne hx hb dX6_need_25 (by decide)) ?_
  refine ruL_c (n := 26) (n2 := 27) rfl (ru_bot) ?_
  refine ruL_c (n := 27) (n2 := 28) rfl (ru_bot) ?_
  refine ruL_c (n := 28) (n2 := 29) rfl (ru_iconst hx hb dX6_need_28 rfl) ?_
  refine ruL_c (n := 29) (n2 := 30) rfl (ru_goto hx hb dX6_need_29 (by decide)) ?_
  refine ruL_c (n := 30) (n2 := 31) rfl (ru_bot) ?_
  refine ruL_c (n := 31) (n2 := 32) rfl (ru_bot) ?_
  refine ruL_c (n := 32) (n2 := 33) rfl (ru_iload_n (k := 3) hx hb dX6_need_32) ?_
  refine ruL_c (n := 33) (n2 := 34) rfl (ru_iconst hx hb dX6_need_33 rfl) ?_
  refine ruL_c (n := 34) (n2 := 35) rfl (ru_bipush hx hb dX6_need_34 rfl) ?_
  refine ruL_c (n := 35) (n2 := 36) rfl (ru_bot) ?_
  refine ruL_c (n := 36) (n2 := 37) rfl (ru_callS hx hb hml hown hts hK hN (c_X6_isIn l D cI cZ cA cL ad hi) (va_cwS 3 hts gX6_need_X6_isIn rfl rfl rfl (by decide +kernel) ⟨Nat.le_of_ble_eq_true rfl, Nat.le_of_ble_eq_true rfl⟩) dX6_need_36 ⟨Nat.zero_le _, Nat.zero_le _⟩) ?_
  refine ruL_c (n := 37) (n2 := 38) rfl (ru_bot) ?_
  refine ruL_c (n := 38) (n2 := 39) rfl (ru_bot) ?_
  refine ruL_c (n := 39) (n2 := 40) rfl (ru_ifne hx hb dX6_need_39 (by decide)) ?_
  refine ruL_c (n := 40) (n2 := 41) rfl (ru_bot) ?_
  refine ruL_c (n := 41) (n2 := 42) rfl (ru_bot) ?_
  refine ruL_c (n := 42) (n2 := 43) rfl (ru_iconst hx hb dX6_need_42 rfl) ?_
  refine ruL_c (n := 43) (n2 := 44) rfl (ru_goto hx hb dX6_need_43 (by decide)) ?_
  refine ruL_c (n := 44) (n2 := 45) rfl (ru_bot) ?_
  refine ruL_c (n := 45) (n2 := 46) rfl (ru_bot) ?_
  refine ruL_c (n := 46) (n2 := 47) rfl (ru_iconst hx hb dX6_need_46 rfl) ?_
  refine ruL_c (n := 47) (n2 := 48) rfl (ru_callV hx hb hml hown hts hK hN (by decide) rfl (c_X6_isFine l D cI cZ cA cL ad hi) (cwV 1 hts gX6_need_X6_isFine rfl rfl rfl (by decide +kernel) ⟨Nat.le_of_ble_eq_true rfl, Nat.le_of_ble_eq_true rfl⟩) dX6_need_47 ⟨Nat.zero_le _, Nat.zero_le _⟩) ?_
  refine ruL_c (n := 48) (n2 := 49) rfl (ru_bot) ?_
  refine ruL_c (n := 49) (n2 := 50) rfl (ru_bot) ?_
  refine ruL_c (n := 50) (n2 := 51) rfl (ru_ifne hx hb dX6_need_50 (by decide)) ?_
  refine ruL_c (n := 51) (n2 := 52) rfl (ru_bot) ?_
  refine ruL_c (n := 52) (n2 := 53) rfl (ru_bot) ?_
  refine ruL_c (n := 53) (n2 := 54) rfl (ru_iconst hx hb dX6_need_53 rfl) ?_
  refine ruL_c (n := 54) (n2 := 55) rfl (ru_iret hx hb hK hr hlocks dX6_need_54) ?_
  refine ruL_c (n := 55) (n2 := 56) rfl (ru_aload_n (k := 0) hx hb dX6_need_55) ?_
  refine ruL_c (n := 56) (n2 := 57) rfl (ru_getR (own := RX6) (j := 3) (T := TX6) hx hb hown hK hts hin6 (by decide) rfl rfl (by decide) rfl hl17 dX6_need_56) ?_
  refine ruL_c (n := 57) (n2 := 58) rfl (ru_bot) ?_
  refine ruL_c (n := 58) (n2 := 59) rfl (ru_bot) ?_
  refine ruL_c (n := 59) (n2 := 60) rfl (ru_iconst hx hb dX6_need_59 rfl) ?_
  refine ruL_c (n := 60) (n2 := 61) rfl (ru_iload_n (k := 1) hx hb dX6_need_60) ?_
  refine ruL_c (n := 61) (n2 := 62) rfl (ru_imul hx hb dX6_need_61) ?_
  refine ruL_c (n := 62) (n2 := 63) rfl (ru_iload_n (k := 2) hx hb dX6_need_62) ?_
  refine ruL_c (n := 63) (n2 := 64) rfl (ru_iadd hx hb dX6_need_63) ?_
  refine ruL_c (n := 64) (n2 := 65) rfl (ru_iald hx hb hK dX6_need_64) ?_
  refine ruL_c (n := 65) (n2 := 66) rfl (ru_istore hx hb dX6_need_65) ?_
  refine ruL_c (n := 66) (n2 := 67) rfl (ru_bot) ?_
  refine ruL_c (n := 67) (n2 := 68) rfl (ru_aload_n (k := 0) hx hb dX6_need_67) ?_
  refine ruL_c (n := 68) (n2 := 69) rfl (ru_getR (own := RX6) (j := 3) (T := TX6) hx hb hown hK hts hin6 (by decide) rfl rfl (by decide) rfl hl17 dX6_need_68) ?_
  refine ruL_c (n := 69) (n2 := 70) rfl (ru_bot) ?_
  refine ruL_c (n := 70) (n2 := 71) rfl (ru_bot) ?_
  refine ruL_c (n := 71) (n2 := 72) rfl (ru_iconst hx hb dX6_need_71 rfl) ?_
  refine ruL_c (n := 72) (n2 := 73) rfl (ru_iload_n (k := 1) hx hb dX6_need_72) ?_
  refine ruL_c (n := 73) (n2 := 74) rfl (ru_imul hx hb dX6_need_73) ?_
  refine ruL_c (n := 74) (n2 := 75) rfl (ru_iload_n (k := 2) hx hb dX6_need_74) ?_
  refine ruL_c (n := 75) (n2 := 76) rfl (ru_iadd hx hb dX6_need_75) ?_
  refine ruL_c (n := 76) (n2 := 77) rfl (ru_iload_n (k := 3) hx hb dX6_need_76) ?_
  refine ruL_c (n := 77) (n2 := 78) rfl (ru_iast hx hb hK hi dX6_need_77) ?_
  refine ruL_c (n := 78) (n2 := 79) rfl (ru_iload hx hb dX6_need_78) ?_
  refine ruL_c (n := 79) (n2 := 80) rfl (ru_bot) ?_
  refine ruL_c (n := 80) (n2 := 81) rfl (ru_iret hx hb hK hr hlocks dX6_need_80) ?_
  exact trivial

-- CueTourModel.ahead
def l_X6_ahead_4 (x1 : Int32) : Nat → Int32 → Int32 → aM → (Int32 → Int32 → aM → Option (Int32 × aM)) → Option (Int32 × aM)
  | 0, _, _, _, _ => none
  | n + 1, v2, v3, σ4, k => if x1 ≤ v3 then k v2 v3 σ4 else if inb v3 30 = true then if (σ4 30 (ix v3)) = 0 then if inb v3 30 = true then l_X6_ahead_4 x1 n (v2 + (σ4 29 (ix v3))) (v3 + 1) σ4 k else none else l_X6_ahead_4 x1 n (v2 + 0) (v3 + 1) σ4 k else none
def f_X6_ahead (p0 : Int32) (σ : aM) : Option (Int32 × aM) := l_X6_ahead_4 p0 lf 0 0 σ (fun v9 v10 σ11 => some (v9, σ11))
def F_X6_ahead : aF := fun As σ => match As with
  | [.int p0] => f_X6_ahead p0 σ
  | _ => none
def T_X6_ahead (Qa : Int32 → aM → Prop) : List aI := [I_const 0 1, I_istore 2 1, I_const 0 1, I_istore 3 1, I_iload 3 1, I_iload 1 1, I_icmp (fun x y => y ≤ x) 37, I_bot, I_bot, I_iload 2 1, I_aload 0 1, I_getR 6 30, I_bot, I_bot, I_iload 3 1, I_zald, I_if (fun x => x = 0) 23, I_bot, I_bot, I_const 0 1, I_goto 29, I_bot, I_bot, I_aload 0 1, I_getR 6 29, I_bot, I_bot, I_iload 3 1, I_iald, I_bin fun x y => x + y, I_istore 2 1, I_iinc 3 (1), I_bot, I_bot, I_goto 4, I_bot, I_bot, I_iload 2 1, I_iret Qa]
set_option maxHeartbeats 4000000 in
set_option maxRecDepth 100000 in
theorem t_X6_ahead_4 {Qa : Int32 → aM → Prop} {K : aS → Prop} (hw : ∀ k x, wp (T_X6_ahead Qa) k K x → K x) (hf : ∀ pc L i st σ, K (pc, L.set i .null, st, σ) → K (pc, L, st, σ)) (x1 : Int32) (y : Int32 × aM) (k : Int32 → Int32 → aM → Option (Int32 × aM)) :
    ∀ (n : Nat) (v2 : Int32) (v3 : Int32) (σ4 : aM), l_X6_ahead_4 x1 n v2 v3 σ4 k = some y → (∀ (w0 : Int32) (w1 : Int32) (τ : aM), k w0 w1 τ = some y → K (37, [.ref 6, .int x1, .int w0, .int w1], [], τ)) → K (4, [.ref 6, .int x1, .int v2, .int v3], [], σ4) := by
  intro n
  induction n with
  | zero =>
    intro v2 v3 σ4 h hk
    exact absurd h (by simp [l_X6_ahead_4])
  | succ n ih =>
    intro v2 v3 σ4 h hk
    unfold l_X6_ahead_4 at h
    rcases ite_cases h with ⟨c5, h⟩ | ⟨c5, h⟩
    · refine hw 3 _ ?_
      show ((x1 ≤ v3) → K (37, [.ref 6, .int x1, .int v2, .int v3], [], σ4)) ∧ (¬ (x1 ≤ v3) → K (9, [.ref 6, .int x1, .int v2, .int v3], [], σ4))
      refine ⟨fun _ => ?_, fun q => absurd c5 q⟩
      exact hk v2 v3 σ4 h
    · refine hw 3 _ ?_
      show ((x1 ≤ v3) → K (37, [.ref 6, .int x1, .int v2, .int v3], [], σ4)) ∧ (¬ (x1 ≤ v3) → K (9, [.ref 6, .int x1, .int v2, .int v3], [], σ4))
      refine ⟨fun q => absurd q c5, fun _ => ?_⟩
      obtain ⟨g6, h⟩ := ite_some h
      rcases ite_cases h with ⟨c7, h⟩ | ⟨c7, h⟩
      · refine hw 6 _ ?_
        show kd 30 = 2 ∧ (inb v3 30 = true ∧ ((((σ4 30 (ix v3)) = 0) → K (23, [.ref 6, .int x1, .int v2, .int v3], [.int v2], σ4)) ∧ (¬ ((σ4 30 (ix v3)) = 0) → K (19, [.ref 6, .int x1, .int v2, .int v3], [.int v2], σ4))))
        refine ⟨rfl, g6, ⟨fun _ => ?_, fun q => absurd c7 q⟩⟩
        obtain ⟨g8, h⟩ := ite_some h
        refine hw 8 _ ?_
        show kd 29 = 1 ∧ (inb v3 30 = true ∧ (K (4, [.ref 6, .int x1, .int (v2 + (σ4 29 (ix v3))), .int (v3 + 1)], [], σ4)))
        refine ⟨rfl, g8, ?_⟩
        exact ih (v2 + (σ4 29 (ix v3))) (v3 + 1) σ4 h hk
      · refine hw 6 _ ?_
        show kd 30 = 2 ∧ (inb v3 30 = true ∧ ((((σ4 30 (ix v3)) = 0) → K (23, [.ref 6, .int x1, .int v2, .int v3], [.int v2], σ4)) ∧ (¬ ((σ4 30 (ix v3)) = 0) → K (19, [.ref 6, .int x1, .int v2, .int v3], [.int v2], σ4))))
        refine ⟨rfl, g6, ⟨fun q => absurd q c7, fun _ => ?_⟩⟩
        refine hw 6 _ ?_
        show K (4, [.ref 6, .int x1, .int (v2 + 0), .int (v3 + 1)], [], σ4)
        exact ih (v2 + 0) (v3 + 1) σ4 h hk

set_option maxHeartbeats 4000000 in
set_option maxRecDepth 100000 in
theorem s_X6_ahead : runs T_X6_ahead [.ref 6] 4 F_X6_ahead := by
  intro Qa K hw hf As σ r σ' h hQ
  unfold F_X6_ahead at h
  split at h
  · rename_i p0
    unfold f_X6_ahead at h
    have hQ : Qa (r, σ').1 (r, σ').2 := hQ
    generalize (r, σ') = y at h hQ
    show K (0, [.ref 6, .int p0, .null, .null], [], σ)
    refine hw 4 _ ?_
    show K (4, [.ref 6, .int p0, .int 0, .int 0], [], σ)
    refine t_X6_ahead_4 hw hf p0 _ _ lf 0 0 σ h (fun v9 v10 σ11 h => ?_)
    show K (37, [.ref 6, .int p0, .int v9, .int v10], [], σ11)
    obtain rfl := Option.some.inj h
    refine hw 2 _ ?_
    show Qa v9 σ11
    refine hQ
  · cases h
theorem h_X6_ahead : shp [.ref 6] 4 F_X6_ahead := by
  intro As σ r σ' h
  unfold F_X6_ahead at h
  split at h
  · exact ⟨by simp [Value.category], Nat.le_of_ble_eq_true rfl⟩
  · cases h
set_option maxHeartbeats 4000000 in
set_option maxRecDepth 100000 in
theorem c_X6_ahead (l : Launch) (D : va_G) (cI cZ cA cL : ClassId) (ad : Nat → Nat) (hi : adI ad) : CtI l yX6_ahead wsX6_ahead { frames := 0, cells := 0, slots := 0, locals := 0 } D cI cZ cA cL ad [.ref 6] F_X6_ahead := by
  refine mk_I [.ref 6] F_X6_ahead T_X6_ahead (by decide +kernel) rfl ?_ h_X6_ahead s_X6_ahead
  intro p e s m args below meth c Qa ⟨hx, hb, hml, hown, hts, hr, hlocks, hK, hN⟩
  have hin6 : ∀ w ∈ u_ws RX6 TX6 30, w ∈ wsX6_ahead := by decide +kernel
  have hl13 : (Cond.fieldLink RX6 13 RX6 (TX6 2).2.1 (TX6 2).2.2.1) ∈ wsX6_ahead := by decide +kernel
  have hl7 : (Cond.fieldLink RX6 7 RX6 (TX6 1).2.1 (TX6 1).2.2.1) ∈ wsX6_ahead := by decide +kernel
  refine ruL_c (n := 0) (n2 := 1) rfl (ru_iconst hx hb dX6_ahead_0 rfl) ?_
  refine ruL_c (n := 1) (n2 := 2) rfl (ru_istore_n (k := 2) hx hb dX6_ahead_1) ?_
  refine ruL_c (n := 2) (n2 := 3) rfl (ru_iconst hx hb dX6_ahead_2 rfl) ?_
  refine ruL_c (n := 3) (n2 := 4) rfl (ru_istore_n (k := 3) hx hb dX6_ahead_3) ?_
  refine ruL_c (n := 4) (n2 := 5) rfl (ru_iload_n (k := 3) hx hb dX6_ahead_4) ?_
  refine ruL_c (n := 5) (n2 := 6) rfl (ru_iload_n (k := 1) hx hb dX6_ahead_5) ?_
  refine ruL_c (n := 6) (n2 := 7) rfl (ru_icmpge hx hb dX6_ahead_6 (by decide)) ?_
  refine ruL_c (n := 7) (n2 := 8) rfl (ru_bot) ?_
  refine ruL_c (n := 8) (n2 := 9) rfl (ru_bot) ?_
  refine ruL_c (n := 9) (n2 := 10) rfl (ru_iload_n (k := 2) hx hb dX6_ahead_9) ?_
  refine ruL_c (n := 10) (n2 := 11) rfl (ru_aload_n (k := 0) hx hb dX6_ahead_10) ?_
  refine ruL_c (n := 11) (n2 := 12) rfl (ru_getR (own := RX6) (j := 2) (T := TX6) hx hb hown hK hts hin6 (by decide) rfl rfl (by decide) rfl hl13 dX6_ahead_11) ?_
  refine ruL_c (n := 12) (n2 := 13) rfl (ru_bot) ?_
  refine ruL_c (n := 13) (n2 := 14) rfl (ru_bot) ?_
  refine ruL_c (n := 14) (n2 := 15) rfl (ru_iload_n (k := 3) hx hb dX6_ahead_14) ?_
  refine ruL_c (n := 15) (n2 := 16) rfl (ru_zald hx hb hK dX6_ahead_15) ?_
  refine ruL_c (n := 16) (n2 := 17) rfl (ru_ifeq hx hb dX6_ahead_16 (by decide)) ?_
  refine ruL_c (n := 17) (n2 := 18) rfl (ru_bot) ?_
  refine ruL_c (n := 18) (n2 := 19) rfl (ru_bot) ?_
  refine ruL_c (n := 19) (n2 := 20) rfl (ru_iconst hx hb dX6_ahead_19 rfl) ?_
  refine ruL_c (n := 20) (n2 := 21) rfl (ru_goto hx hb dX6_ahead_20 (by decide)) ?_
  refine ruL_c (n := 21) (n2 := 22) rfl (ru_bot) ?_
  refine ruL_c (n := 22) (n2 := 23) rfl (ru_bot) ?_
  refine ruL_c (n := 23) (n2 := 24) rfl (ru_aload_n (k := 0) hx hb dX6_ahead_23) ?_
  refine ruL_c (n := 24) (n2 := 25) rfl (ru_getR (own := RX6) (j := 1) (T := TX6) hx hb hown hK hts hin6 (by decide) rfl rfl (by decide) rfl hl7 dX6_ahead_24) ?_
  refine ruL_c (n := 25) (n2 := 26) rfl (ru_bot) ?_
  refine ruL_c (n := 26) (n2 := 27) rfl (ru_bot) ?_
  refine ruL_c (n := 27) (n2 := 28) rfl (ru_iload_n (k := 3) hx hb dX6_ahead_27) ?_
  refine ruL_c (n := 28) (n2 := 29) rfl (ru_iald hx hb hK dX6_ahead_28) ?_
  refine ruL_c (n := 29) (n2 := 30) rfl (ru_iadd hx hb dX6_ahead_29) ?_
  refine ruL_c (n := 30) (n2 := 31) rfl (ru_istore_n (k := 2) hx hb dX6_ahead_30) ?_
  refine ruL_c (n := 31) (n2 := 32) rfl (ru_iinc hx hb dX6_ahead_31 rfl) ?_
  refine ruL_c (n := 32) (n2 := 33) rfl (ru_bot) ?_
  refine ruL_c (n := 33) (n2 := 34) rfl (ru_bot) ?_
  refine ruL_c (n := 34) (n2 := 35) rfl (ru_goto hx hb dX6_ahead_34 (by decide)) ?_
  refine ruL_c (n := 35) (n2 := 36) rfl (ru_bot) ?_
  refine ruL_c (n := 36) (n2 := 37) rfl (ru_bot) ?_
  refine ruL_c (n := 37) (n2 := 38) rfl (ru_iload_n (k := 2) hx hb dX6_ahead_37) ?_
  refine ruL_c (n := 38) (n2 := 39) rfl (ru_iret hx hb hK hr hlocks dX6_ahead_38) ?_
  exact trivial

-- CueTourModel.cut
def f_X6_cut (p0 : Int32) (p1 : Int32) (σ : aM) : Option (Int32 × aM) := bnd (f_X6_isLine p0 σ) (fun r1 σ2 => if r1 = 0 then bnd (f_X6_isFine 1 σ2) (fun r5 σ6 => if ¬ r5 = 0 then if inb p0 30 = true then if p1 = 0 ∨ p1 = 1 then bnd (f_X6_ahead (σ6 6 4) (mput σ6 30 (ix p0) p1)) (fun r11 σ12 => some (r11, σ12)) else none else none else some (0, σ6)) else bnd (f_X6_isFine 0 σ2) (fun r14 σ15 => if ¬ r14 = 0 then if inb p0 30 = true then if p1 = 0 ∨ p1 = 1 then bnd (f_X6_ahead (σ15 6 4) (mput σ15 30 (ix p0) p1)) (fun r20 σ21 => some (r20, σ21)) else none else none else some (0, σ15)))
def F_X6_cut : aF := fun As σ => match As with
  | [.int p0, .int p1] => f_X6_cut p0 p1 σ
  | _ => none
def T_X6_cut (Qa : Int32 → aM → Prop) : List aI := [I_aload 0 1, I_aload 0 1, I_iload 1 1, I_callV 6 1 F_X6_isLine, I_bot, I_bot, I_if (fun x => x = 0) 13, I_bot, I_bot, I_const 0 1, I_goto 14, I_bot, I_bot, I_const 1 1, I_callV 6 1 F_X6_isFine, I_bot, I_bot, I_if (fun x => ¬ x = 0) 22, I_bot, I_bot, I_const 0 1, I_iret Qa, I_aload 0 1, I_getR 6 30, I_bot, I_bot, I_iload 1 1, I_iload 2 1, I_zast, I_aload 0 1, I_aload 0 1, I_getI 6 4, I_bot, I_bot, I_callV 6 1 F_X6_ahead, I_bot, I_bot, I_iret Qa]
set_option maxHeartbeats 4000000 in
set_option maxRecDepth 100000 in
theorem s_X6_cut : runs T_X6_cut [.ref 6] 3 F_X6_cut := by
  intro Qa K hw hf As σ r σ' h hQ
  unfold F_X6_cut at h
  split at h
  · rename_i p0 p1
    unfold f_X6_cut at h
    have hQ : Qa (r, σ').1 (r, σ').2 := hQ
    generalize (r, σ') = y at h hQ
    show K (0, [.ref 6, .int p0, .int p1], [], σ)
    obtain ⟨r1, σ2, e3, h⟩ := bnd_some h
    refine hw 4 _ ?_
    show ∃ r1 σ2, f_X6_isLine p0 σ = some (r1, σ2) ∧ K (6, [.ref 6, .int p0, .int p1], [.int r1, .ref 6], σ2)
    refine ⟨r1, σ2, e3, ?_⟩
    rcases ite_cases h with ⟨c4, h⟩ | ⟨c4, h⟩
    · refine hw 1 _ ?_
      show ((r1 = 0) → K (13, [.ref 6, .int p0, .int p1], [.ref 6], σ2)) ∧ (¬ (r1 = 0) → K (9, [.ref 6, .int p0, .int p1], [.ref 6], σ2))
      refine ⟨fun _ => ?_, fun q => absurd c4 q⟩
      obtain ⟨r5, σ6, e7, h⟩ := bnd_some h
      refine hw 2 _ ?_
      show ∃ r5 σ6, f_X6_isFine 1 σ2 = some (r5, σ6) ∧ K (17, [.ref 6, .int p0, .int p1], [.int r5], σ6)
      refine ⟨r5, σ6, e7, ?_⟩
      rcases ite_cases h with ⟨c8, h⟩ | ⟨c8, h⟩
      · refine hw 1 _ ?_
        show ((¬ r5 = 0) → K (22, [.ref 6, .int p0, .int p1], [], σ6)) ∧ (¬ (¬ r5 = 0) → K (20, [.ref 6, .int p0, .int p1], [], σ6))
        refine ⟨fun _ => ?_, fun q => absurd c8 q⟩
        obtain ⟨g9, h⟩ := ite_some h
        obtain ⟨g10, h⟩ := ite_some h
        obtain ⟨r11, σ12, e13, h⟩ := bnd_some h
        refine hw 9 _ ?_
        show kd 30 = 2 ∧ (inb p0 30 = true ∧ ((p1 = 0 ∨ p1 = 1) ∧ (∃ r11 σ12, f_X6_ahead (σ6 6 4) (mput σ6 30 (ix p0) p1) = some (r11, σ12) ∧ K (37, [.ref 6, .int p0, .int p1], [.int r11], σ12))))
        refine ⟨rfl, g9, g10, ⟨r11, σ12, e13, ?_⟩⟩
        obtain rfl := Option.some.inj h
        refine hw 1 _ ?_
        show Qa r11 σ12
        refine hQ
      · refine hw 1 _ ?_
        show ((¬ r5 = 0) → K (22, [.ref 6, .int p0, .int p1], [], σ6)) ∧ (¬ (¬ r5 = 0) → K (20, [.ref 6, .int p0, .int p1], [], σ6))
        refine ⟨fun q => absurd q c8, fun _ => ?_⟩
        obtain rfl := Option.some.inj h
        refine hw 2 _ ?_
        show Qa 0 σ6
        refine hQ
    · refine hw 1 _ ?_
      show ((r1 = 0) → K (13, [.ref 6, .int p0, .int p1], [.ref 6], σ2)) ∧ (¬ (r1 = 0) → K (9, [.ref 6, .int p0, .int p1], [.ref 6], σ2))
      refine ⟨fun q => absurd q c4, fun _ => ?_⟩
      obtain ⟨r14, σ15, e16, h⟩ := bnd_some h
      refine hw 3 _ ?_
      show ∃ r14 σ15, f_X6_isFine 0 σ2 = some (r14, σ15) ∧ K (17, [.ref 6, .int p0, .int p1], [.int r14], σ15)
      refine ⟨r14, σ15, e16, ?_⟩
      rcases ite_cases h with ⟨c17, h⟩ | ⟨c17, h⟩
      · refine hw 1 _ ?_
        show ((¬ r14 = 0) → K (22, [.ref 6, .int p0, .int p1], [], σ15)) ∧ (¬ (¬ r14 = 0) → K (20, [.ref 6, .int p0, .int p1], [], σ15))
        refine ⟨fun _ => ?_, fun q => absurd c17 q⟩
        obtain ⟨g18, h⟩ := ite_some h
        obtain ⟨g19, h⟩ := ite_some h
        obtain ⟨r20, σ21, e22, h⟩ := bnd_some h
        refine hw 9 _ ?_
        show kd 30 = 2 ∧ (inb p0 30 = true ∧ ((p1 = 0 ∨ p1 = 1) ∧ (∃ r20 σ21, f_X6_ahead (σ15 6 4) (mput σ15 30 (ix p0) p1) = some (r20, σ21) ∧ K (37, [.ref 6, .int p0, .int p1], [.int r20], σ21))))
        refine ⟨rfl, g18, g19, ⟨r20, σ21, e22, ?_⟩⟩
        obtain rfl := Option.some.inj h
        refine hw 1 _ ?_
        show Qa r20 σ21
        refine hQ
      · refine hw 1 _ ?_
        show ((¬ r14 = 0) → K (22, [.ref 6, .int p0, .int p1], [], σ15)) ∧ (¬ (¬ r14 = 0) → K (20, [.ref 6, .int p0, .int p1], [], σ15))
        refine ⟨fun q => absurd q c17, fun _ => ?_⟩
        obtain rfl := Option.some.inj h
        refine hw 2 _ ?_
        show Qa 0 σ15
        refine hQ
  · cases h
theorem h_X6_cut : shp [.ref 6] 3 F_X6_cut := by
  intro As σ r σ' h
  unfold F_X6_cut at h
  split at h
  · exact ⟨by simp [Value.category], Nat.le_of_ble_eq_true rfl⟩
  · cases h
set_option maxHeartbeats 4000000 in
set_option maxRecDepth 100000 in
theorem c_X6_cut (l : Launch) (D : va_G) (cI cZ cA cL : ClassId) (ad : Nat → Nat) (hi : adI ad) : CtI l yX6_cut wsX6_cut { frames := 2, cells := 0, slots := 0, locals := 43 } D cI cZ cA cL ad [.ref 6] F_X6_cut := by
  refine mk_I [.ref 6] F_X6_cut T_X6_cut (by decide +kernel) rfl ?_ h_X6_cut s_X6_cut
  intro p e s m args below meth c Qa ⟨hx, hb, hml, hown, hts, hr, hlocks, hK, hN⟩
  have hin6 : ∀ w ∈ u_ws RX6 TX6 30, w ∈ wsX6_cut := by decide +kernel
  have hl13 : (Cond.fieldLink RX6 13 RX6 (TX6 2).2.1 (TX6 2).2.2.1) ∈ wsX6_cut := by decide +kernel
  have hl87 : (Cond.fieldLink RX6 87 RX6 (TX6 4).2.1 (TX6 4).2.2.1) ∈ wsX6_cut := by decide +kernel
  refine ruL_c (n := 0) (n2 := 1) rfl (ru_aload_n (k := 0) hx hb dX6_cut_0) ?_
  refine ruL_c (n := 1) (n2 := 2) rfl (ru_aload_n (k := 0) hx hb dX6_cut_1) ?_
  refine ruL_c (n := 2) (n2 := 3) rfl (ru_iload_n (k := 1) hx hb dX6_cut_2) ?_
  refine ruL_c (n := 3) (n2 := 4) rfl (ru_callV hx hb hml hown hts hK hN (by decide) rfl (c_X6_isLine l D cI cZ cA cL ad hi) (cwV 1 hts gX6_cut_X6_isLine rfl rfl rfl (by decide +kernel) ⟨Nat.le_of_ble_eq_true rfl, Nat.le_of_ble_eq_true rfl⟩) dX6_cut_3 ⟨Nat.zero_le _, Nat.zero_le _⟩) ?_
  refine ruL_c (n := 4) (n2 := 5) rfl (ru_bot) ?_
  refine ruL_c (n := 5) (n2 := 6) rfl (ru_bot) ?_
  refine ruL_c (n := 6) (n2 := 7) rfl (ru_ifeq hx hb dX6_cut_6 (by decide)) ?_
  refine ruL_c (n := 7) (n2 := 8) rfl (ru_bot) ?_
  refine ruL_c (n := 8) (n2 := 9) rfl (ru_bot) ?_
  refine ruL_c (n := 9) (n2 := 10) rfl (ru_iconst hx hb dX6_cut_9 rfl) ?_
  refine ruL_c (n := 10) (n2 := 11) rfl (ru_goto hx hb dX6_cut_10 (by decide)) ?_
  refine ruL_c (n := 11) (n2 := 12) rfl (ru_bot) ?_
  refine ruL_c (n := 12) (n2 := 13) rfl (ru_bot) ?_
  refine ruL_c (n := 13) (n2 := 14) rfl (ru_iconst hx hb dX6_cut_13 rfl) ?_
  refine ruL_c (n := 14) (n2 := 15) rfl (ru_callV hx hb hml hown hts hK hN (by decide) rfl (c_X6_isFine l D cI cZ cA cL ad hi) (cwV 1 hts gX6_cut_X6_isFine rfl rfl rfl (by decide +kernel) ⟨Nat.le_of_ble_eq_true rfl, Nat.le_of_ble_eq_true rfl⟩) dX6_cut_14 ⟨Nat.zero_le _, Nat.zero_le _⟩) ?_
  refine ruL_c (n := 15) (n2 := 16) rfl (ru_bot) ?_
  refine ruL_c (n := 16) (n2 := 17) rfl (ru_bot) ?_
  refine ruL_c (n := 17) (n2 := 18) rfl (ru_ifne hx hb dX6_cut_17 (by decide)) ?_
  refine ruL_c (n := 18) (n2 := 19) rfl (ru_bot) ?_
  refine ruL_c (n := 19) (n2 := 20) rfl (ru_bot) ?_
  refine ruL_c (n := 20) (n2 := 21) rfl (ru_iconst hx hb dX6_cut_20 rfl) ?_
  refine ruL_c (n := 21) (n2 := 22) rfl (ru_iret hx hb hK hr hlocks dX6_cut_21) ?_
  refine ruL_c (n := 22) (n2 := 23) rfl (ru_aload_n (k := 0) hx hb dX6_cut_22) ?_
  refine ruL_c (n := 23) (n2 := 24) rfl (ru_getR (own := RX6) (j := 2) (T := TX6) hx hb hown hK hts hin6 (by decide) rfl rfl (by decide) rfl hl13 dX6_cut_23) ?_
  refine ruL_c (n := 24) (n2 := 25) rfl (ru_bot) ?_
  refine ruL_c (n := 25) (n2 := 26) rfl (ru_bot) ?_
  refine ruL_c (n := 26) (n2 := 27) rfl (ru_iload_n (k := 1) hx hb dX6_cut_26) ?_
  refine ruL_c (n := 27) (n2 := 28) rfl (ru_iload_n (k := 2) hx hb dX6_cut_27) ?_
  refine ruL_c (n := 28) (n2 := 29) rfl (ru_zast hx hb hK hi dX6_cut_28) ?_
  refine ruL_c (n := 29) (n2 := 30) rfl (ru_aload_n (k := 0) hx hb dX6_cut_29) ?_
  refine ruL_c (n := 30) (n2 := 31) rfl (ru_aload_n (k := 0) hx hb dX6_cut_30) ?_
  refine ruL_c (n := 31) (n2 := 32) rfl (ru_getI (own := RX6) (j := 4) (T := TX6) hx hb hown hK hts hin6 (by decide) rfl rfl (by decide) rfl hl87 dX6_cut_31) ?_
  refine ruL_c (n := 32) (n2 := 33) rfl (ru_bot) ?_
  refine ruL_c (n := 33) (n2 := 34) rfl (ru_bot) ?_
  refine ruL_c (n := 34) (n2 := 35) rfl (ru_callV hx hb hml hown hts hK hN (by decide) rfl (c_X6_ahead l D cI cZ cA cL ad hi) (cwV 1 hts gX6_cut_X6_ahead rfl rfl rfl (by decide +kernel) ⟨Nat.le_of_ble_eq_true rfl, Nat.le_of_ble_eq_true rfl⟩) dX6_cut_34 ⟨Nat.zero_le _, Nat.zero_le _⟩) ?_
  refine ruL_c (n := 35) (n2 := 36) rfl (ru_bot) ?_
  refine ruL_c (n := 36) (n2 := 37) rfl (ru_bot) ?_
  refine ruL_c (n := 37) (n2 := 38) rfl (ru_iret hx hb hK hr hlocks dX6_cut_37) ?_
  exact trivial

-- CueTourModel.lines
def f_X6_lines (σ : aM) : Option (Int32 × aM) := some (σ 6 4, mput σ 6 0 0)
def F_X6_lines : aF := fun As σ => match As with
  | [] => f_X6_lines σ
  | _ => none
def T_X6_lines (Qa : Int32 → aM → Prop) : List aI := [I_aload 0 1, I_const 0 1, I_putI 6 0, I_bot, I_bot, I_aload 0 1, I_getI 6 4, I_bot, I_bot, I_iret Qa]
set_option maxHeartbeats 4000000 in
set_option maxRecDepth 100000 in
theorem s_X6_lines : runs T_X6_lines [.ref 6] 1 F_X6_lines := by
  intro Qa K hw hf As σ r σ' h hQ
  unfold F_X6_lines at h
  split at h
  · unfold f_X6_lines at h
    have hQ : Qa (r, σ').1 (r, σ').2 := hQ
    generalize (r, σ') = y at h hQ
    show K (0, [.ref 6], [], σ)
    obtain rfl := Option.some.inj h
    refine hw 6 _ ?_
    show Qa (σ 6 4) (mput σ 6 0 0)
    refine hQ
  · cases h
theorem h_X6_lines : shp [.ref 6] 1 F_X6_lines := by
  intro As σ r σ' h
  unfold F_X6_lines at h
  split at h
  · exact ⟨by simp [Value.category], Nat.le_of_ble_eq_true rfl⟩
  · cases h
set_option maxHeartbeats 4000000 in
set_option maxRecDepth 100000 in
theorem c_X6_lines (l : Launch) (D : va_G) (cI cZ cA cL : ClassId) (ad : Nat → Nat) (hi : adI ad) : CtI l yX6_lines wsX6_lines { frames := 0, cells := 0, slots := 0, locals := 0 } D cI cZ cA cL ad [.ref 6] F_X6_lines := by
  refine mk_I [.ref 6] F_X6_lines T_X6_lines (by decide +kernel) rfl ?_ h_X6_lines s_X6_lines
  intro p e s m args below meth c Qa ⟨hx, hb, hml, hown, hts, hr, hlocks, hK, hN⟩
  have hin6 : ∀ w ∈ u_ws RX6 TX6 30, w ∈ wsX6_lines := by decide +kernel
  have hl83 : (Cond.fieldLink RX6 83 RX6 (TX6 0).2.1 (TX6 0).2.2.1) ∈ wsX6_lines := by decide +kernel
  have hl87 : (Cond.fieldLink RX6 87 RX6 (TX6 4).2.1 (TX6 4).2.2.1) ∈ wsX6_lines := by decide +kernel
  refine ruL_c (n := 0) (n2 := 1) rfl (ru_aload_n (k := 0) hx hb dX6_lines_0) ?_
  refine ruL_c (n := 1) (n2 := 2) rfl (ru_iconst hx hb dX6_lines_1 rfl) ?_
  refine ruL_c (n := 2) (n2 := 3) rfl (ru_putI (own := RX6) (j := 0) (T := TX6) hx hb hown hK hi hts hin6 tyX6 tyX6_ok nmX6 (by decide) rfl rfl (by decide) rfl hl83 rfl (by decide +kernel) dX6_lines_2) ?_
  refine ruL_c (n := 3) (n2 := 4) rfl (ru_bot) ?_
  refine ruL_c (n := 4) (n2 := 5) rfl (ru_bot) ?_
  refine ruL_c (n := 5) (n2 := 6) rfl (ru_aload_n (k := 0) hx hb dX6_lines_5) ?_
  refine ruL_c (n := 6) (n2 := 7) rfl (ru_getI (own := RX6) (j := 4) (T := TX6) hx hb hown hK hts hin6 (by decide) rfl rfl (by decide) rfl hl87 dX6_lines_6) ?_
  refine ruL_c (n := 7) (n2 := 8) rfl (ru_bot) ?_
  refine ruL_c (n := 8) (n2 := 9) rfl (ru_bot) ?_
  refine ruL_c (n := 9) (n2 := 10) rfl (ru_iret hx hb hK hr hlocks dX6_lines_9) ?_
  exact trivial

-- CueTourModel.startOf
def f_X6_startOf (p0 : Int32) (σ : aM) : Option (Int32 × aM) := bnd (f_X6_isLine p0 σ) (fun r1 σ2 => if r1 = 0 then bnd (f_X6_isFine 1 σ2) (fun r5 σ6 => if ¬ r5 = 0 then if inb p0 30 = true then if (σ6 30 (ix p0)) = 0 then bnd (f_X6_ahead p0 σ6) (fun r11 σ12 => some (r11, σ12)) else some ((-1), σ6) else none else some (0, σ6)) else bnd (f_X6_isFine 0 σ2) (fun r14 σ15 => if ¬ r14 = 0 then if inb p0 30 = true then if (σ15 30 (ix p0)) = 0 then bnd (f_X6_ahead p0 σ15) (fun r20 σ21 => some (r20, σ21)) else some ((-1), σ15) else none else some (0, σ15)))
def F_X6_startOf : aF := fun As σ => match As with
  | [.int p0] => f_X6_startOf p0 σ
  | _ => none
def T_X6_startOf (Qa : Int32 → aM → Prop) : List aI := [I_aload 0 1, I_aload 0 1, I_iload 1 1, I_callV 6 1 F_X6_isLine, I_bot, I_bot, I_if (fun x => x = 0) 13, I_bot, I_bot, I_const 0 1, I_goto 14, I_bot, I_bot, I_const 1 1, I_callV 6 1 F_X6_isFine, I_bot, I_bot, I_if (fun x => ¬ x = 0) 22, I_bot, I_bot, I_const 0 1, I_iret Qa, I_aload 0 1, I_getR 6 30, I_bot, I_bot, I_iload 1 1, I_zald, I_if (fun x => x = 0) 35, I_bot, I_bot, I_const (-1) 1, I_goto 40, I_bot, I_bot, I_aload 0 1, I_iload 1 1, I_callV 6 1 F_X6_ahead, I_bot, I_bot, I_iret Qa]
set_option maxHeartbeats 4000000 in
set_option maxRecDepth 100000 in
theorem s_X6_startOf : runs T_X6_startOf [.ref 6] 2 F_X6_startOf := by
  intro Qa K hw hf As σ r σ' h hQ
  unfold F_X6_startOf at h
  split at h
  · rename_i p0
    unfold f_X6_startOf at h
    have hQ : Qa (r, σ').1 (r, σ').2 := hQ
    generalize (r, σ') = y at h hQ
    show K (0, [.ref 6, .int p0], [], σ)
    obtain ⟨r1, σ2, e3, h⟩ := bnd_some h
    refine hw 4 _ ?_
    show ∃ r1 σ2, f_X6_isLine p0 σ = some (r1, σ2) ∧ K (6, [.ref 6, .int p0], [.int r1, .ref 6], σ2)
    refine ⟨r1, σ2, e3, ?_⟩
    rcases ite_cases h with ⟨c4, h⟩ | ⟨c4, h⟩
    · refine hw 1 _ ?_
      show ((r1 = 0) → K (13, [.ref 6, .int p0], [.ref 6], σ2)) ∧ (¬ (r1 = 0) → K (9, [.ref 6, .int p0], [.ref 6], σ2))
      refine ⟨fun _ => ?_, fun q => absurd c4 q⟩
      obtain ⟨r5, σ6, e7, h⟩ := bnd_some h
      refine hw 2 _ ?_
      show ∃ r5 σ6, f_X6_isFine 1 σ2 = some (r5, σ6) ∧ K (17, [.ref 6, .int p0], [.int r5], σ6)
      refine ⟨r5, σ6, e7, ?_⟩
      rcases ite_cases h with ⟨c8, h⟩ | ⟨c8, h⟩
      · refine hw 1 _ ?_
        show ((¬ r5 = 0) → K (22, [.ref 6, .int p0], [], σ6)) ∧ (¬ (¬ r5 = 0) → K (20, [.ref 6, .int p0], [], σ6))
        refine ⟨fun _ => ?_, fun q => absurd c8 q⟩
        obtain ⟨g9, h⟩ := ite_some h
        rcases ite_cases h with ⟨c10, h⟩ | ⟨c10, h⟩
        · refine hw 5 _ ?_
          show kd 30 = 2 ∧ (inb p0 30 = true ∧ ((((σ6 30 (ix p0)) = 0) → K (35, [.ref 6, .int p0], [], σ6)) ∧ (¬ ((σ6 30 (ix p0)) = 0) → K (31, [.ref 6, .int p0], [], σ6))))
          refine ⟨rfl, g9, ⟨fun _ => ?_, fun q => absurd c10 q⟩⟩
          obtain ⟨r11, σ12, e13, h⟩ := bnd_some h
          refine hw 3 _ ?_
          show ∃ r11 σ12, f_X6_ahead p0 σ6 = some (r11, σ12) ∧ K (40, [.ref 6, .int p0], [.int r11], σ12)
          refine ⟨r11, σ12, e13, ?_⟩
          obtain rfl := Option.some.inj h
          refine hw 1 _ ?_
          show Qa r11 σ12
          refine hQ
        · refine hw 5 _ ?_
          show kd 30 = 2 ∧ (inb p0 30 = true ∧ ((((σ6 30 (ix p0)) = 0) → K (35, [.ref 6, .int p0], [], σ6)) ∧ (¬ ((σ6 30 (ix p0)) = 0) → K (31, [.ref 6, .int p0], [], σ6))))
          refine ⟨rfl, g9, ⟨fun q => absurd q c10, fun _ => ?_⟩⟩
          obtain rfl := Option.some.inj h
          refine hw 3 _ ?_
          show Qa ((-1)) σ6
          refine hQ
      · refine hw 1 _ ?_
        show ((¬ r5 = 0) → K (22, [.ref 6, .int p0], [], σ6)) ∧ (¬ (¬ r5 = 0) → K (20, [.ref 6, .int p0], [], σ6))
        refine ⟨fun q => absurd q c8, fun _ => ?_⟩
        obtain rfl := Option.some.inj h
        refine hw 2 _ ?_
        show Qa 0 σ6
        refine hQ
    · refine hw 1 _ ?_
      show ((r1 = 0) → K (13, [.ref 6, .int p0], [.ref 6], σ2)) ∧ (¬ (r1 = 0) → K (9, [.ref 6, .int p0], [.ref 6], σ2))
      refine ⟨fun q => absurd q c4, fun _ => ?_⟩
      obtain ⟨r14, σ15, e16, h⟩ := bnd_some h
      refine hw 3 _ ?_
      show ∃ r14 σ15, f_X6_isFine 0 σ2 = some (r14, σ15) ∧ K (17, [.ref 6, .int p0], [.int r14], σ15)
      refine ⟨r14, σ15, e16, ?_⟩
      rcases ite_cases h with ⟨c17, h⟩ | ⟨c17, h⟩
      · refine hw 1 _ ?_
        show ((¬ r14 = 0) → K (22, [.ref 6, .int p0], [], σ15)) ∧ (¬ (¬ r14 = 0) → K (20, [.ref 6, .int p0], [], σ15))
        refine ⟨fun _ => ?_, fun q => absurd c17 q⟩
        obtain ⟨g18, h⟩ := ite_some h
        rcases ite_cases h with ⟨c19, h⟩ | ⟨c19, h⟩
        · refine hw 5 _ ?_
          show kd 30 = 2 ∧ (inb p0 30 = true ∧ ((((σ15 30 (ix p0)) = 0) → K (35, [.ref 6, .int p0], [], σ15)) ∧ (¬ ((σ15 30 (ix p0)) = 0) → K (31, [.ref 6, .int p0], [], σ15))))
          refine ⟨rfl, g18, ⟨fun _ => ?_, fun q => absurd c19 q⟩⟩
          obtain ⟨r20, σ21, e22, h⟩ := bnd_some h
          refine hw 3 _ ?_
          show ∃ r20 σ21, f_X6_ahead p0 σ15 = some (r20, σ21) ∧ K (40, [.ref 6, .int p0], [.int r20], σ21)
          refine ⟨r20, σ21, e22, ?_⟩
          obtain rfl := Option.some.inj h
          refine hw 1 _ ?_
          show Qa r20 σ21
          refine hQ
        · refine hw 5 _ ?_
          show kd 30 = 2 ∧ (inb p0 30 = true ∧ ((((σ15 30 (ix p0)) = 0) → K (35, [.ref 6, .int p0], [], σ15)) ∧ (¬ ((σ15 30 (ix p0)) = 0) → K (31, [.ref 6, .int p0], [], σ15))))
          refine ⟨rfl, g18, ⟨fun q => absurd q c19, fun _ => ?_⟩⟩
          obtain rfl := Option.some.inj h
          refine hw 3 _ ?_
          show Qa ((-1)) σ15
          refine hQ
      · refine hw 1 _ ?_
        show ((¬ r14 = 0) → K (22, [.ref 6, .int p0], [], σ15)) ∧ (¬ (¬ r14 = 0) → K (20, [.ref 6, .int p0], [], σ15))
        refine ⟨fun q => absurd q c17, fun _ => ?_⟩
        obtain rfl := Option.some.inj h
        refine hw 2 _ ?_
        show Qa 0 σ15
        refine hQ
  · cases h
theorem h_X6_startOf : shp [.ref 6] 2 F_X6_startOf := by
  intro As σ r σ' h
  unfold F_X6_startOf at h
  split at h
  · exact ⟨by simp [Value.category], Nat.le_of_ble_eq_true rfl⟩
  · cases h
set_option maxHeartbeats 4000000 in
set_option maxRecDepth 100000 in
theorem c_X6_startOf (l : Launch) (D : va_G) (cI cZ cA cL : ClassId) (ad : Nat → Nat) (hi : adI ad) : CtI l yX6_startOf wsX6_startOf { frames := 2, cells := 0, slots := 0, locals := 43 } D cI cZ cA cL ad [.ref 6] F_X6_startOf := by
  refine mk_I [.ref 6] F_X6_startOf T_X6_startOf (by decide +kernel) rfl ?_ h_X6_startOf s_X6_startOf
  intro p e s m args below meth c Qa ⟨hx, hb, hml, hown, hts, hr, hlocks, hK, hN⟩
  have hin6 : ∀ w ∈ u_ws RX6 TX6 30, w ∈ wsX6_startOf := by decide +kernel
  have hl13 : (Cond.fieldLink RX6 13 RX6 (TX6 2).2.1 (TX6 2).2.2.1) ∈ wsX6_startOf := by decide +kernel
  refine ruL_c (n := 0) (n2 := 1) rfl (ru_aload_n (k := 0) hx hb dX6_startOf_0) ?_
  refine ruL_c (n := 1) (n2 := 2) rfl (ru_aload_n (k := 0) hx hb dX6_startOf_1) ?_
  refine ruL_c (n := 2) (n2 := 3) rfl (ru_iload_n (k := 1) hx hb dX6_startOf_2) ?_
  refine ruL_c (n := 3) (n2 := 4) rfl (ru_callV hx hb hml hown hts hK hN (by decide) rfl (c_X6_isLine l D cI cZ cA cL ad hi) (cwV 1 hts gX6_startOf_X6_isLine rfl rfl rfl (by decide +kernel) ⟨Nat.le_of_ble_eq_true rfl, Nat.le_of_ble_eq_true rfl⟩) dX6_startOf_3 ⟨Nat.zero_le _, Nat.zero_le _⟩) ?_
  refine ruL_c (n := 4) (n2 := 5) rfl (ru_bot) ?_
  refine ruL_c (n := 5) (n2 := 6) rfl (ru_bot) ?_
  refine ruL_c (n := 6) (n2 := 7) rfl (ru_ifeq hx hb dX6_startOf_6 (by decide)) ?_
  refine ruL_c (n := 7) (n2 := 8) rfl (ru_bot) ?_
  refine ruL_c (n := 8) (n2 := 9) rfl (ru_bot) ?_
  refine ruL_c (n := 9) (n2 := 10) rfl (ru_iconst hx hb dX6_startOf_9 rfl) ?_
  refine ruL_c (n := 10) (n2 := 11) rfl (ru_goto hx hb dX6_startOf_10 (by decide)) ?_
  refine ruL_c (n := 11) (n2 := 12) rfl (ru_bot) ?_
  refine ruL_c (n := 12) (n2 := 13) rfl (ru_bot) ?_
  refine ruL_c (n := 13) (n2 := 14) rfl (ru_iconst hx hb dX6_startOf_13 rfl) ?_
  refine ruL_c (n := 14) (n2 := 15) rfl (ru_callV hx hb hml hown hts hK hN (by decide) rfl (c_X6_isFine l D cI cZ cA cL ad hi) (cwV 1 hts gX6_startOf_X6_isFine rfl rfl rfl (by decide +kernel) ⟨Nat.le_of_ble_eq_true rfl, Nat.le_of_ble_eq_true rfl⟩) dX6_startOf_14 ⟨Nat.zero_le _, Nat.zero_le _⟩) ?_
  refine ruL_c (n := 15) (n2 := 16) rfl (ru_bot) ?_
  refine ruL_c (n := 16) (n2 := 17) rfl (ru_bot) ?_
  refine ruL_c (n := 17) (n2 := 18) rfl (ru_ifne hx hb dX6_startOf_17 (by decide)) ?_
  refine ruL_c (n := 18) (n2 := 19) rfl (ru_bot) ?_
  refine ruL_c (n := 19) (n2 := 20) rfl (ru_bot) ?_
  refine ruL_c (n := 20) (n2 := 21) rfl (ru_iconst hx hb dX6_startOf_20 rfl) ?_
  refine ruL_c (n := 21) (n2 := 22) rfl (ru_iret hx hb hK hr hlocks dX6_startOf_21) ?_
  refine ruL_c (n := 22) (n2 := 23) rfl (ru_aload_n (k := 0) hx hb dX6_startOf_22) ?_
  refine ruL_c (n := 23) (n2 := 24) rfl (ru_getR (own := RX6) (j := 2) (T := TX6) hx hb hown hK hts hin6 (by decide) rfl rfl (by decide) rfl hl13 dX6_startOf_23) ?_
  refine ruL_c (n := 24) (n2 := 25) rfl (ru_bot) ?_
  refine ruL_c (n := 25) (n2 := 26) rfl (ru_bot) ?_
  refine ruL_c (n := 26) (n2 := 27) rfl (ru_iload_n (k := 1) hx hb dX6_startOf_26) ?_
  refine ruL_c (n := 27) (n2 := 28) rfl (ru_zald hx hb hK dX6_startOf_27) ?_
  refine ruL_c (n := 28) (n2 := 29) rfl (ru_ifeq hx hb dX6_startOf_28 (by decide)) ?_
  refine ruL_c (n := 29) (n2 := 30) rfl (ru_bot) ?_
  refine ruL_c (n := 30) (n2 := 31) rfl (ru_bot) ?_
  refine ruL_c (n := 31) (n2 := 32) rfl (ru_iconst hx hb dX6_startOf_31 rfl) ?_
  refine ruL_c (n := 32) (n2 := 33) rfl (ru_goto hx hb dX6_startOf_32 (by decide)) ?_
  refine ruL_c (n := 33) (n2 := 34) rfl (ru_bot) ?_
  refine ruL_c (n := 34) (n2 := 35) rfl (ru_bot) ?_
  refine ruL_c (n := 35) (n2 := 36) rfl (ru_aload_n (k := 0) hx hb dX6_startOf_35) ?_
  refine ruL_c (n := 36) (n2 := 37) rfl (ru_iload_n (k := 1) hx hb dX6_startOf_36) ?_
  refine ruL_c (n := 37) (n2 := 38) rfl (ru_callV hx hb hml hown hts hK hN (by decide) rfl (c_X6_ahead l D cI cZ cA cL ad hi) (cwV 1 hts gX6_startOf_X6_ahead rfl rfl rfl (by decide +kernel) ⟨Nat.le_of_ble_eq_true rfl, Nat.le_of_ble_eq_true rfl⟩) dX6_startOf_37 ⟨Nat.zero_le _, Nat.zero_le _⟩) ?_
  refine ruL_c (n := 38) (n2 := 39) rfl (ru_bot) ?_
  refine ruL_c (n := 39) (n2 := 40) rfl (ru_bot) ?_
  refine ruL_c (n := 40) (n2 := 41) rfl (ru_iret hx hb hK hr hlocks dX6_startOf_40) ?_
  exact trivial

-- CueTourModel.length
def f_X6_length (σ : aM) : Option (Int32 × aM) := bnd (f_X6_ahead (σ 6 4) (mput σ 6 0 0)) (fun r1 σ2 => some (r1, σ2))
def F_X6_length : aF := fun As σ => match As with
  | [] => f_X6_length σ
  | _ => none
def T_X6_length (Qa : Int32 → aM → Prop) : List aI := [I_aload 0 1, I_const 0 1, I_putI 6 0, I_bot, I_bot, I_aload 0 1, I_aload 0 1, I_getI 6 4, I_bot, I_bot, I_callV 6 1 F_X6_ahead, I_bot, I_bot, I_iret Qa]
set_option maxHeartbeats 4000000 in
set_option maxRecDepth 100000 in
theorem s_X6_length : runs T_X6_length [.ref 6] 1 F_X6_length := by
  intro Qa K hw hf As σ r σ' h hQ
  unfold F_X6_length at h
  split at h
  · unfold f_X6_length at h
    have hQ : Qa (r, σ').1 (r, σ').2 := hQ
    generalize (r, σ') = y at h hQ
    show K (0, [.ref 6], [], σ)
    obtain ⟨r1, σ2, e3, h⟩ := bnd_some h
    refine hw 7 _ ?_
    show ∃ r1 σ2, f_X6_ahead (σ 6 4) (mput σ 6 0 0) = some (r1, σ2) ∧ K (13, [.ref 6], [.int r1], σ2)
    refine ⟨r1, σ2, e3, ?_⟩
    obtain rfl := Option.some.inj h
    refine hw 1 _ ?_
    show Qa r1 σ2
    refine hQ
  · cases h
theorem h_X6_length : shp [.ref 6] 1 F_X6_length := by
  intro As σ r σ' h
  unfold F_X6_length at h
  split at h
  · exact ⟨by simp [Value.category], Nat.le_of_ble_eq_true rfl⟩
  · cases h
set_option maxHeartbeats 4000000 in
set_option maxRecDepth 100000 in
theorem c_X6_length (l : Launch) (D : va_G) (cI cZ cA cL : ClassId) (ad : Nat → Nat) (hi : adI ad) : CtI l yX6_length wsX6_length { frames := 1, cells := 0, slots := 0, locals := 23 } D cI cZ cA cL ad [.ref 6] F_X6_length := by
  refine mk_I [.ref 6] F_X6_length T_X6_length (by decide +kernel) rfl ?_ h_X6_length s_X6_length
  intro p e s m args below meth c Qa ⟨hx, hb, hml, hown, hts, hr, hlocks, hK, hN⟩
  have hin6 : ∀ w ∈ u_ws RX6 TX6 30, w ∈ wsX6_length := by decide +kernel
  have hl83 : (Cond.fieldLink RX6 83 RX6 (TX6 0).2.1 (TX6 0).2.2.1) ∈ wsX6_length := by decide +kernel
  have hl87 : (Cond.fieldLink RX6 87 RX6 (TX6 4).2.1 (TX6 4).2.2.1) ∈ wsX6_length := by decide +kernel
  refine ruL_c (n := 0) (n2 := 1) rfl (ru_aload_n (k := 0) hx hb dX6_length_0) ?_
  refine ruL_c (n := 1) (n2 := 2) rfl (ru_iconst hx hb dX6_length_1 rfl) ?_
  refine ruL_c (n := 2) (n2 := 3) rfl (ru_putI (own := RX6) (j := 0) (T := TX6) hx hb hown hK hi hts hin6 tyX6 tyX6_ok nmX6 (by decide) rfl rfl (by decide) rfl hl83 rfl (by decide +kernel) dX6_length_2) ?_
  refine ruL_c (n := 3) (n2 := 4) rfl (ru_bot) ?_
  refine ruL_c (n := 4) (n2 := 5) rfl (ru_bot) ?_
  refine ruL_c (n := 5) (n2 := 6) rfl (ru_aload_n (k := 0) hx hb dX6_length_5) ?_
  refine ruL_c (n := 6) (n2 := 7) rfl (ru_aload_n (k := 0) hx hb dX6_length_6) ?_
  refine ruL_c (n := 7) (n2 := 8) rfl (ru_getI (own := RX6) (j := 4) (T := TX6) hx hb hown hK hts hin6 (by decide) rfl rfl (by decide) rfl hl87 dX6_length_7) ?_
  refine ruL_c (n := 8) (n2 := 9) rfl (ru_bot) ?_
  refine ruL_c (n := 9) (n2 := 10) rfl (ru_bot) ?_
  refine ruL_c (n := 10) (n2 := 11) rfl (ru_callV hx hb hml hown hts hK hN (by decide) rfl (c_X6_ahead l D cI cZ cA cL ad hi) (cwV 1 hts gX6_length_X6_ahead rfl rfl rfl (by decide +kernel) ⟨Nat.le_of_ble_eq_true rfl, Nat.le_of_ble_eq_true rfl⟩) dX6_length_10 ⟨Nat.zero_le _, Nat.zero_le _⟩) ?_
  refine ruL_c (n := 11) (n2 := 12) rfl (ru_bot) ?_
  refine ruL_c (n := 12) (n2 := 13) rfl (ru_bot) ?_
  refine ruL_c (n := 13) (n2 := 14) rfl (ru_iret hx hb hK hr hlocks dX6_length_13) ?_
  exact trivial

-- CueTourModel.setChannel
def f_X6_setChannel (p0 : Int32) (p1 : Int32) (p2 : Int32) (σ : aM) : Option (Int32 × aM) := bnd (f_X6_isChannel p0 σ) (fun r1 σ2 => if r1 = 0 then bnd (f_X6_isFine 1 σ2) (fun r5 σ6 => if ¬ r5 = 0 then if inb p0 10 = true then if inb p0 10 = true then if inb p0 10 = true then if inb p0 10 = true then some ((10 * (σ6 32 (ix p0))) + (σ6 33 (ix p0)), mput (mput σ6 32 (ix p0) p1) 33 (ix p0) p2) else none else none else none else none else some (0, σ6)) else bnd (f_X6_isArea p1 σ2) (fun r13 σ14 => if r13 = 0 then bnd (f_X6_isFine 1 σ14) (fun r17 σ18 => if ¬ r17 = 0 then if inb p0 10 = true then if inb p0 10 = true then if inb p0 10 = true then if inb p0 10 = true then some ((10 * (σ18 32 (ix p0))) + (σ18 33 (ix p0)), mput (mput σ18 32 (ix p0) p1) 33 (ix p0) p2) else none else none else none else none else some (0, σ18)) else bnd (f_X6_isIn p2 0 2 σ14) (fun r25 σ26 => if ¬ r25 = 0 then bnd (f_X6_isFine 0 σ26) (fun r29 σ30 => if ¬ r29 = 0 then if inb p0 10 = true then if inb p0 10 = true then if inb p0 10 = true then if inb p0 10 = true then some ((10 * (σ30 32 (ix p0))) + (σ30 33 (ix p0)), mput (mput σ30 32 (ix p0) p1) 33 (ix p0) p2) else none else none else none else none else some (0, σ30)) else bnd (f_X6_isFine 2 σ26) (fun r37 σ38 => if ¬ r37 = 0 then if inb p0 10 = true then if inb p0 10 = true then if inb p0 10 = true then if inb p0 10 = true then some ((10 * (σ38 32 (ix p0))) + (σ38 33 (ix p0)), mput (mput σ38 32 (ix p0) p1) 33 (ix p0) p2) else none else none else none else none else some (0, σ38)))))
def F_X6_setChannel : aF := fun As σ => match As with
  | [.int p0, .int p1, .int p2] => f_X6_setChannel p0 p1 p2 σ
  | _ => none
def T_X6_setChannel (Qa : Int32 → aM → Prop) : List aI := [I_iload 1 1, I_callS 1 F_X6_isChannel, I_bot, I_bot, I_if (fun x => x = 0) 18, I_bot, I_bot, I_iload 2 1, I_callS 1 F_X6_isArea, I_bot, I_bot, I_if (fun x => x = 0) 18, I_bot, I_bot, I_const 1 1, I_goto 19, I_bot, I_bot, I_const 0 1, I_istore 4 2, I_bot, I_aload 0 1, I_iload 4 2, I_bot, I_if (fun x => ¬ x = 0) 31, I_bot, I_bot, I_const 1 1, I_goto 45, I_bot, I_bot, I_iload 3 1, I_const 0 1, I_const 2 1, I_callS 3 F_X6_isIn, I_bot, I_bot, I_if (fun x => ¬ x = 0) 44, I_bot, I_bot, I_const 2 1, I_goto 45, I_bot, I_bot, I_const 0 1, I_callV 6 1 F_X6_isFine, I_bot, I_bot, I_if (fun x => ¬ x = 0) 53, I_bot, I_bot, I_const 0 1, I_iret Qa, I_const (10) 2, I_bot, I_aload 0 1, I_getR 6 32, I_bot, I_bot, I_iload 1 1, I_iald, I_bin fun x y => x * y, I_aload 0 1, I_getR 6 33, I_bot, I_bot, I_iload 1 1, I_iald, I_bin fun x y => x + y, I_istore 5 2, I_bot, I_aload 0 1, I_getR 6 32, I_bot, I_bot, I_iload 1 1, I_iload 2 1, I_iast, I_aload 0 1, I_getR 6 33, I_bot, I_bot, I_iload 1 1, I_iload 3 1, I_iast, I_iload 5 2, I_bot, I_iret Qa]
set_option maxHeartbeats 4000000 in
set_option maxRecDepth 100000 in
theorem s_X6_setChannel : runs T_X6_setChannel [.ref 6] 6 F_X6_setChannel := by
  intro Qa K hw hf As σ r σ' h hQ
  unfold F_X6_setChannel at h
  split at h
  · rename_i p0 p1 p2
    unfold f_X6_setChannel at h
    have hQ : Qa (r, σ').1 (r, σ').2 := hQ
    generalize (r, σ') = y at h hQ
    show K (0, [.ref 6, .int p0, .int p1, .int p2, .null, .null], [], σ)
    obtain ⟨r1, σ2, e3, h⟩ := bnd_some h
    refine hw 2 _ ?_
    show ∃ r1 σ2, f_X6_isChannel p0 σ = some (r1, σ2) ∧ K (4, [.ref 6, .int p0, .int p1, .int p2, .null, .null], [.int r1], σ2)
    refine ⟨r1, σ2, e3, ?_⟩
    rcases ite_cases h with ⟨c4, h⟩ | ⟨c4, h⟩
    · refine hw 1 _ ?_
      show ((r1 = 0) → K (18, [.ref 6, .int p0, .int p1, .int p2, .null, .null], [], σ2)) ∧ (¬ (r1 = 0) → K (7, [.ref 6, .int p0, .int p1, .int p2, .null, .null], [], σ2))
      refine ⟨fun _ => ?_, fun q => absurd c4 q⟩
      refine hw 5 _ ?_
      show ((¬ (0 : Int32) = 0) → K (31, [.ref 6, .int p0, .int p1, .int p2, .int 0, .null], [.ref 6], σ2)) ∧ (¬ (¬ (0 : Int32) = 0) → K (27, [.ref 6, .int p0, .int p1, .int p2, .int 0, .null], [.ref 6], σ2))
      refine ⟨fun q => absurd q (by decide), fun _ => ?_⟩
      obtain ⟨r5, σ6, e7, h⟩ := bnd_some h
      refine hw 3 _ ?_
      show ∃ r5 σ6, f_X6_isFine 1 σ2 = some (r5, σ6) ∧ K (48, [.ref 6, .int p0, .int p1, .int p2, .int 0, .null], [.int r5], σ6)
      refine ⟨r5, σ6, e7, ?_⟩
      rcases ite_cases h with ⟨c8, h⟩ | ⟨c8, h⟩
      · refine hw 1 _ ?_
        show ((¬ r5 = 0) → K (53, [.ref 6, .int p0, .int p1, .int p2, .int 0, .null], [], σ6)) ∧ (¬ (¬ r5 = 0) → K (51, [.ref 6, .int p0, .int p1, .int p2, .int 0, .null], [], σ6))
        refine ⟨fun _ => ?_, fun q => absurd c8 q⟩
        obtain ⟨g9, h⟩ := ite_some h
        obtain ⟨g10, h⟩ := ite_some h
        obtain ⟨g11, h⟩ := ite_some h
        obtain ⟨g12, h⟩ := ite_some h
        obtain rfl := Option.some.inj h
        refine hw 24 _ ?_
        show kd 32 = 1 ∧ (inb p0 10 = true ∧ (kd 33 = 1 ∧ (inb p0 10 = true ∧ (kd 32 = 1 ∧ (inb p0 10 = true ∧ (kd 33 = 1 ∧ (inb p0 10 = true ∧ (Qa ((10 * (σ6 32 (ix p0))) + (σ6 33 (ix p0))) (mput (mput σ6 32 (ix p0) p1) 33 (ix p0) p2)))))))))
        refine ⟨rfl, g9, rfl, g10, rfl, g11, rfl, g12, hQ⟩
      · refine hw 1 _ ?_
        show ((¬ r5 = 0) → K (53, [.ref 6, .int p0, .int p1, .int p2, .int 0, .null], [], σ6)) ∧ (¬ (¬ r5 = 0) → K (51, [.ref 6, .int p0, .int p1, .int p2, .int 0, .null], [], σ6))
        refine ⟨fun q => absurd q c8, fun _ => ?_⟩
        obtain rfl := Option.some.inj h
        refine hw 2 _ ?_
        show Qa 0 σ6
        refine hQ
    · refine hw 1 _ ?_
      show ((r1 = 0) → K (18, [.ref 6, .int p0, .int p1, .int p2, .null, .null], [], σ2)) ∧ (¬ (r1 = 0) → K (7, [.ref 6, .int p0, .int p1, .int p2, .null, .null], [], σ2))
      refine ⟨fun q => absurd q c4, fun _ => ?_⟩
      obtain ⟨r13, σ14, e15, h⟩ := bnd_some h
      refine hw 2 _ ?_
      show ∃ r13 σ14, f_X6_isArea p1 σ2 = some (r13, σ14) ∧ K (11, [.ref 6, .int p0, .int p1, .int p2, .null, .null], [.int r13], σ14)
      refine ⟨r13, σ14, e15, ?_⟩
      rcases ite_cases h with ⟨c16, h⟩ | ⟨c16, h⟩
      · refine hw 1 _ ?_
        show ((r13 = 0) → K (18, [.ref 6, .int p0, .int p1, .int p2, .null, .null], [], σ14)) ∧ (¬ (r13 = 0) → K (14, [.ref 6, .int p0, .int p1, .int p2, .null, .null], [], σ14))
        refine ⟨fun _ => ?_, fun q => absurd c16 q⟩
        refine hw 5 _ ?_
        show ((¬ (0 : Int32) = 0) → K (31, [.ref 6, .int p0, .int p1, .int p2, .int 0, .null], [.ref 6], σ14)) ∧ (¬ (¬ (0 : Int32) = 0) → K (27, [.ref 6, .int p0, .int p1, .int p2, .int 0, .null], [.ref 6], σ14))
        refine ⟨fun q => absurd q (by decide), fun _ => ?_⟩
        obtain ⟨r17, σ18, e19, h⟩ := bnd_some h
        refine hw 3 _ ?_
        show ∃ r17 σ18, f_X6_isFine 1 σ14 = some (r17, σ18) ∧ K (48, [.ref 6, .int p0, .int p1, .int p2, .int 0, .null], [.int r17], σ18)
        refine ⟨r17, σ18, e19, ?_⟩
        rcases ite_cases h with ⟨c20, h⟩ | ⟨c20, h⟩
        · refine hw 1 _ ?_
          show ((¬ r17 = 0) → K (53, [.ref 6, .int p0, .int p1, .int p2, .int 0, .null], [], σ18)) ∧ (¬ (¬ r17 = 0) → K (51, [.ref 6, .int p0, .int p1, .int p2, .int 0, .null], [], σ18))
          refine ⟨fun _ => ?_, fun q => absurd c20 q⟩
          obtain ⟨g21, h⟩ := ite_some h
          obtain ⟨g22, h⟩ := ite_some h
          obtain ⟨g23, h⟩ := ite_some h
          obtain ⟨g24, h⟩ := ite_some h
          obtain rfl := Option.some.inj h
          refine hw 24 _ ?_
          show kd 32 = 1 ∧ (inb p0 10 = true ∧ (kd 33 = 1 ∧ (inb p0 10 = true ∧ (kd 32 = 1 ∧ (inb p0 10 = true ∧ (kd 33 = 1 ∧ (inb p0 10 = true ∧ (Qa ((10 * (σ18 32 (ix p0))) + (σ18 33 (ix p0))) (mput (mput σ18 32 (ix p0) p1) 33 (ix p0) p2)))))))))
          refine ⟨rfl, g21, rfl, g22, rfl, g23, rfl, g24, hQ⟩
        · refine hw 1 _ ?_
          show ((¬ r17 = 0) → K (53, [.ref 6, .int p0, .int p1, .int p2, .int 0, .null], [], σ18)) ∧ (¬ (¬ r17 = 0) → K (51, [.ref 6, .int p0, .int p1, .int p2, .int 0, .null], [], σ18))
          refine ⟨fun q => absurd q c20, fun _ => ?_⟩
          obtain rfl := Option.some.inj h
          refine hw 2 _ ?_
          show Qa 0 σ18
          refine hQ
      · refine hw 1 _ ?_
        show ((r13 = 0) → K (18, [.ref 6, .int p0, .int p1, .int p2, .null, .null], [], σ14)) ∧ (¬ (r13 = 0) → K (14, [.ref 6, .int p0, .int p1, .int p2, .null, .null], [], σ14))
        refine ⟨fun q => absurd q c16, fun _ => ?_⟩
        refine hw 6 _ ?_
        show ((¬ (1 : Int32) = 0) → K (31, [.ref 6, .int p0, .int p1, .int p2, .int 1, .null], [.ref 6], σ14)) ∧ (¬ (¬ (1 : Int32) = 0) → K (27, [.ref 6, .int p0, .int p1, .int p2, .int 1, .null], [.ref 6], σ14))
        refine ⟨fun _ => ?_, fun q => absurd (by decide) q⟩
        obtain ⟨r25, σ26, e27, h⟩ := bnd_some h
        refine hw 4 _ ?_
        show ∃ r25 σ26, f_X6_isIn p2 0 2 σ14 = some (r25, σ26) ∧ K (37, [.ref 6, .int p0, .int p1, .int p2, .int 1, .null], [.int r25, .ref 6], σ26)
        refine ⟨r25, σ26, e27, ?_⟩
        rcases ite_cases h with ⟨c28, h⟩ | ⟨c28, h⟩
        · refine hw 1 _ ?_
          show ((¬ r25 = 0) → K (44, [.ref 6, .int p0, .int p1, .int p2, .int 1, .null], [.ref 6], σ26)) ∧ (¬ (¬ r25 = 0) → K (40, [.ref 6, .int p0, .int p1, .int p2, .int 1, .null], [.ref 6], σ26))
          refine ⟨fun _ => ?_, fun q => absurd c28 q⟩
          obtain ⟨r29, σ30, e31, h⟩ := bnd_some h
          refine hw 2 _ ?_
          show ∃ r29 σ30, f_X6_isFine 0 σ26 = some (r29, σ30) ∧ K (48, [.ref 6, .int p0, .int p1, .int p2, .int 1, .null], [.int r29], σ30)
          refine ⟨r29, σ30, e31, ?_⟩
          rcases ite_cases h with ⟨c32, h⟩ | ⟨c32, h⟩
          · refine hw 1 _ ?_
            show ((¬ r29 = 0) → K (53, [.ref 6, .int p0, .int p1, .int p2, .int 1, .null], [], σ30)) ∧ (¬ (¬ r29 = 0) → K (51, [.ref 6, .int p0, .int p1, .int p2, .int 1, .null], [], σ30))
            refine ⟨fun _ => ?_, fun q => absurd c32 q⟩
            obtain ⟨g33, h⟩ := ite_some h
            obtain ⟨g34, h⟩ := ite_some h
            obtain ⟨g35, h⟩ := ite_some h
            obtain ⟨g36, h⟩ := ite_some h
            obtain rfl := Option.some.inj h
            refine hw 24 _ ?_
            show kd 32 = 1 ∧ (inb p0 10 = true ∧ (kd 33 = 1 ∧ (inb p0 10 = true ∧ (kd 32 = 1 ∧ (inb p0 10 = true ∧ (kd 33 = 1 ∧ (inb p0 10 = true ∧ (Qa ((10 * (σ30 32 (ix p0))) + (σ30 33 (ix p0))) (mput (mput σ30 32 (ix p0) p1) 33 (ix p0) p2)))))))))
            refine ⟨rfl, g33, rfl, g34, rfl, g35, rfl, g36, hQ⟩
          · refine hw 1 _ ?_
            show ((¬ r29 = 0) → K (53, [.ref 6, .int p0, .int p1, .int p2, .int 1, .null], [], σ30)) ∧ (¬ (¬ r29 = 0) → K (51, [.ref 6, .int p0, .int p1, .int p2, .int 1, .null], [], σ30))
            refine ⟨fun q => absurd q c32, fun _ => ?_⟩
            obtain rfl := Option.some.inj h
            refine hw 2 _ ?_
            show Qa 0 σ30
            refine hQ
        · refine hw 1 _ ?_
          show ((¬ r25 = 0) → K (44, [.ref 6, .int p0, .int p1, .int p2, .int 1, .null], [.ref 6], σ26)) ∧ (¬ (¬ r25 = 0) → K (40, [.ref 6, .int p0, .int p1, .int p2, .int 1, .null], [.ref 6], σ26))
          refine ⟨fun q => absurd q c28, fun _ => ?_⟩
          obtain ⟨r37, σ38, e39, h⟩ := bnd_some h
          refine hw 3 _ ?_
          show ∃ r37 σ38, f_X6_isFine 2 σ26 = some (r37, σ38) ∧ K (48, [.ref 6, .int p0, .int p1, .int p2, .int 1, .null], [.int r37], σ38)
          refine ⟨r37, σ38, e39, ?_⟩
          rcases ite_cases h with ⟨c40, h⟩ | ⟨c40, h⟩
          · refine hw 1 _ ?_
            show ((¬ r37 = 0) → K (53, [.ref 6, .int p0, .int p1, .int p2, .int 1, .null], [], σ38)) ∧ (¬ (¬ r37 = 0) → K (51, [.ref 6, .int p0, .int p1, .int p2, .int 1, .null], [], σ38))
            refine ⟨fun _ => ?_, fun q => absurd c40 q⟩
            obtain ⟨g41, h⟩ := ite_some h
            obtain ⟨g42, h⟩ := ite_some h
            obtain ⟨g43, h⟩ := ite_some h
            obtain ⟨g44, h⟩ := ite_some h
            obtain rfl := Option.some.inj h
            refine hw 24 _ ?_
            show kd 32 = 1 ∧ (inb p0 10 = true ∧ (kd 33 = 1 ∧ (inb p0 10 = true ∧ (kd 32 = 1 ∧ (inb p0 10 = true ∧ (kd 33 = 1 ∧ (inb p0 10 = true ∧ (Qa ((10 * (σ38 32 (ix p0))) + (σ38 33 (ix p0))) (mput (mput σ38 32 (ix p0) p1) 33 (ix p0) p2)))))))))
            refine ⟨rfl, g41, rfl, g42, rfl, g43, rfl, g44, hQ⟩
          · refine hw 1 _ ?_
            show ((¬ r37 = 0) → K (53, [.ref 6, .int p0, .int p1, .int p2, .int 1, .null], [], σ38)) ∧ (¬ (¬ r37 = 0) → K (51, [.ref 6, .int p0, .int p1, .int p2, .int 1, .null], [], σ38))
            refine ⟨fun q => absurd q c40, fun _ => ?_⟩
            obtain rfl := Option.some.inj h
            refine hw 2 _ ?_
            show Qa 0 σ38
            refine hQ
  · cases h
theorem h_X6_setChannel : shp [.ref 6] 6 F_X6_setChannel := by
  intro As σ r σ' h
  unfold F_X6_setChannel at h
  split at h
  · exact ⟨by simp [Value.category], Nat.le_of_ble_eq_true rfl⟩
  · cases h
set_option maxHeartbeats 4000000 in
set_option maxRecDepth 100000 in
theorem c_X6_setChannel (l : Launch) (D : va_G) (cI cZ cA cL : ClassId) (ad : Nat → Nat) (hi : adI ad) : CtI l yX6_setChannel wsX6_setChannel { frames := 2, cells := 0, slots := 0, locals := 42 } D cI cZ cA cL ad [.ref 6] F_X6_setChannel := by
  refine mk_I [.ref 6] F_X6_setChannel T_X6_setChannel (by decide +kernel) rfl ?_ h_X6_setChannel s_X6_setChannel
  intro p e s m args below meth c Qa ⟨hx, hb, hml, hown, hts, hr, hlocks, hK, hN⟩
  have hin6 : ∀ w ∈ u_ws RX6 TX6 30, w ∈ wsX6_setChannel := by decide +kernel
  have hl20 : (Cond.fieldLink RX6 20 RX6 (TX6 5).2.1 (TX6 5).2.2.1) ∈ wsX6_setChannel := by decide +kernel
  have hl23 : (Cond.fieldLink RX6 23 RX6 (TX6 6).2.1 (TX6 6).2.2.1) ∈ wsX6_setChannel := by decide +kernel
  refine ruL_c (n := 0) (n2 := 1) rfl (ru_iload_n (k := 1) hx hb dX6_setChannel_0) ?_
  refine ruL_c (n := 1) (n2 := 2) rfl (ru_callS hx hb hml hown hts hK hN (c_X6_isChannel l D cI cZ cA cL ad hi) (va_cwS 1 hts gX6_setChannel_X6_isChannel rfl rfl rfl (by decide +kernel) ⟨Nat.le_of_ble_eq_true rfl, Nat.le_of_ble_eq_true rfl⟩) dX6_setChannel_1 ⟨Nat.zero_le _, Nat.zero_le _⟩) ?_
  refine ruL_c (n := 2) (n2 := 3) rfl (ru_bot) ?_
  refine ruL_c (n := 3) (n2 := 4) rfl (ru_bot) ?_
  refine ruL_c (n := 4) (n2 := 5) rfl (ru_ifeq hx hb dX6_setChannel_4 (by decide)) ?_
  refine ruL_c (n := 5) (n2 := 6) rfl (ru_bot) ?_
  refine ruL_c (n := 6) (n2 := 7) rfl (ru_bot) ?_
  refine ruL_c (n := 7) (n2 := 8) rfl (ru_iload_n (k := 2) hx hb dX6_setChannel_7) ?_
  refine ruL_c (n := 8) (n2 := 9) rfl (ru_callS hx hb hml hown hts hK hN (c_X6_isArea l D cI cZ cA cL ad hi) (va_cwS 1 hts gX6_setChannel_X6_isArea rfl rfl rfl (by decide +kernel) ⟨Nat.le_of_ble_eq_true rfl, Nat.le_of_ble_eq_true rfl⟩) dX6_setChannel_8 ⟨Nat.zero_le _, Nat.zero_le _⟩) ?_
  refine ruL_c (n := 9) (n2 := 10) rfl (ru_bot) ?_
  refine ruL_c (n := 10) (n2 := 11) rfl (ru_bot) ?_
  refine ruL_c (n := 11) (n2 := 12) rfl (ru_ifeq hx hb dX6_setChannel_11 (by decide)) ?_
  refine ruL_c (n := 12) (n2 := 13) rfl (ru_bot) ?_
  refine ruL_c (n := 13) (n2 := 14) rfl (ru_bot) ?_
  refine ruL_c (n := 14) (n2 := 15) rfl (ru_iconst hx hb dX6_setChannel_14 rfl) ?_
  refine ruL_c (n := 15) (n2 := 16) rfl (ru_goto hx hb dX6_setChannel_15 (by decide)) ?_
  refine ruL_c (n := 16) (n2 := 17) rfl (ru_bot) ?_
  refine ruL_c (n := 17) (n2 := 18) rfl (ru_bot) ?_
  refine ruL_c (n := 18) (n2 := 19) rfl (ru_iconst hx hb dX6_setChannel_18 rfl) ?_
  refine ruL_c (n := 19) (n2 := 20) rfl (ru_istore hx hb dX6_setChannel_19) ?_
  refine ruL_c (n := 20) (n2 := 21) rfl (ru_bot) ?_
  refine ruL_c (n := 21) (n2 := 22) rfl (ru_aload_n (k := 0) hx hb dX6_setChannel_21) ?_
  refine ruL_c (n := 22) (n2 := 23) rfl (ru_iload hx hb dX6_setChannel_22) ?_
  refine ruL_c (n := 23) (n2 := 24) rfl (ru_bot) ?_
  refine ruL_c (n := 24) (n2 := 25) rfl (ru_ifne hx hb dX6_setChannel_24 (by decide)) ?_
  refine ruL_c (n := 25) (n2 := 26) rfl (ru_bot) ?_
  refine ruL_c (n := 26) (n2 := 27) rfl (ru_bot) ?_
  refine ruL_c (n := 27) (n2 := 28) rfl (ru_iconst hx hb dX6_setChannel_27 rfl) ?_
  refine ruL_c (n := 28) (n2 := 29) rfl (ru_goto hx hb dX6_setChannel_28 (by decide)) ?_
  refine ruL_c (n := 29) (n2 := 30) rfl (ru_bot) ?_
  refine ruL_c (n := 30) (n2 := 31) rfl (ru_bot) ?_
  refine ruL_c (n := 31) (n2 := 32) rfl (ru_iload_n (k := 3) hx hb dX6_setChannel_31) ?_
  refine ruL_c (n := 32) (n2 := 33) rfl (ru_iconst hx hb dX6_setChannel_32 rfl) ?_
  refine ruL_c (n := 33) (n2 := 34) rfl (ru_iconst hx hb dX6_setChannel_33 rfl) ?_
  refine ruL_c (n := 34) (n2 := 35) rfl (ru_callS hx hb hml hown hts hK hN (c_X6_isIn l D cI cZ cA cL ad hi) (va_cwS 3 hts gX6_setChannel_X6_isIn rfl rfl rfl (by decide +kernel) ⟨Nat.le_of_ble_eq_true rfl, Nat.le_of_ble_eq_true rfl⟩) dX6_setChannel_34 ⟨Nat.zero_le _, Nat.zero_le _⟩) ?_
  refine ruL_c (n := 35) (n2 := 36) rfl (ru_bot) ?_
  refine ruL_c (n := 36) (n2 := 37) rfl (ru_bot) ?_
  refine ruL_c (n := 37) (n2 := 38) rfl (ru_ifne hx hb dX6_setChannel_37 (by decide)) ?_
  refine ruL_c (n := 38) (n2 := 39) rfl (ru_bot) ?_
  refine ruL_c (n := 39) (n2 := 40) rfl (ru_bot) ?_
  refine ruL_c (n := 40) (n2 := 41) rfl (ru_iconst hx hb dX6_setChannel_40 rfl) ?_
  refine ruL_c (n := 41) (n2 := 42) rfl (ru_goto hx hb dX6_setChannel_41 (by decide)) ?_
  refine ruL_c (n := 42) (n2 := 43) rfl (ru_bot) ?_
  refine ruL_c (n := 43) (n2 := 44) rfl (ru_bot) ?_
  refine ruL_c (n := 44) (n2 := 45) rfl (ru_iconst hx hb dX6_setChannel_44 rfl) ?_
  refine ruL_c (n := 45) (n2 := 46) rfl (ru_callV hx hb hml hown hts hK hN (by decide) rfl (c_X6_isFine l D cI cZ cA cL ad hi) (cwV 1 hts gX6_setChannel_X6_isFine rfl rfl rfl (by decide +kernel) ⟨Nat.le_of_ble_eq_true rfl, Nat.le_of_ble_eq_true rfl⟩) dX6_setChannel_45 ⟨Nat.zero_le _, Nat.zero_le _⟩) ?_
  refine ruL_c (n := 46) (n2 := 47) rfl (ru_bot) ?_
  refine ruL_c (n := 47) (n2 := 48) rfl (ru_bot) ?_
  refine ruL_c (n := 48) (n2 := 49) rfl (ru_ifne hx hb dX6_setChannel_48 (by decide)) ?_
  refine ruL_c (n := 49) (n2 := 50) rfl (ru_bot) ?_
  refine ruL_c (n := 50) (n2 := 51) rfl (ru_bot) ?_
  refine ruL_c (n := 51) (n2 := 52) rfl (ru_iconst hx hb dX6_setChannel_51 rfl) ?_
  refine ruL_c (n := 52) (n2 := 53) rfl (ru_iret hx hb hK hr hlocks dX6_setChannel_52) ?_
  refine ruL_c (n := 53) (n2 := 54) rfl (ru_bipush hx hb dX6_setChannel_53 rfl) ?_
  refine ruL_c (n := 54) (n2 := 55) rfl (ru_bot) ?_
  refine ruL_c (n := 55) (n2 := 56) rfl (ru_aload_n (k := 0) hx hb dX6_setChannel_55) ?_
  refine ruL_c (n := 56) (n2 := 57) rfl (ru_getR (own := RX6) (j := 5) (T := TX6) hx hb hown hK hts hin6 (by decide) rfl rfl (by decide) rfl hl20 dX6_setChannel_56) ?_
  refine ruL_c (n := 57) (n2 := 58) rfl (ru_bot) ?_
  refine ruL_c (n := 58) (n2 := 59) rfl (ru_bot) ?_
  refine ruL_c (n := 59) (n2 := 60) rfl (ru_iload_n (k := 1) hx hb dX6_setChannel_59) ?_
  refine ruL_c (n := 60) (n2 := 61) rfl (ru_iald hx hb hK dX6_setChannel_60) ?_
  refine ruL_c (n := 61) (n2 := 62) rfl (ru_imul hx hb dX6_setChannel_61) ?_
  refine ruL_c (n := 62) (n2 := 63) rfl (ru_aload_n (k := 0) hx hb dX6_setChannel_62) ?_
  refine ruL_c (n := 63) (n2 := 64) rfl (ru_getR (own := RX6) (j := 6) (T := TX6) hx hb hown hK hts hin6 (by decide) rfl rfl (by decide) rfl hl23 dX6_setChannel_63) ?_
  refine ruL_c (n := 64) (n2 := 65) rfl (ru_bot) ?_
  refine ruL_c (n := 65) (n2 := 66) rfl (ru_bot) ?_
  refine ruL_c (n := 66) (n2 := 67) rfl (ru_iload_n (k := 1) hx hb dX6_setChannel_66) ?_
  refine ruL_c (n := 67) (n2 := 68) rfl (ru_iald hx hb hK dX6_setChannel_67) ?_
  refine ruL_c (n := 68) (n2 := 69) rfl (ru_iadd hx hb dX6_setChannel_68) ?_
  refine ruL_c (n := 69) (n2 := 70) rfl (ru_istore hx hb dX6_setChannel_69) ?_
  refine ruL_c (n := 70) (n2 := 71) rfl (ru_bot) ?_
  refine ruL_c (n := 71) (n2 := 72) rfl (ru_aload_n (k := 0) hx hb dX6_setChannel_71) ?_
  refine ruL_c (n := 72) (n2 := 73) rfl (ru_getR (own := RX6) (j := 5) (T := TX6) hx hb hown hK hts hin6 (by decide) rfl rfl (by decide) rfl hl20 dX6_setChannel_72) ?_
  refine ruL_c (n := 73) (n2 := 74) rfl (ru_bot) ?_
  refine ruL_c (n := 74) (n2 := 75) rfl (ru_bot) ?_
  refine ruL_c (n := 75) (n2 := 76) rfl (ru_iload_n (k := 1) hx hb dX6_setChannel_75) ?_
  refine ruL_c (n := 76) (n2 := 77) rfl (ru_iload_n (k := 2) hx hb dX6_setChannel_76) ?_
  refine ruL_c (n := 77) (n2 := 78) rfl (ru_iast hx hb hK hi dX6_setChannel_77) ?_
  refine ruL_c (n := 78) (n2 := 79) rfl (ru_aload_n (k := 0) hx hb dX6_setChannel_78) ?_
  refine ruL_c (n := 79) (n2 := 80) rfl (ru_getR (own := RX6) (j := 6) (T := TX6) hx hb hown hK hts hin6 (by decide) rfl rfl (by decide) rfl hl23 dX6_setChannel_79) ?_
  refine ruL_c (n := 80) (n2 := 81) rfl (ru_bot) ?_
  refine ruL_c (n := 81) (n2 := 82) rfl (ru_bot) ?_
  refine ruL_c (n := 82) (n2 := 83) rfl (ru_iload_n (k := 1) hx hb dX6_setChannel_82) ?_
  refine ruL_c (n := 83) (n2 := 84) rfl (ru_iload_n (k := 3) hx hb dX6_setChannel_83) ?_
  refine ruL_c (n := 84) (n2 := 85) rfl (ru_iast hx hb hK hi dX6_setChannel_84) ?_
  refine ruL_c (n := 85) (n2 := 86) rfl (ru_iload hx hb dX6_setChannel_85) ?_
  refine ruL_c (n := 86) (n2 := 87) rfl (ru_bot) ?_
  refine ruL_c (n := 87) (n2 := 88) rfl (ru_iret hx hb hK hr hlocks dX6_setChannel_87) ?_
  exact trivial

-- CueTourModel.isFade
def f_X6_isFade (p0 : Int32) (p1 : Int32) (σ : aM) : Option (Int32 × aM) := bnd (f_X6_isIn p0 0 60 σ) (fun r1 σ2 => if r1 = 0 then some (0, σ2) else bnd (f_X6_isIn p1 0 60 σ2) (fun r5 σ6 => if r5 = 0 then some (0, σ6) else some (1, σ6)))
def F_X6_isFade : aF := fun As σ => match As with
  | [.int p0, .int p1] => f_X6_isFade p0 p1 σ
  | _ => none
def T_X6_isFade (Qa : Int32 → aM → Prop) : List aI := [I_iload 0 1, I_const 0 1, I_const (60) 2, I_bot, I_callS 3 F_X6_isIn, I_bot, I_bot, I_if (fun x => x = 0) 24, I_bot, I_bot, I_iload 1 1, I_const 0 1, I_const (60) 2, I_bot, I_callS 3 F_X6_isIn, I_bot, I_bot, I_if (fun x => x = 0) 24, I_bot, I_bot, I_const 1 1, I_goto 25, I_bot, I_bot, I_const 0 1, I_zret Qa]
set_option maxHeartbeats 4000000 in
set_option maxRecDepth 100000 in
theorem s_X6_isFade : runs T_X6_isFade [] 2 F_X6_isFade := by
  intro Qa K hw hf As σ r σ' h hQ
  unfold F_X6_isFade at h
  split at h
  · rename_i p0 p1
    unfold f_X6_isFade at h
    have hQ : Qa (r, σ').1 (r, σ').2 := hQ
    generalize (r, σ') = y at h hQ
    show K (0, [.int p0, .int p1], [], σ)
    obtain ⟨r1, σ2, e3, h⟩ := bnd_some h
    refine hw 4 _ ?_
    show ∃ r1 σ2, f_X6_isIn p0 0 60 σ = some (r1, σ2) ∧ K (7, [.int p0, .int p1], [.int r1], σ2)
    refine ⟨r1, σ2, e3, ?_⟩
    rcases ite_cases h with ⟨c4, h⟩ | ⟨c4, h⟩
    · refine hw 1 _ ?_
      show ((r1 = 0) → K (24, [.int p0, .int p1], [], σ2)) ∧ (¬ (r1 = 0) → K (10, [.int p0, .int p1], [], σ2))
      refine ⟨fun _ => ?_, fun q => absurd c4 q⟩
      obtain rfl := Option.some.inj h
      refine hw 2 _ ?_
      show (0 = (0:Int32) ∨ 0 = (1:Int32)) ∧ (Qa 0 σ2)
      refine ⟨Or.inl rfl, hQ⟩
    · refine hw 1 _ ?_
      show ((r1 = 0) → K (24, [.int p0, .int p1], [], σ2)) ∧ (¬ (r1 = 0) → K (10, [.int p0, .int p1], [], σ2))
      refine ⟨fun q => absurd q c4, fun _ => ?_⟩
      obtain ⟨r5, σ6, e7, h⟩ := bnd_some h
      refine hw 4 _ ?_
      show ∃ r5 σ6, f_X6_isIn p1 0 60 σ2 = some (r5, σ6) ∧ K (17, [.int p0, .int p1], [.int r5], σ6)
      refine ⟨r5, σ6, e7, ?_⟩
      rcases ite_cases h with ⟨c8, h⟩ | ⟨c8, h⟩
      · refine hw 1 _ ?_
        show ((r5 = 0) → K (24, [.int p0, .int p1], [], σ6)) ∧ (¬ (r5 = 0) → K (20, [.int p0, .int p1], [], σ6))
        refine ⟨fun _ => ?_, fun q => absurd c8 q⟩
        obtain rfl := Option.some.inj h
        refine hw 2 _ ?_
        show (0 = (0:Int32) ∨ 0 = (1:Int32)) ∧ (Qa 0 σ6)
        refine ⟨Or.inl rfl, hQ⟩
      · refine hw 1 _ ?_
        show ((r5 = 0) → K (24, [.int p0, .int p1], [], σ6)) ∧ (¬ (r5 = 0) → K (20, [.int p0, .int p1], [], σ6))
        refine ⟨fun q => absurd q c8, fun _ => ?_⟩
        obtain rfl := Option.some.inj h
        refine hw 3 _ ?_
        show (1 = (0:Int32) ∨ 1 = (1:Int32)) ∧ (Qa 1 σ6)
        refine ⟨Or.inr rfl, hQ⟩
  · cases h
theorem h_X6_isFade : shp [] 2 F_X6_isFade := by
  intro As σ r σ' h
  unfold F_X6_isFade at h
  split at h
  · exact ⟨by simp [Value.category], Nat.le_of_ble_eq_true rfl⟩
  · cases h
set_option maxHeartbeats 4000000 in
set_option maxRecDepth 100000 in
theorem c_X6_isFade (l : Launch) (D : va_G) (cI cZ cA cL : ClassId) (ad : Nat → Nat) (hi : adI ad) : CtI l yX6_isFade wsX6_isFade { frames := 1, cells := 0, slots := 0, locals := 22 } D cI cZ cA cL ad [] F_X6_isFade := by
  refine mk_I [] F_X6_isFade T_X6_isFade (by decide +kernel) rfl ?_ h_X6_isFade s_X6_isFade
  intro p e s m args below meth c Qa ⟨hx, hb, hml, hown, hts, hr, hlocks, hK, hN⟩
  refine ruL_c (n := 0) (n2 := 1) rfl (ru_iload_n (k := 0) hx hb dX6_isFade_0) ?_
  refine ruL_c (n := 1) (n2 := 2) rfl (ru_iconst hx hb dX6_isFade_1 rfl) ?_
  refine ruL_c (n := 2) (n2 := 3) rfl (ru_bipush hx hb dX6_isFade_2 rfl) ?_
  refine ruL_c (n := 3) (n2 := 4) rfl (ru_bot) ?_
  refine ruL_c (n := 4) (n2 := 5) rfl (ru_callS hx hb hml hown hts hK hN (c_X6_isIn l D cI cZ cA cL ad hi) (va_cwS 3 hts gX6_isFade_X6_isIn rfl rfl rfl (by decide +kernel) ⟨Nat.le_of_ble_eq_true rfl, Nat.le_of_ble_eq_true rfl⟩) dX6_isFade_4 ⟨Nat.zero_le _, Nat.zero_le _⟩) ?_
  refine ruL_c (n := 5) (n2 := 6) rfl (ru_bot) ?_
  refine ruL_c (n := 6) (n2 := 7) rfl (ru_bot) ?_
  refine ruL_c (n := 7) (n2 := 8) rfl (ru_ifeq hx hb dX6_isFade_7 (by decide)) ?_
  refine ruL_c (n := 8) (n2 := 9) rfl (ru_bot) ?_
  refine ruL_c (n := 9) (n2 := 10) rfl (ru_bot) ?_
  refine ruL_c (n := 10) (n2 := 11) rfl (ru_iload_n (k := 1) hx hb dX6_isFade_10) ?_
  refine ruL_c (n := 11) (n2 := 12) rfl (ru_iconst hx hb dX6_isFade_11 rfl) ?_
  refine ruL_c (n := 12) (n2 := 13) rfl (ru_bipush hx hb dX6_isFade_12 rfl) ?_
  refine ruL_c (n := 13) (n2 := 14) rfl (ru_bot) ?_
  refine ruL_c (n := 14) (n2 := 15) rfl (ru_callS hx hb hml hown hts hK hN (c_X6_isIn l D cI cZ cA cL ad hi) (va_cwS 3 hts gX6_isFade_X6_isIn rfl rfl rfl (by decide +kernel) ⟨Nat.le_of_ble_eq_true rfl, Nat.le_of_ble_eq_true rfl⟩) dX6_isFade_14 ⟨Nat.zero_le _, Nat.zero_le _⟩) ?_
  refine ruL_c (n := 15) (n2 := 16) rfl (ru_bot) ?_
  refine ruL_c (n := 16) (n2 := 17) rfl (ru_bot) ?_
  refine ruL_c (n := 17) (n2 := 18) rfl (ru_ifeq hx hb dX6_isFade_17 (by decide)) ?_
  refine ruL_c (n := 18) (n2 := 19) rfl (ru_bot) ?_
  refine ruL_c (n := 19) (n2 := 20) rfl (ru_bot) ?_
  refine ruL_c (n := 20) (n2 := 21) rfl (ru_iconst hx hb dX6_isFade_20 rfl) ?_
  refine ruL_c (n := 21) (n2 := 22) rfl (ru_goto hx hb dX6_isFade_21 (by decide)) ?_
  refine ruL_c (n := 22) (n2 := 23) rfl (ru_bot) ?_
  refine ruL_c (n := 23) (n2 := 24) rfl (ru_bot) ?_
  refine ruL_c (n := 24) (n2 := 25) rfl (ru_iconst hx hb dX6_isFade_24 rfl) ?_
  refine ruL_c (n := 25) (n2 := 26) rfl (ru_zret hx hb hK hr hlocks dX6_isFade_25) ?_
  exact trivial

-- CueTourModel.isCue
def f_X6_isCue (p0 : Int32) (σ : aM) : Option (Int32 × aM) := bnd (f_X6_isIn p0 0 ((σ 6 11) - 1) σ) (fun r1 σ2 => if r1 = 0 ∨ r1 = 1 then some (r1, σ2) else none)
def F_X6_isCue : aF := fun As σ => match As with
  | [.int p0] => f_X6_isCue p0 σ
  | _ => none
def T_X6_isCue (Qa : Int32 → aM → Prop) : List aI := [I_iload 1 1, I_const 0 1, I_aload 0 1, I_getI 6 11, I_bot, I_bot, I_const 1 1, I_bin fun x y => x - y, I_callS 3 F_X6_isIn, I_bot, I_bot, I_zret Qa]
set_option maxHeartbeats 4000000 in
set_option maxRecDepth 100000 in
theorem s_X6_isCue : runs T_X6_isCue [.ref 6] 2 F_X6_isCue := by
  intro Qa K hw hf As σ r σ' h hQ
  unfold F_X6_isCue at h
  split at h
  · rename_i p0
    unfold f_X6_isCue at h
    have hQ : Qa (r, σ').1 (r, σ').2 := hQ
    generalize (r, σ') = y at h hQ
    show K (0, [.ref 6, .int p0], [], σ)
    obtain ⟨r1, σ2, e3, h⟩ := bnd_some h
    refine hw 7 _ ?_
    show ∃ r1 σ2, f_X6_isIn p0 0 ((σ 6 11) - 1) σ = some (r1, σ2) ∧ K (11, [.ref 6, .int p0], [.int r1], σ2)
    refine ⟨r1, σ2, e3, ?_⟩
    obtain ⟨g4, h⟩ := ite_some h
    obtain rfl := Option.some.inj h
    refine hw 1 _ ?_
    show (r1 = 0 ∨ r1 = 1) ∧ (Qa r1 σ2)
    refine ⟨g4, hQ⟩
  · cases h
theorem h_X6_isCue : shp [.ref 6] 2 F_X6_isCue := by
  intro As σ r σ' h
  unfold F_X6_isCue at h
  split at h
  · exact ⟨by simp [Value.category], Nat.le_of_ble_eq_true rfl⟩
  · cases h
set_option maxHeartbeats 4000000 in
set_option maxRecDepth 100000 in
theorem c_X6_isCue (l : Launch) (D : va_G) (cI cZ cA cL : ClassId) (ad : Nat → Nat) (hi : adI ad) : CtI l yX6_isCue wsX6_isCue { frames := 1, cells := 0, slots := 0, locals := 22 } D cI cZ cA cL ad [.ref 6] F_X6_isCue := by
  refine mk_I [.ref 6] F_X6_isCue T_X6_isCue (by decide +kernel) rfl ?_ h_X6_isCue s_X6_isCue
  intro p e s m args below meth c Qa ⟨hx, hb, hml, hown, hts, hr, hlocks, hK, hN⟩
  have hin6 : ∀ w ∈ u_ws RX6 TX6 30, w ∈ wsX6_isCue := by decide +kernel
  have hl111 : (Cond.fieldLink RX6 111 RX6 (TX6 11).2.1 (TX6 11).2.2.1) ∈ wsX6_isCue := by decide +kernel
  refine ruL_c (n := 0) (n2 := 1) rfl (ru_iload_n (k := 1) hx hb dX6_isCue_0) ?_
  refine ruL_c (n := 1) (n2 := 2) rfl (ru_iconst hx hb dX6_isCue_1 rfl) ?_
  refine ruL_c (n := 2) (n2 := 3) rfl (ru_aload_n (k := 0) hx hb dX6_isCue_2) ?_
  refine ruL_c (n := 3) (n2 := 4) rfl (ru_getI (own := RX6) (j := 11) (T := TX6) hx hb hown hK hts hin6 (by decide) rfl rfl (by decide) rfl hl111 dX6_isCue_3) ?_
  refine ruL_c (n := 4) (n2 := 5) rfl (ru_bot) ?_
  refine ruL_c (n := 5) (n2 := 6) rfl (ru_bot) ?_
  refine ruL_c (n := 6) (n2 := 7) rfl (ru_iconst hx hb dX6_isCue_6 rfl) ?_
  refine ruL_c (n := 7) (n2 := 8) rfl (ru_isub hx hb dX6_isCue_7) ?_
  refine ruL_c (n := 8) (n2 := 9) rfl (ru_callS hx hb hml hown hts hK hN (c_X6_isIn l D cI cZ cA cL ad hi) (va_cwS 3 hts gX6_isCue_X6_isIn rfl rfl rfl (by decide +kernel) ⟨Nat.le_of_ble_eq_true rfl, Nat.le_of_ble_eq_true rfl⟩) dX6_isCue_8 ⟨Nat.zero_le _, Nat.zero_le _⟩) ?_
  refine ruL_c (n := 9) (n2 := 10) rfl (ru_bot) ?_
  refine ruL_c (n := 10) (n2 := 11) rfl (ru_bot) ?_
  refine ruL_c (n := 11) (n2 := 12) rfl (ru_zret hx hb hK hr hlocks dX6_isCue_11) ?_
  exact trivial

-- CueTourModel.addCue
def l_X6_addCue_80 (x17 : Int32) (x18 : Int32) (x19 : Int32) : Nat → Int32 → aM → (Int32 → aM → Option (Int32 × aM)) → Option (Int32 × aM)
  | 0, _, _, _ => none
  | n + 1, v20, σ21, k => if 10 ≤ v20 then k v20 σ21 else if inb ((10 * (σ21 6 11)) + v20) 200 = true then l_X6_addCue_80 x17 x18 x19 n (v20 + 1) (mput σ21 37 (ix ((10 * (σ21 6 11)) + v20)) ((-1))) k else none
def f_X6_addCue (p0 : Int32) (p1 : Int32) (p2 : Int32) (σ : aM) : Option (Int32 × aM) := bnd (f_X6_isLine p0 σ) (fun r1 σ2 => if ¬ r1 = 0 then bnd (f_X6_isFade p1 p2 σ2) (fun r5 σ6 => if ¬ r5 = 0 then if ¬ (σ6 6 11) = 20 then bnd (f_X6_isFine 0 σ6) (fun r10 σ11 => if ¬ r10 = 0 then if inb (σ11 6 11) 20 = true then if inb (σ11 6 11) 20 = true then if inb (σ11 6 11) 20 = true then l_X6_addCue_80 p0 p1 p2 lf 0 (mput (mput (mput σ11 34 (ix (σ11 6 11)) p0) 35 (ix (σ11 6 11)) p1) 36 (ix (σ11 6 11)) p2) (fun v24 σ25 => some (((σ25 6 11) + 1) - 1, mput σ25 6 11 ((σ25 6 11) + 1))) else none else none else none else some (0, σ11)) else bnd (f_X6_isFine 3 σ6) (fun r26 σ27 => if ¬ r26 = 0 then if inb (σ27 6 11) 20 = true then if inb (σ27 6 11) 20 = true then if inb (σ27 6 11) 20 = true then l_X6_addCue_80 p0 p1 p2 lf 0 (mput (mput (mput σ27 34 (ix (σ27 6 11)) p0) 35 (ix (σ27 6 11)) p1) 36 (ix (σ27 6 11)) p2) (fun v33 σ34 => some (((σ34 6 11) + 1) - 1, mput σ34 6 11 ((σ34 6 11) + 1))) else none else none else none else some (0, σ27)) else bnd (f_X6_isFine 2 σ6) (fun r35 σ36 => if ¬ r35 = 0 then if inb (σ36 6 11) 20 = true then if inb (σ36 6 11) 20 = true then if inb (σ36 6 11) 20 = true then l_X6_addCue_80 p0 p1 p2 lf 0 (mput (mput (mput σ36 34 (ix (σ36 6 11)) p0) 35 (ix (σ36 6 11)) p1) 36 (ix (σ36 6 11)) p2) (fun v42 σ43 => some (((σ43 6 11) + 1) - 1, mput σ43 6 11 ((σ43 6 11) + 1))) else none else none else none else some (0, σ36))) else bnd (f_X6_isFine 1 σ2) (fun r44 σ45 => if ¬ r44 = 0 then if inb (σ45 6 11) 20 = true then if inb (σ45 6 11) 20 = true then if inb (σ45 6 11) 20 = true then l_X6_addCue_80 p0 p1 p2 lf 0 (mput (mput (mput σ45 34 (ix (σ45 6 11)) p0) 35 (ix (σ45 6 11)) p1) 36 (ix (σ45 6 11)) p2) (fun v51 σ52 => some (((σ52 6 11) + 1) - 1, mput σ52 6 11 ((σ52 6 11) + 1))) else none else none else none else some (0, σ45)))
def F_X6_addCue : aF := fun As σ => match As with
  | [.int p0, .int p1, .int p2] => f_X6_addCue p0 p1 p2 σ
  | _ => none
def T_X6_addCue (Qa : Int32 → aM → Prop) : List aI := [I_aload 0 1, I_aload 0 1, I_iload 1 1, I_callV 6 1 F_X6_isLine, I_bot, I_bot, I_if (fun x => ¬ x = 0) 13, I_bot, I_bot, I_const 1 1, I_goto 39, I_bot, I_bot, I_iload 2 1, I_iload 3 1, I_callS 2 F_X6_isFade, I_bot, I_bot, I_if (fun x => ¬ x = 0) 25, I_bot, I_bot, I_const 2 1, I_goto 39, I_bot, I_bot, I_aload 0 1, I_getI 6 11, I_bot, I_bot, I_const (20) 2, I_bot, I_icmp (fun x y => ¬ x = y) 38, I_bot, I_bot, I_const 3 1, I_goto 39, I_bot, I_bot, I_const 0 1, I_callV 6 1 F_X6_isFine, I_bot, I_bot, I_if (fun x => ¬ x = 0) 47, I_bot, I_bot, I_const 0 1, I_iret Qa, I_aload 0 1, I_getR 6 34, I_bot, I_bot, I_aload 0 1, I_getI 6 11, I_bot, I_bot, I_iload 1 1, I_iast, I_aload 0 1, I_getR 6 35, I_bot, I_bot, I_aload 0 1, I_getI 6 11, I_bot, I_bot, I_iload 2 1, I_iast, I_aload 0 1, I_getR 6 36, I_bot, I_bot, I_aload 0 1, I_getI 6 11, I_bot, I_bot, I_iload 3 1, I_iast, I_const 0 1, I_istore 4 2, I_bot, I_iload 4 2, I_bot, I_const (10) 2, I_bot, I_icmp (fun x y => y ≤ x) 109, I_bot, I_bot, I_aload 0 1, I_getR 6 37, I_bot, I_bot, I_const (10) 2, I_bot, I_aload 0 1, I_getI 6 11, I_bot, I_bot, I_bin fun x y => x * y, I_iload 4 2, I_bot, I_bin fun x y => x + y, I_const (-1) 1, I_iast, I_iinc 4 (1), I_bot, I_bot, I_goto 80, I_bot, I_bot, I_aload 0 1, I_dup, I_getI 6 11, I_bot, I_bot, I_const 1 1, I_bin fun x y => x + y, I_putI 6 11, I_bot, I_bot, I_aload 0 1, I_getI 6 11, I_bot, I_bot, I_const 1 1, I_bin fun x y => x - y, I_iret Qa]
set_option maxHeartbeats 4000000 in
set_option maxRecDepth 100000 in
theorem t_X6_addCue_80 {Qa : Int32 → aM → Prop} {K : aS → Prop} (hw : ∀ k x, wp (T_X6_addCue Qa) k K x → K x) (hf : ∀ pc L i st σ, K (pc, L.set i .null, st, σ) → K (pc, L, st, σ)) (x17 : Int32) (x18 : Int32) (x19 : Int32) (y : Int32 × aM) (k : Int32 → aM → Option (Int32 × aM)) :
    ∀ (n : Nat) (v20 : Int32) (σ21 : aM), l_X6_addCue_80 x17 x18 x19 n v20 σ21 k = some y → (∀ (w0 : Int32) (τ : aM), k w0 τ = some y → K (109, [.ref 6, .int x17, .int x18, .int x19, .int w0], [], τ)) → K (80, [.ref 6, .int x17, .int x18, .int x19, .int v20], [], σ21) := by
  intro n
  induction n with
  | zero =>
    intro v20 σ21 h hk
    exact absurd h (by simp [l_X6_addCue_80])
  | succ n ih =>
    intro v20 σ21 h hk
    unfold l_X6_addCue_80 at h
    rcases ite_cases h with ⟨c22, h⟩ | ⟨c22, h⟩
    · refine hw 3 _ ?_
      show ((10 ≤ v20) → K (109, [.ref 6, .int x17, .int x18, .int x19, .int v20], [], σ21)) ∧ (¬ (10 ≤ v20) → K (87, [.ref 6, .int x17, .int x18, .int x19, .int v20], [], σ21))
      refine ⟨fun _ => ?_, fun q => absurd c22 q⟩
      exact hk v20 σ21 h
    · refine hw 3 _ ?_
      show ((10 ≤ v20) → K (109, [.ref 6, .int x17, .int x18, .int x19, .int v20], [], σ21)) ∧ (¬ (10 ≤ v20) → K (87, [.ref 6, .int x17, .int x18, .int x19, .int v20], [], σ21))
      refine ⟨fun q => absurd q c22, fun _ => ?_⟩
      obtain ⟨g23, h⟩ := ite_some h
      refine hw 12 _ ?_
      show kd 37 = 1 ∧ (inb ((10 * (σ21 6 11)) + v20) 200 = true ∧ (K (80, [.ref 6, .int x17, .int x18, .int x19, .int (v20 + 1)], [], mput σ21 37 (ix ((10 * (σ21 6 11)) + v20)) ((-1)))))
      refine ⟨rfl, g23, ?_⟩
      exact ih (v20 + 1) (mput σ21 37 (ix ((10 * (σ21 6 11)) + v20)) ((-1))) h hk

set_option maxHeartbeats 4000000 in
set_option maxRecDepth 100000 in
theorem s_X6_addCue : runs T_X6_addCue [.ref 6] 5 F_X6_addCue := by
  intro Qa K hw hf As σ r σ' h hQ
  unfold F_X6_addCue at h
  split at h
  · rename_i p0 p1 p2
    unfold f_X6_addCue at h
    have hQ : Qa (r, σ').1 (r, σ').2 := hQ
    generalize (r, σ') = y at h hQ
    show K (0, [.ref 6, .int p0, .int p1, .int p2, .null], [], σ)
    obtain ⟨r1, σ2, e3, h⟩ := bnd_some h
    refine hw 4 _ ?_
    show ∃ r1 σ2, f_X6_isLine p0 σ = some (r1, σ2) ∧ K (6, [.ref 6, .int p0, .int p1, .int p2, .null], [.int r1, .ref 6], σ2)
    refine ⟨r1, σ2, e3, ?_⟩
    rcases ite_cases h with ⟨c4, h⟩ | ⟨c4, h⟩
    · refine hw 1 _ ?_
      show ((¬ r1 = 0) → K (13, [.ref 6, .int p0, .int p1, .int p2, .null], [.ref 6], σ2)) ∧ (¬ (¬ r1 = 0) → K (9, [.ref 6, .int p0, .int p1, .int p2, .null], [.ref 6], σ2))
      refine ⟨fun _ => ?_, fun q => absurd c4 q⟩
      obtain ⟨r5, σ6, e7, h⟩ := bnd_some h
      refine hw 3 _ ?_
      show ∃ r5 σ6, f_X6_isFade p1 p2 σ2 = some (r5, σ6) ∧ K (18, [.ref 6, .int p0, .int p1, .int p2, .null], [.int r5, .ref 6], σ6)
      refine ⟨r5, σ6, e7, ?_⟩
      rcases ite_cases h with ⟨c8, h⟩ | ⟨c8, h⟩
      · refine hw 1 _ ?_
        show ((¬ r5 = 0) → K (25, [.ref 6, .int p0, .int p1, .int p2, .null], [.ref 6], σ6)) ∧ (¬ (¬ r5 = 0) → K (21, [.ref 6, .int p0, .int p1, .int p2, .null], [.ref 6], σ6))
        refine ⟨fun _ => ?_, fun q => absurd c8 q⟩
        rcases ite_cases h with ⟨c9, h⟩ | ⟨c9, h⟩
        · refine hw 4 _ ?_
          show ((¬ (σ6 6 11) = 20) → K (38, [.ref 6, .int p0, .int p1, .int p2, .null], [.ref 6], σ6)) ∧ (¬ (¬ (σ6 6 11) = 20) → K (34, [.ref 6, .int p0, .int p1, .int p2, .null], [.ref 6], σ6))
          refine ⟨fun _ => ?_, fun q => absurd c9 q⟩
          obtain ⟨r10, σ11, e12, h⟩ := bnd_some h
          refine hw 2 _ ?_
          show ∃ r10 σ11, f_X6_isFine 0 σ6 = some (r10, σ11) ∧ K (42, [.ref 6, .int p0, .int p1, .int p2, .null], [.int r10], σ11)
          refine ⟨r10, σ11, e12, ?_⟩
          rcases ite_cases h with ⟨c13, h⟩ | ⟨c13, h⟩
          · refine hw 1 _ ?_
            show ((¬ r10 = 0) → K (47, [.ref 6, .int p0, .int p1, .int p2, .null], [], σ11)) ∧ (¬ (¬ r10 = 0) → K (45, [.ref 6, .int p0, .int p1, .int p2, .null], [], σ11))
            refine ⟨fun _ => ?_, fun q => absurd c13 q⟩
            obtain ⟨g14, h⟩ := ite_some h
            obtain ⟨g15, h⟩ := ite_some h
            obtain ⟨g16, h⟩ := ite_some h
            refine hw 20 _ ?_
            show kd 34 = 1 ∧ (inb (σ11 6 11) 20 = true ∧ (kd 35 = 1 ∧ (inb (σ11 6 11) 20 = true ∧ (kd 36 = 1 ∧ (inb (σ11 6 11) 20 = true ∧ (K (80, [.ref 6, .int p0, .int p1, .int p2, .int 0], [], mput (mput (mput σ11 34 (ix (σ11 6 11)) p0) 35 (ix (σ11 6 11)) p1) 36 (ix (σ11 6 11)) p2)))))))
            refine ⟨rfl, g14, rfl, g15, rfl, g16, ?_⟩
            refine t_X6_addCue_80 hw hf p0 p1 p2 _ _ lf 0 (mput (mput (mput σ11 34 (ix (σ11 6 11)) p0) 35 (ix (σ11 6 11)) p1) 36 (ix (σ11 6 11)) p2) h (fun v24 σ25 h => ?_)
            show K (109, [.ref 6, .int p0, .int p1, .int p2, .int v24], [], σ25)
            obtain rfl := Option.some.inj h
            refine hw 11 _ ?_
            show Qa (((σ25 6 11) + 1) - 1) (mput σ25 6 11 ((σ25 6 11) + 1))
            refine hQ
          · refine hw 1 _ ?_
            show ((¬ r10 = 0) → K (47, [.ref 6, .int p0, .int p1, .int p2, .null], [], σ11)) ∧ (¬ (¬ r10 = 0) → K (45, [.ref 6, .int p0, .int p1, .int p2, .null], [], σ11))
            refine ⟨fun q => absurd q c13, fun _ => ?_⟩
            obtain rfl := Option.some.inj h
            refine hw 2 _ ?_
            show Qa 0 σ11
            refine hQ
        · refine hw 4 _ ?_
          show ((¬ (σ6 6 11) = 20) → K (38, [.ref 6, .int p0, .int p1, .int p2, .null], [.ref 6], σ6)) ∧ (¬ (¬ (σ6 6 11) = 20) → K (34, [.ref 6, .int p0, .int p1, .int p2, .null], [.ref 6], σ6))
          refine ⟨fun q => absurd q c9, fun _ => ?_⟩
          obtain ⟨r26, σ27, e28, h⟩ := bnd_some h
          refine hw 3 _ ?_
          show ∃ r26 σ27, f_X6_isFine 3 σ6 = some (r26, σ27) ∧ K (42, [.ref 6, .int p0, .int p1, .int p2, .null], [.int r26], σ27)
          refine ⟨r26, σ27, e28, ?_⟩
          rcases ite_cases h with ⟨c29, h⟩ | ⟨c29, h⟩
          · refine hw 1 _ ?_
            show ((¬ r26 = 0) → K (47, [.ref 6, .int p0, .int p1, .int p2, .null], [], σ27)) ∧ (¬ (¬ r26 = 0) → K (45, [.ref 6, .int p0, .int p1, .int p2, .null], [], σ27))
            refine ⟨fun _ => ?_, fun q => absurd c29 q⟩
            obtain ⟨g30, h⟩ := ite_some h
            obtain ⟨g31, h⟩ := ite_some h
            obtain ⟨g32, h⟩ := ite_some h
            refine hw 20 _ ?_
            show kd 34 = 1 ∧ (inb (σ27 6 11) 20 = true ∧ (kd 35 = 1 ∧ (inb (σ27 6 11) 20 = true ∧ (kd 36 = 1 ∧ (inb (σ27 6 11) 20 = true ∧ (K (80, [.ref 6, .int p0, .int p1, .int p2, .int 0], [], mput (mput (mput σ27 34 (ix (σ27 6 11)) p0) 35 (ix (σ27 6 11)) p1) 36 (ix (σ27 6 11)) p2)))))))
            refine ⟨rfl, g30, rfl, g31, rfl, g32, ?_⟩
            refine t_X6_addCue_80 hw hf p0 p1 p2 _ _ lf 0 (mput (mput (mput σ27 34 (ix (σ27 6 11)) p0) 35 (ix (σ27 6 11)) p1) 36 (ix (σ27 6 11)) p2) h (fun v33 σ34 h => ?_)
            show K (109, [.ref 6, .int p0, .int p1, .int p2, .int v33], [], σ34)
            obtain rfl := Option.some.inj h
            refine hw 11 _ ?_
            show Qa (((σ34 6 11) + 1) - 1) (mput σ34 6 11 ((σ34 6 11) + 1))
            refine hQ
          · refine hw 1 _ ?_
            show ((¬ r26 = 0) → K (47, [.ref 6, .int p0, .int p1, .int p2, .null], [], σ27)) ∧ (¬ (¬ r26 = 0) → K (45, [.ref 6, .int p0, .int p1, .int p2, .null], [], σ27))
            refine ⟨fun q => absurd q c29, fun _ => ?_⟩
            obtain rfl := Option.some.inj h
            refine hw 2 _ ?_
            show Qa 0 σ27
            refine hQ
      · refine hw 1 _ ?_
        show ((¬ r5 = 0) → K (25, [.ref 6, .int p0, .int p1, .int p2, .null], [.ref 6], σ6)) ∧ (¬ (¬ r5 = 0) → K (21, [.ref 6, .int p0, .int p1, .int p2, .null], [.ref 6], σ6))
        refine ⟨fun q => absurd q c8, fun _ => ?_⟩
        obtain ⟨r35, σ36, e37, h⟩ := bnd_some h
        refine hw 3 _ ?_
        show ∃ r35 σ36, f_X6_isFine 2 σ6 = some (r35, σ36) ∧ K (42, [.ref 6, .int p0, .int p1, .int p2, .null], [.int r35], σ36)
        refine ⟨r35, σ36, e37, ?_⟩
        rcases ite_cases h with ⟨c38, h⟩ | ⟨c38, h⟩
        · refine hw 1 _ ?_
          show ((¬ r35 = 0) → K (47, [.ref 6, .int p0, .int p1, .int p2, .null], [], σ36)) ∧ (¬ (¬ r35 = 0) → K (45, [.ref 6, .int p0, .int p1, .int p2, .null], [], σ36))
          refine ⟨fun _ => ?_, fun q => absurd c38 q⟩
          obtain ⟨g39, h⟩ := ite_some h
          obtain ⟨g40, h⟩ := ite_some h
          obtain ⟨g41, h⟩ := ite_some h
          refine hw 20 _ ?_
          show kd 34 = 1 ∧ (inb (σ36 6 11) 20 = true ∧ (kd 35 = 1 ∧ (inb (σ36 6 11) 20 = true ∧ (kd 36 = 1 ∧ (inb (σ36 6 11) 20 = true ∧ (K (80, [.ref 6, .int p0, .int p1, .int p2, .int 0], [], mput (mput (mput σ36 34 (ix (σ36 6 11)) p0) 35 (ix (σ36 6 11)) p1) 36 (ix (σ36 6 11)) p2)))))))
          refine ⟨rfl, g39, rfl, g40, rfl, g41, ?_⟩
          refine t_X6_addCue_80 hw hf p0 p1 p2 _ _ lf 0 (mput (mput (mput σ36 34 (ix (σ36 6 11)) p0) 35 (ix (σ36 6 11)) p1) 36 (ix (σ36 6 11)) p2) h (fun v42 σ43 h => ?_)
          show K (109, [.ref 6, .int p0, .int p1, .int p2, .int v42], [], σ43)
          obtain rfl := Option.some.inj h
          refine hw 11 _ ?_
          show Qa (((σ43 6 11) + 1) - 1) (mput σ43 6 11 ((σ43 6 11) + 1))
          refine hQ
        · refine hw 1 _ ?_
          show ((¬ r35 = 0) → K (47, [.ref 6, .int p0, .int p1, .int p2, .null], [], σ36)) ∧ (¬ (¬ r35 = 0) → K (45, [.ref 6, .int p0, .int p1, .int p2, .null], [], σ36))
          refine ⟨fun q => absurd q c38, fun _ => ?_⟩
          obtain rfl := Option.some.inj h
          refine hw 2 _ ?_
          show Qa 0 σ36
          refine hQ
    · refine hw 1 _ ?_
      show ((¬ r1 = 0) → K (13, [.ref 6, .int p0, .int p1, .int p2, .null], [.ref 6], σ2)) ∧ (¬ (¬ r1 = 0) → K (9, [.ref 6, .int p0, .int p1, .int p2, .null], [.ref 6], σ2))
      refine ⟨fun q => absurd q c4, fun _ => ?_⟩
      obtain ⟨r44, σ45, e46, h⟩ := bnd_some h
      refine hw 3 _ ?_
      show ∃ r44 σ45, f_X6_isFine 1 σ2 = some (r44, σ45) ∧ K (42, [.ref 6, .int p0, .int p1, .int p2, .null], [.int r44], σ45)
      refine ⟨r44, σ45, e46, ?_⟩
      rcases ite_cases h with ⟨c47, h⟩ | ⟨c47, h⟩
      · refine hw 1 _ ?_
        show ((¬ r44 = 0) → K (47, [.ref 6, .int p0, .int p1, .int p2, .null], [], σ45)) ∧ (¬ (¬ r44 = 0) → K (45, [.ref 6, .int p0, .int p1, .int p2, .null], [], σ45))
        refine ⟨fun _ => ?_, fun q => absurd c47 q⟩
        obtain ⟨g48, h⟩ := ite_some h
        obtain ⟨g49, h⟩ := ite_some h
        obtain ⟨g50, h⟩ := ite_some h
        refine hw 20 _ ?_
        show kd 34 = 1 ∧ (inb (σ45 6 11) 20 = true ∧ (kd 35 = 1 ∧ (inb (σ45 6 11) 20 = true ∧ (kd 36 = 1 ∧ (inb (σ45 6 11) 20 = true ∧ (K (80, [.ref 6, .int p0, .int p1, .int p2, .int 0], [], mput (mput (mput σ45 34 (ix (σ45 6 11)) p0) 35 (ix (σ45 6 11)) p1) 36 (ix (σ45 6 11)) p2)))))))
        refine ⟨rfl, g48, rfl, g49, rfl, g50, ?_⟩
        refine t_X6_addCue_80 hw hf p0 p1 p2 _ _ lf 0 (mput (mput (mput σ45 34 (ix (σ45 6 11)) p0) 35 (ix (σ45 6 11)) p1) 36 (ix (σ45 6 11)) p2) h (fun v51 σ52 h => ?_)
        show K (109, [.ref 6, .int p0, .int p1, .int p2, .int v51], [], σ52)
        obtain rfl := Option.some.inj h
        refine hw 11 _ ?_
        show Qa (((σ52 6 11) + 1) - 1) (mput σ52 6 11 ((σ52 6 11) + 1))
        refine hQ
      · refine hw 1 _ ?_
        show ((¬ r44 = 0) → K (47, [.ref 6, .int p0, .int p1, .int p2, .null], [], σ45)) ∧ (¬ (¬ r44 = 0) → K (45, [.ref 6, .int p0, .int p1, .int p2, .null], [], σ45))
        refine ⟨fun q => absurd q c47, fun _ => ?_⟩
        obtain rfl := Option.some.inj h
        refine hw 2 _ ?_
        show Qa 0 σ45
        refine hQ
  · cases h
theorem h_X6_addCue : shp [.ref 6] 5 F_X6_addCue := by
  intro As σ r σ' h
  unfold F_X6_addCue at h
  split at h
  · exact ⟨by simp [Value.category], Nat.le_of_ble_eq_true rfl⟩
  · cases h
set_option maxHeartbeats 4000000 in
set_option maxRecDepth 100000 in
theorem c_X6_addCue (l : Launch) (D : va_G) (cI cZ cA cL : ClassId) (ad : Nat → Nat) (hi : adI ad) : CtI l yX6_addCue wsX6_addCue { frames := 2, cells := 0, slots := 0, locals := 43 } D cI cZ cA cL ad [.ref 6] F_X6_addCue := by
  refine mk_I [.ref 6] F_X6_addCue T_X6_addCue (by decide +kernel) rfl ?_ h_X6_addCue s_X6_addCue
  intro p e s m args below meth c Qa ⟨hx, hb, hml, hown, hts, hr, hlocks, hK, hN⟩
  have hin6 : ∀ w ∈ u_ws RX6 TX6 30, w ∈ wsX6_addCue := by decide +kernel
  have hl111 : (Cond.fieldLink RX6 111 RX6 (TX6 11).2.1 (TX6 11).2.2.1) ∈ wsX6_addCue := by decide +kernel
  have hl26 : (Cond.fieldLink RX6 26 RX6 (TX6 7).2.1 (TX6 7).2.2.1) ∈ wsX6_addCue := by decide +kernel
  have hl29 : (Cond.fieldLink RX6 29 RX6 (TX6 8).2.1 (TX6 8).2.2.1) ∈ wsX6_addCue := by decide +kernel
  have hl32 : (Cond.fieldLink RX6 32 RX6 (TX6 9).2.1 (TX6 9).2.2.1) ∈ wsX6_addCue := by decide +kernel
  have hl35 : (Cond.fieldLink RX6 35 RX6 (TX6 10).2.1 (TX6 10).2.2.1) ∈ wsX6_addCue := by decide +kernel
  refine ruL_c (n := 0) (n2 := 1) rfl (ru_aload_n (k := 0) hx hb dX6_addCue_0) ?_
  refine ruL_c (n := 1) (n2 := 2) rfl (ru_aload_n (k := 0) hx hb dX6_addCue_1) ?_
  refine ruL_c (n := 2) (n2 := 3) rfl (ru_iload_n (k := 1) hx hb dX6_addCue_2) ?_
  refine ruL_c (n := 3) (n2 := 4) rfl (ru_callV hx hb hml hown hts hK hN (by decide) rfl (c_X6_isLine l D cI cZ cA cL ad hi) (cwV 1 hts gX6_addCue_X6_isLine rfl rfl rfl (by decide +kernel) ⟨Nat.le_of_ble_eq_true rfl, Nat.le_of_ble_eq_true rfl⟩) dX6_addCue_3 ⟨Nat.zero_le _, Nat.zero_le _⟩) ?_
  refine ruL_c (n := 4) (n2 := 5) rfl (ru_bot) ?_
  refine ruL_c (n := 5) (n2 := 6) rfl (ru_bot) ?_
  refine ruL_c (n := 6) (n2 := 7) rfl (ru_ifne hx hb dX6_addCue_6 (by decide)) ?_
  refine ruL_c (n := 7) (n2 := 8) rfl (ru_bot) ?_
  refine ruL_c (n := 8) (n2 := 9) rfl (ru_bot) ?_
  refine ruL_c (n := 9) (n2 := 10) rfl (ru_iconst hx hb dX6_addCue_9 rfl) ?_
  refine ruL_c (n := 10) (n2 := 11) rfl (ru_goto hx hb dX6_addCue_10 (by decide)) ?_
  refine ruL_c (n := 11) (n2 := 12) rfl (ru_bot) ?_
  refine ruL_c (n := 12) (n2 := 13) rfl (ru_bot) ?_
  refine ruL_c (n := 13) (n2 := 14) rfl (ru_iload_n (k := 2) hx hb dX6_addCue_13) ?_
  refine ruL_c (n := 14) (n2 := 15) rfl (ru_iload_n (k := 3) hx hb dX6_addCue_14) ?_
  refine ruL_c (n := 15) (n2 := 16) rfl (ru_callS hx hb hml hown hts hK hN (c_X6_isFade l D cI cZ cA cL ad hi) (va_cwS 2 hts gX6_addCue_X6_isFade rfl rfl rfl (by decide +kernel) ⟨Nat.le_of_ble_eq_true rfl, Nat.le_of_ble_eq_true rfl⟩) dX6_addCue_15 ⟨Nat.zero_le _, Nat.zero_le _⟩) ?_
  refine ruL_c (n := 16) (n2 := 17) rfl (ru_bot) ?_
  refine ruL_c (n := 17) (n2 := 18) rfl (ru_bot) ?_
  refine ruL_c (n := 18) (n2 := 19) rfl (ru_ifne hx hb dX6_addCue_18 (by decide)) ?_
  refine ruL_c (n := 19) (n2 := 20) rfl (ru_bot) ?_
  refine ruL_c (n := 20) (n2 := 21) rfl (ru_bot) ?_
  refine ruL_c (n := 21) (n2 := 22) rfl (ru_iconst hx hb dX6_addCue_21 rfl) ?_
  refine ruL_c (n := 22) (n2 := 23) rfl (ru_goto hx hb dX6_addCue_22 (by decide)) ?_
  refine ruL_c (n := 23) (n2 := 24) rfl (ru_bot) ?_
  refine ruL_c (n := 24) (n2 := 25) rfl (ru_bot) ?_
  refine ruL_c (n := 25) (n2 := 26) rfl (ru_aload_n (k := 0) hx hb dX6_addCue_25) ?_
  refine ruL_c (n := 26) (n2 := 27) rfl (ru_getI (own := RX6) (j := 11) (T := TX6) hx hb hown hK hts hin6 (by decide) rfl rfl (by decide) rfl hl111 dX6_addCue_26) ?_
  refine ruL_c (n := 27) (n2 := 28) rfl (ru_bot) ?_
  refine ruL_c (n := 28) (n2 := 29) rfl (ru_bot) ?_
  refine ruL_c (n := 29) (n2 := 30) rfl (ru_bipush hx hb dX6_addCue_29 rfl) ?_
  refine ruL_c (n := 30) (n2 := 31) rfl (ru_bot) ?_
  refine ruL_c (n := 31) (n2 := 32) rfl (ru_icmpne hx hb dX6_addCue_31 (by decide)) ?_
  refine ruL_c (n := 32) (n2 := 33) rfl (ru_bot) ?_
  refine ruL_c (n := 33) (n2 := 34) rfl (ru_bot) ?_
  refine ruL_c (n := 34) (n2 := 35) rfl (ru_iconst hx hb dX6_addCue_34 rfl) ?_
  refine ruL_c (n := 35) (n2 := 36) rfl (ru_goto hx hb dX6_addCue_35 (by decide)) ?_
  refine ruL_c (n := 36) (n2 := 37) rfl (ru_bot) ?_
  refine ruL_c (n := 37) (n2 := 38) rfl (ru_bot) ?_
  refine ruL_c (n := 38) (n2 := 39) rfl (ru_iconst hx hb dX6_addCue_38 rfl) ?_
  refine ruL_c (n := 39) (n2 := 40) rfl (ru_callV hx hb hml hown hts hK hN (by decide) rfl (c_X6_isFine l D cI cZ cA cL ad hi) (cwV 1 hts gX6_addCue_X6_isFine rfl rfl rfl (by decide +kernel) ⟨Nat.le_of_ble_eq_true rfl, Nat.le_of_ble_eq_true rfl⟩) dX6_addCue_39 ⟨Nat.zero_le _, Nat.zero_le _⟩) ?_
  refine ruL_c (n := 40) (n2 := 41) rfl (ru_bot) ?_
  refine ruL_c (n := 41) (n2 := 42) rfl (ru_bot) ?_
  refine ruL_c (n := 42) (n2 := 43) rfl (ru_ifne hx hb dX6_addCue_42 (by decide)) ?_
  refine ruL_c (n := 43) (n2 := 44) rfl (ru_bot) ?_
  refine ruL_c (n := 44) (n2 := 45) rfl (ru_bot) ?_
  refine ruL_c (n := 45) (n2 := 46) rfl (ru_iconst hx hb dX6_addCue_45 rfl) ?_
  refine ruL_c (n := 46) (n2 := 47) rfl (ru_iret hx hb hK hr hlocks dX6_addCue_46) ?_
  refine ruL_c (n := 47) (n2 := 48) rfl (ru_aload_n (k := 0) hx hb dX6_addCue_47) ?_
  refine ruL_c (n := 48) (n2 := 49) rfl (ru_getR (own := RX6) (j := 7) (T := TX6) hx hb hown hK hts hin6 (by decide) rfl rfl (by decide) rfl hl26 dX6_addCue_48) ?_
  refine ruL_c (n := 49) (n2 := 50) rfl (ru_bot) ?_
  refine ruL_c (n := 50) (n2 := 51) rfl (ru_bot) ?_
  refine ruL_c (n := 51) (n2 := 52) rfl (ru_aload_n (k := 0) hx hb dX6_addCue_51) ?_
  refine ruL_c (n := 52) (n2 := 53) rfl (ru_getI (own := RX6) (j := 11) (T := TX6) hx hb hown hK hts hin6 (by decide) rfl rfl (by decide) rfl hl111 dX6_addCue_52) ?_
  refine ruL_c (n := 53) (n2 := 54) rfl (ru_bot) ?_
  refine ruL_c (n := 54) (n2 := 55) rfl (ru_bot) ?_
  refine ruL_c (n := 55) (n2 := 56) rfl (ru_iload_n (k := 1) hx hb dX6_addCue_55) ?_
  refine ruL_c (n := 56) (n2 := 57) rfl (ru_iast hx hb hK hi dX6_addCue_56) ?_
  refine ruL_c (n := 57) (n2 := 58) rfl (ru_aload_n (k := 0) hx hb dX6_addCue_57) ?_
  refine ruL_c (n := 58) (n2 := 59) rfl (ru_getR (own := RX6) (j := 8) (T := TX6) hx hb hown hK hts hin6 (by decide) rfl rfl (by decide) rfl hl29 dX6_addCue_58) ?_
  refine ruL_c (n := 59) (n2 := 60) rfl (ru_bot) ?_
  refine ruL_c (n := 60) (n2 := 61) rfl (ru_bot) ?_
  refine ruL_c (n := 61) (n2 := 62) rfl (ru_aload_n (k := 0) hx hb dX6_addCue_61) ?_
  refine ruL_c (n := 62) (n2 := 63) rfl (ru_getI (own := RX6) (j := 11) (T := TX6) hx hb hown hK hts hin6 (by decide) rfl rfl (by decide) rfl hl111 dX6_addCue_62) ?_
  refine ruL_c (n := 63) (n2 := 64) rfl (ru_bot) ?_
  refine ruL_c (n := 64) (n2 := 65) rfl (ru_bot) ?_
  refine ruL_c (n := 65) (n2 := 66) rfl (ru_iload_n (k := 2) hx hb dX6_addCue_65) ?_
  refine ruL_c (n := 66) (n2 := 67) rfl (ru_iast hx hb hK hi dX6_addCue_66) ?_
  refine ruL_c (n := 67) (n2 := 68) rfl (ru_aload_n (k := 0) hx hb dX6_addCue_67) ?_
  refine ruL_c (n := 68) (n2 := 69) rfl (ru_getR (own := RX6) (j := 9) (T := TX6) hx hb hown hK hts hin6 (by decide) rfl rfl (by decide) rfl hl32 dX6_addCue_68) ?_
  refine ruL_c (n := 69) (n2 := 70) rfl (ru_bot) ?_
  refine ruL_c (n := 70) (n2 := 71) rfl (ru_bot) ?_
  refine ruL_c (n := 71) (n2 := 72) rfl (ru_aload_n (k := 0) hx hb dX6_addCue_71) ?_
  refine ruL_c (n := 72) (n2 := 73) rfl (ru_getI (own := RX6) (j := 11) (T := TX6) hx hb hown hK hts hin6 (by decide) rfl rfl (by decide) rfl hl111 dX6_addCue_72) ?_
  refine ruL_c (n := 73) (n2 := 74) rfl (ru_bot) ?_
  refine ruL_c (n := 74) (n2 := 75) rfl (ru_bot) ?_
  refine ruL_c (n := 75) (n2 := 76) rfl (ru_iload_n (k := 3) hx hb dX6_addCue_75) ?_
  refine ruL_c (n := 76) (n2 := 77) rfl (ru_iast hx hb hK hi dX6_addCue_76) ?_
  refine ruL_c (n := 77) (n2 := 78) rfl (ru_iconst hx hb dX6_addCue_77 rfl) ?_
  refine ruL_c (n := 78) (n2 := 79) rfl (ru_istore hx hb dX6_addCue_78) ?_
  refine ruL_c (n := 79) (n2 := 80) rfl (ru_bot) ?_
  refine ruL_c (n := 80) (n2 := 81) rfl (ru_iload hx hb dX6_addCue_80) ?_
  refine ruL_c (n := 81) (n2 := 82) rfl (ru_bot) ?_
  refine ruL_c (n := 82) (n2 := 83) rfl (ru_bipush hx hb dX6_addCue_82 rfl) ?_
  refine ruL_c (n := 83) (n2 := 84) rfl (ru_bot) ?_
  refine ruL_c (n := 84) (n2 := 85) rfl (ru_icmpge hx hb dX6_addCue_84 (by decide)) ?_
  refine ruL_c (n := 85) (n2 := 86) rfl (ru_bot) ?_
  refine ruL_c (n := 86) (n2 := 87) rfl (ru_bot) ?_
  refine ruL_c (n := 87) (n2 := 88) rfl (ru_aload_n (k := 0) hx hb dX6_addCue_87) ?_
  refine ruL_c (n := 88) (n2 := 89) rfl (ru_getR (own := RX6) (j := 10) (T := TX6) hx hb hown hK hts hin6 (by decide) rfl rfl (by decide) rfl hl35 dX6_addCue_88) ?_
  refine ruL_c (n := 89) (n2 := 90) rfl (ru_bot) ?_
  refine ruL_c (n := 90) (n2 := 91) rfl (ru_bot) ?_
  refine ruL_c (n := 91) (n2 := 92) rfl (ru_bipush hx hb dX6_addCue_91 rfl) ?_
  refine ruL_c (n := 92) (n2 := 93) rfl (ru_bot) ?_
  refine ruL_c (n := 93) (n2 := 94) rfl (ru_aload_n (k := 0) hx hb dX6_addCue_93) ?_
  refine ruL_c (n := 94) (n2 := 95) rfl (ru_getI (own := RX6) (j := 11) (T := TX6) hx hb hown hK hts hin6 (by decide) rfl rfl (by decide) rfl hl111 dX6_addCue_94) ?_
  refine ruL_c (n := 95) (n2 := 96) rfl (ru_bot) ?_
  refine ruL_c (n := 96) (n2 := 97) rfl (ru_bot) ?_
  refine ruL_c (n := 97) (n2 := 98) rfl (ru_imul hx hb dX6_addCue_97) ?_
  refine ruL_c (n := 98) (n2 := 99) rfl (ru_iload hx hb dX6_addCue_98) ?_
  refine ruL_c (n := 99) (n2 := 100) rfl (ru_bot) ?_
  refine ruL_c (n := 100) (n2 := 101) rfl (ru_iadd hx hb dX6_addCue_100) ?_
  refine ruL_c (n := 101) (n2 := 102) rfl (ru_iconst hx hb dX6_addCue_101 rfl) ?_
  refine ruL_c (n := 102) (n2 := 103) rfl (ru_iast hx hb hK hi dX6_addCue_102) ?_
  refine ruL_c (n := 103) (n2 := 104) rfl (ru_iinc hx hb dX6_addCue_103 rfl) ?_
  refine ruL_c (n := 104) (n2 := 105) rfl (ru_bot) ?_
  refine ruL_c (n := 105) (n2 := 106) rfl (ru_bot) ?_
  refine ruL_c (n := 106) (n2 := 107) rfl (ru_goto hx hb dX6_addCue_106 (by decide)) ?_
  refine ruL_c (n := 107) (n2 := 108) rfl (ru_bot) ?_
  refine ruL_c (n := 108) (n2 := 109) rfl (ru_bot) ?_
  refine ruL_c (n := 109) (n2 := 110) rfl (ru_aload_n (k := 0) hx hb dX6_addCue_109) ?_
  refine ruL_c (n := 110) (n2 := 111) rfl (ru_dup hx hb dX6_addCue_110) ?_
  refine ruL_c (n := 111) (n2 := 112) rfl (ru_getI (own := RX6) (j := 11) (T := TX6) hx hb hown hK hts hin6 (by decide) rfl rfl (by decide) rfl hl111 dX6_addCue_111) ?_
  refine ruL_c (n := 112) (n2 := 113) rfl (ru_bot) ?_
  refine ruL_c (n := 113) (n2 := 114) rfl (ru_bot) ?_
  refine ruL_c (n := 114) (n2 := 115) rfl (ru_iconst hx hb dX6_addCue_114 rfl) ?_
  refine ruL_c (n := 115) (n2 := 116) rfl (ru_iadd hx hb dX6_addCue_115) ?_
  refine ruL_c (n := 116) (n2 := 117) rfl (ru_putI (own := RX6) (j := 11) (T := TX6) hx hb hown hK hi hts hin6 tyX6 tyX6_ok nmX6 (by decide) rfl rfl (by decide) rfl hl111 rfl (by decide +kernel) dX6_addCue_116) ?_
  refine ruL_c (n := 117) (n2 := 118) rfl (ru_bot) ?_
  refine ruL_c (n := 118) (n2 := 119) rfl (ru_bot) ?_
  refine ruL_c (n := 119) (n2 := 120) rfl (ru_aload_n (k := 0) hx hb dX6_addCue_119) ?_
  refine ruL_c (n := 120) (n2 := 121) rfl (ru_getI (own := RX6) (j := 11) (T := TX6) hx hb hown hK hts hin6 (by decide) rfl rfl (by decide) rfl hl111 dX6_addCue_120) ?_
  refine ruL_c (n := 121) (n2 := 122) rfl (ru_bot) ?_
  refine ruL_c (n := 122) (n2 := 123) rfl (ru_bot) ?_
  refine ruL_c (n := 123) (n2 := 124) rfl (ru_iconst hx hb dX6_addCue_123 rfl) ?_
  refine ruL_c (n := 124) (n2 := 125) rfl (ru_isub hx hb dX6_addCue_124) ?_
  refine ruL_c (n := 125) (n2 := 126) rfl (ru_iret hx hb hK hr hlocks dX6_addCue_125) ?_
  exact trivial

-- CueTourModel.move
def f_X6_move (p0 : Int32) (p1 : Int32) (p2 : Int32) (p3 : Int32) (σ : aM) : Option (Int32 × aM) := bnd (f_X6_isCue p0 σ) (fun r1 σ2 => if r1 = 0 then bnd (f_X6_isFine 1 σ2) (fun r5 σ6 => if ¬ r5 = 0 then if inb p0 20 = true then if inb p0 20 = true then if inb p0 20 = true then if inb p0 20 = true then some (σ6 34 (ix p0), mput (mput (mput σ6 34 (ix p0) p1) 35 (ix p0) p2) 36 (ix p0) p3) else none else none else none else none else some (0, σ6)) else bnd (f_X6_isLine p1 σ2) (fun r13 σ14 => if r13 = 0 then bnd (f_X6_isFine 1 σ14) (fun r17 σ18 => if ¬ r17 = 0 then if inb p0 20 = true then if inb p0 20 = true then if inb p0 20 = true then if inb p0 20 = true then some (σ18 34 (ix p0), mput (mput (mput σ18 34 (ix p0) p1) 35 (ix p0) p2) 36 (ix p0) p3) else none else none else none else none else some (0, σ18)) else bnd (f_X6_isFade p2 p3 σ14) (fun r25 σ26 => if ¬ r25 = 0 then bnd (f_X6_isFine 0 σ26) (fun r29 σ30 => if ¬ r29 = 0 then if inb p0 20 = true then if inb p0 20 = true then if inb p0 20 = true then if inb p0 20 = true then some (σ30 34 (ix p0), mput (mput (mput σ30 34 (ix p0) p1) 35 (ix p0) p2) 36 (ix p0) p3) else none else none else none else none else some (0, σ30)) else bnd (f_X6_isFine 2 σ26) (fun r37 σ38 => if ¬ r37 = 0 then if inb p0 20 = true then if inb p0 20 = true then if inb p0 20 = true then if inb p0 20 = true then some (σ38 34 (ix p0), mput (mput (mput σ38 34 (ix p0) p1) 35 (ix p0) p2) 36 (ix p0) p3) else none else none else none else none else some (0, σ38)))))
def F_X6_move : aF := fun As σ => match As with
  | [.int p0, .int p1, .int p2, .int p3] => f_X6_move p0 p1 p2 p3 σ
  | _ => none
def T_X6_move (Qa : Int32 → aM → Prop) : List aI := [I_aload 0 1, I_iload 1 1, I_callV 6 1 F_X6_isCue, I_bot, I_bot, I_if (fun x => x = 0) 20, I_bot, I_bot, I_aload 0 1, I_iload 2 1, I_callV 6 1 F_X6_isLine, I_bot, I_bot, I_if (fun x => x = 0) 20, I_bot, I_bot, I_const 1 1, I_goto 21, I_bot, I_bot, I_const 0 1, I_istore 5 2, I_bot, I_aload 0 1, I_iload 5 2, I_bot, I_if (fun x => ¬ x = 0) 33, I_bot, I_bot, I_const 1 1, I_goto 47, I_bot, I_bot, I_iload 3 1, I_iload 4 2, I_bot, I_callS 2 F_X6_isFade, I_bot, I_bot, I_if (fun x => ¬ x = 0) 46, I_bot, I_bot, I_const 2 1, I_goto 47, I_bot, I_bot, I_const 0 1, I_callV 6 1 F_X6_isFine, I_bot, I_bot, I_if (fun x => ¬ x = 0) 55, I_bot, I_bot, I_const 0 1, I_iret Qa, I_aload 0 1, I_getR 6 34, I_bot, I_bot, I_iload 1 1, I_iald, I_istore 6 2, I_bot, I_aload 0 1, I_getR 6 34, I_bot, I_bot, I_iload 1 1, I_iload 2 1, I_iast, I_aload 0 1, I_getR 6 35, I_bot, I_bot, I_iload 1 1, I_iload 3 1, I_iast, I_aload 0 1, I_getR 6 36, I_bot, I_bot, I_iload 1 1, I_iload 4 2, I_bot, I_iast, I_iload 6 2, I_bot, I_iret Qa]
set_option maxHeartbeats 4000000 in
set_option maxRecDepth 100000 in
theorem s_X6_move : runs T_X6_move [.ref 6] 7 F_X6_move := by
  intro Qa K hw hf As σ r σ' h hQ
  unfold F_X6_move at h
  split at h
  · rename_i p0 p1 p2 p3
    unfold f_X6_move at h
    have hQ : Qa (r, σ').1 (r, σ').2 := hQ
    generalize (r, σ') = y at h hQ
    show K (0, [.ref 6, .int p0, .int p1, .int p2, .int p3, .null, .null], [], σ)
    obtain ⟨r1, σ2, e3, h⟩ := bnd_some h
    refine hw 3 _ ?_
    show ∃ r1 σ2, f_X6_isCue p0 σ = some (r1, σ2) ∧ K (5, [.ref 6, .int p0, .int p1, .int p2, .int p3, .null, .null], [.int r1], σ2)
    refine ⟨r1, σ2, e3, ?_⟩
    rcases ite_cases h with ⟨c4, h⟩ | ⟨c4, h⟩
    · refine hw 1 _ ?_
      show ((r1 = 0) → K (20, [.ref 6, .int p0, .int p1, .int p2, .int p3, .null, .null], [], σ2)) ∧ (¬ (r1 = 0) → K (8, [.ref 6, .int p0, .int p1, .int p2, .int p3, .null, .null], [], σ2))
      refine ⟨fun _ => ?_, fun q => absurd c4 q⟩
      refine hw 5 _ ?_
      show ((¬ (0 : Int32) = 0) → K (33, [.ref 6, .int p0, .int p1, .int p2, .int p3, .int 0, .null], [.ref 6], σ2)) ∧ (¬ (¬ (0 : Int32) = 0) → K (29, [.ref 6, .int p0, .int p1, .int p2, .int p3, .int 0, .null], [.ref 6], σ2))
      refine ⟨fun q => absurd q (by decide), fun _ => ?_⟩
      obtain ⟨r5, σ6, e7, h⟩ := bnd_some h
      refine hw 3 _ ?_
      show ∃ r5 σ6, f_X6_isFine 1 σ2 = some (r5, σ6) ∧ K (50, [.ref 6, .int p0, .int p1, .int p2, .int p3, .int 0, .null], [.int r5], σ6)
      refine ⟨r5, σ6, e7, ?_⟩
      rcases ite_cases h with ⟨c8, h⟩ | ⟨c8, h⟩
      · refine hw 1 _ ?_
        show ((¬ r5 = 0) → K (55, [.ref 6, .int p0, .int p1, .int p2, .int p3, .int 0, .null], [], σ6)) ∧ (¬ (¬ r5 = 0) → K (53, [.ref 6, .int p0, .int p1, .int p2, .int p3, .int 0, .null], [], σ6))
        refine ⟨fun _ => ?_, fun q => absurd c8 q⟩
        obtain ⟨g9, h⟩ := ite_some h
        obtain ⟨g10, h⟩ := ite_some h
        obtain ⟨g11, h⟩ := ite_some h
        obtain ⟨g12, h⟩ := ite_some h
        obtain rfl := Option.some.inj h
        refine hw 22 _ ?_
        show kd 34 = 1 ∧ (inb p0 20 = true ∧ (kd 34 = 1 ∧ (inb p0 20 = true ∧ (kd 35 = 1 ∧ (inb p0 20 = true ∧ (kd 36 = 1 ∧ (inb p0 20 = true ∧ (Qa (σ6 34 (ix p0)) (mput (mput (mput σ6 34 (ix p0) p1) 35 (ix p0) p2) 36 (ix p0) p3)))))))))
        refine ⟨rfl, g9, rfl, g10, rfl, g11, rfl, g12, hQ⟩
      · refine hw 1 _ ?_
        show ((¬ r5 = 0) → K (55, [.ref 6, .int p0, .int p1, .int p2, .int p3, .int 0, .null], [], σ6)) ∧ (¬ (¬ r5 = 0) → K (53, [.ref 6, .int p0, .int p1, .int p2, .int p3, .int 0, .null], [], σ6))
        refine ⟨fun q => absurd q c8, fun _ => ?_⟩
        obtain rfl := Option.some.inj h
        refine hw 2 _ ?_
        show Qa 0 σ6
        refine hQ
    · refine hw 1 _ ?_
      show ((r1 = 0) → K (20, [.ref 6, .int p0, .int p1, .int p2, .int p3, .null, .null], [], σ2)) ∧ (¬ (r1 = 0) → K (8, [.ref 6, .int p0, .int p1, .int p2, .int p3, .null, .null], [], σ2))
      refine ⟨fun q => absurd q c4, fun _ => ?_⟩
      obtain ⟨r13, σ14, e15, h⟩ := bnd_some h
      refine hw 3 _ ?_
      show ∃ r13 σ14, f_X6_isLine p1 σ2 = some (r13, σ14) ∧ K (13, [.ref 6, .int p0, .int p1, .int p2, .int p3, .null, .null], [.int r13], σ14)
      refine ⟨r13, σ14, e15, ?_⟩
      rcases ite_cases h with ⟨c16, h⟩ | ⟨c16, h⟩
      · refine hw 1 _ ?_
        show ((r13 = 0) → K (20, [.ref 6, .int p0, .int p1, .int p2, .int p3, .null, .null], [], σ14)) ∧ (¬ (r13 = 0) → K (16, [.ref 6, .int p0, .int p1, .int p2, .int p3, .null, .null], [], σ14))
        refine ⟨fun _ => ?_, fun q => absurd c16 q⟩
        refine hw 5 _ ?_
        show ((¬ (0 : Int32) = 0) → K (33, [.ref 6, .int p0, .int p1, .int p2, .int p3, .int 0, .null], [.ref 6], σ14)) ∧ (¬ (¬ (0 : Int32) = 0) → K (29, [.ref 6, .int p0, .int p1, .int p2, .int p3, .int 0, .null], [.ref 6], σ14))
        refine ⟨fun q => absurd q (by decide), fun _ => ?_⟩
        obtain ⟨r17, σ18, e19, h⟩ := bnd_some h
        refine hw 3 _ ?_
        show ∃ r17 σ18, f_X6_isFine 1 σ14 = some (r17, σ18) ∧ K (50, [.ref 6, .int p0, .int p1, .int p2, .int p3, .int 0, .null], [.int r17], σ18)
        refine ⟨r17, σ18, e19, ?_⟩
        rcases ite_cases h with ⟨c20, h⟩ | ⟨c20, h⟩
        · refine hw 1 _ ?_
          show ((¬ r17 = 0) → K (55, [.ref 6, .int p0, .int p1, .int p2, .int p3, .int 0, .null], [], σ18)) ∧ (¬ (¬ r17 = 0) → K (53, [.ref 6, .int p0, .int p1, .int p2, .int p3, .int 0, .null], [], σ18))
          refine ⟨fun _ => ?_, fun q => absurd c20 q⟩
          obtain ⟨g21, h⟩ := ite_some h
          obtain ⟨g22, h⟩ := ite_some h
          obtain ⟨g23, h⟩ := ite_some h
          obtain ⟨g24, h⟩ := ite_some h
          obtain rfl := Option.some.inj h
          refine hw 22 _ ?_
          show kd 34 = 1 ∧ (inb p0 20 = true ∧ (kd 34 = 1 ∧ (inb p0 20 = true ∧ (kd 35 = 1 ∧ (inb p0 20 = true ∧ (kd 36 = 1 ∧ (inb p0 20 = true ∧ (Qa (σ18 34 (ix p0)) (mput (mput (mput σ18 34 (ix p0) p1) 35 (ix p0) p2) 36 (ix p0) p3)))))))))
          refine ⟨rfl, g21, rfl, g22, rfl, g23, rfl, g24, hQ⟩
        · refine hw 1 _ ?_
          show ((¬ r17 = 0) → K (55, [.ref 6, .int p0, .int p1, .int p2, .int p3, .int 0, .null], [], σ18)) ∧ (¬ (¬ r17 = 0) → K (53, [.ref 6, .int p0, .int p1, .int p2, .int p3, .int 0, .null], [], σ18))
          refine ⟨fun q => absurd q c20, fun _ => ?_⟩
          obtain rfl := Option.some.inj h
          refine hw 2 _ ?_
          show Qa 0 σ18
          refine hQ
      · refine hw 1 _ ?_
        show ((r13 = 0) → K (20, [.ref 6, .int p0, .int p1, .int p2, .int p3, .null, .null], [], σ14)) ∧ (¬ (r13 = 0) → K (16, [.ref 6, .int p0, .int p1, .int p2, .int p3, .null, .null], [], σ14))
        refine ⟨fun q => absurd q c16, fun _ => ?_⟩
        refine hw 6 _ ?_
        show ((¬ (1 : Int32) = 0) → K (33, [.ref 6, .int p0, .int p1, .int p2, .int p3, .int 1, .null], [.ref 6], σ14)) ∧ (¬ (¬ (1 : Int32) = 0) → K (29, [.ref 6, .int p0, .int p1, .int p2, .int p3, .int 1, .null], [.ref 6], σ14))
        refine ⟨fun _ => ?_, fun q => absurd (by decide) q⟩
        obtain ⟨r25, σ26, e27, h⟩ := bnd_some h
        refine hw 3 _ ?_
        show ∃ r25 σ26, f_X6_isFade p2 p3 σ14 = some (r25, σ26) ∧ K (39, [.ref 6, .int p0, .int p1, .int p2, .int p3, .int 1, .null], [.int r25, .ref 6], σ26)
        refine ⟨r25, σ26, e27, ?_⟩
        rcases ite_cases h with ⟨c28, h⟩ | ⟨c28, h⟩
        · refine hw 1 _ ?_
          show ((¬ r25 = 0) → K (46, [.ref 6, .int p0, .int p1, .int p2, .int p3, .int 1, .null], [.ref 6], σ26)) ∧ (¬ (¬ r25 = 0) → K (42, [.ref 6, .int p0, .int p1, .int p2, .int p3, .int 1, .null], [.ref 6], σ26))
          refine ⟨fun _ => ?_, fun q => absurd c28 q⟩
          obtain ⟨r29, σ30, e31, h⟩ := bnd_some h
          refine hw 2 _ ?_
          show ∃ r29 σ30, f_X6_isFine 0 σ26 = some (r29, σ30) ∧ K (50, [.ref 6, .int p0, .int p1, .int p2, .int p3, .int 1, .null], [.int r29], σ30)
          refine ⟨r29, σ30, e31, ?_⟩
          rcases ite_cases h with ⟨c32, h⟩ | ⟨c32, h⟩
          · refine hw 1 _ ?_
            show ((¬ r29 = 0) → K (55, [.ref 6, .int p0, .int p1, .int p2, .int p3, .int 1, .null], [], σ30)) ∧ (¬ (¬ r29 = 0) → K (53, [.ref 6, .int p0, .int p1, .int p2, .int p3, .int 1, .null], [], σ30))
            refine ⟨fun _ => ?_, fun q => absurd c32 q⟩
            obtain ⟨g33, h⟩ := ite_some h
            obtain ⟨g34, h⟩ := ite_some h
            obtain ⟨g35, h⟩ := ite_some h
            obtain ⟨g36, h⟩ := ite_some h
            obtain rfl := Option.some.inj h
            refine hw 22 _ ?_
            show kd 34 = 1 ∧ (inb p0 20 = true ∧ (kd 34 = 1 ∧ (inb p0 20 = true ∧ (kd 35 = 1 ∧ (inb p0 20 = true ∧ (kd 36 = 1 ∧ (inb p0 20 = true ∧ (Qa (σ30 34 (ix p0)) (mput (mput (mput σ30 34 (ix p0) p1) 35 (ix p0) p2) 36 (ix p0) p3)))))))))
            refine ⟨rfl, g33, rfl, g34, rfl, g35, rfl, g36, hQ⟩
          · refine hw 1 _ ?_
            show ((¬ r29 = 0) → K (55, [.ref 6, .int p0, .int p1, .int p2, .int p3, .int 1, .null], [], σ30)) ∧ (¬ (¬ r29 = 0) → K (53, [.ref 6, .int p0, .int p1, .int p2, .int p3, .int 1, .null], [], σ30))
            refine ⟨fun q => absurd q c32, fun _ => ?_⟩
            obtain rfl := Option.some.inj h
            refine hw 2 _ ?_
            show Qa 0 σ30
            refine hQ
        · refine hw 1 _ ?_
          show ((¬ r25 = 0) → K (46, [.ref 6, .int p0, .int p1, .int p2, .int p3, .int 1, .null], [.ref 6], σ26)) ∧ (¬ (¬ r25 = 0) → K (42, [.ref 6, .int p0, .int p1, .int p2, .int p3, .int 1, .null], [.ref 6], σ26))
          refine ⟨fun q => absurd q c28, fun _ => ?_⟩
          obtain ⟨r37, σ38, e39, h⟩ := bnd_some h
          refine hw 3 _ ?_
          show ∃ r37 σ38, f_X6_isFine 2 σ26 = some (r37, σ38) ∧ K (50, [.ref 6, .int p0, .int p1, .int p2, .int p3, .int 1, .null], [.int r37], σ38)
          refine ⟨r37, σ38, e39, ?_⟩
          rcases ite_cases h with ⟨c40, h⟩ | ⟨c40, h⟩
          · refine hw 1 _ ?_
            show ((¬ r37 = 0) → K (55, [.ref 6, .int p0, .int p1, .int p2, .int p3, .int 1, .null], [], σ38)) ∧ (¬ (¬ r37 = 0) → K (53, [.ref 6, .int p0, .int p1, .int p2, .int p3, .int 1, .null], [], σ38))
            refine ⟨fun _ => ?_, fun q => absurd c40 q⟩
            obtain ⟨g41, h⟩ := ite_some h
            obtain ⟨g42, h⟩ := ite_some h
            obtain ⟨g43, h⟩ := ite_some h
            obtain ⟨g44, h⟩ := ite_some h
            obtain rfl := Option.some.inj h
            refine hw 22 _ ?_
            show kd 34 = 1 ∧ (inb p0 20 = true ∧ (kd 34 = 1 ∧ (inb p0 20 = true ∧ (kd 35 = 1 ∧ (inb p0 20 = true ∧ (kd 36 = 1 ∧ (inb p0 20 = true ∧ (Qa (σ38 34 (ix p0)) (mput (mput (mput σ38 34 (ix p0) p1) 35 (ix p0) p2) 36 (ix p0) p3)))))))))
            refine ⟨rfl, g41, rfl, g42, rfl, g43, rfl, g44, hQ⟩
          · refine hw 1 _ ?_
            show ((¬ r37 = 0) → K (55, [.ref 6, .int p0, .int p1, .int p2, .int p3, .int 1, .null], [], σ38)) ∧ (¬ (¬ r37 = 0) → K (53, [.ref 6, .int p0, .int p1, .int p2, .int p3, .int 1, .null], [], σ38))
            refine ⟨fun q => absurd q c40, fun _ => ?_⟩
            obtain rfl := Option.some.inj h
            refine hw 2 _ ?_
            show Qa 0 σ38
            refine hQ
  · cases h
theorem h_X6_move : shp [.ref 6] 7 F_X6_move := by
  intro As σ r σ' h
  unfold F_X6_move at h
  split at h
  · exact ⟨by simp [Value.category], Nat.le_of_ble_eq_true rfl⟩
  · cases h
set_option maxHeartbeats 4000000 in
set_option maxRecDepth 100000 in
theorem c_X6_move (l : Launch) (D : va_G) (cI cZ cA cL : ClassId) (ad : Nat → Nat) (hi : adI ad) : CtI l yX6_move wsX6_move { frames := 2, cells := 0, slots := 0, locals := 43 } D cI cZ cA cL ad [.ref 6] F_X6_move := by
  refine mk_I [.ref 6] F_X6_move T_X6_move (by decide +kernel) rfl ?_ h_X6_move s_X6_move
  intro p e s m args below meth c Qa ⟨hx, hb, hml, hown, hts, hr, hlocks, hK, hN⟩
  have hin6 : ∀ w ∈ u_ws RX6 TX6 30, w ∈ wsX6_move := by decide +kernel
  have hl26 : (Cond.fieldLink RX6 26 RX6 (TX6 7).2.1 (TX6 7).2.2.1) ∈ wsX6_move := by decide +kernel
  have hl29 : (Cond.fieldLink RX6 29 RX6 (TX6 8).2.1 (TX6 8).2.2.1) ∈ wsX6_move := by decide +kernel
  have hl32 : (Cond.fieldLink RX6 32 RX6 (TX6 9).2.1 (TX6 9).2.2.1) ∈ wsX6_move := by decide +kernel
  refine ruL_c (n := 0) (n2 := 1) rfl (ru_aload_n (k := 0) hx hb dX6_move_0) ?_
  refine ruL_c (n := 1) (n2 := 2) rfl (ru_iload_n (k := 1) hx hb dX6_move_1) ?_
  refine ruL_c (n := 2) (n2 := 3) rfl (ru_callV hx hb hml hown hts hK hN (by decide) rfl (c_X6_isCue l D cI cZ cA cL ad hi) (cwV 1 hts gX6_move_X6_isCue rfl rfl rfl (by decide +kernel) ⟨Nat.le_of_ble_eq_true rfl, Nat.le_of_ble_eq_true rfl⟩) dX6_move_2 ⟨Nat.zero_le _, Nat.zero_le _⟩) ?_
  refine ruL_c (n := 3) (n2 := 4) rfl (ru_bot) ?_
  refine ruL_c (n := 4) (n2 := 5) rfl (ru_bot) ?_
  refine ruL_c (n := 5) (n2 := 6) rfl (ru_ifeq hx hb dX6_move_5 (by decide)) ?_
  refine ruL_c (n := 6) (n2 := 7) rfl (ru_bot) ?_
  refine ruL_c (n := 7) (n2 := 8) rfl (ru_bot) ?_
  refine ruL_c (n := 8) (n2 := 9) rfl (ru_aload_n (k := 0) hx hb dX6_move_8) ?_
  refine ruL_c (n := 9) (n2 := 10) rfl (ru_iload_n (k := 2) hx hb dX6_move_9) ?_
  refine ruL_c (n := 10) (n2 := 11) rfl (ru_callV hx hb hml hown hts hK hN (by decide) rfl (c_X6_isLine l D cI cZ cA cL ad hi) (cwV 1 hts gX6_move_X6_isLine rfl rfl rfl (by decide +kernel) ⟨Nat.le_of_ble_eq_true rfl, Nat.le_of_ble_eq_true rfl⟩) dX6_move_10 ⟨Nat.zero_le _, Nat.zero_le _⟩) ?_
  refine ruL_c (n := 11) (n2 := 12) rfl (ru_bot) ?_
  refine ruL_c (n := 12) (n2 := 13) rfl (ru_bot) ?_
  refine ruL_c (n := 13) (n2 := 14) rfl (ru_ifeq hx hb dX6_move_13 (by decide)) ?_
  refine ruL_c (n := 14) (n2 := 15) rfl (ru_bot) ?_
  refine ruL_c (n := 15) (n2 := 16) rfl (ru_bot) ?_
  refine ruL_c (n := 16) (n2 := 17) rfl (ru_iconst hx hb dX6_move_16 rfl) ?_
  refine ruL_c (n := 17) (n2 := 18) rfl (ru_goto hx hb dX6_move_17 (by decide)) ?_
  refine ruL_c (n := 18) (n2 := 19) rfl (ru_bot) ?_
  refine ruL_c (n := 19) (n2 := 20) rfl (ru_bot) ?_
  refine ruL_c (n := 20) (n2 := 21) rfl (ru_iconst hx hb dX6_move_20 rfl) ?_
  refine ruL_c (n := 21) (n2 := 22) rfl (ru_istore hx hb dX6_move_21) ?_
  refine ruL_c (n := 22) (n2 := 23) rfl (ru_bot) ?_
  refine ruL_c (n := 23) (n2 := 24) rfl (ru_aload_n (k := 0) hx hb dX6_move_23) ?_
  refine ruL_c (n := 24) (n2 := 25) rfl (ru_iload hx hb dX6_move_24) ?_
  refine ruL_c (n := 25) (n2 := 26) rfl (ru_bot) ?_
  refine ruL_c (n := 26) (n2 := 27) rfl (ru_ifne hx hb dX6_move_26 (by decide)) ?_
  refine ruL_c (n := 27) (n2 := 28) rfl (ru_bot) ?_
  refine ruL_c (n := 28) (n2 := 29) rfl (ru_bot) ?_
  refine ruL_c (n := 29) (n2 := 30) rfl (ru_iconst hx hb dX6_move_29 rfl) ?_
  refine ruL_c (n := 30) (n2 := 31) rfl (ru_goto hx hb dX6_move_30 (by decide)) ?_
  refine ruL_c (n := 31) (n2 := 32) rfl (ru_bot) ?_
  refine ruL_c (n := 32) (n2 := 33) rfl (ru_bot) ?_
  refine ruL_c (n := 33) (n2 := 34) rfl (ru_iload_n (k := 3) hx hb dX6_move_33) ?_
  refine ruL_c (n := 34) (n2 := 35) rfl (ru_iload hx hb dX6_move_34) ?_
  refine ruL_c (n := 35) (n2 := 36) rfl (ru_bot) ?_
  refine ruL_c (n := 36) (n2 := 37) rfl (ru_callS hx hb hml hown hts hK hN (c_X6_isFade l D cI cZ cA cL ad hi) (va_cwS 2 hts gX6_move_X6_isFade rfl rfl rfl (by decide +kernel) ⟨Nat.le_of_ble_eq_true rfl, Nat.le_of_ble_eq_true rfl⟩) dX6_move_36 ⟨Nat.zero_le _, Nat.zero_le _⟩) ?_
  refine ruL_c (n := 37) (n2 := 38) rfl (ru_bot) ?_
  refine ruL_c (n := 38) (n2 := 39) rfl (ru_bot) ?_
  refine ruL_c (n := 39) (n2 := 40) rfl (ru_ifne hx hb dX6_move_39 (by decide)) ?_
  refine ruL_c (n := 40) (n2 := 41) rfl (ru_bot) ?_
  refine ruL_c (n := 41) (n2 := 42) rfl (ru_bot) ?_
  refine ruL_c (n := 42) (n2 := 43) rfl (ru_iconst hx hb dX6_move_42 rfl) ?_
  refine ruL_c (n := 43) (n2 := 44) rfl (ru_goto hx hb dX6_move_43 (by decide)) ?_
  refine ruL_c (n := 44) (n2 := 45) rfl (ru_bot) ?_
  refine ruL_c (n := 45) (n2 := 46) rfl (ru_bot) ?_
  refine ruL_c (n := 46) (n2 := 47) rfl (ru_iconst hx hb dX6_move_46 rfl) ?_
  refine ruL_c (n := 47) (n2 := 48) rfl (ru_callV hx hb hml hown hts hK hN (by decide) rfl (c_X6_isFine l D cI cZ cA cL ad hi) (cwV 1 hts gX6_move_X6_isFine rfl rfl rfl (by decide +kernel) ⟨Nat.le_of_ble_eq_true rfl, Nat.le_of_ble_eq_true rfl⟩) dX6_move_47 ⟨Nat.zero_le _, Nat.zero_le _⟩) ?_
  refine ruL_c (n := 48) (n2 := 49) rfl (ru_bot) ?_
  refine ruL_c (n := 49) (n2 := 50) rfl (ru_bot) ?_
  refine ruL_c (n := 50) (n2 := 51) rfl (ru_ifne hx hb dX6_move_50 (by decide)) ?_
  refine ruL_c (n := 51) (n2 := 52) rfl (ru_bot) ?_
  refine ruL_c (n := 52) (n2 := 53) rfl (ru_bot) ?_
  refine ruL_c (n := 53) (n2 := 54) rfl (ru_iconst hx hb dX6_move_53 rfl) ?_
  refine ruL_c (n := 54) (n2 := 55) rfl (ru_iret hx hb hK hr hlocks dX6_move_54) ?_
  refine ruL_c (n := 55) (n2 := 56) rfl (ru_aload_n (k := 0) hx hb dX6_move_55) ?_
  refine ruL_c (n := 56) (n2 := 57) rfl (ru_getR (own := RX6) (j := 7) (T := TX6) hx hb hown hK hts hin6 (by decide) rfl rfl (by decide) rfl hl26 dX6_move_56) ?_
  refine ruL_c (n := 57) (n2 := 58) rfl (ru_bot) ?_
  refine ruL_c (n := 58) (n2 := 59) rfl (ru_bot) ?_
  refine ruL_c (n := 59) (n2 := 60) rfl (ru_iload_n (k := 1) hx hb dX6_move_59) ?_
  refine ruL_c (n := 60) (n2 := 61) rfl (ru_iald hx hb hK dX6_move_60) ?_
  refine ruL_c (n := 61) (n2 := 62) rfl (ru_istore hx hb dX6_move_61) ?_
  refine ruL_c (n := 62) (n2 := 63) rfl (ru_bot) ?_
  refine ruL_c (n := 63) (n2 := 64) rfl (ru_aload_n (k := 0) hx hb dX6_move_63) ?_
  refine ruL_c (n := 64) (n2 := 65) rfl (ru_getR (own := RX6) (j := 7) (T := TX6) hx hb hown hK hts hin6 (by decide) rfl rfl (by decide) rfl hl26 dX6_move_64) ?_
  refine ruL_c (n := 65) (n2 := 66) rfl (ru_bot) ?_
  refine ruL_c (n := 66) (n2 := 67) rfl (ru_bot) ?_
  refine ruL_c (n := 67) (n2 := 68) rfl (ru_iload_n (k := 1) hx hb dX6_move_67) ?_
  refine ruL_c (n := 68) (n2 := 69) rfl (ru_iload_n (k := 2) hx hb dX6_move_68) ?_
  refine ruL_c (n := 69) (n2 := 70) rfl (ru_iast hx hb hK hi dX6_move_69) ?_
  refine ruL_c (n := 70) (n2 := 71) rfl (ru_aload_n (k := 0) hx hb dX6_move_70) ?_
  refine ruL_c (n := 71) (n2 := 72) rfl (ru_getR (own := RX6) (j := 8) (T := TX6) hx hb hown hK hts hin6 (by decide) rfl rfl (by decide) rfl hl29 dX6_move_71) ?_
  refine ruL_c (n := 72) (n2 := 73) rfl (ru_bot) ?_
  refine ruL_c (n := 73) (n2 := 74) rfl (ru_bot) ?_
  refine ruL_c (n := 74) (n2 := 75) rfl (ru_iload_n (k := 1) hx hb dX6_move_74) ?_
  refine ruL_c (n := 75) (n2 := 76) rfl (ru_iload_n (k := 3) hx hb dX6_move_75) ?_
  refine ruL_c (n := 76) (n2 := 77) rfl (ru_iast hx hb hK hi dX6_move_76) ?_
  refine ruL_c (n := 77) (n2 := 78) rfl (ru_aload_n (k := 0) hx hb dX6_move_77) ?_
  refine ruL_c (n := 78) (n2 := 79) rfl (ru_getR (own := RX6) (j := 9) (T := TX6) hx hb hown hK hts hin6 (by decide) rfl rfl (by decide) rfl hl32 dX6_move_78) ?_
  refine ruL_c (n := 79) (n2 := 80) rfl (ru_bot) ?_
  refine ruL_c (n := 80) (n2 := 81) rfl (ru_bot) ?_
  refine ruL_c (n := 81) (n2 := 82) rfl (ru_iload_n (k := 1) hx hb dX6_move_81) ?_
  refine ruL_c (n := 82) (n2 := 83) rfl (ru_iload hx hb dX6_move_82) ?_
  refine ruL_c (n := 83) (n2 := 84) rfl (ru_bot) ?_
  refine ruL_c (n := 84) (n2 := 85) rfl (ru_iast hx hb hK hi dX6_move_84) ?_
  refine ruL_c (n := 85) (n2 := 86) rfl (ru_iload hx hb dX6_move_85) ?_
  refine ruL_c (n := 86) (n2 := 87) rfl (ru_bot) ?_
  refine ruL_c (n := 87) (n2 := 88) rfl (ru_iret hx hb hK hr hlocks dX6_move_87) ?_
  exact trivial

-- CueTourModel.change
def f_X6_change (p0 : Int32) (p1 : Int32) (p2 : Int32) (σ : aM) : Option (Int32 × aM) := bnd (f_X6_isCue p0 σ) (fun r1 σ2 => if r1 = 0 then bnd (f_X6_isFine 1 σ2) (fun r5 σ6 => if ¬ r5 = 0 then if inb ((10 * p0) + p1) 200 = true then if inb ((10 * p0) + p1) 200 = true then some (σ6 37 (ix ((10 * p0) + p1)), mput σ6 37 (ix ((10 * p0) + p1)) p2) else none else none else some (0, σ6)) else bnd (f_X6_isChannel p1 σ2) (fun r11 σ12 => if r11 = 0 then bnd (f_X6_isFine 1 σ12) (fun r15 σ16 => if ¬ r15 = 0 then if inb ((10 * p0) + p1) 200 = true then if inb ((10 * p0) + p1) 200 = true then some (σ16 37 (ix ((10 * p0) + p1)), mput σ16 37 (ix ((10 * p0) + p1)) p2) else none else none else some (0, σ16)) else bnd (f_X6_isIn p2 ((-1)) 100 σ12) (fun r21 σ22 => if ¬ r21 = 0 then bnd (f_X6_isFine 0 σ22) (fun r25 σ26 => if ¬ r25 = 0 then if inb ((10 * p0) + p1) 200 = true then if inb ((10 * p0) + p1) 200 = true then some (σ26 37 (ix ((10 * p0) + p1)), mput σ26 37 (ix ((10 * p0) + p1)) p2) else none else none else some (0, σ26)) else bnd (f_X6_isFine 2 σ22) (fun r31 σ32 => if ¬ r31 = 0 then if inb ((10 * p0) + p1) 200 = true then if inb ((10 * p0) + p1) 200 = true then some (σ32 37 (ix ((10 * p0) + p1)), mput σ32 37 (ix ((10 * p0) + p1)) p2) else none else none else some (0, σ32)))))
def F_X6_change : aF := fun As σ => match As with
  | [.int p0, .int p1, .int p2] => f_X6_change p0 p1 p2 σ
  | _ => none
def T_X6_change (Qa : Int32 → aM → Prop) : List aI := [I_aload 0 1, I_iload 1 1, I_callV 6 1 F_X6_isCue, I_bot, I_bot, I_if (fun x => x = 0) 19, I_bot, I_bot, I_iload 2 1, I_callS 1 F_X6_isChannel, I_bot, I_bot, I_if (fun x => x = 0) 19, I_bot, I_bot, I_const 1 1, I_goto 20, I_bot, I_bot, I_const 0 1, I_istore 4 2, I_bot, I_aload 0 1, I_iload 4 2, I_bot, I_if (fun x => ¬ x = 0) 32, I_bot, I_bot, I_const 1 1, I_goto 47, I_bot, I_bot, I_iload 3 1, I_const (-1) 1, I_const (100) 2, I_bot, I_callS 3 F_X6_isIn, I_bot, I_bot, I_if (fun x => ¬ x = 0) 46, I_bot, I_bot, I_const 2 1, I_goto 47, I_bot, I_bot, I_const 0 1, I_callV 6 1 F_X6_isFine, I_bot, I_bot, I_if (fun x => ¬ x = 0) 55, I_bot, I_bot, I_const 0 1, I_iret Qa, I_aload 0 1, I_getR 6 37, I_bot, I_bot, I_const (10) 2, I_bot, I_iload 1 1, I_bin fun x y => x * y, I_iload 2 1, I_bin fun x y => x + y, I_iald, I_istore 5 2, I_bot, I_aload 0 1, I_getR 6 37, I_bot, I_bot, I_const (10) 2, I_bot, I_iload 1 1, I_bin fun x y => x * y, I_iload 2 1, I_bin fun x y => x + y, I_iload 3 1, I_iast, I_iload 5 2, I_bot, I_iret Qa]
set_option maxHeartbeats 4000000 in
set_option maxRecDepth 100000 in
theorem s_X6_change : runs T_X6_change [.ref 6] 6 F_X6_change := by
  intro Qa K hw hf As σ r σ' h hQ
  unfold F_X6_change at h
  split at h
  · rename_i p0 p1 p2
    unfold f_X6_change at h
    have hQ : Qa (r, σ').1 (r, σ').2 := hQ
    generalize (r, σ') = y at h hQ
    show K (0, [.ref 6, .int p0, .int p1, .int p2, .null, .null], [], σ)
    obtain ⟨r1, σ2, e3, h⟩ := bnd_some h
    refine hw 3 _ ?_
    show ∃ r1 σ2, f_X6_isCue p0 σ = some (r1, σ2) ∧ K (5, [.ref 6, .int p0, .int p1, .int p2, .null, .null], [.int r1], σ2)
    refine ⟨r1, σ2, e3, ?_⟩
    rcases ite_cases h with ⟨c4, h⟩ | ⟨c4, h⟩
    · refine hw 1 _ ?_
      show ((r1 = 0) → K (19, [.ref 6, .int p0, .int p1, .int p2, .null, .null], [], σ2)) ∧ (¬ (r1 = 0) → K (8, [.ref 6, .int p0, .int p1, .int p2, .null, .null], [], σ2))
      refine ⟨fun _ => ?_, fun q => absurd c4 q⟩
      refine hw 5 _ ?_
      show ((¬ (0 : Int32) = 0) → K (32, [.ref 6, .int p0, .int p1, .int p2, .int 0, .null], [.ref 6], σ2)) ∧ (¬ (¬ (0 : Int32) = 0) → K (28, [.ref 6, .int p0, .int p1, .int p2, .int 0, .null], [.ref 6], σ2))
      refine ⟨fun q => absurd q (by decide), fun _ => ?_⟩
      obtain ⟨r5, σ6, e7, h⟩ := bnd_some h
      refine hw 3 _ ?_
      show ∃ r5 σ6, f_X6_isFine 1 σ2 = some (r5, σ6) ∧ K (50, [.ref 6, .int p0, .int p1, .int p2, .int 0, .null], [.int r5], σ6)
      refine ⟨r5, σ6, e7, ?_⟩
      rcases ite_cases h with ⟨c8, h⟩ | ⟨c8, h⟩
      · refine hw 1 _ ?_
        show ((¬ r5 = 0) → K (55, [.ref 6, .int p0, .int p1, .int p2, .int 0, .null], [], σ6)) ∧ (¬ (¬ r5 = 0) → K (53, [.ref 6, .int p0, .int p1, .int p2, .int 0, .null], [], σ6))
        refine ⟨fun _ => ?_, fun q => absurd c8 q⟩
        obtain ⟨g9, h⟩ := ite_some h
        obtain ⟨g10, h⟩ := ite_some h
        obtain rfl := Option.some.inj h
        refine hw 20 _ ?_
        show kd 37 = 1 ∧ (inb ((10 * p0) + p1) 200 = true ∧ (kd 37 = 1 ∧ (inb ((10 * p0) + p1) 200 = true ∧ (Qa (σ6 37 (ix ((10 * p0) + p1))) (mput σ6 37 (ix ((10 * p0) + p1)) p2)))))
        refine ⟨rfl, g9, rfl, g10, hQ⟩
      · refine hw 1 _ ?_
        show ((¬ r5 = 0) → K (55, [.ref 6, .int p0, .int p1, .int p2, .int 0, .null], [], σ6)) ∧ (¬ (¬ r5 = 0) → K (53, [.ref 6, .int p0, .int p1, .int p2, .int 0, .null], [], σ6))
        refine ⟨fun q => absurd q c8, fun _ => ?_⟩
        obtain rfl := Option.some.inj h
        refine hw 2 _ ?_
        show Qa 0 σ6
        refine hQ
    · refine hw 1 _ ?_
      show ((r1 = 0) → K (19, [.ref 6, .int p0, .int p1, .int p2, .null, .null], [], σ2)) ∧ (¬ (r1 = 0) → K (8, [.ref 6, .int p0, .int p1, .int p2, .null, .null], [], σ2))
      refine ⟨fun q => absurd q c4, fun _ => ?_⟩
      obtain ⟨r11, σ12, e13, h⟩ := bnd_some h
      refine hw 2 _ ?_
      show ∃ r11 σ12, f_X6_isChannel p1 σ2 = some (r11, σ12) ∧ K (12, [.ref 6, .int p0, .int p1, .int p2, .null, .null], [.int r11], σ12)
      refine ⟨r11, σ12, e13, ?_⟩
      rcases ite_cases h with ⟨c14, h⟩ | ⟨c14, h⟩
      · refine hw 1 _ ?_
        show ((r11 = 0) → K (19, [.ref 6, .int p0, .int p1, .int p2, .null, .null], [], σ12)) ∧ (¬ (r11 = 0) → K (15, [.ref 6, .int p0, .int p1, .int p2, .null, .null], [], σ12))
        refine ⟨fun _ => ?_, fun q => absurd c14 q⟩
        refine hw 5 _ ?_
        show ((¬ (0 : Int32) = 0) → K (32, [.ref 6, .int p0, .int p1, .int p2, .int 0, .null], [.ref 6], σ12)) ∧ (¬ (¬ (0 : Int32) = 0) → K (28, [.ref 6, .int p0, .int p1, .int p2, .int 0, .null], [.ref 6], σ12))
        refine ⟨fun q => absurd q (by decide), fun _ => ?_⟩
        obtain ⟨r15, σ16, e17, h⟩ := bnd_some h
        refine hw 3 _ ?_
        show ∃ r15 σ16, f_X6_isFine 1 σ12 = some (r15, σ16) ∧ K (50, [.ref 6, .int p0, .int p1, .int p2, .int 0, .null], [.int r15], σ16)
        refine ⟨r15, σ16, e17, ?_⟩
        rcases ite_cases h with ⟨c18, h⟩ | ⟨c18, h⟩
        · refine hw 1 _ ?_
          show ((¬ r15 = 0) → K (55, [.ref 6, .int p0, .int p1, .int p2, .int 0, .null], [], σ16)) ∧ (¬ (¬ r15 = 0) → K (53, [.ref 6, .int p0, .int p1, .int p2, .int 0, .null], [], σ16))
          refine ⟨fun _ => ?_, fun q => absurd c18 q⟩
          obtain ⟨g19, h⟩ := ite_some h
          obtain ⟨g20, h⟩ := ite_some h
          obtain rfl := Option.some.inj h
          refine hw 20 _ ?_
          show kd 37 = 1 ∧ (inb ((10 * p0) + p1) 200 = true ∧ (kd 37 = 1 ∧ (inb ((10 * p0) + p1) 200 = true ∧ (Qa (σ16 37 (ix ((10 * p0) + p1))) (mput σ16 37 (ix ((10 * p0) + p1)) p2)))))
          refine ⟨rfl, g19, rfl, g20, hQ⟩
        · refine hw 1 _ ?_
          show ((¬ r15 = 0) → K (55, [.ref 6, .int p0, .int p1, .int p2, .int 0, .null], [], σ16)) ∧ (¬ (¬ r15 = 0) → K (53, [.ref 6, .int p0, .int p1, .int p2, .int 0, .null], [], σ16))
          refine ⟨fun q => absurd q c18, fun _ => ?_⟩
          obtain rfl := Option.some.inj h
          refine hw 2 _ ?_
          show Qa 0 σ16
          refine hQ
      · refine hw 1 _ ?_
        show ((r11 = 0) → K (19, [.ref 6, .int p0, .int p1, .int p2, .null, .null], [], σ12)) ∧ (¬ (r11 = 0) → K (15, [.ref 6, .int p0, .int p1, .int p2, .null, .null], [], σ12))
        refine ⟨fun q => absurd q c14, fun _ => ?_⟩
        refine hw 6 _ ?_
        show ((¬ (1 : Int32) = 0) → K (32, [.ref 6, .int p0, .int p1, .int p2, .int 1, .null], [.ref 6], σ12)) ∧ (¬ (¬ (1 : Int32) = 0) → K (28, [.ref 6, .int p0, .int p1, .int p2, .int 1, .null], [.ref 6], σ12))
        refine ⟨fun _ => ?_, fun q => absurd (by decide) q⟩
        obtain ⟨r21, σ22, e23, h⟩ := bnd_some h
        refine hw 4 _ ?_
        show ∃ r21 σ22, f_X6_isIn p2 ((-1)) 100 σ12 = some (r21, σ22) ∧ K (39, [.ref 6, .int p0, .int p1, .int p2, .int 1, .null], [.int r21, .ref 6], σ22)
        refine ⟨r21, σ22, e23, ?_⟩
        rcases ite_cases h with ⟨c24, h⟩ | ⟨c24, h⟩
        · refine hw 1 _ ?_
          show ((¬ r21 = 0) → K (46, [.ref 6, .int p0, .int p1, .int p2, .int 1, .null], [.ref 6], σ22)) ∧ (¬ (¬ r21 = 0) → K (42, [.ref 6, .int p0, .int p1, .int p2, .int 1, .null], [.ref 6], σ22))
          refine ⟨fun _ => ?_, fun q => absurd c24 q⟩
          obtain ⟨r25, σ26, e27, h⟩ := bnd_some h
          refine hw 2 _ ?_
          show ∃ r25 σ26, f_X6_isFine 0 σ22 = some (r25, σ26) ∧ K (50, [.ref 6, .int p0, .int p1, .int p2, .int 1, .null], [.int r25], σ26)
          refine ⟨r25, σ26, e27, ?_⟩
          rcases ite_cases h with ⟨c28, h⟩ | ⟨c28, h⟩
          · refine hw 1 _ ?_
            show ((¬ r25 = 0) → K (55, [.ref 6, .int p0, .int p1, .int p2, .int 1, .null], [], σ26)) ∧ (¬ (¬ r25 = 0) → K (53, [.ref 6, .int p0, .int p1, .int p2, .int 1, .null], [], σ26))
            refine ⟨fun _ => ?_, fun q => absurd c28 q⟩
            obtain ⟨g29, h⟩ := ite_some h
            obtain ⟨g30, h⟩ := ite_some h
            obtain rfl := Option.some.inj h
            refine hw 20 _ ?_
            show kd 37 = 1 ∧ (inb ((10 * p0) + p1) 200 = true ∧ (kd 37 = 1 ∧ (inb ((10 * p0) + p1) 200 = true ∧ (Qa (σ26 37 (ix ((10 * p0) + p1))) (mput σ26 37 (ix ((10 * p0) + p1)) p2)))))
            refine ⟨rfl, g29, rfl, g30, hQ⟩
          · refine hw 1 _ ?_
            show ((¬ r25 = 0) → K (55, [.ref 6, .int p0, .int p1, .int p2, .int 1, .null], [], σ26)) ∧ (¬ (¬ r25 = 0) → K (53, [.ref 6, .int p0, .int p1, .int p2, .int 1, .null], [], σ26))
            refine ⟨fun q => absurd q c28, fun _ => ?_⟩
            obtain rfl := Option.some.inj h
            refine hw 2 _ ?_
            show Qa 0 σ26
            refine hQ
        · refine hw 1 _ ?_
          show ((¬ r21 = 0) → K (46, [.ref 6, .int p0, .int p1, .int p2, .int 1, .null], [.ref 6], σ22)) ∧ (¬ (¬ r21 = 0) → K (42, [.ref 6, .int p0, .int p1, .int p2, .int 1, .null], [.ref 6], σ22))
          refine ⟨fun q => absurd q c24, fun _ => ?_⟩
          obtain ⟨r31, σ32, e33, h⟩ := bnd_some h
          refine hw 3 _ ?_
          show ∃ r31 σ32, f_X6_isFine 2 σ22 = some (r31, σ32) ∧ K (50, [.ref 6, .int p0, .int p1, .int p2, .int 1, .null], [.int r31], σ32)
          refine ⟨r31, σ32, e33, ?_⟩
          rcases ite_cases h with ⟨c34, h⟩ | ⟨c34, h⟩
          · refine hw 1 _ ?_
            show ((¬ r31 = 0) → K (55, [.ref 6, .int p0, .int p1, .int p2, .int 1, .null], [], σ32)) ∧ (¬ (¬ r31 = 0) → K (53, [.ref 6, .int p0, .int p1, .int p2, .int 1, .null], [], σ32))
            refine ⟨fun _ => ?_, fun q => absurd c34 q⟩
            obtain ⟨g35, h⟩ := ite_some h
            obtain ⟨g36, h⟩ := ite_some h
            obtain rfl := Option.some.inj h
            refine hw 20 _ ?_
            show kd 37 = 1 ∧ (inb ((10 * p0) + p1) 200 = true ∧ (kd 37 = 1 ∧ (inb ((10 * p0) + p1) 200 = true ∧ (Qa (σ32 37 (ix ((10 * p0) + p1))) (mput σ32 37 (ix ((10 * p0) + p1)) p2)))))
            refine ⟨rfl, g35, rfl, g36, hQ⟩
          · refine hw 1 _ ?_
            show ((¬ r31 = 0) → K (55, [.ref 6, .int p0, .int p1, .int p2, .int 1, .null], [], σ32)) ∧ (¬ (¬ r31 = 0) → K (53, [.ref 6, .int p0, .int p1, .int p2, .int 1, .null], [], σ32))
            refine ⟨fun q => absurd q c34, fun _ => ?_⟩
            obtain rfl := Option.some.inj h
            refine hw 2 _ ?_
            show Qa 0 σ32
            refine hQ
  · cases h
theorem h_X6_change : shp [.ref 6] 6 F_X6_change := by
  intro As σ r σ' h
  unfold F_X6_change at h
  split at h
  · exact ⟨by simp [Value.category], Nat.le_of_ble_eq_true rfl⟩
  · cases h
set_option maxHeartbeats 4000000 in
set_option maxRecDepth 100000 in
theorem c_X6_change (l : Launch) (D : va_G) (cI cZ cA cL : ClassId) (ad : Nat → Nat) (hi : adI ad) : CtI l yX6_change wsX6_change { frames := 2, cells := 0, slots := 0, locals := 43 } D cI cZ cA cL ad [.ref 6] F_X6_change := by
  refine mk_I [.ref 6] F_X6_change T_X6_change (by decide +kernel) rfl ?_ h_X6_change s_X6_change
  intro p e s m args below meth c Qa ⟨hx, hb, hml, hown, hts, hr, hlocks, hK, hN⟩
  have hin6 : ∀ w ∈ u_ws RX6 TX6 30, w ∈ wsX6_change := by decide +kernel
  have hl35 : (Cond.fieldLink RX6 35 RX6 (TX6 10).2.1 (TX6 10).2.2.1) ∈ wsX6_change := by decide +kernel
  refine ruL_c (n := 0) (n2 := 1) rfl (ru_aload_n (k := 0) hx hb dX6_change_0) ?_
  refine ruL_c (n := 1) (n2 := 2) rfl (ru_iload_n (k := 1) hx hb dX6_change_1) ?_
  refine ruL_c (n := 2) (n2 := 3) rfl (ru_callV hx hb hml hown hts hK hN (by decide) rfl (c_X6_isCue l D cI cZ cA cL ad hi) (cwV 1 hts gX6_change_X6_isCue rfl rfl rfl (by decide +kernel) ⟨Nat.le_of_ble_eq_true rfl, Nat.le_of_ble_eq_true rfl⟩) dX6_change_2 ⟨Nat.zero_le _, Nat.zero_le _⟩) ?_
  refine ruL_c (n := 3) (n2 := 4) rfl (ru_bot) ?_
  refine ruL_c (n := 4) (n2 := 5) rfl (ru_bot) ?_
  refine ruL_c (n := 5) (n2 := 6) rfl (ru_ifeq hx hb dX6_change_5 (by decide)) ?_
  refine ruL_c (n := 6) (n2 := 7) rfl (ru_bot) ?_
  refine ruL_c (n := 7) (n2 := 8) rfl (ru_bot) ?_
  refine ruL_c (n := 8) (n2 := 9) rfl (ru_iload_n (k := 2) hx hb dX6_change_8) ?_
  refine ruL_c (n := 9) (n2 := 10) rfl (ru_callS hx hb hml hown hts hK hN (c_X6_isChannel l D cI cZ cA cL ad hi) (va_cwS 1 hts gX6_change_X6_isChannel rfl rfl rfl (by decide +kernel) ⟨Nat.le_of_ble_eq_true rfl, Nat.le_of_ble_eq_true rfl⟩) dX6_change_9 ⟨Nat.zero_le _, Nat.zero_le _⟩) ?_
  refine ruL_c (n := 10) (n2 := 11) rfl (ru_bot) ?_
  refine ruL_c (n := 11) (n2 := 12) rfl (ru_bot) ?_
  refine ruL_c (n := 12) (n2 := 13) rfl (ru_ifeq hx hb dX6_change_12 (by decide)) ?_
  refine ruL_c (n := 13) (n2 := 14) rfl (ru_bot) ?_
  refine ruL_c (n := 14) (n2 := 15) rfl (ru_bot) ?_
  refine ruL_c (n := 15) (n2 := 16) rfl (ru_iconst hx hb dX6_change_15 rfl) ?_
  refine ruL_c (n := 16) (n2 := 17) rfl (ru_goto hx hb dX6_change_16 (by decide)) ?_
  refine ruL_c (n := 17) (n2 := 18) rfl (ru_bot) ?_
  refine ruL_c (n := 18) (n2 := 19) rfl (ru_bot) ?_
  refine ruL_c (n := 19) (n2 := 20) rfl (ru_iconst hx hb dX6_change_19 rfl) ?_
  refine ruL_c (n := 20) (n2 := 21) rfl (ru_istore hx hb dX6_change_20) ?_
  refine ruL_c (n := 21) (n2 := 22) rfl (ru_bot) ?_
  refine ruL_c (n := 22) (n2 := 23) rfl (ru_aload_n (k := 0) hx hb dX6_change_22) ?_
  refine ruL_c (n := 23) (n2 := 24) rfl (ru_iload hx hb dX6_change_23) ?_
  refine ruL_c (n := 24) (n2 := 25) rfl (ru_bot) ?_
  refine ruL_c (n := 25) (n2 := 26) rfl (ru_ifne hx hb dX6_change_25 (by decide)) ?_
  refine ruL_c (n := 26) (n2 := 27) rfl (ru_bot) ?_
  refine ruL_c (n := 27) (n2 := 28) rfl (ru_bot) ?_
  refine ruL_c (n := 28) (n2 := 29) rfl (ru_iconst hx hb dX6_change_28 rfl) ?_
  refine ruL_c (n := 29) (n2 := 30) rfl (ru_goto hx hb dX6_change_29 (by decide)) ?_
  refine ruL_c (n := 30) (n2 := 31) rfl (ru_bot) ?_
  refine ruL_c (n := 31) (n2 := 32) rfl (ru_bot) ?_
  refine ruL_c (n := 32) (n2 := 33) rfl (ru_iload_n (k := 3) hx hb dX6_change_32) ?_
  refine ruL_c (n := 33) (n2 := 34) rfl (ru_iconst hx hb dX6_change_33 rfl) ?_
  refine ruL_c (n := 34) (n2 := 35) rfl (ru_bipush hx hb dX6_change_34 rfl) ?_
  refine ruL_c (n := 35) (n2 := 36) rfl (ru_bot) ?_
  refine ruL_c (n := 36) (n2 := 37) rfl (ru_callS hx hb hml hown hts hK hN (c_X6_isIn l D cI cZ cA cL ad hi) (va_cwS 3 hts gX6_change_X6_isIn rfl rfl rfl (by decide +kernel) ⟨Nat.le_of_ble_eq_true rfl, Nat.le_of_ble_eq_true rfl⟩) dX6_change_36 ⟨Nat.zero_le _, Nat.zero_le _⟩) ?_
  refine ruL_c (n := 37) (n2 := 38) rfl (ru_bot) ?_
  refine ruL_c (n := 38) (n2 := 39) rfl (ru_bot) ?_
  refine ruL_c (n := 39) (n2 := 40) rfl (ru_ifne hx hb dX6_change_39 (by decide)) ?_
  refine ruL_c (n := 40) (n2 := 41) rfl (ru_bot) ?_
  refine ruL_c (n := 41) (n2 := 42) rfl (ru_bot) ?_
  refine ruL_c (n := 42) (n2 := 43) rfl (ru_iconst hx hb dX6_change_42 rfl) ?_
  refine ruL_c (n := 43) (n2 := 44) rfl (ru_goto hx hb dX6_change_43 (by decide)) ?_
  refine ruL_c (n := 44) (n2 := 45) rfl (ru_bot) ?_
  refine ruL_c (n := 45) (n2 := 46) rfl (ru_bot) ?_
  refine ruL_c (n := 46) (n2 := 47) rfl (ru_iconst hx hb dX6_change_46 rfl) ?_
  refine ruL_c (n := 47) (n2 := 48) rfl (ru_callV hx hb hml hown hts hK hN (by decide) rfl (c_X6_isFine l D cI cZ cA cL ad hi) (cwV 1 hts gX6_change_X6_isFine rfl rfl rfl (by decide +kernel) ⟨Nat.le_of_ble_eq_true rfl, Nat.le_of_ble_eq_true rfl⟩) dX6_change_47 ⟨Nat.zero_le _, Nat.zero_le _⟩) ?_
  refine ruL_c (n := 48) (n2 := 49) rfl (ru_bot) ?_
  refine ruL_c (n := 49) (n2 := 50) rfl (ru_bot) ?_
  refine ruL_c (n := 50) (n2 := 51) rfl (ru_ifne hx hb dX6_change_50 (by decide)) ?_
  refine ruL_c (n := 51) (n2 := 52) rfl (ru_bot) ?_
  refine ruL_c (n := 52) (n2 := 53) rfl (ru_bot) ?_
  refine ruL_c (n := 53) (n2 := 54) rfl (ru_iconst hx hb dX6_change_53 rfl) ?_
  refine ruL_c (n := 54) (n2 := 55) rfl (ru_iret hx hb hK hr hlocks dX6_change_54) ?_
  refine ruL_c (n := 55) (n2 := 56) rfl (ru_aload_n (k := 0) hx hb dX6_change_55) ?_
  refine ruL_c (n := 56) (n2 := 57) rfl (ru_getR (own := RX6) (j := 10) (T := TX6) hx hb hown hK hts hin6 (by decide) rfl rfl (by decide) rfl hl35 dX6_change_56) ?_
  refine ruL_c (n := 57) (n2 := 58) rfl (ru_bot) ?_
  refine ruL_c (n := 58) (n2 := 59) rfl (ru_bot) ?_
  refine ruL_c (n := 59) (n2 := 60) rfl (ru_bipush hx hb dX6_change_59 rfl) ?_
  refine ruL_c (n := 60) (n2 := 61) rfl (ru_bot) ?_
  refine ruL_c (n := 61) (n2 := 62) rfl (ru_iload_n (k := 1) hx hb dX6_change_61) ?_
  refine ruL_c (n := 62) (n2 := 63) rfl (ru_imul hx hb dX6_change_62) ?_
  refine ruL_c (n := 63) (n2 := 64) rfl (ru_iload_n (k := 2) hx hb dX6_change_63) ?_
  refine ruL_c (n := 64) (n2 := 65) rfl (ru_iadd hx hb dX6_change_64) ?_
  refine ruL_c (n := 65) (n2 := 66) rfl (ru_iald hx hb hK dX6_change_65) ?_
  refine ruL_c (n := 66) (n2 := 67) rfl (ru_istore hx hb dX6_change_66) ?_
  refine ruL_c (n := 67) (n2 := 68) rfl (ru_bot) ?_
  refine ruL_c (n := 68) (n2 := 69) rfl (ru_aload_n (k := 0) hx hb dX6_change_68) ?_
  refine ruL_c (n := 69) (n2 := 70) rfl (ru_getR (own := RX6) (j := 10) (T := TX6) hx hb hown hK hts hin6 (by decide) rfl rfl (by decide) rfl hl35 dX6_change_69) ?_
  refine ruL_c (n := 70) (n2 := 71) rfl (ru_bot) ?_
  refine ruL_c (n := 71) (n2 := 72) rfl (ru_bot) ?_
  refine ruL_c (n := 72) (n2 := 73) rfl (ru_bipush hx hb dX6_change_72 rfl) ?_
  refine ruL_c (n := 73) (n2 := 74) rfl (ru_bot) ?_
  refine ruL_c (n := 74) (n2 := 75) rfl (ru_iload_n (k := 1) hx hb dX6_change_74) ?_
  refine ruL_c (n := 75) (n2 := 76) rfl (ru_imul hx hb dX6_change_75) ?_
  refine ruL_c (n := 76) (n2 := 77) rfl (ru_iload_n (k := 2) hx hb dX6_change_76) ?_
  refine ruL_c (n := 77) (n2 := 78) rfl (ru_iadd hx hb dX6_change_77) ?_
  refine ruL_c (n := 78) (n2 := 79) rfl (ru_iload_n (k := 3) hx hb dX6_change_78) ?_
  refine ruL_c (n := 79) (n2 := 80) rfl (ru_iast hx hb hK hi dX6_change_79) ?_
  refine ruL_c (n := 80) (n2 := 81) rfl (ru_iload hx hb dX6_change_80) ?_
  refine ruL_c (n := 81) (n2 := 82) rfl (ru_bot) ?_
  refine ruL_c (n := 82) (n2 := 83) rfl (ru_iret hx hb hK hr hlocks dX6_change_82) ?_
  exact trivial

-- CueTourModel.cues
def f_X6_cues (σ : aM) : Option (Int32 × aM) := some (σ 6 11, mput σ 6 0 0)
def F_X6_cues : aF := fun As σ => match As with
  | [] => f_X6_cues σ
  | _ => none
def T_X6_cues (Qa : Int32 → aM → Prop) : List aI := [I_aload 0 1, I_const 0 1, I_putI 6 0, I_bot, I_bot, I_aload 0 1, I_getI 6 11, I_bot, I_bot, I_iret Qa]
set_option maxHeartbeats 4000000 in
set_option maxRecDepth 100000 in
theorem s_X6_cues : runs T_X6_cues [.ref 6] 1 F_X6_cues := by
  intro Qa K hw hf As σ r σ' h hQ
  unfold F_X6_cues at h
  split at h
  · unfold f_X6_cues at h
    have hQ : Qa (r, σ').1 (r, σ').2 := hQ
    generalize (r, σ') = y at h hQ
    show K (0, [.ref 6], [], σ)
    obtain rfl := Option.some.inj h
    refine hw 6 _ ?_
    show Qa (σ 6 11) (mput σ 6 0 0)
    refine hQ
  · cases h
theorem h_X6_cues : shp [.ref 6] 1 F_X6_cues := by
  intro As σ r σ' h
  unfold F_X6_cues at h
  split at h
  · exact ⟨by simp [Value.category], Nat.le_of_ble_eq_true rfl⟩
  · cases h
set_option maxHeartbeats 4000000 in
set_option maxRecDepth 100000 in
theorem c_X6_cues (l : Launch) (D : va_G) (cI cZ cA cL : ClassId) (ad : Nat → Nat) (hi : adI ad) : CtI l yX6_cues wsX6_cues { frames := 0, cells := 0, slots := 0, locals := 0 } D cI cZ cA cL ad [.ref 6] F_X6_cues := by
  refine mk_I [.ref 6] F_X6_cues T_X6_cues (by decide +kernel) rfl ?_ h_X6_cues s_X6_cues
  intro p e s m args below meth c Qa ⟨hx, hb, hml, hown, hts, hr, hlocks, hK, hN⟩
  have hin6 : ∀ w ∈ u_ws RX6 TX6 30, w ∈ wsX6_cues := by decide +kernel
  have hl83 : (Cond.fieldLink RX6 83 RX6 (TX6 0).2.1 (TX6 0).2.2.1) ∈ wsX6_cues := by decide +kernel
  have hl111 : (Cond.fieldLink RX6 111 RX6 (TX6 11).2.1 (TX6 11).2.2.1) ∈ wsX6_cues := by decide +kernel
  refine ruL_c (n := 0) (n2 := 1) rfl (ru_aload_n (k := 0) hx hb dX6_cues_0) ?_
  refine ruL_c (n := 1) (n2 := 2) rfl (ru_iconst hx hb dX6_cues_1 rfl) ?_
  refine ruL_c (n := 2) (n2 := 3) rfl (ru_putI (own := RX6) (j := 0) (T := TX6) hx hb hown hK hi hts hin6 tyX6 tyX6_ok nmX6 (by decide) rfl rfl (by decide) rfl hl83 rfl (by decide +kernel) dX6_cues_2) ?_
  refine ruL_c (n := 3) (n2 := 4) rfl (ru_bot) ?_
  refine ruL_c (n := 4) (n2 := 5) rfl (ru_bot) ?_
  refine ruL_c (n := 5) (n2 := 6) rfl (ru_aload_n (k := 0) hx hb dX6_cues_5) ?_
  refine ruL_c (n := 6) (n2 := 7) rfl (ru_getI (own := RX6) (j := 11) (T := TX6) hx hb hown hK hts hin6 (by decide) rfl rfl (by decide) rfl hl111 dX6_cues_6) ?_
  refine ruL_c (n := 7) (n2 := 8) rfl (ru_bot) ?_
  refine ruL_c (n := 8) (n2 := 9) rfl (ru_bot) ?_
  refine ruL_c (n := 9) (n2 := 10) rfl (ru_iret hx hb hK hr hlocks dX6_cues_9) ?_
  exact trivial

