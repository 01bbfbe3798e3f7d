-- CueTour.checkNumber
def f_X5_checkNumber (p0 : Int32) (p1 : Int32) (σ : aM) : Option (Nat × Int32 × aM) := if p0 < 0 then some (1, 0, σ) else if p0 < p1 then some (0, 0, σ) else some (1, 0, σ)
def F_X5_checkNumber : aFx := fun As σ => match As with
  | [.int p0, .int p1] => f_X5_checkNumber p0 p1 σ
  | _ => none
def T_X5_checkNumber : aTx := fun Qa Xa KN => [I_iload 0 1, I_if (fun x => x < 0) 9, I_bot, I_bot, I_iload 0 1, I_iload 1 1, I_icmp (fun x y => x < y) 19, I_bot, I_bot, I_throw 1 Xa, I_bot, I_bot, I_bot, I_bot, I_bot, I_bot, I_bot, I_bot, I_bot, I_vret Qa]
set_option maxHeartbeats 4000000 in
set_option maxRecDepth 100000 in
theorem s_X5_checkNumber : runsX T_X5_checkNumber 1 [] 2 F_X5_checkNumber := by
  intro Qa Xa K hw hf As σ y h hQ hX
  unfold F_X5_checkNumber at h
  split at h
  · rename_i p0 p1
    unfold f_X5_checkNumber at h
    show K 0 (0, [.int p0, .int p1], [], σ)
    rcases itX_cases h with ⟨c1, h⟩ | ⟨c1, h⟩
    · refine (hw 0 (by decide)) 2 _ ?_
      show ((p0 < 0) → K 0 (9, [.int p0, .int p1], [], σ)) ∧ (¬ (p0 < 0) → K 0 (4, [.int p0, .int p1], [], σ))
      refine ⟨fun _ => ?_, fun q => absurd c1 q⟩
      obtain rfl := Option.some.inj h
      refine (hw 0 (by decide)) 1 _ ?_
      show Xa 1 σ
      refine (hX (fun q => by cases q))
    · refine (hw 0 (by decide)) 2 _ ?_
      show ((p0 < 0) → K 0 (9, [.int p0, .int p1], [], σ)) ∧ (¬ (p0 < 0) → K 0 (4, [.int p0, .int p1], [], σ))
      refine ⟨fun q => absurd q c1, fun _ => ?_⟩
      rcases itX_cases h with ⟨c2, h⟩ | ⟨c2, h⟩
      · refine (hw 0 (by decide)) 3 _ ?_
        show ((p0 < p1) → K 0 (19, [.int p0, .int p1], [], σ)) ∧ (¬ (p0 < p1) → K 0 (9, [.int p0, .int p1], [], σ))
        refine ⟨fun _ => ?_, fun q => absurd c2 q⟩
        obtain rfl := Option.some.inj h
        refine (hw 0 (by decide)) 1 _ ?_
        show Qa 0 σ
        refine (hQ rfl)
      · refine (hw 0 (by decide)) 3 _ ?_
        show ((p0 < p1) → K 0 (19, [.int p0, .int p1], [], σ)) ∧ (¬ (p0 < p1) → K 0 (9, [.int p0, .int p1], [], σ))
        refine ⟨fun q => absurd q c2, fun _ => ?_⟩
        obtain rfl := Option.some.inj h
        refine (hw 0 (by decide)) 1 _ ?_
        show Xa 1 σ
        refine (hX (fun q => by cases q))
  · cases h
theorem h_X5_checkNumber : shpX [] 2 F_X5_checkNumber := by
  intro As σ y h
  unfold F_X5_checkNumber at h
  split at h
  · exact ⟨by simp [Value.category], Nat.le_of_ble_eq_true rfl⟩
  · cases h
set_option maxHeartbeats 4000000 in
set_option maxRecDepth 100000 in
theorem c_X5_checkNumber (l : Launch) (hl : l.stackTraces = false) (D : va_G) (cI cZ cA cL : ClassId) (ad sa : Nat → Nat) (hi : adI ad) : CtXv l yX5_checkNumber wsX5_checkNumber { frames := 6, cells := 1, slots := 6, locals := 82 } 1 D cI cZ cA cL ad sa [] F_X5_checkNumber := by
  refine mk_Xv (mc := 1) [] F_X5_checkNumber T_X5_checkNumber (by decide +kernel) rfl ?_ h_X5_checkNumber s_X5_checkNumber
  intro p e s m args below meth c Qa Xa ⟨⟨hx, hb, hml, hown, hts, hr, hlocks, hK, hN⟩, hX, hno⟩ n hn
  have hk1 : (Cond.classLink RX5 212 "java/lang/IndexOutOfBoundsException") ∈ wsX5_checkNumber := by decide +kernel
  have hk2 : (Cond.initialized "java/lang/IndexOutOfBoundsException") ∈ wsX5_checkNumber := by decide +kernel
  have hk3 : ∀ w ∈ (vx_atS RX5 216 "java/lang/IndexOutOfBoundsException" xnames).filter goodWord, w ∈ wsX5_checkNumber := by decide +kernel
  have hk4 : ∀ w ∈ Cond.classLink RX5 212 "java/lang/IndexOutOfBoundsException" :: Cond.initialized "java/lang/IndexOutOfBoundsException" :: vx_atS RX5 216 "java/lang/IndexOutOfBoundsException" xnames, vx_ot w = true := by decide +kernel
  refine ruL_c (n := 0) (n2 := 1) rfl (ru_iload_n (k := 0) hx hb dX5_checkNumber_0) ?_
  refine ruL_c (n := 1) (n2 := 2) rfl (ru_iflt hx hb dX5_checkNumber_1 (by decide)) ?_
  refine ruL_c (n := 2) (n2 := 3) rfl (ru_bot) ?_
  refine ruL_c (n := 3) (n2 := 4) rfl (ru_bot) ?_
  refine ruL_c (n := 4) (n2 := 5) rfl (ru_iload_n (k := 0) hx hb dX5_checkNumber_4) ?_
  refine ruL_c (n := 5) (n2 := 6) rfl (ru_iload_n (k := 1) hx hb dX5_checkNumber_5) ?_
  refine ruL_c (n := 6) (n2 := 7) rfl (ru_icmplt hx hb dX5_checkNumber_6 (by decide)) ?_
  refine ruL_c (n := 7) (n2 := 8) rfl (ru_bot) ?_
  refine ruL_c (n := 8) (n2 := 9) rfl (ru_bot) ?_
  refine ruL_c (n := 9) (n2 := 10) rfl (ru_throw (ik := 212) (is := 214) (ic := 216) (k := 0) (cls := "java/lang/IndexOutOfBoundsException") hx hb hl hml hown hts hK hX hno hlocks (by decide +kernel) hk1 hk2 (by decide) rfl hk3 xt_1 hk4 rfl dX5_checkNumber_9 dX5_checkNumber_12 dX5_checkNumber_13 dX5_checkNumber_15 dX5_checkNumber_18 ⟨Nat.le_of_ble_eq_true rfl, Nat.le_of_ble_eq_true rfl, hn, Nat.mul_le_mul_left 6 hn⟩ ⟨hn, Nat.mul_le_mul_left 6 hn⟩) ?_
  refine ruL_c (n := 10) (n2 := 11) rfl (ru_bot) ?_
  refine ruL_c (n := 11) (n2 := 12) rfl (ru_bot) ?_
  refine ruL_c (n := 12) (n2 := 13) rfl (ru_bot) ?_
  refine ruL_c (n := 13) (n2 := 14) rfl (ru_bot) ?_
  refine ruL_c (n := 14) (n2 := 15) rfl (ru_bot) ?_
  refine ruL_c (n := 15) (n2 := 16) rfl (ru_bot) ?_
  refine ruL_c (n := 16) (n2 := 17) rfl (ru_bot) ?_
  refine ruL_c (n := 17) (n2 := 18) rfl (ru_bot) ?_
  refine ruL_c (n := 18) (n2 := 19) rfl (ru_bot) ?_
  refine ruL_c (n := 19) (n2 := 20) rfl (ru_vretX hx hb hK hr hlocks dX5_checkNumber_19 ⟨Nat.le_of_lt hn, Nat.mul_le_mul_left 6 (Nat.le_of_lt hn)⟩) ?_
  exact trivial

-- CueTour.checkRange
def f_X5_checkRange (p0 : Int32) (p1 : Int32) (p2 : Int32) (σ : aM) : Option (Nat × Int32 × aM) := if p0 < p1 then some (2, 0, σ) else if p0 ≤ p2 then some (0, 0, σ) else some (2, 0, σ)
def F_X5_checkRange : aFx := fun As σ => match As with
  | [.int p0, .int p1, .int p2] => f_X5_checkRange p0 p1 p2 σ
  | _ => none
def T_X5_checkRange : aTx := fun Qa Xa KN => [I_iload 0 1, I_iload 1 1, I_icmp (fun x y => x < y) 10, I_bot, I_bot, I_iload 0 1, I_iload 2 1, I_icmp (fun x y => x ≤ y) 20, I_bot, I_bot, I_throw 2 Xa, I_bot, I_bot, I_bot, I_bot, I_bot, I_bot, I_bot, I_bot, I_bot, I_vret Qa]
set_option maxHeartbeats 4000000 in
set_option maxRecDepth 100000 in
theorem s_X5_checkRange : runsX T_X5_checkRange 1 [] 3 F_X5_checkRange := by
  intro Qa Xa K hw hf As σ y h hQ hX
  unfold F_X5_checkRange at h
  split at h
  · rename_i p0 p1 p2
    unfold f_X5_checkRange at h
    show K 0 (0, [.int p0, .int p1, .int p2], [], σ)
    rcases itX_cases h with ⟨c1, h⟩ | ⟨c1, h⟩
    · refine (hw 0 (by decide)) 3 _ ?_
      show ((p0 < p1) → K 0 (10, [.int p0, .int p1, .int p2], [], σ)) ∧ (¬ (p0 < p1) → K 0 (5, [.int p0, .int p1, .int p2], [], σ))
      refine ⟨fun _ => ?_, fun q => absurd c1 q⟩
      obtain rfl := Option.some.inj h
      refine (hw 0 (by decide)) 1 _ ?_
      show Xa 2 σ
      refine (hX (fun q => by cases q))
    · refine (hw 0 (by decide)) 3 _ ?_
      show ((p0 < p1) → K 0 (10, [.int p0, .int p1, .int p2], [], σ)) ∧ (¬ (p0 < p1) → K 0 (5, [.int p0, .int p1, .int p2], [], σ))
      refine ⟨fun q => absurd q c1, fun _ => ?_⟩
      rcases itX_cases h with ⟨c2, h⟩ | ⟨c2, h⟩
      · refine (hw 0 (by decide)) 3 _ ?_
        show ((p0 ≤ p2) → K 0 (20, [.int p0, .int p1, .int p2], [], σ)) ∧ (¬ (p0 ≤ p2) → K 0 (10, [.int p0, .int p1, .int p2], [], σ))
        refine ⟨fun _ => ?_, fun q => absurd c2 q⟩
        obtain rfl := Option.some.inj h
        refine (hw 0 (by decide)) 1 _ ?_
        show Qa 0 σ
        refine (hQ rfl)
      · refine (hw 0 (by decide)) 3 _ ?_
        show ((p0 ≤ p2) → K 0 (20, [.int p0, .int p1, .int p2], [], σ)) ∧ (¬ (p0 ≤ p2) → K 0 (10, [.int p0, .int p1, .int p2], [], σ))
        refine ⟨fun q => absurd q c2, fun _ => ?_⟩
        obtain rfl := Option.some.inj h
        refine (hw 0 (by decide)) 1 _ ?_
        show Xa 2 σ
        refine (hX (fun q => by cases q))
  · cases h
theorem h_X5_checkRange : shpX [] 3 F_X5_checkRange := by
  intro As σ y h
  unfold F_X5_checkRange at h
  split at h
  · exact ⟨by simp [Value.category], Nat.le_of_ble_eq_true rfl⟩
  · cases h
set_option maxHeartbeats 4000000 in
set_option maxRecDepth 100000 in
theorem c_X5_checkRange (l : Launch) (hl : l.stackTraces = false) (D : va_G) (cI cZ cA cL : ClassId) (ad sa : Nat → Nat) (hi : adI ad) : CtXv l yX5_checkRange wsX5_checkRange { frames := 6, cells := 1, slots := 6, locals := 82 } 1 D cI cZ cA cL ad sa [] F_X5_checkRange := by
  refine mk_Xv (mc := 1) [] F_X5_checkRange T_X5_checkRange (by decide +kernel) rfl ?_ h_X5_checkRange s_X5_checkRange
  intro p e s m args below meth c Qa Xa ⟨⟨hx, hb, hml, hown, hts, hr, hlocks, hK, hN⟩, hX, hno⟩ n hn
  have hk1 : (Cond.classLink RX5 219 "java/lang/IllegalArgumentException") ∈ wsX5_checkRange := by decide +kernel
  have hk2 : (Cond.initialized "java/lang/IllegalArgumentException") ∈ wsX5_checkRange := by decide +kernel
  have hk3 : ∀ w ∈ (vx_atS RX5 223 "java/lang/IllegalArgumentException" xnames).filter goodWord, w ∈ wsX5_checkRange := by decide +kernel
  have hk4 : ∀ w ∈ Cond.classLink RX5 219 "java/lang/IllegalArgumentException" :: Cond.initialized "java/lang/IllegalArgumentException" :: vx_atS RX5 223 "java/lang/IllegalArgumentException" xnames, vx_ot w = true := by decide +kernel
  refine ruL_c (n := 0) (n2 := 1) rfl (ru_iload_n (k := 0) hx hb dX5_checkRange_0) ?_
  refine ruL_c (n := 1) (n2 := 2) rfl (ru_iload_n (k := 1) hx hb dX5_checkRange_1) ?_
  refine ruL_c (n := 2) (n2 := 3) rfl (ru_icmplt hx hb dX5_checkRange_2 (by decide)) ?_
  refine ruL_c (n := 3) (n2 := 4) rfl (ru_bot) ?_
  refine ruL_c (n := 4) (n2 := 5) rfl (ru_bot) ?_
  refine ruL_c (n := 5) (n2 := 6) rfl (ru_iload_n (k := 0) hx hb dX5_checkRange_5) ?_
  refine ruL_c (n := 6) (n2 := 7) rfl (ru_iload_n (k := 2) hx hb dX5_checkRange_6) ?_
  refine ruL_c (n := 7) (n2 := 8) rfl (ru_icmple hx hb dX5_checkRange_7 (by decide)) ?_
  refine ruL_c (n := 8) (n2 := 9) rfl (ru_bot) ?_
  refine ruL_c (n := 9) (n2 := 10) rfl (ru_bot) ?_
  refine ruL_c (n := 10) (n2 := 11) rfl (ru_throw (ik := 219) (is := 221) (ic := 223) (k := 1) (cls := "java/lang/IllegalArgumentException") hx hb hl hml hown hts hK hX hno hlocks (by decide +kernel) hk1 hk2 (by decide) rfl hk3 xt_2 hk4 rfl dX5_checkRange_10 dX5_checkRange_13 dX5_checkRange_14 dX5_checkRange_16 dX5_checkRange_19 ⟨Nat.le_of_ble_eq_true rfl, Nat.le_of_ble_eq_true rfl, hn, Nat.mul_le_mul_left 6 hn⟩ ⟨hn, Nat.mul_le_mul_left 6 hn⟩) ?_
  refine ruL_c (n := 11) (n2 := 12) rfl (ru_bot) ?_
  refine ruL_c (n := 12) (n2 := 13) rfl (ru_bot) ?_
  refine ruL_c (n := 13) (n2 := 14) rfl (ru_bot) ?_
  refine ruL_c (n := 14) (n2 := 15) rfl (ru_bot) ?_
  refine ruL_c (n := 15) (n2 := 16) rfl (ru_bot) ?_
  refine ruL_c (n := 16) (n2 := 17) rfl (ru_bot) ?_
  refine ruL_c (n := 17) (n2 := 18) rfl (ru_bot) ?_
  refine ruL_c (n := 18) (n2 := 19) rfl (ru_bot) ?_
  refine ruL_c (n := 19) (n2 := 20) rfl (ru_bot) ?_
  refine ruL_c (n := 20) (n2 := 21) rfl (ru_vretX hx hb hK hr hlocks dX5_checkRange_20 ⟨Nat.le_of_lt hn, Nat.mul_le_mul_left 6 (Nat.le_of_lt hn)⟩) ?_
  exact trivial

-- CueTour.checkRoom
def f_X5_checkRoom (p0 : Int32) (p1 : Int32) (σ : aM) : Option (Nat × Int32 × aM) := if p0 < p1 then some (0, 0, σ) else some (3, 0, σ)
def F_X5_checkRoom : aFx := fun As σ => match As with
  | [.int p0, .int p1] => f_X5_checkRoom p0 p1 σ
  | _ => none
def T_X5_checkRoom : aTx := fun Qa Xa KN => [I_iload 0 1, I_iload 1 1, I_icmp (fun x y => x < y) 15, I_bot, I_bot, I_throw 3 Xa, I_bot, I_bot, I_bot, I_bot, I_bot, I_bot, I_bot, I_bot, I_bot, I_vret Qa]
set_option maxHeartbeats 4000000 in
set_option maxRecDepth 100000 in
theorem s_X5_checkRoom : runsX T_X5_checkRoom 1 [] 2 F_X5_checkRoom := by
  intro Qa Xa K hw hf As σ y h hQ hX
  unfold F_X5_checkRoom at h
  split at h
  · rename_i p0 p1
    unfold f_X5_checkRoom at h
    show K 0 (0, [.int p0, .int p1], [], σ)
    rcases itX_cases h with ⟨c1, h⟩ | ⟨c1, h⟩
    · refine (hw 0 (by decide)) 3 _ ?_
      show ((p0 < p1) → K 0 (15, [.int p0, .int p1], [], σ)) ∧ (¬ (p0 < p1) → K 0 (5, [.int p0, .int p1], [], σ))
      refine ⟨fun _ => ?_, fun q => absurd c1 q⟩
      obtain rfl := Option.some.inj h
      refine (hw 0 (by decide)) 1 _ ?_
      show Qa 0 σ
      refine (hQ rfl)
    · refine (hw 0 (by decide)) 3 _ ?_
      show ((p0 < p1) → K 0 (15, [.int p0, .int p1], [], σ)) ∧ (¬ (p0 < p1) → K 0 (5, [.int p0, .int p1], [], σ))
      refine ⟨fun q => absurd q c1, fun _ => ?_⟩
      obtain rfl := Option.some.inj h
      refine (hw 0 (by decide)) 1 _ ?_
      show Xa 3 σ
      refine (hX (fun q => by cases q))
  · cases h
theorem h_X5_checkRoom : shpX [] 2 F_X5_checkRoom := by
  intro As σ y h
  unfold F_X5_checkRoom at h
  split at h
  · exact ⟨by simp [Value.category], Nat.le_of_ble_eq_true rfl⟩
  · cases h
set_option maxHeartbeats 4000000 in
set_option maxRecDepth 100000 in
theorem c_X5_checkRoom (l : Launch) (hl : l.stackTraces = false) (D : va_G) (cI cZ cA cL : ClassId) (ad sa : Nat → Nat) (hi : adI ad) : CtXv l yX5_checkRoom wsX5_checkRoom { frames := 6, cells := 1, slots := 6, locals := 82 } 1 D cI cZ cA cL ad sa [] F_X5_checkRoom := by
  refine mk_Xv (mc := 1) [] F_X5_checkRoom T_X5_checkRoom (by decide +kernel) rfl ?_ h_X5_checkRoom s_X5_checkRoom
  intro p e s m args below meth c Qa Xa ⟨⟨hx, hb, hml, hown, hts, hr, hlocks, hK, hN⟩, hX, hno⟩ n hn
  have hk1 : (Cond.classLink RX5 224 "java/lang/IllegalStateException") ∈ wsX5_checkRoom := by decide +kernel
  have hk2 : (Cond.initialized "java/lang/IllegalStateException") ∈ wsX5_checkRoom := by decide +kernel
  have hk3 : ∀ w ∈ (vx_atS RX5 228 "java/lang/IllegalStateException" xnames).filter goodWord, w ∈ wsX5_checkRoom := by decide +kernel
  have hk4 : ∀ w ∈ Cond.classLink RX5 224 "java/lang/IllegalStateException" :: Cond.initialized "java/lang/IllegalStateException" :: vx_atS RX5 228 "java/lang/IllegalStateException" xnames, vx_ot w = true := by decide +kernel
  refine ruL_c (n := 0) (n2 := 1) rfl (ru_iload_n (k := 0) hx hb dX5_checkRoom_0) ?_
  refine ruL_c (n := 1) (n2 := 2) rfl (ru_iload_n (k := 1) hx hb dX5_checkRoom_1) ?_
  refine ruL_c (n := 2) (n2 := 3) rfl (ru_icmplt hx hb dX5_checkRoom_2 (by decide)) ?_
  refine ruL_c (n := 3) (n2 := 4) rfl (ru_bot) ?_
  refine ruL_c (n := 4) (n2 := 5) rfl (ru_bot) ?_
  refine ruL_c (n := 5) (n2 := 6) rfl (ru_throw (ik := 224) (is := 226) (ic := 228) (k := 2) (cls := "java/lang/IllegalStateException") hx hb hl hml hown hts hK hX hno hlocks (by decide +kernel) hk1 hk2 (by decide) rfl hk3 xt_3 hk4 rfl dX5_checkRoom_5 dX5_checkRoom_8 dX5_checkRoom_9 dX5_checkRoom_11 dX5_checkRoom_14 ⟨Nat.le_of_ble_eq_true rfl, Nat.le_of_ble_eq_true rfl, hn, Nat.mul_le_mul_left 6 hn⟩ ⟨hn, Nat.mul_le_mul_left 6 hn⟩) ?_
  refine ruL_c (n := 6) (n2 := 7) rfl (ru_bot) ?_
  refine ruL_c (n := 7) (n2 := 8) rfl (ru_bot) ?_
  refine ruL_c (n := 8) (n2 := 9) rfl (ru_bot) ?_
  refine ruL_c (n := 9) (n2 := 10) rfl (ru_bot) ?_
  refine ruL_c (n := 10) (n2 := 11) rfl (ru_bot) ?_
  refine ruL_c (n := 11) (n2 := 12) rfl (ru_bot) ?_
  refine ruL_c (n := 12) (n2 := 13) rfl (ru_bot) ?_
  refine ruL_c (n := 13) (n2 := 14) rfl (ru_bot) ?_
  refine ruL_c (n := 14) (n2 := 15) rfl (ru_bot) ?_
  refine ruL_c (n := 15) (n2 := 16) rfl (ru_vretX hx hb hK hr hlocks dX5_checkRoom_15 ⟨Nat.le_of_lt hn, Nat.mul_le_mul_left 6 (Nat.le_of_lt hn)⟩) ?_
  exact trivial

-- CueTour.checkState
def f_X5_checkState (p0 : Int32) (σ : aM) : Option (Nat × Int32 × aM) := if ¬ p0 = 0 then some (0, 0, σ) else some (3, 0, σ)
def F_X5_checkState : aFx := fun As σ => match As with
  | [.int p0] => f_X5_checkState p0 σ
  | _ => none
def T_X5_checkState : aTx := fun Qa Xa KN => [I_iload 0 1, I_if (fun x => ¬ x = 0) 14, I_bot, I_bot, I_throw 3 Xa, I_bot, I_bot, I_bot, I_bot, I_bot, I_bot, I_bot, I_bot, I_bot, I_vret Qa]
set_option maxHeartbeats 4000000 in
set_option maxRecDepth 100000 in
theorem s_X5_checkState : runsX T_X5_checkState 1 [] 1 F_X5_checkState := by
  intro Qa Xa K hw hf As σ y h hQ hX
  unfold F_X5_checkState at h
  split at h
  · rename_i p0
    unfold f_X5_checkState at h
    show K 0 (0, [.int p0], [], σ)
    rcases itX_cases h with ⟨c1, h⟩ | ⟨c1, h⟩
    · refine (hw 0 (by decide)) 2 _ ?_
      show ((¬ p0 = 0) → K 0 (14, [.int p0], [], σ)) ∧ (¬ (¬ p0 = 0) → K 0 (4, [.int p0], [], σ))
      refine ⟨fun _ => ?_, fun q => absurd c1 q⟩
      obtain rfl := Option.some.inj h
      refine (hw 0 (by decide)) 1 _ ?_
      show Qa 0 σ
      refine (hQ rfl)
    · refine (hw 0 (by decide)) 2 _ ?_
      show ((¬ p0 = 0) → K 0 (14, [.int p0], [], σ)) ∧ (¬ (¬ p0 = 0) → K 0 (4, [.int p0], [], σ))
      refine ⟨fun q => absurd q c1, fun _ => ?_⟩
      obtain rfl := Option.some.inj h
      refine (hw 0 (by decide)) 1 _ ?_
      show Xa 3 σ
      refine (hX (fun q => by cases q))
  · cases h
theorem h_X5_checkState : shpX [] 1 F_X5_checkState := by
  intro As σ y h
  unfold F_X5_checkState at h
  split at h
  · exact ⟨by simp [Value.category], Nat.le_of_ble_eq_true rfl⟩
  · cases h
set_option maxHeartbeats 4000000 in
set_option maxRecDepth 100000 in
theorem c_X5_checkState (l : Launch) (hl : l.stackTraces = false) (D : va_G) (cI cZ cA cL : ClassId) (ad sa : Nat → Nat) (hi : adI ad) : CtXv l yX5_checkState wsX5_checkState { frames := 6, cells := 1, slots := 6, locals := 82 } 1 D cI cZ cA cL ad sa [] F_X5_checkState := by
  refine mk_Xv (mc := 1) [] F_X5_checkState T_X5_checkState (by decide +kernel) rfl ?_ h_X5_checkState s_X5_checkState
  intro p e s m args below meth c Qa Xa ⟨⟨hx, hb, hml, hown, hts, hr, hlocks, hK, hN⟩, hX, hno⟩ n hn
  have hk1 : (Cond.classLink RX5 224 "java/lang/IllegalStateException") ∈ wsX5_checkState := by decide +kernel
  have hk2 : (Cond.initialized "java/lang/IllegalStateException") ∈ wsX5_checkState := by decide +kernel
  have hk3 : ∀ w ∈ (vx_atS RX5 228 "java/lang/IllegalStateException" xnames).filter goodWord, w ∈ wsX5_checkState := by decide +kernel
  have hk4 : ∀ w ∈ Cond.classLink RX5 224 "java/lang/IllegalStateException" :: Cond.initialized "java/lang/IllegalStateException" :: vx_atS RX5 228 "java/lang/IllegalStateException" xnames, vx_ot w = true := by decide +kernel
  refine ruL_c (n := 0) (n2 := 1) rfl (ru_iload_n (k := 0) hx hb dX5_checkState_0) ?_
  refine ruL_c (n := 1) (n2 := 2) rfl (ru_ifne hx hb dX5_checkState_1 (by decide)) ?_
  refine ruL_c (n := 2) (n2 := 3) rfl (ru_bot) ?_
  refine ruL_c (n := 3) (n2 := 4) rfl (ru_bot) ?_
  refine ruL_c (n := 4) (n2 := 5) rfl (ru_throw (ik := 224) (is := 229) (ic := 228) (k := 3) (cls := "java/lang/IllegalStateException") hx hb hl hml hown hts hK hX hno hlocks (by decide +kernel) hk1 hk2 (by decide) rfl hk3 xt_3 hk4 rfl dX5_checkState_4 dX5_checkState_7 dX5_checkState_8 dX5_checkState_10 dX5_checkState_13 ⟨Nat.le_of_ble_eq_true rfl, Nat.le_of_ble_eq_true rfl, hn, Nat.mul_le_mul_left 6 hn⟩ ⟨hn, Nat.mul_le_mul_left 6 hn⟩) ?_
  refine ruL_c (n := 5) (n2 := 6) rfl (ru_bot) ?_
  refine ruL_c (n := 6) (n2 := 7) rfl (ru_bot) ?_
  refine ruL_c (n := 7) (n2 := 8) rfl (ru_bot) ?_
  refine ruL_c (n := 8) (n2 := 9) rfl (ru_bot) ?_
  refine ruL_c (n := 9) (n2 := 10) rfl (ru_bot) ?_
  refine ruL_c (n := 10) (n2 := 11) rfl (ru_bot) ?_
  refine ruL_c (n := 11) (n2 := 12) rfl (ru_bot) ?_
  refine ruL_c (n := 12) (n2 := 13) rfl (ru_bot) ?_
  refine ruL_c (n := 13) (n2 := 14) rfl (ru_bot) ?_
  refine ruL_c (n := 14) (n2 := 15) rfl (ru_vretX hx hb hK hr hlocks dX5_checkState_14 ⟨Nat.le_of_lt hn, Nat.mul_le_mul_left 6 (Nat.le_of_lt hn)⟩) ?_
  exact trivial

-- CueTour.addLine
def f_X5_addLine (p0 : Int32) (σ : aM) : Option (Nat × Int32 × aM) := bnX (f_X5_checkRange p0 1 30 σ) (fun σ3 => bnX (f_X5_checkRoom (σ3 1 3) 30 σ3) (fun σ8 => bnN (f_X4_append p0 σ8) (fun r11 σ12 => some (0, r11, σ12))))
def F_X5_addLine : aFx := fun As σ => match As with
  | [.int p0] => f_X5_addLine p0 σ
  | _ => none
def T_X5_addLine : aTx := fun Qa Xa KN => [I_iload 1 1, I_const 1 1, I_const (30) 2, I_bot, I_callX 3 F_X5_checkRange KN Xa, I_bot, I_bot, I_aload 0 1, I_getR 0 1, I_bot, I_bot, I_getI 1 3, I_bot, I_bot, I_const (30) 2, I_bot, I_callX 2 F_X5_checkRoom KN Xa, I_bot, I_bot, I_aload 0 1, I_getR 0 1, I_bot, I_bot, I_iload 1 1, I_callV 1 1 F_X4_append, I_bot, I_bot, I_iret Qa]
set_option maxHeartbeats 4000000 in
set_option maxRecDepth 100000 in
theorem s_X5_addLine : runsX T_X5_addLine 3 [.ref 0] 2 F_X5_addLine := by
  intro Qa Xa K hw hf As σ y h hQ hX
  unfold F_X5_addLine at h
  split at h
  · rename_i p0
    unfold f_X5_addLine at h
    show K 0 (0, [.ref 0, .int p0], [], σ)
    obtain ⟨e1, r2, σ3, q4, h⟩ := bnX_some h
    rcases h with ⟨c5, h⟩ | ⟨c5, h⟩
    · refine (hw 0 (by decide)) 4 _ ?_
      show ∃ e1 r2 σ3, f_X5_checkRange p0 1 30 σ = some (e1, r2, σ3) ∧ (e1 = 0 → K 1 (7, [.ref 0, .int p0], [], σ3)) ∧ (¬ e1 = 0 → Xa e1 σ3)
      refine ⟨e1, r2, σ3, q4, fun _ => ?_, fun q => absurd c5 q⟩
      obtain ⟨e6, r7, σ8, q9, h⟩ := bnX_some h
      rcases h with ⟨c10, h⟩ | ⟨c10, h⟩
      · refine (hw 1 (by decide)) 5 _ ?_
        show ∃ e6 r7 σ8, f_X5_checkRoom (σ3 1 3) 30 σ3 = some (e6, r7, σ8) ∧ (e6 = 0 → K 2 (19, [.ref 0, .int p0], [], σ8)) ∧ (¬ e6 = 0 → Xa e6 σ8)
        refine ⟨e6, r7, σ8, q9, fun _ => ?_, fun q => absurd c10 q⟩
        obtain ⟨r11, σ12, e13, h⟩ := bnN_some h
        refine (hw 2 (by decide)) 4 _ ?_
        show ∃ r11 σ12, f_X4_append p0 σ8 = some (r11, σ12) ∧ K 2 (27, [.ref 0, .int p0], [.int r11], σ12)
        refine ⟨r11, σ12, e13, ?_⟩
        obtain rfl := Option.some.inj h
        refine (hw 2 (by decide)) 1 _ ?_
        show Qa r11 σ12
        refine hQ rfl
      · refine (hw 1 (by decide)) 5 _ ?_
        show ∃ e6 r7 σ8, f_X5_checkRoom (σ3 1 3) 30 σ3 = some (e6, r7, σ8) ∧ (e6 = 0 → K 2 (19, [.ref 0, .int p0], [], σ8)) ∧ (¬ e6 = 0 → Xa e6 σ8)
        refine ⟨e6, r7, σ8, q9, fun q => absurd q c10, fun _ => ?_⟩
        subst h
        exact hX c10
    · refine (hw 0 (by decide)) 4 _ ?_
      show ∃ e1 r2 σ3, f_X5_checkRange p0 1 30 σ = some (e1, r2, σ3) ∧ (e1 = 0 → K 1 (7, [.ref 0, .int p0], [], σ3)) ∧ (¬ e1 = 0 → Xa e1 σ3)
      refine ⟨e1, r2, σ3, q4, fun q => absurd q c5, fun _ => ?_⟩
      subst h
      exact hX c5
  · cases h
theorem h_X5_addLine : shpX [.ref 0] 2 F_X5_addLine := by
  intro As σ y h
  unfold F_X5_addLine at h
  split at h
  · exact ⟨by simp [Value.category], Nat.le_of_ble_eq_true rfl⟩
  · cases h
set_option maxHeartbeats 4000000 in
set_option maxRecDepth 100000 in
theorem c_X5_addLine (l : Launch) (hl : l.stackTraces = false) (D : va_G) (cI cZ cA cL : ClassId) (ad sa : Nat → Nat) (hi : adI ad) : CtXi l yX5_addLine wsX5_addLine { frames := 7, cells := 3, slots := 18, locals := 104 } 3 D cI cZ cA cL ad sa [.ref 0] F_X5_addLine := by
  refine mk_Xi (mc := 3) [.ref 0] F_X5_addLine T_X5_addLine (by decide +kernel) rfl ?_ h_X5_addLine s_X5_addLine
  intro p e s m args below meth c Qa Xa ⟨⟨hx, hb, hml, hown, hts, hr, hlocks, hK, hN⟩, hX, hno⟩ n hn
  have hin5 : ∀ w ∈ u_ws RX5 TX5 8, w ∈ wsX5_addLine := by decide +kernel
  have hl10 : (Cond.fieldLink RX5 10 RX5 (TX5 0).2.1 (TX5 0).2.2.1) ∈ wsX5_addLine := by decide +kernel
  have hin4 : ∀ w ∈ u_ws RX4 TX4 4, w ∈ wsX5_addLine := by decide +kernel
  have hl60 : (Cond.fieldLinkNest RX5 60 RX4 (TX4 3).2.1 (TX4 3).2.2.1 "CueTour") ∈ nwL := by decide +kernel
  refine ruL_c (n := 0) (n2 := 1) rfl (ru_iload_n (k := 1) hx hb dX5_addLine_0) ?_
  refine ruL_c (n := 1) (n2 := 2) rfl (ru_iconst hx hb dX5_addLine_1 rfl) ?_
  refine ruL_c (n := 2) (n2 := 3) rfl (ru_bipush hx hb dX5_addLine_2 rfl) ?_
  refine ruL_c (n := 3) (n2 := 4) rfl (ru_bot) ?_
  refine ruL_c (n := 4) (n2 := 5) rfl (ru_callX hx hb hml hown hts hK hN hX hno hlocks (c_X5_checkRange l hl D cI cZ cA cL ad sa hi) (va_cwS 3 hts gX5_addLine_X5_checkRange rfl rfl rfl (by decide +kernel) ⟨Nat.le_of_ble_eq_true rfl, Nat.le_of_ble_eq_true rfl⟩) dX5_addLine_4 ⟨hn, Nat.mul_le_mul_left 6 hn⟩ ⟨hn, Nat.mul_le_mul_left 6 hn⟩) ?_
  refine ruL_c (n := 5) (n2 := 6) rfl (ru_bot) ?_
  refine ruL_c (n := 6) (n2 := 7) rfl (ru_bot) ?_
  refine ruL_c (n := 7) (n2 := 8) rfl (ru_aload_n (k := 0) hx hb dX5_addLine_7) ?_
  refine ruL_c (n := 8) (n2 := 9) rfl (ru_getR (own := RX5) (j := 0) (T := TX5) hx hb hown hK hts hin5 (by decide) rfl rfl (by decide) rfl hl10 dX5_addLine_8) ?_
  refine ruL_c (n := 9) (n2 := 10) rfl (ru_bot) ?_
  refine ruL_c (n := 10) (n2 := 11) rfl (ru_bot) ?_
  refine ruL_c (n := 11) (n2 := 12) rfl (ru_getIN (own := RX5) (j := 3) (T := TX4) hx hb hown hK hN hts hin4 (by decide) rfl rfl (by decide) rfl hl60 dX5_addLine_11) ?_
  refine ruL_c (n := 12) (n2 := 13) rfl (ru_bot) ?_
  refine ruL_c (n := 13) (n2 := 14) rfl (ru_bot) ?_
  refine ruL_c (n := 14) (n2 := 15) rfl (ru_bipush hx hb dX5_addLine_14 rfl) ?_
  refine ruL_c (n := 15) (n2 := 16) rfl (ru_bot) ?_
  refine ruL_c (n := 16) (n2 := 17) rfl (ru_callX hx hb hml hown hts hK hN hX hno hlocks (c_X5_checkRoom l hl D cI cZ cA cL ad sa hi) (va_cwS 2 hts gX5_addLine_X5_checkRoom rfl rfl rfl (by decide +kernel) ⟨Nat.le_of_ble_eq_true rfl, Nat.le_of_ble_eq_true rfl⟩) dX5_addLine_16 ⟨hn, Nat.mul_le_mul_left 6 hn⟩ ⟨hn, Nat.mul_le_mul_left 6 hn⟩) ?_
  refine ruL_c (n := 17) (n2 := 18) rfl (ru_bot) ?_
  refine ruL_c (n := 18) (n2 := 19) rfl (ru_bot) ?_
  refine ruL_c (n := 19) (n2 := 20) rfl (ru_aload_n (k := 0) hx hb dX5_addLine_19) ?_
  refine ruL_c (n := 20) (n2 := 21) rfl (ru_getR (own := RX5) (j := 0) (T := TX5) hx hb hown hK hts hin5 (by decide) rfl rfl (by decide) rfl hl10 dX5_addLine_20) ?_
  refine ruL_c (n := 21) (n2 := 22) rfl (ru_bot) ?_
  refine ruL_c (n := 22) (n2 := 23) rfl (ru_bot) ?_
  refine ruL_c (n := 23) (n2 := 24) rfl (ru_iload_n (k := 1) hx hb dX5_addLine_23) ?_
  refine ruL_c (n := 24) (n2 := 25) rfl (ru_callV hx hb hml hown hts hK hN (by decide) rfl (c_X4_append l D cI cZ cA cL ad hi) (cwV 1 hts gX5_addLine_X4_append rfl rfl rfl (by decide +kernel) ⟨Nat.le_of_ble_eq_true rfl, Nat.le_of_ble_eq_true rfl⟩) dX5_addLine_24 ⟨Nat.le_of_lt hn, Nat.mul_le_mul_left 6 (Nat.le_of_lt hn)⟩) ?_
  refine ruL_c (n := 25) (n2 := 26) rfl (ru_bot) ?_
  refine ruL_c (n := 26) (n2 := 27) rfl (ru_bot) ?_
  refine ruL_c (n := 27) (n2 := 28) rfl (ru_iretX hx hb hK hr hlocks dX5_addLine_27 ⟨Nat.le_of_lt hn, Nat.mul_le_mul_left 6 (Nat.le_of_lt hn)⟩) ?_
  exact trivial

-- CueTour.need
def f_X5_need (p0 : Int32) (p1 : Int32) (p2 : Int32) (σ : aM) : Option (Nat × Int32 × aM) := bnX (f_X5_checkNumber p0 (σ 1 3) σ) (fun σ3 => bnX (f_X5_checkNumber p1 4 σ3) (fun σ8 => bnX (f_X5_checkRange p2 0 100 σ8) (fun σ13 => if inb p0 30 = true then if inb p1 4 = true then if inb p0 30 = true then if inb p1 4 = true then some (0, σ13 (58 + ix p0) (ix p1), mput σ13 (58 + ix p0) (ix p1) p2) else none else none else none else none)))
def F_X5_need : aFx := fun As σ => match As with
  | [.int p0, .int p1, .int p2] => f_X5_need p0 p1 p2 σ
  | _ => none
def T_X5_need : aTx := fun Qa Xa KN => [I_iload 1 1, I_aload 0 1, I_getR 0 1, I_bot, I_bot, I_getI 1 3, I_bot, I_bot, I_callX 2 F_X5_checkNumber KN Xa, I_bot, I_bot, I_iload 2 1, I_const 4 1, I_callX 2 F_X5_checkNumber KN Xa, I_bot, I_bot, I_iload 3 1, I_const 0 1, I_const (100) 2, I_bot, I_callX 3 F_X5_checkRange KN Xa, I_bot, I_bot, I_aload 0 1, I_getR 0 1, I_bot, I_bot, I_getR 1 53, I_bot, I_bot, I_iload 1 1, I_aald, I_iload 2 1, I_iald, I_istore 4 2, I_bot, I_aload 0 1, I_getR 0 1, I_bot, I_bot, I_getR 1 53, I_bot, I_bot, I_iload 1 1, I_aald, I_iload 2 1, I_iload 3 1, I_iast, I_iload 4 2, I_bot, I_iret Qa]
set_option maxHeartbeats 4000000 in
set_option maxRecDepth 100000 in
theorem s_X5_need : runsX T_X5_need 4 [.ref 0] 5 F_X5_need := by
  intro Qa Xa K hw hf As σ y h hQ hX
  unfold F_X5_need at h
  split at h
  · rename_i p0 p1 p2
    unfold f_X5_need at h
    show K 0 (0, [.ref 0, .int p0, .int p1, .int p2, .null], [], σ)
    obtain ⟨e1, r2, σ3, q4, h⟩ := bnX_some h
    rcases h with ⟨c5, h⟩ | ⟨c5, h⟩
    · refine (hw 0 (by decide)) 5 _ ?_
      show ∃ e1 r2 σ3, f_X5_checkNumber p0 (σ 1 3) σ = some (e1, r2, σ3) ∧ (e1 = 0 → K 1 (11, [.ref 0, .int p0, .int p1, .int p2, .null], [], σ3)) ∧ (¬ e1 = 0 → Xa e1 σ3)
      refine ⟨e1, r2, σ3, q4, fun _ => ?_, fun q => absurd c5 q⟩
      obtain ⟨e6, r7, σ8, q9, h⟩ := bnX_some h
      rcases h with ⟨c10, h⟩ | ⟨c10, h⟩
      · refine (hw 1 (by decide)) 3 _ ?_
        show ∃ e6 r7 σ8, f_X5_checkNumber p1 4 σ3 = some (e6, r7, σ8) ∧ (e6 = 0 → K 2 (16, [.ref 0, .int p0, .int p1, .int p2, .null], [], σ8)) ∧ (¬ e6 = 0 → Xa e6 σ8)
        refine ⟨e6, r7, σ8, q9, fun _ => ?_, fun q => absurd c10 q⟩
        obtain ⟨e11, r12, σ13, q14, h⟩ := bnX_some h
        rcases h with ⟨c15, h⟩ | ⟨c15, h⟩
        · refine (hw 2 (by decide)) 4 _ ?_
          show ∃ e11 r12 σ13, f_X5_checkRange p2 0 100 σ8 = some (e11, r12, σ13) ∧ (e11 = 0 → K 3 (23, [.ref 0, .int p0, .int p1, .int p2, .null], [], σ13)) ∧ (¬ e11 = 0 → Xa e11 σ13)
          refine ⟨e11, r12, σ13, q14, fun _ => ?_, fun q => absurd c15 q⟩
          obtain ⟨g16, h⟩ := itX_some h
          obtain ⟨g17, h⟩ := itX_some h
          obtain ⟨g18, h⟩ := itX_some h
          obtain ⟨g19, h⟩ := itX_some h
          obtain rfl := Option.some.inj h
          refine (hw 3 (by decide)) 18 _ ?_
          show kd 53 = 3 ∧ (inb p0 30 = true ∧ (kd (58 + ix p0) = 1 ∧ (inb p1 (ln (58 + ix p0)) = true ∧ (kd 53 = 3 ∧ (inb p0 30 = true ∧ (kd (58 + ix p0) = 1 ∧ (inb p1 (ln (58 + ix p0)) = true ∧ (Qa (σ13 (58 + ix p0) (ix p1)) (mput σ13 (58 + ix p0) (ix p1) p2)))))))))
          refine ⟨rfl, g16, (row53_kd g16), (by rw [row53_ln g16]; exact g17), rfl, g18, (row53_kd g18), (by rw [row53_ln g18]; exact g19), (hQ rfl)⟩
        · refine (hw 2 (by decide)) 4 _ ?_
          show ∃ e11 r12 σ13, f_X5_checkRange p2 0 100 σ8 = some (e11, r12, σ13) ∧ (e11 = 0 → K 3 (23, [.ref 0, .int p0, .int p1, .int p2, .null], [], σ13)) ∧ (¬ e11 = 0 → Xa e11 σ13)
          refine ⟨e11, r12, σ13, q14, fun q => absurd q c15, fun _ => ?_⟩
          subst h
          exact hX c15
      · refine (hw 1 (by decide)) 3 _ ?_
        show ∃ e6 r7 σ8, f_X5_checkNumber p1 4 σ3 = some (e6, r7, σ8) ∧ (e6 = 0 → K 2 (16, [.ref 0, .int p0, .int p1, .int p2, .null], [], σ8)) ∧ (¬ e6 = 0 → Xa e6 σ8)
        refine ⟨e6, r7, σ8, q9, fun q => absurd q c10, fun _ => ?_⟩
        subst h
        exact hX c10
    · refine (hw 0 (by decide)) 5 _ ?_
      show ∃ e1 r2 σ3, f_X5_checkNumber p0 (σ 1 3) σ = some (e1, r2, σ3) ∧ (e1 = 0 → K 1 (11, [.ref 0, .int p0, .int p1, .int p2, .null], [], σ3)) ∧ (¬ e1 = 0 → Xa e1 σ3)
      refine ⟨e1, r2, σ3, q4, fun q => absurd q c5, fun _ => ?_⟩
      subst h
      exact hX c5
  · cases h
theorem h_X5_need : shpX [.ref 0] 5 F_X5_need := by
  intro As σ y h
  unfold F_X5_need at h
  split at h
  · exact ⟨by simp [Value.category], Nat.le_of_ble_eq_true rfl⟩
  · cases h
set_option maxHeartbeats 4000000 in
set_option maxRecDepth 100000 in
theorem c_X5_need (l : Launch) (hl : l.stackTraces = false) (D : va_G) (cI cZ cA cL : ClassId) (ad sa : Nat → Nat) (hi : adI ad) : CtXi l yX5_need wsX5_need { frames := 7, cells := 4, slots := 24, locals := 104 } 4 D cI cZ cA cL ad sa [.ref 0] F_X5_need := by
  refine mk_Xi (mc := 4) [.ref 0] F_X5_need T_X5_need (by decide +kernel) rfl ?_ h_X5_need s_X5_need
  intro p e s m args below meth c Qa Xa ⟨⟨hx, hb, hml, hown, hts, hr, hlocks, hK, hN⟩, hX, hno⟩ n hn
  have hin5 : ∀ w ∈ u_ws RX5 TX5 8, w ∈ wsX5_need := by decide +kernel
  have hl10 : (Cond.fieldLink RX5 10 RX5 (TX5 0).2.1 (TX5 0).2.2.1) ∈ wsX5_need := by decide +kernel
  have hin4 : ∀ w ∈ u_ws RX4 TX4 4, w ∈ wsX5_need := by decide +kernel
  have hl60 : (Cond.fieldLinkNest RX5 60 RX4 (TX4 3).2.1 (TX4 3).2.2.1 "CueTour") ∈ nwL := by decide +kernel
  have hl75 : (Cond.fieldLinkNest RX5 75 RX4 (TX4 2).2.1 (TX4 2).2.2.1 "CueTour") ∈ nwL := by decide +kernel
  refine ruL_c (n := 0) (n2 := 1) rfl (ru_iload_n (k := 1) hx hb dX5_need_0) ?_
  refine ruL_c (n := 1) (n2 := 2) rfl (ru_aload_n (k := 0) hx hb dX5_need_1) ?_
  refine ruL_c (n := 2) (n2 := 3) rfl (ru_getR (own := RX5) (j := 0) (T := TX5) hx hb hown hK hts hin5 (by decide) rfl rfl (by decide) rfl hl10 dX5_need_2) ?_
  refine ruL_c (n := 3) (n2 := 4) rfl (ru_bot) ?_
  refine ruL_c (n := 4) (n2 := 5) rfl (ru_bot) ?_
  refine ruL_c (n := 5) (n2 := 6) rfl (ru_getIN (own := RX5) (j := 3) (T := TX4) hx hb hown hK hN hts hin4 (by decide) rfl rfl (by decide) rfl hl60 dX5_need_5) ?_
  refine ruL_c (n := 6) (n2 := 7) rfl (ru_bot) ?_
  refine ruL_c (n := 7) (n2 := 8) rfl (ru_bot) ?_
  refine ruL_c (n := 8) (n2 := 9) rfl (ru_callX hx hb hml hown hts hK hN hX hno hlocks (c_X5_checkNumber l hl D cI cZ cA cL ad sa hi) (va_cwS 2 hts gX5_need_X5_checkNumber rfl rfl rfl (by decide +kernel) ⟨Nat.le_of_ble_eq_true rfl, Nat.le_of_ble_eq_true rfl⟩) dX5_need_8 ⟨hn, Nat.mul_le_mul_left 6 hn⟩ ⟨hn, Nat.mul_le_mul_left 6 hn⟩) ?_
  refine ruL_c (n := 9) (n2 := 10) rfl (ru_bot) ?_
  refine ruL_c (n := 10) (n2 := 11) rfl (ru_bot) ?_
  refine ruL_c (n := 11) (n2 := 12) rfl (ru_iload_n (k := 2) hx hb dX5_need_11) ?_
  refine ruL_c (n := 12) (n2 := 13) rfl (ru_iconst hx hb dX5_need_12 rfl) ?_
  refine ruL_c (n := 13) (n2 := 14) rfl (ru_callX hx hb hml hown hts hK hN hX hno hlocks (c_X5_checkNumber l hl D cI cZ cA cL ad sa hi) (va_cwS 2 hts gX5_need_X5_checkNumber rfl rfl rfl (by decide +kernel) ⟨Nat.le_of_ble_eq_true rfl, Nat.le_of_ble_eq_true rfl⟩) dX5_need_13 ⟨hn, Nat.mul_le_mul_left 6 hn⟩ ⟨hn, Nat.mul_le_mul_left 6 hn⟩) ?_
  refine ruL_c (n := 14) (n2 := 15) rfl (ru_bot) ?_
  refine ruL_c (n := 15) (n2 := 16) rfl (ru_bot) ?_
  refine ruL_c (n := 16) (n2 := 17) rfl (ru_iload_n (k := 3) hx hb dX5_need_16) ?_
  refine ruL_c (n := 17) (n2 := 18) rfl (ru_iconst hx hb dX5_need_17 rfl) ?_
  refine ruL_c (n := 18) (n2 := 19) rfl (ru_bipush hx hb dX5_need_18 rfl) ?_
  refine ruL_c (n := 19) (n2 := 20) rfl (ru_bot) ?_
  refine ruL_c (n := 20) (n2 := 21) rfl (ru_callX hx hb hml hown hts hK hN hX hno hlocks (c_X5_checkRange l hl D cI cZ cA cL ad sa hi) (va_cwS 3 hts gX5_need_X5_checkRange rfl rfl rfl (by decide +kernel) ⟨Nat.le_of_ble_eq_true rfl, Nat.le_of_ble_eq_true rfl⟩) dX5_need_20 ⟨hn, Nat.mul_le_mul_left 6 hn⟩ ⟨hn, Nat.mul_le_mul_left 6 hn⟩) ?_
  refine ruL_c (n := 21) (n2 := 22) rfl (ru_bot) ?_
  refine ruL_c (n := 22) (n2 := 23) rfl (ru_bot) ?_
  refine ruL_c (n := 23) (n2 := 24) rfl (ru_aload_n (k := 0) hx hb dX5_need_23) ?_
  refine ruL_c (n := 24) (n2 := 25) rfl (ru_getR (own := RX5) (j := 0) (T := TX5) hx hb hown hK hts hin5 (by decide) rfl rfl (by decide) rfl hl10 dX5_need_24) ?_
  refine ruL_c (n := 25) (n2 := 26) rfl (ru_bot) ?_
  refine ruL_c (n := 26) (n2 := 27) rfl (ru_bot) ?_
  refine ruL_c (n := 27) (n2 := 28) rfl (ru_getRN (own := RX5) (j := 2) (T := TX4) hx hb hown hK hN hts hin4 (by decide) rfl rfl (by decide) rfl hl75 dX5_need_27) ?_
  refine ruL_c (n := 28) (n2 := 29) rfl (ru_bot) ?_
  refine ruL_c (n := 29) (n2 := 30) rfl (ru_bot) ?_
  refine ruL_c (n := 30) (n2 := 31) rfl (ru_iload_n (k := 1) hx hb dX5_need_30) ?_
  refine ruL_c (n := 31) (n2 := 32) rfl (ru_aald hx hb hK dX5_need_31) ?_
  refine ruL_c (n := 32) (n2 := 33) rfl (ru_iload_n (k := 2) hx hb dX5_need_32) ?_
  refine ruL_c (n := 33) (n2 := 34) rfl (ru_iald hx hb hK dX5_need_33) ?_
  refine ruL_c (n := 34) (n2 := 35) rfl (ru_istore hx hb dX5_need_34) ?_
  refine ruL_c (n := 35) (n2 := 36) rfl (ru_bot) ?_
  refine ruL_c (n := 36) (n2 := 37) rfl (ru_aload_n (k := 0) hx hb dX5_need_36) ?_
  refine ruL_c (n := 37) (n2 := 38) rfl (ru_getR (own := RX5) (j := 0) (T := TX5) hx hb hown hK hts hin5 (by decide) rfl rfl (by decide) rfl hl10 dX5_need_37) ?_
  refine ruL_c (n := 38) (n2 := 39) rfl (ru_bot) ?_
  refine ruL_c (n := 39) (n2 := 40) rfl (ru_bot) ?_
  refine ruL_c (n := 40) (n2 := 41) rfl (ru_getRN (own := RX5) (j := 2) (T := TX4) hx hb hown hK hN hts hin4 (by decide) rfl rfl (by decide) rfl hl75 dX5_need_40) ?_
  refine ruL_c (n := 41) (n2 := 42) rfl (ru_bot) ?_
  refine ruL_c (n := 42) (n2 := 43) rfl (ru_bot) ?_
  refine ruL_c (n := 43) (n2 := 44) rfl (ru_iload_n (k := 1) hx hb dX5_need_43) ?_
  refine ruL_c (n := 44) (n2 := 45) rfl (ru_aald hx hb hK dX5_need_44) ?_
  refine ruL_c (n := 45) (n2 := 46) rfl (ru_iload_n (k := 2) hx hb dX5_need_45) ?_
  refine ruL_c (n := 46) (n2 := 47) rfl (ru_iload_n (k := 3) hx hb dX5_need_46) ?_
  refine ruL_c (n := 47) (n2 := 48) rfl (ru_iast hx hb hK hi dX5_need_47) ?_
  refine ruL_c (n := 48) (n2 := 49) rfl (ru_iload hx hb dX5_need_48) ?_
  refine ruL_c (n := 49) (n2 := 50) rfl (ru_bot) ?_
  refine ruL_c (n := 50) (n2 := 51) rfl (ru_iretX hx hb hK hr hlocks dX5_need_50 ⟨Nat.le_of_lt hn, Nat.mul_le_mul_left 6 (Nat.le_of_lt hn)⟩) ?_
  exact trivial

-- CueTour.cut
def f_X5_cut (p0 : Int32) (p1 : Int32) (σ : aM) : Option (Nat × Int32 × aM) := bnX (f_X5_checkNumber p0 (σ 1 3) σ) (fun σ3 => if inb p0 30 = true then if p1 = 0 ∨ p1 = 1 then bnN (f_X1_arrange (mput σ3 8 (ix p0) p1)) (fun r8 σ9 => bnN (f_X4_total σ9) (fun r11 σ12 => some (0, r11, σ12))) else none else none)
def F_X5_cut : aFx := fun As σ => match As with
  | [.int p0, .int p1] => f_X5_cut p0 p1 σ
  | _ => none
def T_X5_cut : aTx := fun Qa Xa KN => [I_iload 1 1, I_aload 0 1, I_getR 0 1, I_bot, I_bot, I_getI 1 3, I_bot, I_bot, I_callX 2 F_X5_checkNumber KN Xa, I_bot, I_bot, I_aload 0 1, I_getR 0 1, I_bot, I_bot, I_getR 1 8, I_bot, I_bot, I_iload 1 1, I_iload 2 1, I_zast, I_aload 0 1, I_getR 0 3, I_bot, I_bot, I_aload 0 1, I_getR 0 1, I_bot, I_bot, I_callVv 3 1 F_X1_arrange, I_bot, I_bot, I_aload 0 1, I_getR 0 1, I_bot, I_bot, I_callV 1 0 F_X4_total, I_bot, I_bot, I_iret Qa]
set_option maxHeartbeats 4000000 in
set_option maxRecDepth 100000 in
theorem s_X5_cut : runsX T_X5_cut 2 [.ref 0] 3 F_X5_cut := by
  intro Qa Xa K hw hf As σ y h hQ hX
  unfold F_X5_cut at h
  split at h
  · rename_i p0 p1
    unfold f_X5_cut at h
    show K 0 (0, [.ref 0, .int p0, .int p1], [], σ)
    obtain ⟨e1, r2, σ3, q4, h⟩ := bnX_some h
    rcases h with ⟨c5, h⟩ | ⟨c5, h⟩
    · refine (hw 0 (by decide)) 5 _ ?_
      show ∃ e1 r2 σ3, f_X5_checkNumber p0 (σ 1 3) σ = some (e1, r2, σ3) ∧ (e1 = 0 → K 1 (11, [.ref 0, .int p0, .int p1], [], σ3)) ∧ (¬ e1 = 0 → Xa e1 σ3)
      refine ⟨e1, r2, σ3, q4, fun _ => ?_, fun q => absurd c5 q⟩
      obtain ⟨g6, h⟩ := itX_some h
      obtain ⟨g7, h⟩ := itX_some h
      obtain ⟨r8, σ9, e10, h⟩ := bnN_some h
      refine (hw 1 (by decide)) 11 _ ?_
      show kd 8 = 2 ∧ (inb p0 30 = true ∧ ((p1 = 0 ∨ p1 = 1) ∧ (∃ r8 σ9, f_X1_arrange (mput σ3 8 (ix p0) p1) = some (r8, σ9) ∧ K 1 (32, [.ref 0, .int p0, .int p1], [], σ9))))
      refine ⟨rfl, g6, g7, ⟨r8, σ9, e10, ?_⟩⟩
      obtain ⟨r11, σ12, e13, h⟩ := bnN_some h
      refine (hw 1 (by decide)) 3 _ ?_
      show ∃ r11 σ12, f_X4_total σ9 = some (r11, σ12) ∧ K 1 (39, [.ref 0, .int p0, .int p1], [.int r11], σ12)
      refine ⟨r11, σ12, e13, ?_⟩
      obtain rfl := Option.some.inj h
      refine (hw 1 (by decide)) 1 _ ?_
      show Qa r11 σ12
      refine hQ rfl
    · refine (hw 0 (by decide)) 5 _ ?_
      show ∃ e1 r2 σ3, f_X5_checkNumber p0 (σ 1 3) σ = some (e1, r2, σ3) ∧ (e1 = 0 → K 1 (11, [.ref 0, .int p0, .int p1], [], σ3)) ∧ (¬ e1 = 0 → Xa e1 σ3)
      refine ⟨e1, r2, σ3, q4, fun q => absurd q c5, fun _ => ?_⟩
      subst h
      exact hX c5
  · cases h
theorem h_X5_cut : shpX [.ref 0] 3 F_X5_cut := by
  intro As σ y h
  unfold F_X5_cut at h
  split at h
  · exact ⟨by simp [Value.category], Nat.le_of_ble_eq_true rfl⟩
  · cases h
set_option maxHeartbeats 4000000 in
set_option maxRecDepth 100000 in
theorem c_X5_cut (l : Launch) (hl : l.stackTraces = false) (D : va_G) (cI cZ cA cL : ClassId) (ad sa : Nat → Nat) (hi : adI ad) : CtXi l yX5_cut wsX5_cut { frames := 7, cells := 2, slots := 12, locals := 103 } 2 D cI cZ cA cL ad sa [.ref 0] F_X5_cut := by
  refine mk_Xi (mc := 2) [.ref 0] F_X5_cut T_X5_cut (by decide +kernel) rfl ?_ h_X5_cut s_X5_cut
  intro p e s m args below meth c Qa Xa ⟨⟨hx, hb, hml, hown, hts, hr, hlocks, hK, hN⟩, hX, hno⟩ n hn
  have hin5 : ∀ w ∈ u_ws RX5 TX5 8, w ∈ wsX5_cut := by decide +kernel
  have hl10 : (Cond.fieldLink RX5 10 RX5 (TX5 0).2.1 (TX5 0).2.2.1) ∈ wsX5_cut := by decide +kernel
  have hin4 : ∀ w ∈ u_ws RX4 TX4 4, w ∈ wsX5_cut := by decide +kernel
  have hl60 : (Cond.fieldLinkNest RX5 60 RX4 (TX4 3).2.1 (TX4 3).2.2.1 "CueTour") ∈ nwL := by decide +kernel
  have hl78 : (Cond.fieldLinkNest RX5 78 RX4 (TX4 1).2.1 (TX4 1).2.2.1 "CueTour") ∈ nwL := by decide +kernel
  have hl26 : (Cond.fieldLink RX5 26 RX5 (TX5 2).2.1 (TX5 2).2.2.1) ∈ wsX5_cut := by decide +kernel
  refine ruL_c (n := 0) (n2 := 1) rfl (ru_iload_n (k := 1) hx hb dX5_cut_0) ?_
  refine ruL_c (n := 1) (n2 := 2) rfl (ru_aload_n (k := 0) hx hb dX5_cut_1) ?_
  refine ruL_c (n := 2) (n2 := 3) rfl (ru_getR (own := RX5) (j := 0) (T := TX5) hx hb hown hK hts hin5 (by decide) rfl rfl (by decide) rfl hl10 dX5_cut_2) ?_
  refine ruL_c (n := 3) (n2 := 4) rfl (ru_bot) ?_
  refine ruL_c (n := 4) (n2 := 5) rfl (ru_bot) ?_
  refine ruL_c (n := 5) (n2 := 6) rfl (ru_getIN (own := RX5) (j := 3) (T := TX4) hx hb hown hK hN hts hin4 (by decide) rfl rfl (by decide) rfl hl60 dX5_cut_5) ?_
  refine ruL_c (n := 6) (n2 := 7) rfl (ru_bot) ?_
  refine ruL_c (n := 7) (n2 := 8) rfl (ru_bot) ?_
  refine ruL_c (n := 8) (n2 := 9) rfl (ru_callX hx hb hml hown hts hK hN hX hno hlocks (c_X5_checkNumber l hl D cI cZ cA cL ad sa hi) (va_cwS 2 hts gX5_cut_X5_checkNumber rfl rfl rfl (by decide +kernel) ⟨Nat.le_of_ble_eq_true rfl, Nat.le_of_ble_eq_true rfl⟩) dX5_cut_8 ⟨hn, Nat.mul_le_mul_left 6 hn⟩ ⟨hn, Nat.mul_le_mul_left 6 hn⟩) ?_
  refine ruL_c (n := 9) (n2 := 10) rfl (ru_bot) ?_
  refine ruL_c (n := 10) (n2 := 11) rfl (ru_bot) ?_
  refine ruL_c (n := 11) (n2 := 12) rfl (ru_aload_n (k := 0) hx hb dX5_cut_11) ?_
  refine ruL_c (n := 12) (n2 := 13) rfl (ru_getR (own := RX5) (j := 0) (T := TX5) hx hb hown hK hts hin5 (by decide) rfl rfl (by decide) rfl hl10 dX5_cut_12) ?_
  refine ruL_c (n := 13) (n2 := 14) rfl (ru_bot) ?_
  refine ruL_c (n := 14) (n2 := 15) rfl (ru_bot) ?_
  refine ruL_c (n := 15) (n2 := 16) rfl (ru_getRN (own := RX5) (j := 1) (T := TX4) hx hb hown hK hN hts hin4 (by decide) rfl rfl (by decide) rfl hl78 dX5_cut_15) ?_
  refine ruL_c (n := 16) (n2 := 17) rfl (ru_bot) ?_
  refine ruL_c (n := 17) (n2 := 18) rfl (ru_bot) ?_
  refine ruL_c (n := 18) (n2 := 19) rfl (ru_iload_n (k := 1) hx hb dX5_cut_18) ?_
  refine ruL_c (n := 19) (n2 := 20) rfl (ru_iload_n (k := 2) hx hb dX5_cut_19) ?_
  refine ruL_c (n := 20) (n2 := 21) rfl (ru_zast hx hb hK hi dX5_cut_20) ?_
  refine ruL_c (n := 21) (n2 := 22) rfl (ru_aload_n (k := 0) hx hb dX5_cut_21) ?_
  refine ruL_c (n := 22) (n2 := 23) rfl (ru_getR (own := RX5) (j := 2) (T := TX5) hx hb hown hK hts hin5 (by decide) rfl rfl (by decide) rfl hl26 dX5_cut_22) ?_
  refine ruL_c (n := 23) (n2 := 24) rfl (ru_bot) ?_
  refine ruL_c (n := 24) (n2 := 25) rfl (ru_bot) ?_
  refine ruL_c (n := 25) (n2 := 26) rfl (ru_aload_n (k := 0) hx hb dX5_cut_25) ?_
  refine ruL_c (n := 26) (n2 := 27) rfl (ru_getR (own := RX5) (j := 0) (T := TX5) hx hb hown hK hts hin5 (by decide) rfl rfl (by decide) rfl hl10 dX5_cut_26) ?_
  refine ruL_c (n := 27) (n2 := 28) rfl (ru_bot) ?_
  refine ruL_c (n := 28) (n2 := 29) rfl (ru_bot) ?_
  refine ruL_c (n := 29) (n2 := 30) rfl (ru_callVv hx hb hml hown hts hK hN (by decide) rfl (c_X1_arrange l D cI cZ cA cL ad hi) (cwV 1 hts gX5_cut_X1_arrange rfl rfl rfl (by decide +kernel) ⟨Nat.le_of_ble_eq_true rfl, Nat.le_of_ble_eq_true rfl⟩) dX5_cut_29 ⟨Nat.le_of_lt hn, Nat.mul_le_mul_left 6 (Nat.le_of_lt hn)⟩) ?_
  refine ruL_c (n := 30) (n2 := 31) rfl (ru_bot) ?_
  refine ruL_c (n := 31) (n2 := 32) rfl (ru_bot) ?_
  refine ruL_c (n := 32) (n2 := 33) rfl (ru_aload_n (k := 0) hx hb dX5_cut_32) ?_
  refine ruL_c (n := 33) (n2 := 34) rfl (ru_getR (own := RX5) (j := 0) (T := TX5) hx hb hown hK hts hin5 (by decide) rfl rfl (by decide) rfl hl10 dX5_cut_33) ?_
  refine ruL_c (n := 34) (n2 := 35) rfl (ru_bot) ?_
  refine ruL_c (n := 35) (n2 := 36) rfl (ru_bot) ?_
  refine ruL_c (n := 36) (n2 := 37) rfl (ru_callV hx hb hml hown hts hK hN (by decide) rfl (c_X4_total l D cI cZ cA cL ad hi) (cwV 0 hts gX5_cut_X4_total rfl rfl rfl (by decide +kernel) ⟨Nat.le_of_ble_eq_true rfl, Nat.le_of_ble_eq_true rfl⟩) dX5_cut_36 ⟨Nat.le_of_lt hn, Nat.mul_le_mul_left 6 (Nat.le_of_lt hn)⟩) ?_
  refine ruL_c (n := 37) (n2 := 38) rfl (ru_bot) ?_
  refine ruL_c (n := 38) (n2 := 39) rfl (ru_bot) ?_
  refine ruL_c (n := 39) (n2 := 40) rfl (ru_iretX hx hb hK hr hlocks dX5_cut_39 ⟨Nat.le_of_lt hn, Nat.mul_le_mul_left 6 (Nat.le_of_lt hn)⟩) ?_
  exact trivial

-- CueTour.lines
def f_X5_lines (σ : aM) : Option (Int32 × aM) := some (σ 1 3, σ)
def F_X5_lines : aF := fun As σ => match As with
  | [] => f_X5_lines σ
  | _ => none
def T_X5_lines (Qa : Int32 → aM → Prop) : List aI := [I_aload 0 1, I_getR 0 1, I_bot, I_bot, I_getI 1 3, I_bot, I_bot, I_iret Qa]
set_option maxHeartbeats 4000000 in
set_option maxRecDepth 100000 in
theorem s_X5_lines : runs T_X5_lines [.ref 0] 1 F_X5_lines := by
  intro Qa K hw hf As σ r σ' h hQ
  unfold F_X5_lines at h
  split at h
  · unfold f_X5_lines at h
    have hQ : Qa (r, σ').1 (r, σ').2 := hQ
    generalize (r, σ') = y at h hQ
    show K (0, [.ref 0], [], σ)
    obtain rfl := Option.some.inj h
    refine hw 4 _ ?_
    show Qa (σ 1 3) σ
    refine hQ
  · cases h
theorem h_X5_lines : shp [.ref 0] 1 F_X5_lines := by
  intro As σ r σ' h
  unfold F_X5_lines at h
  split at h
  · exact ⟨by simp [Value.category], Nat.le_of_ble_eq_true rfl⟩
  · cases h
set_option maxHeartbeats 4000000 in
set_option maxRecDepth 100000 in
theorem c_X5_lines (l : Launch) (D : va_G) (cI cZ cA cL : ClassId) (ad : Nat → Nat) (hi : adI ad) : CtI l yX5_lines wsX5_lines { frames := 0, cells := 0, slots := 0, locals := 0 } D cI cZ cA cL ad [.ref 0] F_X5_lines := by
  refine mk_I [.ref 0] F_X5_lines T_X5_lines (by decide +kernel) rfl ?_ h_X5_lines s_X5_lines
  intro p e s m args below meth c Qa ⟨hx, hb, hml, hown, hts, hr, hlocks, hK, hN⟩
  have hin5 : ∀ w ∈ u_ws RX5 TX5 8, w ∈ wsX5_lines := by decide +kernel
  have hl10 : (Cond.fieldLink RX5 10 RX5 (TX5 0).2.1 (TX5 0).2.2.1) ∈ wsX5_lines := by decide +kernel
  have hin4 : ∀ w ∈ u_ws RX4 TX4 4, w ∈ wsX5_lines := by decide +kernel
  have hl60 : (Cond.fieldLinkNest RX5 60 RX4 (TX4 3).2.1 (TX4 3).2.2.1 "CueTour") ∈ nwL := by decide +kernel
  refine ruL_c (n := 0) (n2 := 1) rfl (ru_aload_n (k := 0) hx hb dX5_lines_0) ?_
  refine ruL_c (n := 1) (n2 := 2) rfl (ru_getR (own := RX5) (j := 0) (T := TX5) hx hb hown hK hts hin5 (by decide) rfl rfl (by decide) rfl hl10 dX5_lines_1) ?_
  refine ruL_c (n := 2) (n2 := 3) rfl (ru_bot) ?_
  refine ruL_c (n := 3) (n2 := 4) rfl (ru_bot) ?_
  refine ruL_c (n := 4) (n2 := 5) rfl (ru_getIN (own := RX5) (j := 3) (T := TX4) hx hb hown hK hN hts hin4 (by decide) rfl rfl (by decide) rfl hl60 dX5_lines_4) ?_
  refine ruL_c (n := 5) (n2 := 6) rfl (ru_bot) ?_
  refine ruL_c (n := 6) (n2 := 7) rfl (ru_bot) ?_
  refine ruL_c (n := 7) (n2 := 8) rfl (ru_iret hx hb hK hr hlocks dX5_lines_7) ?_
  exact trivial

-- CueTour.startOf
def f_X5_startOf (p0 : Int32) (σ : aM) : Option (Nat × Int32 × aM) := bnX (f_X5_checkNumber p0 (σ 1 3) σ) (fun σ3 => if inb p0 30 = true then if (σ3 8 (ix p0)) = 0 then bnN (f_X4_secondsAhead p0 σ3) (fun r8 σ9 => some (0, r8, σ9)) else some (0, (-1), σ3) else none)
def F_X5_startOf : aFx := fun As σ => match As with
  | [.int p0] => f_X5_startOf p0 σ
  | _ => none
def T_X5_startOf : aTx := fun Qa Xa KN => [I_iload 1 1, I_aload 0 1, I_getR 0 1, I_bot, I_bot, I_getI 1 3, I_bot, I_bot, I_callX 2 F_X5_checkNumber KN Xa, I_bot, I_bot, I_aload 0 1, I_getR 0 1, I_bot, I_bot, I_getR 1 8, I_bot, I_bot, I_iload 1 1, I_zald, I_if (fun x => x = 0) 27, I_bot, I_bot, I_const (-1) 1, I_goto 35, I_bot, I_bot, I_aload 0 1, I_getR 0 1, I_bot, I_bot, I_iload 1 1, I_callV 1 1 F_X4_secondsAhead, I_bot, I_bot, I_iret Qa]
set_option maxHeartbeats 4000000 in
set_option maxRecDepth 100000 in
theorem s_X5_startOf : runsX T_X5_startOf 2 [.ref 0] 2 F_X5_startOf := by
  intro Qa Xa K hw hf As σ y h hQ hX
  unfold F_X5_startOf at h
  split at h
  · rename_i p0
    unfold f_X5_startOf at h
    show K 0 (0, [.ref 0, .int p0], [], σ)
    obtain ⟨e1, r2, σ3, q4, h⟩ := bnX_some h
    rcases h with ⟨c5, h⟩ | ⟨c5, h⟩
    · refine (hw 0 (by decide)) 5 _ ?_
      show ∃ e1 r2 σ3, f_X5_checkNumber p0 (σ 1 3) σ = some (e1, r2, σ3) ∧ (e1 = 0 → K 1 (11, [.ref 0, .int p0], [], σ3)) ∧ (¬ e1 = 0 → Xa e1 σ3)
      refine ⟨e1, r2, σ3, q4, fun _ => ?_, fun q => absurd c5 q⟩
      obtain ⟨g6, h⟩ := itX_some h
      rcases itX_cases h with ⟨c7, h⟩ | ⟨c7, h⟩
      · refine (hw 1 (by decide)) 6 _ ?_
        show kd 8 = 2 ∧ (inb p0 30 = true ∧ ((((σ3 8 (ix p0)) = 0) → K 1 (27, [.ref 0, .int p0], [], σ3)) ∧ (¬ ((σ3 8 (ix p0)) = 0) → K 1 (23, [.ref 0, .int p0], [], σ3))))
        refine ⟨rfl, g6, ⟨fun _ => ?_, fun q => absurd c7 q⟩⟩
        obtain ⟨r8, σ9, e10, h⟩ := bnN_some h
        refine (hw 1 (by decide)) 4 _ ?_
        show ∃ r8 σ9, f_X4_secondsAhead p0 σ3 = some (r8, σ9) ∧ K 1 (35, [.ref 0, .int p0], [.int r8], σ9)
        refine ⟨r8, σ9, e10, ?_⟩
        obtain rfl := Option.some.inj h
        refine (hw 1 (by decide)) 1 _ ?_
        show Qa r8 σ9
        refine hQ rfl
      · refine (hw 1 (by decide)) 6 _ ?_
        show kd 8 = 2 ∧ (inb p0 30 = true ∧ ((((σ3 8 (ix p0)) = 0) → K 1 (27, [.ref 0, .int p0], [], σ3)) ∧ (¬ ((σ3 8 (ix p0)) = 0) → K 1 (23, [.ref 0, .int p0], [], σ3))))
        refine ⟨rfl, g6, ⟨fun q => absurd q c7, fun _ => ?_⟩⟩
        obtain rfl := Option.some.inj h
        refine (hw 1 (by decide)) 3 _ ?_
        show Qa ((-1)) σ3
        refine hQ rfl
    · refine (hw 0 (by decide)) 5 _ ?_
      show ∃ e1 r2 σ3, f_X5_checkNumber p0 (σ 1 3) σ = some (e1, r2, σ3) ∧ (e1 = 0 → K 1 (11, [.ref 0, .int p0], [], σ3)) ∧ (¬ e1 = 0 → Xa e1 σ3)
      refine ⟨e1, r2, σ3, q4, fun q => absurd q c5, fun _ => ?_⟩
      subst h
      exact hX c5
  · cases h
theorem h_X5_startOf : shpX [.ref 0] 2 F_X5_startOf := by
  intro As σ y h
  unfold F_X5_startOf at h
  split at h
  · exact ⟨by simp [Value.category], Nat.le_of_ble_eq_true rfl⟩
  · cases h
set_option maxHeartbeats 4000000 in
set_option maxRecDepth 100000 in
theorem c_X5_startOf (l : Launch) (hl : l.stackTraces = false) (D : va_G) (cI cZ cA cL : ClassId) (ad sa : Nat → Nat) (hi : adI ad) : CtXi l yX5_startOf wsX5_startOf { frames := 7, cells := 2, slots := 12, locals := 103 } 2 D cI cZ cA cL ad sa [.ref 0] F_X5_startOf := by
  refine mk_Xi (mc := 2) [.ref 0] F_X5_startOf T_X5_startOf (by decide +kernel) rfl ?_ h_X5_startOf s_X5_startOf
  intro p e s m args below meth c Qa Xa ⟨⟨hx, hb, hml, hown, hts, hr, hlocks, hK, hN⟩, hX, hno⟩ n hn
  have hin5 : ∀ w ∈ u_ws RX5 TX5 8, w ∈ wsX5_startOf := by decide +kernel
  have hl10 : (Cond.fieldLink RX5 10 RX5 (TX5 0).2.1 (TX5 0).2.2.1) ∈ wsX5_startOf := by decide +kernel
  have hin4 : ∀ w ∈ u_ws RX4 TX4 4, w ∈ wsX5_startOf := by decide +kernel
  have hl60 : (Cond.fieldLinkNest RX5 60 RX4 (TX4 3).2.1 (TX4 3).2.2.1 "CueTour") ∈ nwL := by decide +kernel
  have hl78 : (Cond.fieldLinkNest RX5 78 RX4 (TX4 1).2.1 (TX4 1).2.2.1 "CueTour") ∈ nwL := by decide +kernel
  refine ruL_c (n := 0) (n2 := 1) rfl (ru_iload_n (k := 1) hx hb dX5_startOf_0) ?_
  refine ruL_c (n := 1) (n2 := 2) rfl (ru_aload_n (k := 0) hx hb dX5_startOf_1) ?_
  refine ruL_c (n := 2) (n2 := 3) rfl (ru_getR (own := RX5) (j := 0) (T := TX5) hx hb hown hK hts hin5 (by decide) rfl rfl (by decide) rfl hl10 dX5_startOf_2) ?_
  refine ruL_c (n := 3) (n2 := 4) rfl (ru_bot) ?_
  refine ruL_c (n := 4) (n2 := 5) rfl (ru_bot) ?_
  refine ruL_c (n := 5) (n2 := 6) rfl (ru_getIN (own := RX5) (j := 3) (T := TX4) hx hb hown hK hN hts hin4 (by decide) rfl rfl (by decide) rfl hl60 dX5_startOf_5) ?_
  refine ruL_c (n := 6) (n2 := 7) rfl (ru_bot) ?_
  refine ruL_c (n := 7) (n2 := 8) rfl (ru_bot) ?_
  refine ruL_c (n := 8) (n2 := 9) rfl (ru_callX hx hb hml hown hts hK hN hX hno hlocks (c_X5_checkNumber l hl D cI cZ cA cL ad sa hi) (va_cwS 2 hts gX5_startOf_X5_checkNumber rfl rfl rfl (by decide +kernel) ⟨Nat.le_of_ble_eq_true rfl, Nat.le_of_ble_eq_true rfl⟩) dX5_startOf_8 ⟨hn, Nat.mul_le_mul_left 6 hn⟩ ⟨hn, Nat.mul_le_mul_left 6 hn⟩) ?_
  refine ruL_c (n := 9) (n2 := 10) rfl (ru_bot) ?_
  refine ruL_c (n := 10) (n2 := 11) rfl (ru_bot) ?_
  refine ruL_c (n := 11) (n2 := 12) rfl (ru_aload_n (k := 0) hx hb dX5_startOf_11) ?_
  refine ruL_c (n := 12) (n2 := 13) rfl (ru_getR (own := RX5) (j := 0) (T := TX5) hx hb hown hK hts hin5 (by decide) rfl rfl (by decide) rfl hl10 dX5_startOf_12) ?_
  refine ruL_c (n := 13) (n2 := 14) rfl (ru_bot) ?_
  refine ruL_c (n := 14) (n2 := 15) rfl (ru_bot) ?_
  refine ruL_c (n := 15) (n2 := 16) rfl (ru_getRN (own := RX5) (j := 1) (T := TX4) hx hb hown hK hN hts hin4 (by decide) rfl rfl (by decide) rfl hl78 dX5_startOf_15) ?_
  refine ruL_c (n := 16) (n2 := 17) rfl (ru_bot) ?_
  refine ruL_c (n := 17) (n2 := 18) rfl (ru_bot) ?_
  refine ruL_c (n := 18) (n2 := 19) rfl (ru_iload_n (k := 1) hx hb dX5_startOf_18) ?_
  refine ruL_c (n := 19) (n2 := 20) rfl (ru_zald hx hb hK dX5_startOf_19) ?_
  refine ruL_c (n := 20) (n2 := 21) rfl (ru_ifeq hx hb dX5_startOf_20 (by decide)) ?_
  refine ruL_c (n := 21) (n2 := 22) rfl (ru_bot) ?_
  refine ruL_c (n := 22) (n2 := 23) rfl (ru_bot) ?_
  refine ruL_c (n := 23) (n2 := 24) rfl (ru_iconst hx hb dX5_startOf_23 rfl) ?_
  refine ruL_c (n := 24) (n2 := 25) rfl (ru_goto hx hb dX5_startOf_24 (by decide)) ?_
  refine ruL_c (n := 25) (n2 := 26) rfl (ru_bot) ?_
  refine ruL_c (n := 26) (n2 := 27) rfl (ru_bot) ?_
  refine ruL_c (n := 27) (n2 := 28) rfl (ru_aload_n (k := 0) hx hb dX5_startOf_27) ?_
  refine ruL_c (n := 28) (n2 := 29) rfl (ru_getR (own := RX5) (j := 0) (T := TX5) hx hb hown hK hts hin5 (by decide) rfl rfl (by decide) rfl hl10 dX5_startOf_28) ?_
  refine ruL_c (n := 29) (n2 := 30) rfl (ru_bot) ?_
  refine ruL_c (n := 30) (n2 := 31) rfl (ru_bot) ?_
  refine ruL_c (n := 31) (n2 := 32) rfl (ru_iload_n (k := 1) hx hb dX5_startOf_31) ?_
  refine ruL_c (n := 32) (n2 := 33) rfl (ru_callV hx hb hml hown hts hK hN (by decide) rfl (c_X4_secondsAhead l D cI cZ cA cL ad hi) (cwV 1 hts gX5_startOf_X4_secondsAhead rfl rfl rfl (by decide +kernel) ⟨Nat.le_of_ble_eq_true rfl, Nat.le_of_ble_eq_true rfl⟩) dX5_startOf_32 ⟨Nat.le_of_lt hn, Nat.mul_le_mul_left 6 (Nat.le_of_lt hn)⟩) ?_
  refine ruL_c (n := 33) (n2 := 34) rfl (ru_bot) ?_
  refine ruL_c (n := 34) (n2 := 35) rfl (ru_bot) ?_
  refine ruL_c (n := 35) (n2 := 36) rfl (ru_iretX hx hb hK hr hlocks dX5_startOf_35 ⟨Nat.le_of_lt hn, Nat.mul_le_mul_left 6 (Nat.le_of_lt hn)⟩) ?_
  exact trivial

-- CueTour.length
def f_X5_length (σ : aM) : Option (Int32 × aM) := bnd (f_X4_total σ) (fun r1 σ2 => some (r1, σ2))
def F_X5_length : aF := fun As σ => match As with
  | [] => f_X5_length σ
  | _ => none
def T_X5_length (Qa : Int32 → aM → Prop) : List aI := [I_aload 0 1, I_getR 0 1, I_bot, I_bot, I_callV 1 0 F_X4_total, I_bot, I_bot, I_iret Qa]
set_option maxHeartbeats 4000000 in
set_option maxRecDepth 100000 in
theorem s_X5_length : runs T_X5_length [.ref 0] 1 F_X5_length := by
  intro Qa K hw hf As σ r σ' h hQ
  unfold F_X5_length at h
  split at h
  · unfold f_X5_length at h
    have hQ : Qa (r, σ').1 (r, σ').2 := hQ
    generalize (r, σ') = y at h hQ
    show K (0, [.ref 0], [], σ)
    obtain ⟨r1, σ2, e3, h⟩ := bnd_some h
    refine hw 3 _ ?_
    show ∃ r1 σ2, f_X4_total σ = some (r1, σ2) ∧ K (7, [.ref 0], [.int r1], σ2)
    refine ⟨r1, σ2, e3, ?_⟩
    obtain rfl := Option.some.inj h
    refine hw 1 _ ?_
    show Qa r1 σ2
    refine hQ
  · cases h
theorem h_X5_length : shp [.ref 0] 1 F_X5_length := by
  intro As σ r σ' h
  unfold F_X5_length at h
  split at h
  · exact ⟨by simp [Value.category], Nat.le_of_ble_eq_true rfl⟩
  · cases h
set_option maxHeartbeats 4000000 in
set_option maxRecDepth 100000 in
theorem c_X5_length (l : Launch) (D : va_G) (cI cZ cA cL : ClassId) (ad : Nat → Nat) (hi : adI ad) : CtI l yX5_length wsX5_length { frames := 2, cells := 0, slots := 0, locals := 43 } D cI cZ cA cL ad [.ref 0] F_X5_length := by
  refine mk_I [.ref 0] F_X5_length T_X5_length (by decide +kernel) rfl ?_ h_X5_length s_X5_length
  intro p e s m args below meth c Qa ⟨hx, hb, hml, hown, hts, hr, hlocks, hK, hN⟩
  have hin5 : ∀ w ∈ u_ws RX5 TX5 8, w ∈ wsX5_length := by decide +kernel
  have hl10 : (Cond.fieldLink RX5 10 RX5 (TX5 0).2.1 (TX5 0).2.2.1) ∈ wsX5_length := by decide +kernel
  refine ruL_c (n := 0) (n2 := 1) rfl (ru_aload_n (k := 0) hx hb dX5_length_0) ?_
  refine ruL_c (n := 1) (n2 := 2) rfl (ru_getR (own := RX5) (j := 0) (T := TX5) hx hb hown hK hts hin5 (by decide) rfl rfl (by decide) rfl hl10 dX5_length_1) ?_
  refine ruL_c (n := 2) (n2 := 3) rfl (ru_bot) ?_
  refine ruL_c (n := 3) (n2 := 4) rfl (ru_bot) ?_
  refine ruL_c (n := 4) (n2 := 5) rfl (ru_callV hx hb hml hown hts hK hN (by decide) rfl (c_X4_total l D cI cZ cA cL ad hi) (cwV 0 hts gX5_length_X4_total rfl rfl rfl (by decide +kernel) ⟨Nat.le_of_ble_eq_true rfl, Nat.le_of_ble_eq_true rfl⟩) dX5_length_4 ⟨Nat.zero_le _, Nat.zero_le _⟩) ?_
  refine ruL_c (n := 5) (n2 := 6) rfl (ru_bot) ?_
  refine ruL_c (n := 6) (n2 := 7) rfl (ru_bot) ?_
  refine ruL_c (n := 7) (n2 := 8) rfl (ru_iret hx hb hK hr hlocks dX5_length_7) ?_
  exact trivial

-- CueTour.setChannel
def f_X5_setChannel (p0 : Int32) (p1 : Int32) (p2 : Int32) (σ : aM) : Option (Nat × Int32 × aM) := bnX (f_X5_checkNumber p0 10 σ) (fun σ3 => bnX (f_X5_checkNumber p1 4 σ3) (fun σ8 => bnX (f_X5_checkRange p2 0 2 σ8) (fun σ13 => if inb p0 10 = true then if inb p0 10 = true then if inb p0 10 = true then if inb p0 10 = true then some (0, (10 * (σ13 9 (ix p0))) + (σ13 10 (ix p0)), mput (mput σ13 9 (ix p0) p1) 10 (ix p0) p2) else none else none else none else none)))
def F_X5_setChannel : aFx := fun As σ => match As with
  | [.int p0, .int p1, .int p2] => f_X5_setChannel p0 p1 p2 σ
  | _ => none
def T_X5_setChannel : aTx := fun Qa Xa KN => [I_iload 1 1, I_const (10) 2, I_bot, I_callX 2 F_X5_checkNumber KN Xa, I_bot, I_bot, I_iload 2 1, I_const 4 1, I_callX 2 F_X5_checkNumber KN Xa, I_bot, I_bot, I_iload 3 1, I_const 0 1, I_const 2 1, I_callX 3 F_X5_checkRange KN Xa, I_bot, I_bot, I_const (10) 2, I_bot, I_aload 0 1, I_getR 0 2, I_bot, I_bot, I_getR 2 9, I_bot, I_bot, I_iload 1 1, I_iald, I_bin fun x y => x * y, I_aload 0 1, I_getR 0 2, I_bot, I_bot, I_getR 2 10, I_bot, I_bot, I_iload 1 1, I_iald, I_bin fun x y => x + y, I_istore 4 2, I_bot, I_aload 0 1, I_getR 0 2, I_bot, I_bot, I_getR 2 9, I_bot, I_bot, I_iload 1 1, I_iload 2 1, I_iast, I_aload 0 1, I_getR 0 2, I_bot, I_bot, I_getR 2 10, I_bot, I_bot, I_iload 1 1, I_iload 3 1, I_iast, I_iload 4 2, I_bot, I_iret Qa]
set_option maxHeartbeats 4000000 in
set_option maxRecDepth 100000 in
theorem s_X5_setChannel : runsX T_X5_setChannel 4 [.ref 0] 5 F_X5_setChannel := by
  intro Qa Xa K hw hf As σ y h hQ hX
  unfold F_X5_setChannel at h
  split at h
  · rename_i p0 p1 p2
    unfold f_X5_setChannel at h
    show K 0 (0, [.ref 0, .int p0, .int p1, .int p2, .null], [], σ)
    obtain ⟨e1, r2, σ3, q4, h⟩ := bnX_some h
    rcases h with ⟨c5, h⟩ | ⟨c5, h⟩
    · refine (hw 0 (by decide)) 3 _ ?_
      show ∃ e1 r2 σ3, f_X5_checkNumber p0 10 σ = some (e1, r2, σ3) ∧ (e1 = 0 → K 1 (6, [.ref 0, .int p0, .int p1, .int p2, .null], [], σ3)) ∧ (¬ e1 = 0 → Xa e1 σ3)
      refine ⟨e1, r2, σ3, q4, fun _ => ?_, fun q => absurd c5 q⟩
      obtain ⟨e6, r7, σ8, q9, h⟩ := bnX_some h
      rcases h with ⟨c10, h⟩ | ⟨c10, h⟩
      · refine (hw 1 (by decide)) 3 _ ?_
        show ∃ e6 r7 σ8, f_X5_checkNumber p1 4 σ3 = some (e6, r7, σ8) ∧ (e6 = 0 → K 2 (11, [.ref 0, .int p0, .int p1, .int p2, .null], [], σ8)) ∧ (¬ e6 = 0 → Xa e6 σ8)
        refine ⟨e6, r7, σ8, q9, fun _ => ?_, fun q => absurd c10 q⟩
        obtain ⟨e11, r12, σ13, q14, h⟩ := bnX_some h
        rcases h with ⟨c15, h⟩ | ⟨c15, h⟩
        · refine (hw 2 (by decide)) 4 _ ?_
          show ∃ e11 r12 σ13, f_X5_checkRange p2 0 2 σ8 = some (e11, r12, σ13) ∧ (e11 = 0 → K 3 (17, [.ref 0, .int p0, .int p1, .int p2, .null], [], σ13)) ∧ (¬ e11 = 0 → Xa e11 σ13)
          refine ⟨e11, r12, σ13, q14, fun _ => ?_, fun q => absurd c15 q⟩
          obtain ⟨g16, h⟩ := itX_some h
          obtain ⟨g17, h⟩ := itX_some h
          obtain ⟨g18, h⟩ := itX_some h
          obtain ⟨g19, h⟩ := itX_some h
          obtain rfl := Option.some.inj h
          refine (hw 3 (by decide)) 28 _ ?_
          show kd 9 = 1 ∧ (inb p0 10 = true ∧ (kd 10 = 1 ∧ (inb p0 10 = true ∧ (kd 9 = 1 ∧ (inb p0 10 = true ∧ (kd 10 = 1 ∧ (inb p0 10 = true ∧ (Qa ((10 * (σ13 9 (ix p0))) + (σ13 10 (ix p0))) (mput (mput σ13 9 (ix p0) p1) 10 (ix p0) p2)))))))))
          refine ⟨rfl, g16, rfl, g17, rfl, g18, rfl, g19, (hQ rfl)⟩
        · refine (hw 2 (by decide)) 4 _ ?_
          show ∃ e11 r12 σ13, f_X5_checkRange p2 0 2 σ8 = some (e11, r12, σ13) ∧ (e11 = 0 → K 3 (17, [.ref 0, .int p0, .int p1, .int p2, .null], [], σ13)) ∧ (¬ e11 = 0 → Xa e11 σ13)
          refine ⟨e11, r12, σ13, q14, fun q => absurd q c15, fun _ => ?_⟩
          subst h
          exact hX c15
      · refine (hw 1 (by decide)) 3 _ ?_
        show ∃ e6 r7 σ8, f_X5_checkNumber p1 4 σ3 = some (e6, r7, σ8) ∧ (e6 = 0 → K 2 (11, [.ref 0, .int p0, .int p1, .int p2, .null], [], σ8)) ∧ (¬ e6 = 0 → Xa e6 σ8)
        refine ⟨e6, r7, σ8, q9, fun q => absurd q c10, fun _ => ?_⟩
        subst h
        exact hX c10
    · refine (hw 0 (by decide)) 3 _ ?_
      show ∃ e1 r2 σ3, f_X5_checkNumber p0 10 σ = some (e1, r2, σ3) ∧ (e1 = 0 → K 1 (6, [.ref 0, .int p0, .int p1, .int p2, .null], [], σ3)) ∧ (¬ e1 = 0 → Xa e1 σ3)
      refine ⟨e1, r2, σ3, q4, fun q => absurd q c5, fun _ => ?_⟩
      subst h
      exact hX c5
  · cases h
theorem h_X5_setChannel : shpX [.ref 0] 5 F_X5_setChannel := by
  intro As σ y h
  unfold F_X5_setChannel at h
  split at h
  · exact ⟨by simp [Value.category], Nat.le_of_ble_eq_true rfl⟩
  · cases h
set_option maxHeartbeats 4000000 in
set_option maxRecDepth 100000 in
theorem c_X5_setChannel (l : Launch) (hl : l.stackTraces = false) (D : va_G) (cI cZ cA cL : ClassId) (ad sa : Nat → Nat) (hi : adI ad) : CtXi l yX5_setChannel wsX5_setChannel { frames := 7, cells := 4, slots := 24, locals := 104 } 4 D cI cZ cA cL ad sa [.ref 0] F_X5_setChannel := by
  refine mk_Xi (mc := 4) [.ref 0] F_X5_setChannel T_X5_setChannel (by decide +kernel) rfl ?_ h_X5_setChannel s_X5_setChannel
  intro p e s m args below meth c Qa Xa ⟨⟨hx, hb, hml, hown, hts, hr, hlocks, hK, hN⟩, hX, hno⟩ n hn
  have hin5 : ∀ w ∈ u_ws RX5 TX5 8, w ∈ wsX5_setChannel := by decide +kernel
  have hl19 : (Cond.fieldLink RX5 19 RX5 (TX5 1).2.1 (TX5 1).2.2.1) ∈ wsX5_setChannel := by decide +kernel
  have hin2 : ∀ w ∈ u_ws RX2 TX2 2, w ∈ wsX5_setChannel := by decide +kernel
  have hl93 : (Cond.fieldLinkNest RX5 93 RX2 (TX2 0).2.1 (TX2 0).2.2.1 "CueTour") ∈ nwL := by decide +kernel
  have hl96 : (Cond.fieldLinkNest RX5 96 RX2 (TX2 1).2.1 (TX2 1).2.2.1 "CueTour") ∈ nwL := by decide +kernel
  refine ruL_c (n := 0) (n2 := 1) rfl (ru_iload_n (k := 1) hx hb dX5_setChannel_0) ?_
  refine ruL_c (n := 1) (n2 := 2) rfl (ru_bipush hx hb dX5_setChannel_1 rfl) ?_
  refine ruL_c (n := 2) (n2 := 3) rfl (ru_bot) ?_
  refine ruL_c (n := 3) (n2 := 4) rfl (ru_callX hx hb hml hown hts hK hN hX hno hlocks (c_X5_checkNumber l hl D cI cZ cA cL ad sa hi) (va_cwS 2 hts gX5_setChannel_X5_checkNumber rfl rfl rfl (by decide +kernel) ⟨Nat.le_of_ble_eq_true rfl, Nat.le_of_ble_eq_true rfl⟩) dX5_setChannel_3 ⟨hn, Nat.mul_le_mul_left 6 hn⟩ ⟨hn, Nat.mul_le_mul_left 6 hn⟩) ?_
  refine ruL_c (n := 4) (n2 := 5) rfl (ru_bot) ?_
  refine ruL_c (n := 5) (n2 := 6) rfl (ru_bot) ?_
  refine ruL_c (n := 6) (n2 := 7) rfl (ru_iload_n (k := 2) hx hb dX5_setChannel_6) ?_
  refine ruL_c (n := 7) (n2 := 8) rfl (ru_iconst hx hb dX5_setChannel_7 rfl) ?_
  refine ruL_c (n := 8) (n2 := 9) rfl (ru_callX hx hb hml hown hts hK hN hX hno hlocks (c_X5_checkNumber l hl D cI cZ cA cL ad sa hi) (va_cwS 2 hts gX5_setChannel_X5_checkNumber rfl rfl rfl (by decide +kernel) ⟨Nat.le_of_ble_eq_true rfl, Nat.le_of_ble_eq_true rfl⟩) dX5_setChannel_8 ⟨hn, Nat.mul_le_mul_left 6 hn⟩ ⟨hn, Nat.mul_le_mul_left 6 hn⟩) ?_
  refine ruL_c (n := 9) (n2 := 10) rfl (ru_bot) ?_
  refine ruL_c (n := 10) (n2 := 11) rfl (ru_bot) ?_
  refine ruL_c (n := 11) (n2 := 12) rfl (ru_iload_n (k := 3) hx hb dX5_setChannel_11) ?_
  refine ruL_c (n := 12) (n2 := 13) rfl (ru_iconst hx hb dX5_setChannel_12 rfl) ?_
  refine ruL_c (n := 13) (n2 := 14) rfl (ru_iconst hx hb dX5_setChannel_13 rfl) ?_
  refine ruL_c (n := 14) (n2 := 15) rfl (ru_callX hx hb hml hown hts hK hN hX hno hlocks (c_X5_checkRange l hl D cI cZ cA cL ad sa hi) (va_cwS 3 hts gX5_setChannel_X5_checkRange rfl rfl rfl (by decide +kernel) ⟨Nat.le_of_ble_eq_true rfl, Nat.le_of_ble_eq_true rfl⟩) dX5_setChannel_14 ⟨hn, Nat.mul_le_mul_left 6 hn⟩ ⟨hn, Nat.mul_le_mul_left 6 hn⟩) ?_
  refine ruL_c (n := 15) (n2 := 16) rfl (ru_bot) ?_
  refine ruL_c (n := 16) (n2 := 17) rfl (ru_bot) ?_
  refine ruL_c (n := 17) (n2 := 18) rfl (ru_bipush hx hb dX5_setChannel_17 rfl) ?_
  refine ruL_c (n := 18) (n2 := 19) rfl (ru_bot) ?_
  refine ruL_c (n := 19) (n2 := 20) rfl (ru_aload_n (k := 0) hx hb dX5_setChannel_19) ?_
  refine ruL_c (n := 20) (n2 := 21) rfl (ru_getR (own := RX5) (j := 1) (T := TX5) hx hb hown hK hts hin5 (by decide) rfl rfl (by decide) rfl hl19 dX5_setChannel_20) ?_
  refine ruL_c (n := 21) (n2 := 22) rfl (ru_bot) ?_
  refine ruL_c (n := 22) (n2 := 23) rfl (ru_bot) ?_
  refine ruL_c (n := 23) (n2 := 24) rfl (ru_getRN (own := RX5) (j := 0) (T := TX2) hx hb hown hK hN hts hin2 (by decide) rfl rfl (by decide) rfl hl93 dX5_setChannel_23) ?_
  refine ruL_c (n := 24) (n2 := 25) rfl (ru_bot) ?_
  refine ruL_c (n := 25) (n2 := 26) rfl (ru_bot) ?_
  refine ruL_c (n := 26) (n2 := 27) rfl (ru_iload_n (k := 1) hx hb dX5_setChannel_26) ?_
  refine ruL_c (n := 27) (n2 := 28) rfl (ru_iald hx hb hK dX5_setChannel_27) ?_
  refine ruL_c (n := 28) (n2 := 29) rfl (ru_imul hx hb dX5_setChannel_28) ?_
  refine ruL_c (n := 29) (n2 := 30) rfl (ru_aload_n (k := 0) hx hb dX5_setChannel_29) ?_
  refine ruL_c (n := 30) (n2 := 31) rfl (ru_getR (own := RX5) (j := 1) (T := TX5) hx hb hown hK hts hin5 (by decide) rfl rfl (by decide) rfl hl19 dX5_setChannel_30) ?_
  refine ruL_c (n := 31) (n2 := 32) rfl (ru_bot) ?_
  refine ruL_c (n := 32) (n2 := 33) rfl (ru_bot) ?_
  refine ruL_c (n := 33) (n2 := 34) rfl (ru_getRN (own := RX5) (j := 1) (T := TX2) hx hb hown hK hN hts hin2 (by decide) rfl rfl (by decide) rfl hl96 dX5_setChannel_33) ?_
  refine ruL_c (n := 34) (n2 := 35) rfl (ru_bot) ?_
  refine ruL_c (n := 35) (n2 := 36) rfl (ru_bot) ?_
  refine ruL_c (n := 36) (n2 := 37) rfl (ru_iload_n (k := 1) hx hb dX5_setChannel_36) ?_
  refine ruL_c (n := 37) (n2 := 38) rfl (ru_iald hx hb hK dX5_setChannel_37) ?_
  refine ruL_c (n := 38) (n2 := 39) rfl (ru_iadd hx hb dX5_setChannel_38) ?_
  refine ruL_c (n := 39) (n2 := 40) rfl (ru_istore hx hb dX5_setChannel_39) ?_
  refine ruL_c (n := 40) (n2 := 41) rfl (ru_bot) ?_
  refine ruL_c (n := 41) (n2 := 42) rfl (ru_aload_n (k := 0) hx hb dX5_setChannel_41) ?_
  refine ruL_c (n := 42) (n2 := 43) rfl (ru_getR (own := RX5) (j := 1) (T := TX5) hx hb hown hK hts hin5 (by decide) rfl rfl (by decide) rfl hl19 dX5_setChannel_42) ?_
  refine ruL_c (n := 43) (n2 := 44) rfl (ru_bot) ?_
  refine ruL_c (n := 44) (n2 := 45) rfl (ru_bot) ?_
  refine ruL_c (n := 45) (n2 := 46) rfl (ru_getRN (own := RX5) (j := 0) (T := TX2) hx hb hown hK hN hts hin2 (by decide) rfl rfl (by decide) rfl hl93 dX5_setChannel_45) ?_
  refine ruL_c (n := 46) (n2 := 47) rfl (ru_bot) ?_
  refine ruL_c (n := 47) (n2 := 48) rfl (ru_bot) ?_
  refine ruL_c (n := 48) (n2 := 49) rfl (ru_iload_n (k := 1) hx hb dX5_setChannel_48) ?_
  refine ruL_c (n := 49) (n2 := 50) rfl (ru_iload_n (k := 2) hx hb dX5_setChannel_49) ?_
  refine ruL_c (n := 50) (n2 := 51) rfl (ru_iast hx hb hK hi dX5_setChannel_50) ?_
  refine ruL_c (n := 51) (n2 := 52) rfl (ru_aload_n (k := 0) hx hb dX5_setChannel_51) ?_
  refine ruL_c (n := 52) (n2 := 53) rfl (ru_getR (own := RX5) (j := 1) (T := TX5) hx hb hown hK hts hin5 (by decide) rfl rfl (by decide) rfl hl19 dX5_setChannel_52) ?_
  refine ruL_c (n := 53) (n2 := 54) rfl (ru_bot) ?_
  refine ruL_c (n := 54) (n2 := 55) rfl (ru_bot) ?_
  refine ruL_c (n := 55) (n2 := 56) rfl (ru_getRN (own := RX5) (j := 1) (T := TX2) hx hb hown hK hN hts hin2 (by decide) rfl rfl (by decide) rfl hl96 dX5_setChannel_55) ?_
  refine ruL_c (n := 56) (n2 := 57) rfl (ru_bot) ?_
  refine ruL_c (n := 57) (n2 := 58) rfl (ru_bot) ?_
  refine ruL_c (n := 58) (n2 := 59) rfl (ru_iload_n (k := 1) hx hb dX5_setChannel_58) ?_
  refine ruL_c (n := 59) (n2 := 60) rfl (ru_iload_n (k := 3) hx hb dX5_setChannel_59) ?_
  refine ruL_c (n := 60) (n2 := 61) rfl (ru_iast hx hb hK hi dX5_setChannel_60) ?_
  refine ruL_c (n := 61) (n2 := 62) rfl (ru_iload hx hb dX5_setChannel_61) ?_
  refine ruL_c (n := 62) (n2 := 63) rfl (ru_bot) ?_
  refine ruL_c (n := 63) (n2 := 64) rfl (ru_iretX hx hb hK hr hlocks dX5_setChannel_63 ⟨Nat.le_of_lt hn, Nat.mul_le_mul_left 6 (Nat.le_of_lt hn)⟩) ?_
  exact trivial

-- CueTour.addCue
def f_X5_addCue (p0 : Int32) (p1 : Int32) (p2 : Int32) (σ : aM) : Option (Nat × Int32 × aM) := bnX (f_X5_checkNumber p0 (σ 1 3) σ) (fun σ3 => bnX (f_X5_checkRange p1 0 60 σ3) (fun σ8 => bnX (f_X5_checkRange p2 0 60 σ8) (fun σ13 => bnX (f_X5_checkRoom (σ13 3 4) 20 σ13) (fun σ18 => bnN (f_X1_append σ18) (fun r21 σ22 => bnN (f_X1_place r21 p0 p1 p2 σ22) (fun r24 σ25 => bnN (f_X1_arrange σ25) (fun r27 σ28 => some (0, r21, σ28))))))))
def F_X5_addCue : aFx := fun As σ => match As with
  | [.int p0, .int p1, .int p2] => f_X5_addCue p0 p1 p2 σ
  | _ => none
def T_X5_addCue : aTx := fun Qa Xa KN => [I_iload 1 1, I_aload 0 1, I_getR 0 1, I_bot, I_bot, I_getI 1 3, I_bot, I_bot, I_callX 2 F_X5_checkNumber KN Xa, I_bot, I_bot, I_iload 2 1, I_const 0 1, I_const (60) 2, I_bot, I_callX 3 F_X5_checkRange KN Xa, I_bot, I_bot, I_iload 3 1, I_const 0 1, I_const (60) 2, I_bot, I_callX 3 F_X5_checkRange KN Xa, I_bot, I_bot, I_aload 0 1, I_getR 0 3, I_bot, I_bot, I_getI 3 4, I_bot, I_bot, I_const (20) 2, I_bot, I_callX 2 F_X5_checkRoom KN Xa, I_bot, I_bot, I_aload 0 1, I_getR 0 3, I_bot, I_bot, I_callV 3 0 F_X1_append, I_bot, I_bot, I_istore 4 2, I_bot, I_aload 0 1, I_getR 0 3, I_bot, I_bot, I_iload 4 2, I_bot, I_iload 1 1, I_iload 2 1, I_iload 3 1, I_callVv 3 4 F_X1_place, I_bot, I_bot, I_aload 0 1, I_getR 0 3, I_bot, I_bot, I_aload 0 1, I_getR 0 1, I_bot, I_bot, I_callVv 3 1 F_X1_arrange, I_bot, I_bot, I_iload 4 2, I_bot, I_iret Qa]
set_option maxHeartbeats 4000000 in
set_option maxRecDepth 100000 in
theorem s_X5_addCue : runsX T_X5_addCue 5 [.ref 0] 5 F_X5_addCue := by
  intro Qa Xa K hw hf As σ y h hQ hX
  unfold F_X5_addCue at h
  split at h
  · rename_i p0 p1 p2
    unfold f_X5_addCue at h
    show K 0 (0, [.ref 0, .int p0, .int p1, .int p2, .null], [], σ)
    obtain ⟨e1, r2, σ3, q4, h⟩ := bnX_some h
    rcases h with ⟨c5, h⟩ | ⟨c5, h⟩
    · refine (hw 0 (by decide)) 5 _ ?_
      show ∃ e1 r2 σ3, f_X5_checkNumber p0 (σ 1 3) σ = some (e1, r2, σ3) ∧ (e1 = 0 → K 1 (11, [.ref 0, .int p0, .int p1, .int p2, .null], [], σ3)) ∧ (¬ e1 = 0 → Xa e1 σ3)
      refine ⟨e1, r2, σ3, q4, fun _ => ?_, fun q => absurd c5 q⟩
      obtain ⟨e6, r7, σ8, q9, h⟩ := bnX_some h
      rcases h with ⟨c10, h⟩ | ⟨c10, h⟩
      · refine (hw 1 (by decide)) 4 _ ?_
        show ∃ e6 r7 σ8, f_X5_checkRange p1 0 60 σ3 = some (e6, r7, σ8) ∧ (e6 = 0 → K 2 (18, [.ref 0, .int p0, .int p1, .int p2, .null], [], σ8)) ∧ (¬ e6 = 0 → Xa e6 σ8)
        refine ⟨e6, r7, σ8, q9, fun _ => ?_, fun q => absurd c10 q⟩
        obtain ⟨e11, r12, σ13, q14, h⟩ := bnX_some h
        rcases h with ⟨c15, h⟩ | ⟨c15, h⟩
        · refine (hw 2 (by decide)) 4 _ ?_
          show ∃ e11 r12 σ13, f_X5_checkRange p2 0 60 σ8 = some (e11, r12, σ13) ∧ (e11 = 0 → K 3 (25, [.ref 0, .int p0, .int p1, .int p2, .null], [], σ13)) ∧ (¬ e11 = 0 → Xa e11 σ13)
          refine ⟨e11, r12, σ13, q14, fun _ => ?_, fun q => absurd c15 q⟩
          obtain ⟨e16, r17, σ18, q19, h⟩ := bnX_some h
          rcases h with ⟨c20, h⟩ | ⟨c20, h⟩
          · refine (hw 3 (by decide)) 5 _ ?_
            show ∃ e16 r17 σ18, f_X5_checkRoom (σ13 3 4) 20 σ13 = some (e16, r17, σ18) ∧ (e16 = 0 → K 4 (37, [.ref 0, .int p0, .int p1, .int p2, .null], [], σ18)) ∧ (¬ e16 = 0 → Xa e16 σ18)
            refine ⟨e16, r17, σ18, q19, fun _ => ?_, fun q => absurd c20 q⟩
            obtain ⟨r21, σ22, e23, h⟩ := bnN_some h
            refine (hw 4 (by decide)) 3 _ ?_
            show ∃ r21 σ22, f_X1_append σ18 = some (r21, σ22) ∧ K 4 (44, [.ref 0, .int p0, .int p1, .int p2, .null], [.int r21], σ22)
            refine ⟨r21, σ22, e23, ?_⟩
            obtain ⟨r24, σ25, e26, h⟩ := bnN_some h
            refine (hw 4 (by decide)) 8 _ ?_
            show ∃ r24 σ25, f_X1_place r21 p0 p1 p2 σ22 = some (r24, σ25) ∧ K 4 (58, [.ref 0, .int p0, .int p1, .int p2, .int r21], [], σ25)
            refine ⟨r24, σ25, e26, ?_⟩
            obtain ⟨r27, σ28, e29, h⟩ := bnN_some h
            refine (hw 4 (by decide)) 5 _ ?_
            show ∃ r27 σ28, f_X1_arrange σ25 = some (r27, σ28) ∧ K 4 (69, [.ref 0, .int p0, .int p1, .int p2, .int r21], [], σ28)
            refine ⟨r27, σ28, e29, ?_⟩
            obtain rfl := Option.some.inj h
            refine (hw 4 (by decide)) 2 _ ?_
            show Qa r21 σ28
            refine hQ rfl
          · refine (hw 3 (by decide)) 5 _ ?_
            show ∃ e16 r17 σ18, f_X5_checkRoom (σ13 3 4) 20 σ13 = some (e16, r17, σ18) ∧ (e16 = 0 → K 4 (37, [.ref 0, .int p0, .int p1, .int p2, .null], [], σ18)) ∧ (¬ e16 = 0 → Xa e16 σ18)
            refine ⟨e16, r17, σ18, q19, fun q => absurd q c20, fun _ => ?_⟩
            subst h
            exact hX c20
        · refine (hw 2 (by decide)) 4 _ ?_
          show ∃ e11 r12 σ13, f_X5_checkRange p2 0 60 σ8 = some (e11, r12, σ13) ∧ (e11 = 0 → K 3 (25, [.ref 0, .int p0, .int p1, .int p2, .null], [], σ13)) ∧ (¬ e11 = 0 → Xa e11 σ13)
          refine ⟨e11, r12, σ13, q14, fun q => absurd q c15, fun _ => ?_⟩
          subst h
          exact hX c15
      · refine (hw 1 (by decide)) 4 _ ?_
        show ∃ e6 r7 σ8, f_X5_checkRange p1 0 60 σ3 = some (e6, r7, σ8) ∧ (e6 = 0 → K 2 (18, [.ref 0, .int p0, .int p1, .int p2, .null], [], σ8)) ∧ (¬ e6 = 0 → Xa e6 σ8)
        refine ⟨e6, r7, σ8, q9, fun q => absurd q c10, fun _ => ?_⟩
        subst h
        exact hX c10
    · refine (hw 0 (by decide)) 5 _ ?_
      show ∃ e1 r2 σ3, f_X5_checkNumber p0 (σ 1 3) σ = some (e1, r2, σ3) ∧ (e1 = 0 → K 1 (11, [.ref 0, .int p0, .int p1, .int p2, .null], [], σ3)) ∧ (¬ e1 = 0 → Xa e1 σ3)
      refine ⟨e1, r2, σ3, q4, fun q => absurd q c5, fun _ => ?_⟩
      subst h
      exact hX c5
  · cases h
theorem h_X5_addCue : shpX [.ref 0] 5 F_X5_addCue := by
  intro As σ y h
  unfold F_X5_addCue at h
  split at h
  · exact ⟨by simp [Value.category], Nat.le_of_ble_eq_true rfl⟩
  · cases h
set_option maxHeartbeats 4000000 in
set_option maxRecDepth 100000 in
theorem c_X5_addCue (l : Launch) (hl : l.stackTraces = false) (D : va_G) (cI cZ cA cL : ClassId) (ad sa : Nat → Nat) (hi : adI ad) : CtXi l yX5_addCue wsX5_addCue { frames := 7, cells := 5, slots := 30, locals := 104 } 5 D cI cZ cA cL ad sa [.ref 0] F_X5_addCue := by
  refine mk_Xi (mc := 5) [.ref 0] F_X5_addCue T_X5_addCue (by decide +kernel) rfl ?_ h_X5_addCue s_X5_addCue
  intro p e s m args below meth c Qa Xa ⟨⟨hx, hb, hml, hown, hts, hr, hlocks, hK, hN⟩, hX, hno⟩ n hn
  have hin5 : ∀ w ∈ u_ws RX5 TX5 8, w ∈ wsX5_addCue := by decide +kernel
  have hl10 : (Cond.fieldLink RX5 10 RX5 (TX5 0).2.1 (TX5 0).2.2.1) ∈ wsX5_addCue := by decide +kernel
  have hin4 : ∀ w ∈ u_ws RX4 TX4 4, w ∈ wsX5_addCue := by decide +kernel
  have hl60 : (Cond.fieldLinkNest RX5 60 RX4 (TX4 3).2.1 (TX4 3).2.2.1 "CueTour") ∈ nwL := by decide +kernel
  have hl26 : (Cond.fieldLink RX5 26 RX5 (TX5 2).2.1 (TX5 2).2.2.1) ∈ wsX5_addCue := by decide +kernel
  have hin1 : ∀ w ∈ u_ws RX1 TX1 11, w ∈ wsX5_addCue := by decide +kernel
  have hl99 : (Cond.fieldLinkNest RX5 99 RX1 (TX1 4).2.1 (TX1 4).2.2.1 "CueTour") ∈ nwL := by decide +kernel
  refine ruL_c (n := 0) (n2 := 1) rfl (ru_iload_n (k := 1) hx hb dX5_addCue_0) ?_
  refine ruL_c (n := 1) (n2 := 2) rfl (ru_aload_n (k := 0) hx hb dX5_addCue_1) ?_
  refine ruL_c (n := 2) (n2 := 3) rfl (ru_getR (own := RX5) (j := 0) (T := TX5) hx hb hown hK hts hin5 (by decide) rfl rfl (by decide) rfl hl10 dX5_addCue_2) ?_
  refine ruL_c (n := 3) (n2 := 4) rfl (ru_bot) ?_
  refine ruL_c (n := 4) (n2 := 5) rfl (ru_bot) ?_
  refine ruL_c (n := 5) (n2 := 6) rfl (ru_getIN (own := RX5) (j := 3) (T := TX4) hx hb hown hK hN hts hin4 (by decide) rfl rfl (by decide) rfl hl60 dX5_addCue_5) ?_
  refine ruL_c (n := 6) (n2 := 7) rfl (ru_bot) ?_
  refine ruL_c (n := 7) (n2 := 8) rfl (ru_bot) ?_
  refine ruL_c (n := 8) (n2 := 9) rfl (ru_callX hx hb hml hown hts hK hN hX hno hlocks (c_X5_checkNumber l hl D cI cZ cA cL ad sa hi) (va_cwS 2 hts gX5_addCue_X5_checkNumber rfl rfl rfl (by decide +kernel) ⟨Nat.le_of_ble_eq_true rfl, Nat.le_of_ble_eq_true rfl⟩) dX5_addCue_8 ⟨hn, Nat.mul_le_mul_left 6 hn⟩ ⟨hn, Nat.mul_le_mul_left 6 hn⟩) ?_
  refine ruL_c (n := 9) (n2 := 10) rfl (ru_bot) ?_
  refine ruL_c (n := 10) (n2 := 11) rfl (ru_bot) ?_
  refine ruL_c (n := 11) (n2 := 12) rfl (ru_iload_n (k := 2) hx hb dX5_addCue_11) ?_
  refine ruL_c (n := 12) (n2 := 13) rfl (ru_iconst hx hb dX5_addCue_12 rfl) ?_
  refine ruL_c (n := 13) (n2 := 14) rfl (ru_bipush hx hb dX5_addCue_13 rfl) ?_
  refine ruL_c (n := 14) (n2 := 15) rfl (ru_bot) ?_
  refine ruL_c (n := 15) (n2 := 16) rfl (ru_callX hx hb hml hown hts hK hN hX hno hlocks (c_X5_checkRange l hl D cI cZ cA cL ad sa hi) (va_cwS 3 hts gX5_addCue_X5_checkRange rfl rfl rfl (by decide +kernel) ⟨Nat.le_of_ble_eq_true rfl, Nat.le_of_ble_eq_true rfl⟩) dX5_addCue_15 ⟨hn, Nat.mul_le_mul_left 6 hn⟩ ⟨hn, Nat.mul_le_mul_left 6 hn⟩) ?_
  refine ruL_c (n := 16) (n2 := 17) rfl (ru_bot) ?_
  refine ruL_c (n := 17) (n2 := 18) rfl (ru_bot) ?_
  refine ruL_c (n := 18) (n2 := 19) rfl (ru_iload_n (k := 3) hx hb dX5_addCue_18) ?_
  refine ruL_c (n := 19) (n2 := 20) rfl (ru_iconst hx hb dX5_addCue_19 rfl) ?_
  refine ruL_c (n := 20) (n2 := 21) rfl (ru_bipush hx hb dX5_addCue_20 rfl) ?_
  refine ruL_c (n := 21) (n2 := 22) rfl (ru_bot) ?_
  refine ruL_c (n := 22) (n2 := 23) rfl (ru_callX hx hb hml hown hts hK hN hX hno hlocks (c_X5_checkRange l hl D cI cZ cA cL ad sa hi) (va_cwS 3 hts gX5_addCue_X5_checkRange rfl rfl rfl (by decide +kernel) ⟨Nat.le_of_ble_eq_true rfl, Nat.le_of_ble_eq_true rfl⟩) dX5_addCue_22 ⟨hn, Nat.mul_le_mul_left 6 hn⟩ ⟨hn, Nat.mul_le_mul_left 6 hn⟩) ?_
  refine ruL_c (n := 23) (n2 := 24) rfl (ru_bot) ?_
  refine ruL_c (n := 24) (n2 := 25) rfl (ru_bot) ?_
  refine ruL_c (n := 25) (n2 := 26) rfl (ru_aload_n (k := 0) hx hb dX5_addCue_25) ?_
  refine ruL_c (n := 26) (n2 := 27) rfl (ru_getR (own := RX5) (j := 2) (T := TX5) hx hb hown hK hts hin5 (by decide) rfl rfl (by decide) rfl hl26 dX5_addCue_26) ?_
  refine ruL_c (n := 27) (n2 := 28) rfl (ru_bot) ?_
  refine ruL_c (n := 28) (n2 := 29) rfl (ru_bot) ?_
  refine ruL_c (n := 29) (n2 := 30) rfl (ru_getIN (own := RX5) (j := 4) (T := TX1) hx hb hown hK hN hts hin1 (by decide) rfl rfl (by decide) rfl hl99 dX5_addCue_29) ?_
  refine ruL_c (n := 30) (n2 := 31) rfl (ru_bot) ?_
  refine ruL_c (n := 31) (n2 := 32) rfl (ru_bot) ?_
  refine ruL_c (n := 32) (n2 := 33) rfl (ru_bipush hx hb dX5_addCue_32 rfl) ?_
  refine ruL_c (n := 33) (n2 := 34) rfl (ru_bot) ?_
  refine ruL_c (n := 34) (n2 := 35) rfl (ru_callX hx hb hml hown hts hK hN hX hno hlocks (c_X5_checkRoom l hl D cI cZ cA cL ad sa hi) (va_cwS 2 hts gX5_addCue_X5_checkRoom rfl rfl rfl (by decide +kernel) ⟨Nat.le_of_ble_eq_true rfl, Nat.le_of_ble_eq_true rfl⟩) dX5_addCue_34 ⟨hn, Nat.mul_le_mul_left 6 hn⟩ ⟨hn, Nat.mul_le_mul_left 6 hn⟩) ?_
  refine ruL_c (n := 35) (n2 := 36) rfl (ru_bot) ?_
  refine ruL_c (n := 36) (n2 := 37) rfl (ru_bot) ?_
  refine ruL_c (n := 37) (n2 := 38) rfl (ru_aload_n (k := 0) hx hb dX5_addCue_37) ?_
  refine ruL_c (n := 38) (n2 := 39) rfl (ru_getR (own := RX5) (j := 2) (T := TX5) hx hb hown hK hts hin5 (by decide) rfl rfl (by decide) rfl hl26 dX5_addCue_38) ?_
  refine ruL_c (n := 39) (n2 := 40) rfl (ru_bot) ?_
  refine ruL_c (n := 40) (n2 := 41) rfl (ru_bot) ?_
  refine ruL_c (n := 41) (n2 := 42) rfl (ru_callV hx hb hml hown hts hK hN (by decide) rfl (c_X1_append l D cI cZ cA cL ad hi) (cwV 0 hts gX5_addCue_X1_append rfl rfl rfl (by decide +kernel) ⟨Nat.le_of_ble_eq_true rfl, Nat.le_of_ble_eq_true rfl⟩) dX5_addCue_41 ⟨Nat.le_of_lt hn, Nat.mul_le_mul_left 6 (Nat.le_of_lt hn)⟩) ?_
  refine ruL_c (n := 42) (n2 := 43) rfl (ru_bot) ?_
  refine ruL_c (n := 43) (n2 := 44) rfl (ru_bot) ?_
  refine ruL_c (n := 44) (n2 := 45) rfl (ru_istore hx hb dX5_addCue_44) ?_
  refine ruL_c (n := 45) (n2 := 46) rfl (ru_bot) ?_
  refine ruL_c (n := 46) (n2 := 47) rfl (ru_aload_n (k := 0) hx hb dX5_addCue_46) ?_
  refine ruL_c (n := 47) (n2 := 48) rfl (ru_getR (own := RX5) (j := 2) (T := TX5) hx hb hown hK hts hin5 (by decide) rfl rfl (by decide) rfl hl26 dX5_addCue_47) ?_
  refine ruL_c (n := 48) (n2 := 49) rfl (ru_bot) ?_
  refine ruL_c (n := 49) (n2 := 50) rfl (ru_bot) ?_
  refine ruL_c (n := 50) (n2 := 51) rfl (ru_iload hx hb dX5_addCue_50) ?_
  refine ruL_c (n := 51) (n2 := 52) rfl (ru_bot) ?_
  refine ruL_c (n := 52) (n2 := 53) rfl (ru_iload_n (k := 1) hx hb dX5_addCue_52) ?_
  refine ruL_c (n := 53) (n2 := 54) rfl (ru_iload_n (k := 2) hx hb dX5_addCue_53) ?_
  refine ruL_c (n := 54) (n2 := 55) rfl (ru_iload_n (k := 3) hx hb dX5_addCue_54) ?_
  refine ruL_c (n := 55) (n2 := 56) rfl (ru_callVv hx hb hml hown hts hK hN (by decide) rfl (c_X1_place l D cI cZ cA cL ad hi) (cwV 4 hts gX5_addCue_X1_place rfl rfl rfl (by decide +kernel) ⟨Nat.le_of_ble_eq_true rfl, Nat.le_of_ble_eq_true rfl⟩) dX5_addCue_55 ⟨Nat.le_of_lt hn, Nat.mul_le_mul_left 6 (Nat.le_of_lt hn)⟩) ?_
  refine ruL_c (n := 56) (n2 := 57) rfl (ru_bot) ?_
  refine ruL_c (n := 57) (n2 := 58) rfl (ru_bot) ?_
  refine ruL_c (n := 58) (n2 := 59) rfl (ru_aload_n (k := 0) hx hb dX5_addCue_58) ?_
  refine ruL_c (n := 59) (n2 := 60) rfl (ru_getR (own := RX5) (j := 2) (T := TX5) hx hb hown hK hts hin5 (by decide) rfl rfl (by decide) rfl hl26 dX5_addCue_59) ?_
  refine ruL_c (n := 60) (n2 := 61) rfl (ru_bot) ?_
  refine ruL_c (n := 61) (n2 := 62) rfl (ru_bot) ?_
  refine ruL_c (n := 62) (n2 := 63) rfl (ru_aload_n (k := 0) hx hb dX5_addCue_62) ?_
  refine ruL_c (n := 63) (n2 := 64) rfl (ru_getR (own := RX5) (j := 0) (T := TX5) hx hb hown hK hts hin5 (by decide) rfl rfl (by decide) rfl hl10 dX5_addCue_63) ?_
  refine ruL_c (n := 64) (n2 := 65) rfl (ru_bot) ?_
  refine ruL_c (n := 65) (n2 := 66) rfl (ru_bot) ?_
  refine ruL_c (n := 66) (n2 := 67) rfl (ru_callVv hx hb hml hown hts hK hN (by decide) rfl (c_X1_arrange l D cI cZ cA cL ad hi) (cwV 1 hts gX5_addCue_X1_arrange rfl rfl rfl (by decide +kernel) ⟨Nat.le_of_ble_eq_true rfl, Nat.le_of_ble_eq_true rfl⟩) dX5_addCue_66 ⟨Nat.le_of_lt hn, Nat.mul_le_mul_left 6 (Nat.le_of_lt hn)⟩) ?_
  refine ruL_c (n := 67) (n2 := 68) rfl (ru_bot) ?_
  refine ruL_c (n := 68) (n2 := 69) rfl (ru_bot) ?_
  refine ruL_c (n := 69) (n2 := 70) rfl (ru_iload hx hb dX5_addCue_69) ?_
  refine ruL_c (n := 70) (n2 := 71) rfl (ru_bot) ?_
  refine ruL_c (n := 71) (n2 := 72) rfl (ru_iretX hx hb hK hr hlocks dX5_addCue_71 ⟨Nat.le_of_lt hn, Nat.mul_le_mul_left 6 (Nat.le_of_lt hn)⟩) ?_
  exact trivial

-- CueTour.move
def f_X5_move (p0 : Int32) (p1 : Int32) (p2 : Int32) (p3 : Int32) (σ : aM) : Option (Nat × Int32 × aM) := bnX (f_X5_checkNumber p0 (σ 3 4) σ) (fun σ3 => bnX (f_X5_checkNumber p1 (σ3 1 3) σ3) (fun σ8 => bnX (f_X5_checkRange p2 0 60 σ8) (fun σ13 => bnX (f_X5_checkRange p3 0 60 σ13) (fun σ18 => if inb p0 20 = true then bnN (f_X1_place p0 p1 p2 p3 σ18) (fun r22 σ23 => bnN (f_X1_arrange σ23) (fun r25 σ26 => some (0, σ18 11 (ix p0), σ26))) else none))))
def F_X5_move : aFx := fun As σ => match As with
  | [.int p0, .int p1, .int p2, .int p3] => f_X5_move p0 p1 p2 p3 σ
  | _ => none
def T_X5_move : aTx := fun Qa Xa KN => [I_iload 1 1, I_aload 0 1, I_getR 0 3, I_bot, I_bot, I_getI 3 4, I_bot, I_bot, I_callX 2 F_X5_checkNumber KN Xa, I_bot, I_bot, I_iload 2 1, I_aload 0 1, I_getR 0 1, I_bot, I_bot, I_getI 1 3, I_bot, I_bot, I_callX 2 F_X5_checkNumber KN Xa, I_bot, I_bot, I_iload 3 1, I_const 0 1, I_const (60) 2, I_bot, I_callX 3 F_X5_checkRange KN Xa, I_bot, I_bot, I_iload 4 2, I_bot, I_const 0 1, I_const (60) 2, I_bot, I_callX 3 F_X5_checkRange KN Xa, I_bot, I_bot, I_aload 0 1, I_getR 0 3, I_bot, I_bot, I_getR 3 11, I_bot, I_bot, I_iload 1 1, I_iald, I_istore 5 2, I_bot, I_aload 0 1, I_getR 0 3, I_bot, I_bot, I_iload 1 1, I_iload 2 1, I_iload 3 1, I_iload 4 2, I_bot, I_callVv 3 4 F_X1_place, I_bot, I_bot, I_aload 0 1, I_getR 0 3, I_bot, I_bot, I_aload 0 1, I_getR 0 1, I_bot, I_bot, I_callVv 3 1 F_X1_arrange, I_bot, I_bot, I_iload 5 2, I_bot, I_iret Qa]
set_option maxHeartbeats 4000000 in
set_option maxRecDepth 100000 in
theorem s_X5_move : runsX T_X5_move 5 [.ref 0] 6 F_X5_move := by
  intro Qa Xa K hw hf As σ y h hQ hX
  unfold F_X5_move at h
  split at h
  · rename_i p0 p1 p2 p3
    unfold f_X5_move at h
    show K 0 (0, [.ref 0, .int p0, .int p1, .int p2, .int p3, .null], [], σ)
    obtain ⟨e1, r2, σ3, q4, h⟩ := bnX_some h
    rcases h with ⟨c5, h⟩ | ⟨c5, h⟩
    · refine (hw 0 (by decide)) 5 _ ?_
      show ∃ e1 r2 σ3, f_X5_checkNumber p0 (σ 3 4) σ = some (e1, r2, σ3) ∧ (e1 = 0 → K 1 (11, [.ref 0, .int p0, .int p1, .int p2, .int p3, .null], [], σ3)) ∧ (¬ e1 = 0 → Xa e1 σ3)
      refine ⟨e1, r2, σ3, q4, fun _ => ?_, fun q => absurd c5 q⟩
      obtain ⟨e6, r7, σ8, q9, h⟩ := bnX_some h
      rcases h with ⟨c10, h⟩ | ⟨c10, h⟩
      · refine (hw 1 (by decide)) 5 _ ?_
        show ∃ e6 r7 σ8, f_X5_checkNumber p1 (σ3 1 3) σ3 = some (e6, r7, σ8) ∧ (e6 = 0 → K 2 (22, [.ref 0, .int p0, .int p1, .int p2, .int p3, .null], [], σ8)) ∧ (¬ e6 = 0 → Xa e6 σ8)
        refine ⟨e6, r7, σ8, q9, fun _ => ?_, fun q => absurd c10 q⟩
        obtain ⟨e11, r12, σ13, q14, h⟩ := bnX_some h
        rcases h with ⟨c15, h⟩ | ⟨c15, h⟩
        · refine (hw 2 (by decide)) 4 _ ?_
          show ∃ e11 r12 σ13, f_X5_checkRange p2 0 60 σ8 = some (e11, r12, σ13) ∧ (e11 = 0 → K 3 (29, [.ref 0, .int p0, .int p1, .int p2, .int p3, .null], [], σ13)) ∧ (¬ e11 = 0 → Xa e11 σ13)
          refine ⟨e11, r12, σ13, q14, fun _ => ?_, fun q => absurd c15 q⟩
          obtain ⟨e16, r17, σ18, q19, h⟩ := bnX_some h
          rcases h with ⟨c20, h⟩ | ⟨c20, h⟩
          · refine (hw 3 (by decide)) 4 _ ?_
            show ∃ e16 r17 σ18, f_X5_checkRange p3 0 60 σ13 = some (e16, r17, σ18) ∧ (e16 = 0 → K 4 (37, [.ref 0, .int p0, .int p1, .int p2, .int p3, .null], [], σ18)) ∧ (¬ e16 = 0 → Xa e16 σ18)
            refine ⟨e16, r17, σ18, q19, fun _ => ?_, fun q => absurd c20 q⟩
            obtain ⟨g21, h⟩ := itX_some h
            obtain ⟨r22, σ23, e24, h⟩ := bnN_some h
            refine (hw 4 (by decide)) 13 _ ?_
            show kd 11 = 1 ∧ (inb p0 20 = true ∧ (∃ r22 σ23, f_X1_place p0 p1 p2 p3 σ18 = some (r22, σ23) ∧ K 4 (60, [.ref 0, .int p0, .int p1, .int p2, .int p3, .int (σ18 11 (ix p0))], [], σ23)))
            refine ⟨rfl, g21, ⟨r22, σ23, e24, ?_⟩⟩
            obtain ⟨r25, σ26, e27, h⟩ := bnN_some h
            refine (hw 4 (by decide)) 5 _ ?_
            show ∃ r25 σ26, f_X1_arrange σ23 = some (r25, σ26) ∧ K 4 (71, [.ref 0, .int p0, .int p1, .int p2, .int p3, .int (σ18 11 (ix p0))], [], σ26)
            refine ⟨r25, σ26, e27, ?_⟩
            obtain rfl := Option.some.inj h
            refine (hw 4 (by decide)) 2 _ ?_
            show Qa (σ18 11 (ix p0)) σ26
            refine hQ rfl
          · refine (hw 3 (by decide)) 4 _ ?_
            show ∃ e16 r17 σ18, f_X5_checkRange p3 0 60 σ13 = some (e16, r17, σ18) ∧ (e16 = 0 → K 4 (37, [.ref 0, .int p0, .int p1, .int p2, .int p3, .null], [], σ18)) ∧ (¬ e16 = 0 → Xa e16 σ18)
            refine ⟨e16, r17, σ18, q19, fun q => absurd q c20, fun _ => ?_⟩
            subst h
            exact hX c20
        · refine (hw 2 (by decide)) 4 _ ?_
          show ∃ e11 r12 σ13, f_X5_checkRange p2 0 60 σ8 = some (e11, r12, σ13) ∧ (e11 = 0 → K 3 (29, [.ref 0, .int p0, .int p1, .int p2, .int p3, .null], [], σ13)) ∧ (¬ e11 = 0 → Xa e11 σ13)
          refine ⟨e11, r12, σ13, q14, fun q => absurd q c15, fun _ => ?_⟩
          subst h
          exact hX c15
      · refine (hw 1 (by decide)) 5 _ ?_
        show ∃ e6 r7 σ8, f_X5_checkNumber p1 (σ3 1 3) σ3 = some (e6, r7, σ8) ∧ (e6 = 0 → K 2 (22, [.ref 0, .int p0, .int p1, .int p2, .int p3, .null], [], σ8)) ∧ (¬ e6 = 0 → Xa e6 σ8)
        refine ⟨e6, r7, σ8, q9, fun q => absurd q c10, fun _ => ?_⟩
        subst h
        exact hX c10
    · refine (hw 0 (by decide)) 5 _ ?_
      show ∃ e1 r2 σ3, f_X5_checkNumber p0 (σ 3 4) σ = some (e1, r2, σ3) ∧ (e1 = 0 → K 1 (11, [.ref 0, .int p0, .int p1, .int p2, .int p3, .null], [], σ3)) ∧ (¬ e1 = 0 → Xa e1 σ3)
      refine ⟨e1, r2, σ3, q4, fun q => absurd q c5, fun _ => ?_⟩
      subst h
      exact hX c5
  · cases h
theorem h_X5_move : shpX [.ref 0] 6 F_X5_move := by
  intro As σ y h
  unfold F_X5_move at h
  split at h
  · exact ⟨by simp [Value.category], Nat.le_of_ble_eq_true rfl⟩
  · cases h
set_option maxHeartbeats 4000000 in
set_option maxRecDepth 100000 in
theorem c_X5_move (l : Launch) (hl : l.stackTraces = false) (D : va_G) (cI cZ cA cL : ClassId) (ad sa : Nat → Nat) (hi : adI ad) : CtXi l yX5_move wsX5_move { frames := 7, cells := 5, slots := 30, locals := 104 } 5 D cI cZ cA cL ad sa [.ref 0] F_X5_move := by
  refine mk_Xi (mc := 5) [.ref 0] F_X5_move T_X5_move (by decide +kernel) rfl ?_ h_X5_move s_X5_move
  intro p e s m args below meth c Qa Xa ⟨⟨hx, hb, hml, hown, hts, hr, hlocks, hK, hN⟩, hX, hno⟩ n hn
  have hin5 : ∀ w ∈ u_ws RX5 TX5 8, w ∈ wsX5_move := by decide +kernel
  have hl26 : (Cond.fieldLink RX5 26 RX5 (TX5 2).2.1 (TX5 2).2.2.1) ∈ wsX5_move := by decide +kernel
  have hin1 : ∀ w ∈ u_ws RX1 TX1 11, w ∈ wsX5_move := by decide +kernel
  have hl99 : (Cond.fieldLinkNest RX5 99 RX1 (TX1 4).2.1 (TX1 4).2.2.1 "CueTour") ∈ nwL := by decide +kernel
  have hl10 : (Cond.fieldLink RX5 10 RX5 (TX5 0).2.1 (TX5 0).2.2.1) ∈ wsX5_move := by decide +kernel
  have hin4 : ∀ w ∈ u_ws RX4 TX4 4, w ∈ wsX5_move := by decide +kernel
  have hl60 : (Cond.fieldLinkNest RX5 60 RX4 (TX4 3).2.1 (TX4 3).2.2.1 "CueTour") ∈ nwL := by decide +kernel
  have hl106 : (Cond.fieldLinkNest RX5 106 RX1 (TX1 0).2.1 (TX1 0).2.2.1 "CueTour") ∈ nwL := by decide +kernel
  refine ruL_c (n := 0) (n2 := 1) rfl (ru_iload_n (k := 1) hx hb dX5_move_0) ?_
  refine ruL_c (n := 1) (n2 := 2) rfl (ru_aload_n (k := 0) hx hb dX5_move_1) ?_
  refine ruL_c (n := 2) (n2 := 3) rfl (ru_getR (own := RX5) (j := 2) (T := TX5) hx hb hown hK hts hin5 (by decide) rfl rfl (by decide) rfl hl26 dX5_move_2) ?_
  refine ruL_c (n := 3) (n2 := 4) rfl (ru_bot) ?_
  refine ruL_c (n := 4) (n2 := 5) rfl (ru_bot) ?_
  refine ruL_c (n := 5) (n2 := 6) rfl (ru_getIN (own := RX5) (j := 4) (T := TX1) hx hb hown hK hN hts hin1 (by decide) rfl rfl (by decide) rfl hl99 dX5_move_5) ?_
  refine ruL_c (n := 6) (n2 := 7) rfl (ru_bot) ?_
  refine ruL_c (n := 7) (n2 := 8) rfl (ru_bot) ?_
  refine ruL_c (n := 8) (n2 := 9) rfl (ru_callX hx hb hml hown hts hK hN hX hno hlocks (c_X5_checkNumber l hl D cI cZ cA cL ad sa hi) (va_cwS 2 hts gX5_move_X5_checkNumber rfl rfl rfl (by decide +kernel) ⟨Nat.le_of_ble_eq_true rfl, Nat.le_of_ble_eq_true rfl⟩) dX5_move_8 ⟨hn, Nat.mul_le_mul_left 6 hn⟩ ⟨hn, Nat.mul_le_mul_left 6 hn⟩) ?_
  refine ruL_c (n := 9) (n2 := 10) rfl (ru_bot) ?_
  refine ruL_c (n := 10) (n2 := 11) rfl (ru_bot) ?_
  refine ruL_c (n := 11) (n2 := 12) rfl (ru_iload_n (k := 2) hx hb dX5_move_11) ?_
  refine ruL_c (n := 12) (n2 := 13) rfl (ru_aload_n (k := 0) hx hb dX5_move_12) ?_
  refine ruL_c (n := 13) (n2 := 14) rfl (ru_getR (own := RX5) (j := 0) (T := TX5) hx hb hown hK hts hin5 (by decide) rfl rfl (by decide) rfl hl10 dX5_move_13) ?_
  refine ruL_c (n := 14) (n2 := 15) rfl (ru_bot) ?_
  refine ruL_c (n := 15) (n2 := 16) rfl (ru_bot) ?_
  refine ruL_c (n := 16) (n2 := 17) rfl (ru_getIN (own := RX5) (j := 3) (T := TX4) hx hb hown hK hN hts hin4 (by decide) rfl rfl (by decide) rfl hl60 dX5_move_16) ?_
  refine ruL_c (n := 17) (n2 := 18) rfl (ru_bot) ?_
  refine ruL_c (n := 18) (n2 := 19) rfl (ru_bot) ?_
  refine ruL_c (n := 19) (n2 := 20) rfl (ru_callX hx hb hml hown hts hK hN hX hno hlocks (c_X5_checkNumber l hl D cI cZ cA cL ad sa hi) (va_cwS 2 hts gX5_move_X5_checkNumber rfl rfl rfl (by decide +kernel) ⟨Nat.le_of_ble_eq_true rfl, Nat.le_of_ble_eq_true rfl⟩) dX5_move_19 ⟨hn, Nat.mul_le_mul_left 6 hn⟩ ⟨hn, Nat.mul_le_mul_left 6 hn⟩) ?_
  refine ruL_c (n := 20) (n2 := 21) rfl (ru_bot) ?_
  refine ruL_c (n := 21) (n2 := 22) rfl (ru_bot) ?_
  refine ruL_c (n := 22) (n2 := 23) rfl (ru_iload_n (k := 3) hx hb dX5_move_22) ?_
  refine ruL_c (n := 23) (n2 := 24) rfl (ru_iconst hx hb dX5_move_23 rfl) ?_
  refine ruL_c (n := 24) (n2 := 25) rfl (ru_bipush hx hb dX5_move_24 rfl) ?_
  refine ruL_c (n := 25) (n2 := 26) rfl (ru_bot) ?_
  refine ruL_c (n := 26) (n2 := 27) rfl (ru_callX hx hb hml hown hts hK hN hX hno hlocks (c_X5_checkRange l hl D cI cZ cA cL ad sa hi) (va_cwS 3 hts gX5_move_X5_checkRange rfl rfl rfl (by decide +kernel) ⟨Nat.le_of_ble_eq_true rfl, Nat.le_of_ble_eq_true rfl⟩) dX5_move_26 ⟨hn, Nat.mul_le_mul_left 6 hn⟩ ⟨hn, Nat.mul_le_mul_left 6 hn⟩) ?_
  refine ruL_c (n := 27) (n2 := 28) rfl (ru_bot) ?_
  refine ruL_c (n := 28) (n2 := 29) rfl (ru_bot) ?_
  refine ruL_c (n := 29) (n2 := 30) rfl (ru_iload hx hb dX5_move_29) ?_
  refine ruL_c (n := 30) (n2 := 31) rfl (ru_bot) ?_
  refine ruL_c (n := 31) (n2 := 32) rfl (ru_iconst hx hb dX5_move_31 rfl) ?_
  refine ruL_c (n := 32) (n2 := 33) rfl (ru_bipush hx hb dX5_move_32 rfl) ?_
  refine ruL_c (n := 33) (n2 := 34) rfl (ru_bot) ?_
  refine ruL_c (n := 34) (n2 := 35) rfl (ru_callX hx hb hml hown hts hK hN hX hno hlocks (c_X5_checkRange l hl D cI cZ cA cL ad sa hi) (va_cwS 3 hts gX5_move_X5_checkRange rfl rfl rfl (by decide +kernel) ⟨Nat.le_of_ble_eq_true rfl, Nat.le_of_ble_eq_true rfl⟩) dX5_move_34 ⟨hn, Nat.mul_le_mul_left 6 hn⟩ ⟨hn, Nat.mul_le_mul_left 6 hn⟩) ?_
  refine ruL_c (n := 35) (n2 := 36) rfl (ru_bot) ?_
  refine ruL_c (n := 36) (n2 := 37) rfl (ru_bot) ?_
  refine ruL_c (n := 37) (n2 := 38) rfl (ru_aload_n (k := 0) hx hb dX5_move_37) ?_
  refine ruL_c (n := 38) (n2 := 39) rfl (ru_getR (own := RX5) (j := 2) (T := TX5) hx hb hown hK hts hin5 (by decide) rfl rfl (by decide) rfl hl26 dX5_move_38) ?_
  refine ruL_c (n := 39) (n2 := 40) rfl (ru_bot) ?_
  refine ruL_c (n := 40) (n2 := 41) rfl (ru_bot) ?_
  refine ruL_c (n := 41) (n2 := 42) rfl (ru_getRN (own := RX5) (j := 0) (T := TX1) hx hb hown hK hN hts hin1 (by decide) rfl rfl (by decide) rfl hl106 dX5_move_41) ?_
  refine ruL_c (n := 42) (n2 := 43) rfl (ru_bot) ?_
  refine ruL_c (n := 43) (n2 := 44) rfl (ru_bot) ?_
  refine ruL_c (n := 44) (n2 := 45) rfl (ru_iload_n (k := 1) hx hb dX5_move_44) ?_
  refine ruL_c (n := 45) (n2 := 46) rfl (ru_iald hx hb hK dX5_move_45) ?_
  refine ruL_c (n := 46) (n2 := 47) rfl (ru_istore hx hb dX5_move_46) ?_
  refine ruL_c (n := 47) (n2 := 48) rfl (ru_bot) ?_
  refine ruL_c (n := 48) (n2 := 49) rfl (ru_aload_n (k := 0) hx hb dX5_move_48) ?_
  refine ruL_c (n := 49) (n2 := 50) rfl (ru_getR (own := RX5) (j := 2) (T := TX5) hx hb hown hK hts hin5 (by decide) rfl rfl (by decide) rfl hl26 dX5_move_49) ?_
  refine ruL_c (n := 50) (n2 := 51) rfl (ru_bot) ?_
  refine ruL_c (n := 51) (n2 := 52) rfl (ru_bot) ?_
  refine ruL_c (n := 52) (n2 := 53) rfl (ru_iload_n (k := 1) hx hb dX5_move_52) ?_
  refine ruL_c (n := 53) (n2 := 54) rfl (ru_iload_n (k := 2) hx hb dX5_move_53) ?_
  refine ruL_c (n := 54) (n2 := 55) rfl (ru_iload_n (k := 3) hx hb dX5_move_54) ?_
  refine ruL_c (n := 55) (n2 := 56) rfl (ru_iload hx hb dX5_move_55) ?_
  refine ruL_c (n := 56) (n2 := 57) rfl (ru_bot) ?_
  refine ruL_c (n := 57) (n2 := 58) rfl (ru_callVv hx hb hml hown hts hK hN (by decide) rfl (c_X1_place l D cI cZ cA cL ad hi) (cwV 4 hts gX5_move_X1_place rfl rfl rfl (by decide +kernel) ⟨Nat.le_of_ble_eq_true rfl, Nat.le_of_ble_eq_true rfl⟩) dX5_move_57 ⟨Nat.le_of_lt hn, Nat.mul_le_mul_left 6 (Nat.le_of_lt hn)⟩) ?_
  refine ruL_c (n := 58) (n2 := 59) rfl (ru_bot) ?_
  refine ruL_c (n := 59) (n2 := 60) rfl (ru_bot) ?_
  refine ruL_c (n := 60) (n2 := 61) rfl (ru_aload_n (k := 0) hx hb dX5_move_60) ?_
  refine ruL_c (n := 61) (n2 := 62) rfl (ru_getR (own := RX5) (j := 2) (T := TX5) hx hb hown hK hts hin5 (by decide) rfl rfl (by decide) rfl hl26 dX5_move_61) ?_
  refine ruL_c (n := 62) (n2 := 63) rfl (ru_bot) ?_
  refine ruL_c (n := 63) (n2 := 64) rfl (ru_bot) ?_
  refine ruL_c (n := 64) (n2 := 65) rfl (ru_aload_n (k := 0) hx hb dX5_move_64) ?_
  refine ruL_c (n := 65) (n2 := 66) rfl (ru_getR (own := RX5) (j := 0) (T := TX5) hx hb hown hK hts hin5 (by decide) rfl rfl (by decide) rfl hl10 dX5_move_65) ?_
  refine ruL_c (n := 66) (n2 := 67) rfl (ru_bot) ?_
  refine ruL_c (n := 67) (n2 := 68) rfl (ru_bot) ?_
  refine ruL_c (n := 68) (n2 := 69) rfl (ru_callVv hx hb hml hown hts hK hN (by decide) rfl (c_X1_arrange l D cI cZ cA cL ad hi) (cwV 1 hts gX5_move_X1_arrange rfl rfl rfl (by decide +kernel) ⟨Nat.le_of_ble_eq_true rfl, Nat.le_of_ble_eq_true rfl⟩) dX5_move_68 ⟨Nat.le_of_lt hn, Nat.mul_le_mul_left 6 (Nat.le_of_lt hn)⟩) ?_
  refine ruL_c (n := 69) (n2 := 70) rfl (ru_bot) ?_
  refine ruL_c (n := 70) (n2 := 71) rfl (ru_bot) ?_
  refine ruL_c (n := 71) (n2 := 72) rfl (ru_iload hx hb dX5_move_71) ?_
  refine ruL_c (n := 72) (n2 := 73) rfl (ru_bot) ?_
  refine ruL_c (n := 73) (n2 := 74) rfl (ru_iretX hx hb hK hr hlocks dX5_move_73 ⟨Nat.le_of_lt hn, Nat.mul_le_mul_left 6 (Nat.le_of_lt hn)⟩) ?_
  exact trivial

-- CueTour.change
def f_X5_change (p0 : Int32) (p1 : Int32) (p2 : Int32) (σ : aM) : Option (Nat × Int32 × aM) := bnX (f_X5_checkNumber p0 (σ 3 4) σ) (fun σ3 => bnX (f_X5_checkNumber p1 10 σ3) (fun σ8 => bnX (f_X5_checkRange p2 ((-1)) 100 σ8) (fun σ13 => if inb p0 20 = true then if inb p1 10 = true then if inb p0 20 = true then if inb p1 10 = true then bnN (f_X1_arrange (mput σ13 (88 + ix p0) (ix p1) p2)) (fun r20 σ21 => some (0, σ13 (88 + ix p0) (ix p1), σ21)) else none else none else none else none)))
def F_X5_change : aFx := fun As σ => match As with
  | [.int p0, .int p1, .int p2] => f_X5_change p0 p1 p2 σ
  | _ => none
def T_X5_change : aTx := fun Qa Xa KN => [I_iload 1 1, I_aload 0 1, I_getR 0 3, I_bot, I_bot, I_getI 3 4, I_bot, I_bot, I_callX 2 F_X5_checkNumber KN Xa, I_bot, I_bot, I_iload 2 1, I_const (10) 2, I_bot, I_callX 2 F_X5_checkNumber KN Xa, I_bot, I_bot, I_iload 3 1, I_const (-1) 1, I_const (100) 2, I_bot, I_callX 3 F_X5_checkRange KN Xa, I_bot, I_bot, I_aload 0 1, I_getR 0 3, I_bot, I_bot, I_getR 3 54, I_bot, I_bot, I_iload 1 1, I_aald, I_iload 2 1, I_iald, I_istore 4 2, I_bot, I_aload 0 1, I_getR 0 3, I_bot, I_bot, I_getR 3 54, I_bot, I_bot, I_iload 1 1, I_aald, I_iload 2 1, I_iload 3 1, I_iast, I_aload 0 1, I_getR 0 3, I_bot, I_bot, I_aload 0 1, I_getR 0 1, I_bot, I_bot, I_callVv 3 1 F_X1_arrange, I_bot, I_bot, I_iload 4 2, I_bot, I_iret Qa]
set_option maxHeartbeats 4000000 in
set_option maxRecDepth 100000 in
theorem s_X5_change : runsX T_X5_change 4 [.ref 0] 5 F_X5_change := by
  intro Qa Xa K hw hf As σ y h hQ hX
  unfold F_X5_change at h
  split at h
  · rename_i p0 p1 p2
    unfold f_X5_change at h
    show K 0 (0, [.ref 0, .int p0, .int p1, .int p2, .null], [], σ)
    obtain ⟨e1, r2, σ3, q4, h⟩ := bnX_some h
    rcases h with ⟨c5, h⟩ | ⟨c5, h⟩
    · refine (hw 0 (by decide)) 5 _ ?_
      show ∃ e1 r2 σ3, f_X5_checkNumber p0 (σ 3 4) σ = some (e1, r2, σ3) ∧ (e1 = 0 → K 1 (11, [.ref 0, .int p0, .int p1, .int p2, .null], [], σ3)) ∧ (¬ e1 = 0 → Xa e1 σ3)
      refine ⟨e1, r2, σ3, q4, fun _ => ?_, fun q => absurd c5 q⟩
      obtain ⟨e6, r7, σ8, q9, h⟩ := bnX_some h
      rcases h with ⟨c10, h⟩ | ⟨c10, h⟩
      · refine (hw 1 (by decide)) 3 _ ?_
        show ∃ e6 r7 σ8, f_X5_checkNumber p1 10 σ3 = some (e6, r7, σ8) ∧ (e6 = 0 → K 2 (17, [.ref 0, .int p0, .int p1, .int p2, .null], [], σ8)) ∧ (¬ e6 = 0 → Xa e6 σ8)
        refine ⟨e6, r7, σ8, q9, fun _ => ?_, fun q => absurd c10 q⟩
        obtain ⟨e11, r12, σ13, q14, h⟩ := bnX_some h
        rcases h with ⟨c15, h⟩ | ⟨c15, h⟩
        · refine (hw 2 (by decide)) 4 _ ?_
          show ∃ e11 r12 σ13, f_X5_checkRange p2 ((-1)) 100 σ8 = some (e11, r12, σ13) ∧ (e11 = 0 → K 3 (24, [.ref 0, .int p0, .int p1, .int p2, .null], [], σ13)) ∧ (¬ e11 = 0 → Xa e11 σ13)
          refine ⟨e11, r12, σ13, q14, fun _ => ?_, fun q => absurd c15 q⟩
          obtain ⟨g16, h⟩ := itX_some h
          obtain ⟨g17, h⟩ := itX_some h
          obtain ⟨g18, h⟩ := itX_some h
          obtain ⟨g19, h⟩ := itX_some h
          obtain ⟨r20, σ21, e22, h⟩ := bnN_some h
          refine (hw 3 (by decide)) 21 _ ?_
          show kd 54 = 3 ∧ (inb p0 20 = true ∧ (kd (88 + ix p0) = 1 ∧ (inb p1 (ln (88 + ix p0)) = true ∧ (kd 54 = 3 ∧ (inb p0 20 = true ∧ (kd (88 + ix p0) = 1 ∧ (inb p1 (ln (88 + ix p0)) = true ∧ (∃ r20 σ21, f_X1_arrange (mput σ13 (88 + ix p0) (ix p1) p2) = some (r20, σ21) ∧ K 3 (60, [.ref 0, .int p0, .int p1, .int p2, .int (σ13 (88 + ix p0) (ix p1))], [], σ21)))))))))
          refine ⟨rfl, g16, (row54_kd g16), (by rw [row54_ln g16]; exact g17), rfl, g18, (row54_kd g18), (by rw [row54_ln g18]; exact g19), ⟨r20, σ21, e22, ?_⟩⟩
          obtain rfl := Option.some.inj h
          refine (hw 3 (by decide)) 2 _ ?_
          show Qa (σ13 (88 + ix p0) (ix p1)) σ21
          refine hQ rfl
        · refine (hw 2 (by decide)) 4 _ ?_
          show ∃ e11 r12 σ13, f_X5_checkRange p2 ((-1)) 100 σ8 = some (e11, r12, σ13) ∧ (e11 = 0 → K 3 (24, [.ref 0, .int p0, .int p1, .int p2, .null], [], σ13)) ∧ (¬ e11 = 0 → Xa e11 σ13)
          refine ⟨e11, r12, σ13, q14, fun q => absurd q c15, fun _ => ?_⟩
          subst h
          exact hX c15
      · refine (hw 1 (by decide)) 3 _ ?_
        show ∃ e6 r7 σ8, f_X5_checkNumber p1 10 σ3 = some (e6, r7, σ8) ∧ (e6 = 0 → K 2 (17, [.ref 0, .int p0, .int p1, .int p2, .null], [], σ8)) ∧ (¬ e6 = 0 → Xa e6 σ8)
        refine ⟨e6, r7, σ8, q9, fun q => absurd q c10, fun _ => ?_⟩
        subst h
        exact hX c10
    · refine (hw 0 (by decide)) 5 _ ?_
      show ∃ e1 r2 σ3, f_X5_checkNumber p0 (σ 3 4) σ = some (e1, r2, σ3) ∧ (e1 = 0 → K 1 (11, [.ref 0, .int p0, .int p1, .int p2, .null], [], σ3)) ∧ (¬ e1 = 0 → Xa e1 σ3)
      refine ⟨e1, r2, σ3, q4, fun q => absurd q c5, fun _ => ?_⟩
      subst h
      exact hX c5
  · cases h
theorem h_X5_change : shpX [.ref 0] 5 F_X5_change := by
  intro As σ y h
  unfold F_X5_change at h
  split at h
  · exact ⟨by simp [Value.category], Nat.le_of_ble_eq_true rfl⟩
  · cases h
set_option maxHeartbeats 4000000 in
set_option maxRecDepth 100000 in
theorem c_X5_change (l : Launch) (hl : l.stackTraces = false) (D : va_G) (cI cZ cA cL : ClassId) (ad sa : Nat → Nat) (hi : adI ad) : CtXi l yX5_change wsX5_change { frames := 7, cells := 4, slots := 24, locals := 104 } 4 D cI cZ cA cL ad sa [.ref 0] F_X5_change := by
  refine mk_Xi (mc := 4) [.ref 0] F_X5_change T_X5_change (by decide +kernel) rfl ?_ h_X5_change s_X5_change
  intro p e s m args below meth c Qa Xa ⟨⟨hx, hb, hml, hown, hts, hr, hlocks, hK, hN⟩, hX, hno⟩ n hn
  have hin5 : ∀ w ∈ u_ws RX5 TX5 8, w ∈ wsX5_change := by decide +kernel
  have hl26 : (Cond.fieldLink RX5 26 RX5 (TX5 2).2.1 (TX5 2).2.2.1) ∈ wsX5_change := by decide +kernel
  have hin1 : ∀ w ∈ u_ws RX1 TX1 11, w ∈ wsX5_change := by decide +kernel
  have hl99 : (Cond.fieldLinkNest RX5 99 RX1 (TX1 4).2.1 (TX1 4).2.2.1 "CueTour") ∈ nwL := by decide +kernel
  have hl109 : (Cond.fieldLinkNest RX5 109 RX1 (TX1 3).2.1 (TX1 3).2.2.1 "CueTour") ∈ nwL := by decide +kernel
  have hl10 : (Cond.fieldLink RX5 10 RX5 (TX5 0).2.1 (TX5 0).2.2.1) ∈ wsX5_change := by decide +kernel
  refine ruL_c (n := 0) (n2 := 1) rfl (ru_iload_n (k := 1) hx hb dX5_change_0) ?_
  refine ruL_c (n := 1) (n2 := 2) rfl (ru_aload_n (k := 0) hx hb dX5_change_1) ?_
  refine ruL_c (n := 2) (n2 := 3) rfl (ru_getR (own := RX5) (j := 2) (T := TX5) hx hb hown hK hts hin5 (by decide) rfl rfl (by decide) rfl hl26 dX5_change_2) ?_
  refine ruL_c (n := 3) (n2 := 4) rfl (ru_bot) ?_
  refine ruL_c (n := 4) (n2 := 5) rfl (ru_bot) ?_
  refine ruL_c (n := 5) (n2 := 6) rfl (ru_getIN (own := RX5) (j := 4) (T := TX1) hx hb hown hK hN hts hin1 (by decide) rfl rfl (by decide) rfl hl99 dX5_change_5) ?_
  refine ruL_c (n := 6) (n2 := 7) rfl (ru_bot) ?_
  refine ruL_c (n := 7) (n2 := 8) rfl (ru_bot) ?_
  refine ruL_c (n := 8) (n2 := 9) rfl (ru_callX hx hb hml hown hts hK hN hX hno hlocks (c_X5_checkNumber l hl D cI cZ cA cL ad sa hi) (va_cwS 2 hts gX5_change_X5_checkNumber rfl rfl rfl (by decide +kernel) ⟨Nat.le_of_ble_eq_true rfl, Nat.le_of_ble_eq_true rfl⟩) dX5_change_8 ⟨hn, Nat.mul_le_mul_left 6 hn⟩ ⟨hn, Nat.mul_le_mul_left 6 hn⟩) ?_
  refine ruL_c (n := 9) (n2 := 10) rfl (ru_bot) ?_
  refine ruL_c (n := 10) (n2 := 11) rfl (ru_bot) ?_
  refine ruL_c (n := 11) (n2 := 12) rfl (ru_iload_n (k := 2) hx hb dX5_change_11) ?_
  refine ruL_c (n := 12) (n2 := 13) rfl (ru_bipush hx hb dX5_change_12 rfl) ?_
  refine ruL_c (n := 13) (n2 := 14) rfl (ru_bot) ?_
  refine ruL_c (n := 14) (n2 := 15) rfl (ru_callX hx hb hml hown hts hK hN hX hno hlocks (c_X5_checkNumber l hl D cI cZ cA cL ad sa hi) (va_cwS 2 hts gX5_change_X5_checkNumber rfl rfl rfl (by decide +kernel) ⟨Nat.le_of_ble_eq_true rfl, Nat.le_of_ble_eq_true rfl⟩) dX5_change_14 ⟨hn, Nat.mul_le_mul_left 6 hn⟩ ⟨hn, Nat.mul_le_mul_left 6 hn⟩) ?_
  refine ruL_c (n := 15) (n2 := 16) rfl (ru_bot) ?_
  refine ruL_c (n := 16) (n2 := 17) rfl (ru_bot) ?_
  refine ruL_c (n := 17) (n2 := 18) rfl (ru_iload_n (k := 3) hx hb dX5_change_17) ?_
  refine ruL_c (n := 18) (n2 := 19) rfl (ru_iconst hx hb dX5_change_18 rfl) ?_
  refine ruL_c (n := 19) (n2 := 20) rfl (ru_bipush hx hb dX5_change_19 rfl) ?_
  refine ruL_c (n := 20) (n2 := 21) rfl (ru_bot) ?_
  refine ruL_c (n := 21) (n2 := 22) rfl (ru_callX hx hb hml hown hts hK hN hX hno hlocks (c_X5_checkRange l hl D cI cZ cA cL ad sa hi) (va_cwS 3 hts gX5_change_X5_checkRange rfl rfl rfl (by decide +kernel) ⟨Nat.le_of_ble_eq_true rfl, Nat.le_of_ble_eq_true rfl⟩) dX5_change_21 ⟨hn, Nat.mul_le_mul_left 6 hn⟩ ⟨hn, Nat.mul_le_mul_left 6 hn⟩) ?_
  refine ruL_c (n := 22) (n2 := 23) rfl (ru_bot) ?_
  refine ruL_c (n := 23) (n2 := 24) rfl (ru_bot) ?_
  refine ruL_c (n := 24) (n2 := 25) rfl (ru_aload_n (k := 0) hx hb dX5_change_24) ?_
  refine ruL_c (n := 25) (n2 := 26) rfl (ru_getR (own := RX5) (j := 2) (T := TX5) hx hb hown hK hts hin5 (by decide) rfl rfl (by decide) rfl hl26 dX5_change_25) ?_
  refine ruL_c (n := 26) (n2 := 27) rfl (ru_bot) ?_
  refine ruL_c (n := 27) (n2 := 28) rfl (ru_bot) ?_
  refine ruL_c (n := 28) (n2 := 29) rfl (ru_getRN (own := RX5) (j := 3) (T := TX1) hx hb hown hK hN hts hin1 (by decide) rfl rfl (by decide) rfl hl109 dX5_change_28) ?_
  refine ruL_c (n := 29) (n2 := 30) rfl (ru_bot) ?_
  refine ruL_c (n := 30) (n2 := 31) rfl (ru_bot) ?_
  refine ruL_c (n := 31) (n2 := 32) rfl (ru_iload_n (k := 1) hx hb dX5_change_31) ?_
  refine ruL_c (n := 32) (n2 := 33) rfl (ru_aald hx hb hK dX5_change_32) ?_
  refine ruL_c (n := 33) (n2 := 34) rfl (ru_iload_n (k := 2) hx hb dX5_change_33) ?_
  refine ruL_c (n := 34) (n2 := 35) rfl (ru_iald hx hb hK dX5_change_34) ?_
  refine ruL_c (n := 35) (n2 := 36) rfl (ru_istore hx hb dX5_change_35) ?_
  refine ruL_c (n := 36) (n2 := 37) rfl (ru_bot) ?_
  refine ruL_c (n := 37) (n2 := 38) rfl (ru_aload_n (k := 0) hx hb dX5_change_37) ?_
  refine ruL_c (n := 38) (n2 := 39) rfl (ru_getR (own := RX5) (j := 2) (T := TX5) hx hb hown hK hts hin5 (by decide) rfl rfl (by decide) rfl hl26 dX5_change_38) ?_
  refine ruL_c (n := 39) (n2 := 40) rfl (ru_bot) ?_
  refine ruL_c (n := 40) (n2 := 41) rfl (ru_bot) ?_
  refine ruL_c (n := 41) (n2 := 42) rfl (ru_getRN (own := RX5) (j := 3) (T := TX1) hx hb hown hK hN hts hin1 (by decide) rfl rfl (by decide) rfl hl109 dX5_change_41) ?_
  refine ruL_c (n := 42) (n2 := 43) rfl (ru_bot) ?_
  refine ruL_c (n := 43) (n2 := 44) rfl (ru_bot) ?_
  refine ruL_c (n := 44) (n2 := 45) rfl (ru_iload_n (k := 1) hx hb dX5_change_44) ?_
  refine ruL_c (n := 45) (n2 := 46) rfl (ru_aald hx hb hK dX5_change_45) ?_
  refine ruL_c (n := 46) (n2 := 47) rfl (ru_iload_n (k := 2) hx hb dX5_change_46) ?_
  refine ruL_c (n := 47) (n2 := 48) rfl (ru_iload_n (k := 3) hx hb dX5_change_47) ?_
  refine ruL_c (n := 48) (n2 := 49) rfl (ru_iast hx hb hK hi dX5_change_48) ?_
  refine ruL_c (n := 49) (n2 := 50) rfl (ru_aload_n (k := 0) hx hb dX5_change_49) ?_
  refine ruL_c (n := 50) (n2 := 51) rfl (ru_getR (own := RX5) (j := 2) (T := TX5) hx hb hown hK hts hin5 (by decide) rfl rfl (by decide) rfl hl26 dX5_change_50) ?_
  refine ruL_c (n := 51) (n2 := 52) rfl (ru_bot) ?_
  refine ruL_c (n := 52) (n2 := 53) rfl (ru_bot) ?_
  refine ruL_c (n := 53) (n2 := 54) rfl (ru_aload_n (k := 0) hx hb dX5_change_53) ?_
  refine ruL_c (n := 54) (n2 := 55) rfl (ru_getR (own := RX5) (j := 0) (T := TX5) hx hb hown hK hts hin5 (by decide) rfl rfl (by decide) rfl hl10 dX5_change_54) ?_
  refine ruL_c (n := 55) (n2 := 56) rfl (ru_bot) ?_
  refine ruL_c (n := 56) (n2 := 57) rfl (ru_bot) ?_
  refine ruL_c (n := 57) (n2 := 58) rfl (ru_callVv hx hb hml hown hts hK hN (by decide) rfl (c_X1_arrange l D cI cZ cA cL ad hi) (cwV 1 hts gX5_change_X1_arrange rfl rfl rfl (by decide +kernel) ⟨Nat.le_of_ble_eq_true rfl, Nat.le_of_ble_eq_true rfl⟩) dX5_change_57 ⟨Nat.le_of_lt hn, Nat.mul_le_mul_left 6 (Nat.le_of_lt hn)⟩) ?_
  refine ruL_c (n := 58) (n2 := 59) rfl (ru_bot) ?_
  refine ruL_c (n := 59) (n2 := 60) rfl (ru_bot) ?_
  refine ruL_c (n := 60) (n2 := 61) rfl (ru_iload hx hb dX5_change_60) ?_
  refine ruL_c (n := 61) (n2 := 62) rfl (ru_bot) ?_
  refine ruL_c (n := 62) (n2 := 63) rfl (ru_iretX hx hb hK hr hlocks dX5_change_62 ⟨Nat.le_of_lt hn, Nat.mul_le_mul_left 6 (Nat.le_of_lt hn)⟩) ?_
  exact trivial

-- CueTour.cues
def f_X5_cues (σ : aM) : Option (Int32 × aM) := some (σ 3 4, σ)
def F_X5_cues : aF := fun As σ => match As with
  | [] => f_X5_cues σ
  | _ => none
def T_X5_cues (Qa : Int32 → aM → Prop) : List aI := [I_aload 0 1, I_getR 0 3, I_bot, I_bot, I_getI 3 4, I_bot, I_bot, I_iret Qa]
set_option maxHeartbeats 4000000 in
set_option maxRecDepth 100000 in
theorem s_X5_cues : runs T_X5_cues [.ref 0] 1 F_X5_cues := by
  intro Qa K hw hf As σ r σ' h hQ
  unfold F_X5_cues at h
  split at h
  · unfold f_X5_cues at h
    have hQ : Qa (r, σ').1 (r, σ').2 := hQ
    generalize (r, σ') = y at h hQ
    show K (0, [.ref 0], [], σ)
    obtain rfl := Option.some.inj h
    refine hw 4 _ ?_
    show Qa (σ 3 4) σ
    refine hQ
  · cases h
theorem h_X5_cues : shp [.ref 0] 1 F_X5_cues := by
  intro As σ r σ' h
  unfold F_X5_cues at h
  split at h
  · exact ⟨by simp [Value.category], Nat.le_of_ble_eq_true rfl⟩
  · cases h
set_option maxHeartbeats 4000000 in
set_option maxRecDepth 100000 in
theorem c_X5_cues (l : Launch) (D : va_G) (cI cZ cA cL : ClassId) (ad : Nat → Nat) (hi : adI ad) : CtI l yX5_cues wsX5_cues { frames := 0, cells := 0, slots := 0, locals := 0 } D cI cZ cA cL ad [.ref 0] F_X5_cues := by
  refine mk_I [.ref 0] F_X5_cues T_X5_cues (by decide +kernel) rfl ?_ h_X5_cues s_X5_cues
  intro p e s m args below meth c Qa ⟨hx, hb, hml, hown, hts, hr, hlocks, hK, hN⟩
  have hin5 : ∀ w ∈ u_ws RX5 TX5 8, w ∈ wsX5_cues := by decide +kernel
  have hl26 : (Cond.fieldLink RX5 26 RX5 (TX5 2).2.1 (TX5 2).2.2.1) ∈ wsX5_cues := by decide +kernel
  have hin1 : ∀ w ∈ u_ws RX1 TX1 11, w ∈ wsX5_cues := by decide +kernel
  have hl99 : (Cond.fieldLinkNest RX5 99 RX1 (TX1 4).2.1 (TX1 4).2.2.1 "CueTour") ∈ nwL := by decide +kernel
  refine ruL_c (n := 0) (n2 := 1) rfl (ru_aload_n (k := 0) hx hb dX5_cues_0) ?_
  refine ruL_c (n := 1) (n2 := 2) rfl (ru_getR (own := RX5) (j := 2) (T := TX5) hx hb hown hK hts hin5 (by decide) rfl rfl (by decide) rfl hl26 dX5_cues_1) ?_
  refine ruL_c (n := 2) (n2 := 3) rfl (ru_bot) ?_
  refine ruL_c (n := 3) (n2 := 4) rfl (ru_bot) ?_
  refine ruL_c (n := 4) (n2 := 5) rfl (ru_getIN (own := RX5) (j := 4) (T := TX1) hx hb hown hK hN hts hin1 (by decide) rfl rfl (by decide) rfl hl99 dX5_cues_4) ?_
  refine ruL_c (n := 5) (n2 := 6) rfl (ru_bot) ?_
  refine ruL_c (n := 6) (n2 := 7) rfl (ru_bot) ?_
  refine ruL_c (n := 7) (n2 := 8) rfl (ru_iret hx hb hK hr hlocks dX5_cues_7) ?_
  exact trivial

-- CueTour.cueAt
def f_X5_cueAt (p0 : Int32) (σ : aM) : Option (Nat × Int32 × aM) := bnX (f_X5_checkNumber p0 (σ 3 4) σ) (fun σ3 => if inb p0 20 = true then some (0, σ3 14 (ix p0), σ3) else none)
def F_X5_cueAt : aFx := fun As σ => match As with
  | [.int p0] => f_X5_cueAt p0 σ
  | _ => none
def T_X5_cueAt : aTx := fun Qa Xa KN => [I_iload 1 1, I_aload 0 1, I_getR 0 3, I_bot, I_bot, I_getI 3 4, I_bot, I_bot, I_callX 2 F_X5_checkNumber KN Xa, I_bot, I_bot, I_aload 0 1, I_getR 0 3, I_bot, I_bot, I_getR 3 14, I_bot, I_bot, I_iload 1 1, I_iald, I_iret Qa]
set_option maxHeartbeats 4000000 in
set_option maxRecDepth 100000 in
theorem s_X5_cueAt : runsX T_X5_cueAt 2 [.ref 0] 2 F_X5_cueAt := by
  intro Qa Xa K hw hf As σ y h hQ hX
  unfold F_X5_cueAt at h
  split at h
  · rename_i p0
    unfold f_X5_cueAt at h
    show K 0 (0, [.ref 0, .int p0], [], σ)
    obtain ⟨e1, r2, σ3, q4, h⟩ := bnX_some h
    rcases h with ⟨c5, h⟩ | ⟨c5, h⟩
    · refine (hw 0 (by decide)) 5 _ ?_
      show ∃ e1 r2 σ3, f_X5_checkNumber p0 (σ 3 4) σ = some (e1, r2, σ3) ∧ (e1 = 0 → K 1 (11, [.ref 0, .int p0], [], σ3)) ∧ (¬ e1 = 0 → Xa e1 σ3)
      refine ⟨e1, r2, σ3, q4, fun _ => ?_, fun q => absurd c5 q⟩
      obtain ⟨g6, h⟩ := itX_some h
      obtain rfl := Option.some.inj h
      refine (hw 1 (by decide)) 6 _ ?_
      show kd 14 = 1 ∧ (inb p0 20 = true ∧ (Qa (σ3 14 (ix p0)) σ3))
      refine ⟨rfl, g6, (hQ rfl)⟩
    · refine (hw 0 (by decide)) 5 _ ?_
      show ∃ e1 r2 σ3, f_X5_checkNumber p0 (σ 3 4) σ = some (e1, r2, σ3) ∧ (e1 = 0 → K 1 (11, [.ref 0, .int p0], [], σ3)) ∧ (¬ e1 = 0 → Xa e1 σ3)
      refine ⟨e1, r2, σ3, q4, fun q => absurd q c5, fun _ => ?_⟩
      subst h
      exact hX c5
  · cases h
theorem h_X5_cueAt : shpX [.ref 0] 2 F_X5_cueAt := by
  intro As σ y h
  unfold F_X5_cueAt at h
  split at h
  · exact ⟨by simp [Value.category], Nat.le_of_ble_eq_true rfl⟩
  · cases h
set_option maxHeartbeats 4000000 in
set_option maxRecDepth 100000 in
theorem c_X5_cueAt (l : Launch) (hl : l.stackTraces = false) (D : va_G) (cI cZ cA cL : ClassId) (ad sa : Nat → Nat) (hi : adI ad) : CtXi l yX5_cueAt wsX5_cueAt { frames := 7, cells := 2, slots := 12, locals := 103 } 2 D cI cZ cA cL ad sa [.ref 0] F_X5_cueAt := by
  refine mk_Xi (mc := 2) [.ref 0] F_X5_cueAt T_X5_cueAt (by decide +kernel) rfl ?_ h_X5_cueAt s_X5_cueAt
  intro p e s m args below meth c Qa Xa ⟨⟨hx, hb, hml, hown, hts, hr, hlocks, hK, hN⟩, hX, hno⟩ n hn
  have hin5 : ∀ w ∈ u_ws RX5 TX5 8, w ∈ wsX5_cueAt := by decide +kernel
  have hl26 : (Cond.fieldLink RX5 26 RX5 (TX5 2).2.1 (TX5 2).2.2.1) ∈ wsX5_cueAt := by decide +kernel
  have hin1 : ∀ w ∈ u_ws RX1 TX1 11, w ∈ wsX5_cueAt := by decide +kernel
  have hl99 : (Cond.fieldLinkNest RX5 99 RX1 (TX1 4).2.1 (TX1 4).2.2.1 "CueTour") ∈ nwL := by decide +kernel
  have hl112 : (Cond.fieldLinkNest RX5 112 RX1 (TX1 5).2.1 (TX1 5).2.2.1 "CueTour") ∈ nwL := by decide +kernel
  refine ruL_c (n := 0) (n2 := 1) rfl (ru_iload_n (k := 1) hx hb dX5_cueAt_0) ?_
  refine ruL_c (n := 1) (n2 := 2) rfl (ru_aload_n (k := 0) hx hb dX5_cueAt_1) ?_
  refine ruL_c (n := 2) (n2 := 3) rfl (ru_getR (own := RX5) (j := 2) (T := TX5) hx hb hown hK hts hin5 (by decide) rfl rfl (by decide) rfl hl26 dX5_cueAt_2) ?_
  refine ruL_c (n := 3) (n2 := 4) rfl (ru_bot) ?_
  refine ruL_c (n := 4) (n2 := 5) rfl (ru_bot) ?_
  refine ruL_c (n := 5) (n2 := 6) rfl (ru_getIN (own := RX5) (j := 4) (T := TX1) hx hb hown hK hN hts hin1 (by decide) rfl rfl (by decide) rfl hl99 dX5_cueAt_5) ?_
  refine ruL_c (n := 6) (n2 := 7) rfl (ru_bot) ?_
  refine ruL_c (n := 7) (n2 := 8) rfl (ru_bot) ?_
  refine ruL_c (n := 8) (n2 := 9) rfl (ru_callX hx hb hml hown hts hK hN hX hno hlocks (c_X5_checkNumber l hl D cI cZ cA cL ad sa hi) (va_cwS 2 hts gX5_cueAt_X5_checkNumber rfl rfl rfl (by decide +kernel) ⟨Nat.le_of_ble_eq_true rfl, Nat.le_of_ble_eq_true rfl⟩) dX5_cueAt_8 ⟨hn, Nat.mul_le_mul_left 6 hn⟩ ⟨hn, Nat.mul_le_mul_left 6 hn⟩) ?_
  refine ruL_c (n := 9) (n2 := 10) rfl (ru_bot) ?_
  refine ruL_c (n := 10) (n2 := 11) rfl (ru_bot) ?_
  refine ruL_c (n := 11) (n2 := 12) rfl (ru_aload_n (k := 0) hx hb dX5_cueAt_11) ?_
  refine ruL_c (n := 12) (n2 := 13) rfl (ru_getR (own := RX5) (j := 2) (T := TX5) hx hb hown hK hts hin5 (by decide) rfl rfl (by decide) rfl hl26 dX5_cueAt_12) ?_
  refine ruL_c (n := 13) (n2 := 14) rfl (ru_bot) ?_
  refine ruL_c (n := 14) (n2 := 15) rfl (ru_bot) ?_
  refine ruL_c (n := 15) (n2 := 16) rfl (ru_getRN (own := RX5) (j := 5) (T := TX1) hx hb hown hK hN hts hin1 (by decide) rfl rfl (by decide) rfl hl112 dX5_cueAt_15) ?_
  refine ruL_c (n := 16) (n2 := 17) rfl (ru_bot) ?_
  refine ruL_c (n := 17) (n2 := 18) rfl (ru_bot) ?_
  refine ruL_c (n := 18) (n2 := 19) rfl (ru_iload_n (k := 1) hx hb dX5_cueAt_18) ?_
  refine ruL_c (n := 19) (n2 := 20) rfl (ru_iald hx hb hK dX5_cueAt_19) ?_
  refine ruL_c (n := 20) (n2 := 21) rfl (ru_iretX hx hb hK hr hlocks dX5_cueAt_20 ⟨Nat.le_of_lt hn, Nat.mul_le_mul_left 6 (Nat.le_of_lt hn)⟩) ?_
  exact trivial

-- CueTour.timeOf
def f_X5_timeOf (p0 : Int32) (σ : aM) : Option (Nat × Int32 × aM) := bnX (f_X5_checkNumber p0 (σ 3 4) σ) (fun σ3 => if inb p0 20 = true then some (0, σ3 15 (ix p0), σ3) else none)
def F_X5_timeOf : aFx := fun As σ => match As with
  | [.int p0] => f_X5_timeOf p0 σ
  | _ => none
def T_X5_timeOf : aTx := fun Qa Xa KN => [I_iload 1 1, I_aload 0 1, I_getR 0 3, I_bot, I_bot, I_getI 3 4, I_bot, I_bot, I_callX 2 F_X5_checkNumber KN Xa, I_bot, I_bot, I_aload 0 1, I_getR 0 3, I_bot, I_bot, I_getR 3 15, I_bot, I_bot, I_iload 1 1, I_iald, I_iret Qa]
set_option maxHeartbeats 4000000 in
set_option maxRecDepth 100000 in
theorem s_X5_timeOf : runsX T_X5_timeOf 2 [.ref 0] 2 F_X5_timeOf := by
  intro Qa Xa K hw hf As σ y h hQ hX
  unfold F_X5_timeOf at h
  split at h
  · rename_i p0
    unfold f_X5_timeOf at h
    show K 0 (0, [.ref 0, .int p0], [], σ)
    obtain ⟨e1, r2, σ3, q4, h⟩ := bnX_some h
    rcases h with ⟨c5, h⟩ | ⟨c5, h⟩
    · refine (hw 0 (by decide)) 5 _ ?_
      show ∃ e1 r2 σ3, f_X5_checkNumber p0 (σ 3 4) σ = some (e1, r2, σ3) ∧ (e1 = 0 → K 1 (11, [.ref 0, .int p0], [], σ3)) ∧ (¬ e1 = 0 → Xa e1 σ3)
      refine ⟨e1, r2, σ3, q4, fun _ => ?_, fun q => absurd c5 q⟩
      obtain ⟨g6, h⟩ := itX_some h
      obtain rfl := Option.some.inj h
      refine (hw 1 (by decide)) 6 _ ?_
      show kd 15 = 1 ∧ (inb p0 20 = true ∧ (Qa (σ3 15 (ix p0)) σ3))
      refine ⟨rfl, g6, (hQ rfl)⟩
    · refine (hw 0 (by decide)) 5 _ ?_
      show ∃ e1 r2 σ3, f_X5_checkNumber p0 (σ 3 4) σ = some (e1, r2, σ3) ∧ (e1 = 0 → K 1 (11, [.ref 0, .int p0], [], σ3)) ∧ (¬ e1 = 0 → Xa e1 σ3)
      refine ⟨e1, r2, σ3, q4, fun q => absurd q c5, fun _ => ?_⟩
      subst h
      exact hX c5
  · cases h
theorem h_X5_timeOf : shpX [.ref 0] 2 F_X5_timeOf := by
  intro As σ y h
  unfold F_X5_timeOf at h
  split at h
  · exact ⟨by simp [Value.category], Nat.le_of_ble_eq_true rfl⟩
  · cases h
set_option maxHeartbeats 4000000 in
set_option maxRecDepth 100000 in
theorem c_X5_timeOf (l : Launch) (hl : l.stackTraces = false) (D : va_G) (cI cZ cA cL : ClassId) (ad sa : Nat → Nat) (hi : adI ad) : CtXi l yX5_timeOf wsX5_timeOf { frames := 7, cells := 2, slots := 12, locals := 103 } 2 D cI cZ cA cL ad sa [.ref 0] F_X5_timeOf := by
  refine mk_Xi (mc := 2) [.ref 0] F_X5_timeOf T_X5_timeOf (by decide +kernel) rfl ?_ h_X5_timeOf s_X5_timeOf
  intro p e s m args below meth c Qa Xa ⟨⟨hx, hb, hml, hown, hts, hr, hlocks, hK, hN⟩, hX, hno⟩ n hn
  have hin5 : ∀ w ∈ u_ws RX5 TX5 8, w ∈ wsX5_timeOf := by decide +kernel
  have hl26 : (Cond.fieldLink RX5 26 RX5 (TX5 2).2.1 (TX5 2).2.2.1) ∈ wsX5_timeOf := by decide +kernel
  have hin1 : ∀ w ∈ u_ws RX1 TX1 11, w ∈ wsX5_timeOf := by decide +kernel
  have hl99 : (Cond.fieldLinkNest RX5 99 RX1 (TX1 4).2.1 (TX1 4).2.2.1 "CueTour") ∈ nwL := by decide +kernel
  have hl115 : (Cond.fieldLinkNest RX5 115 RX1 (TX1 6).2.1 (TX1 6).2.2.1 "CueTour") ∈ nwL := by decide +kernel
  refine ruL_c (n := 0) (n2 := 1) rfl (ru_iload_n (k := 1) hx hb dX5_timeOf_0) ?_
  refine ruL_c (n := 1) (n2 := 2) rfl (ru_aload_n (k := 0) hx hb dX5_timeOf_1) ?_
  refine ruL_c (n := 2) (n2 := 3) rfl (ru_getR (own := RX5) (j := 2) (T := TX5) hx hb hown hK hts hin5 (by decide) rfl rfl (by decide) rfl hl26 dX5_timeOf_2) ?_
  refine ruL_c (n := 3) (n2 := 4) rfl (ru_bot) ?_
  refine ruL_c (n := 4) (n2 := 5) rfl (ru_bot) ?_
  refine ruL_c (n := 5) (n2 := 6) rfl (ru_getIN (own := RX5) (j := 4) (T := TX1) hx hb hown hK hN hts hin1 (by decide) rfl rfl (by decide) rfl hl99 dX5_timeOf_5) ?_
  refine ruL_c (n := 6) (n2 := 7) rfl (ru_bot) ?_
  refine ruL_c (n := 7) (n2 := 8) rfl (ru_bot) ?_
  refine ruL_c (n := 8) (n2 := 9) rfl (ru_callX hx hb hml hown hts hK hN hX hno hlocks (c_X5_checkNumber l hl D cI cZ cA cL ad sa hi) (va_cwS 2 hts gX5_timeOf_X5_checkNumber rfl rfl rfl (by decide +kernel) ⟨Nat.le_of_ble_eq_true rfl, Nat.le_of_ble_eq_true rfl⟩) dX5_timeOf_8 ⟨hn, Nat.mul_le_mul_left 6 hn⟩ ⟨hn, Nat.mul_le_mul_left 6 hn⟩) ?_
  refine ruL_c (n := 9) (n2 := 10) rfl (ru_bot) ?_
  refine ruL_c (n := 10) (n2 := 11) rfl (ru_bot) ?_
  refine ruL_c (n := 11) (n2 := 12) rfl (ru_aload_n (k := 0) hx hb dX5_timeOf_11) ?_
  refine ruL_c (n := 12) (n2 := 13) rfl (ru_getR (own := RX5) (j := 2) (T := TX5) hx hb hown hK hts hin5 (by decide) rfl rfl (by decide) rfl hl26 dX5_timeOf_12) ?_
  refine ruL_c (n := 13) (n2 := 14) rfl (ru_bot) ?_
  refine ruL_c (n := 14) (n2 := 15) rfl (ru_bot) ?_
  refine ruL_c (n := 15) (n2 := 16) rfl (ru_getRN (own := RX5) (j := 6) (T := TX1) hx hb hown hK hN hts hin1 (by decide) rfl rfl (by decide) rfl hl115 dX5_timeOf_15) ?_
  refine ruL_c (n := 16) (n2 := 17) rfl (ru_bot) ?_
  refine ruL_c (n := 17) (n2 := 18) rfl (ru_bot) ?_
  refine ruL_c (n := 18) (n2 := 19) rfl (ru_iload_n (k := 1) hx hb dX5_timeOf_18) ?_
  refine ruL_c (n := 19) (n2 := 20) rfl (ru_iald hx hb hK dX5_timeOf_19) ?_
  refine ruL_c (n := 20) (n2 := 21) rfl (ru_iretX hx hb hK hr hlocks dX5_timeOf_20 ⟨Nat.le_of_lt hn, Nat.mul_le_mul_left 6 (Nat.le_of_lt hn)⟩) ?_
  exact trivial

-- CueTour.foldedInto
def f_X5_foldedInto (p0 : Int32) (σ : aM) : Option (Nat × Int32 × aM) := bnX (f_X5_checkNumber p0 (σ 3 4) σ) (fun σ3 => if inb p0 20 = true then some (0, σ3 16 (ix p0), σ3) else none)
def F_X5_foldedInto : aFx := fun As σ => match As with
  | [.int p0] => f_X5_foldedInto p0 σ
  | _ => none
def T_X5_foldedInto : aTx := fun Qa Xa KN => [I_iload 1 1, I_aload 0 1, I_getR 0 3, I_bot, I_bot, I_getI 3 4, I_bot, I_bot, I_callX 2 F_X5_checkNumber KN Xa, I_bot, I_bot, I_aload 0 1, I_getR 0 3, I_bot, I_bot, I_getR 3 16, I_bot, I_bot, I_iload 1 1, I_iald, I_iret Qa]
set_option maxHeartbeats 4000000 in
set_option maxRecDepth 100000 in
theorem s_X5_foldedInto : runsX T_X5_foldedInto 2 [.ref 0] 2 F_X5_foldedInto := by
  intro Qa Xa K hw hf As σ y h hQ hX
  unfold F_X5_foldedInto at h
  split at h
  · rename_i p0
    unfold f_X5_foldedInto at h
    show K 0 (0, [.ref 0, .int p0], [], σ)
    obtain ⟨e1, r2, σ3, q4, h⟩ := bnX_some h
    rcases h with ⟨c5, h⟩ | ⟨c5, h⟩
    · refine (hw 0 (by decide)) 5 _ ?_
      show ∃ e1 r2 σ3, f_X5_checkNumber p0 (σ 3 4) σ = some (e1, r2, σ3) ∧ (e1 = 0 → K 1 (11, [.ref 0, .int p0], [], σ3)) ∧ (¬ e1 = 0 → Xa e1 σ3)
      refine ⟨e1, r2, σ3, q4, fun _ => ?_, fun q => absurd c5 q⟩
      obtain ⟨g6, h⟩ := itX_some h
      obtain rfl := Option.some.inj h
      refine (hw 1 (by decide)) 6 _ ?_
      show kd 16 = 1 ∧ (inb p0 20 = true ∧ (Qa (σ3 16 (ix p0)) σ3))
      refine ⟨rfl, g6, (hQ rfl)⟩
    · refine (hw 0 (by decide)) 5 _ ?_
      show ∃ e1 r2 σ3, f_X5_checkNumber p0 (σ 3 4) σ = some (e1, r2, σ3) ∧ (e1 = 0 → K 1 (11, [.ref 0, .int p0], [], σ3)) ∧ (¬ e1 = 0 → Xa e1 σ3)
      refine ⟨e1, r2, σ3, q4, fun q => absurd q c5, fun _ => ?_⟩
      subst h
      exact hX c5
  · cases h
theorem h_X5_foldedInto : shpX [.ref 0] 2 F_X5_foldedInto := by
  intro As σ y h
  unfold F_X5_foldedInto at h
  split at h
  · exact ⟨by simp [Value.category], Nat.le_of_ble_eq_true rfl⟩
  · cases h
set_option maxHeartbeats 4000000 in
set_option maxRecDepth 100000 in
theorem c_X5_foldedInto (l : Launch) (hl : l.stackTraces = false) (D : va_G) (cI cZ cA cL : ClassId) (ad sa : Nat → Nat) (hi : adI ad) : CtXi l yX5_foldedInto wsX5_foldedInto { frames := 7, cells := 2, slots := 12, locals := 103 } 2 D cI cZ cA cL ad sa [.ref 0] F_X5_foldedInto := by
  refine mk_Xi (mc := 2) [.ref 0] F_X5_foldedInto T_X5_foldedInto (by decide +kernel) rfl ?_ h_X5_foldedInto s_X5_foldedInto
  intro p e s m args below meth c Qa Xa ⟨⟨hx, hb, hml, hown, hts, hr, hlocks, hK, hN⟩, hX, hno⟩ n hn
  have hin5 : ∀ w ∈ u_ws RX5 TX5 8, w ∈ wsX5_foldedInto := by decide +kernel
  have hl26 : (Cond.fieldLink RX5 26 RX5 (TX5 2).2.1 (TX5 2).2.2.1) ∈ wsX5_foldedInto := by decide +kernel
  have hin1 : ∀ w ∈ u_ws RX1 TX1 11, w ∈ wsX5_foldedInto := by decide +kernel
  have hl99 : (Cond.fieldLinkNest RX5 99 RX1 (TX1 4).2.1 (TX1 4).2.2.1 "CueTour") ∈ nwL := by decide +kernel
  have hl118 : (Cond.fieldLinkNest RX5 118 RX1 (TX1 7).2.1 (TX1 7).2.2.1 "CueTour") ∈ nwL := by decide +kernel
  refine ruL_c (n := 0) (n2 := 1) rfl (ru_iload_n (k := 1) hx hb dX5_foldedInto_0) ?_
  refine ruL_c (n := 1) (n2 := 2) rfl (ru_aload_n (k := 0) hx hb dX5_foldedInto_1) ?_
  refine ruL_c (n := 2) (n2 := 3) rfl (ru_getR (own := RX5) (j := 2) (T := TX5) hx hb hown hK hts hin5 (by decide) rfl rfl (by decide) rfl hl26 dX5_foldedInto_2) ?_
  refine ruL_c (n := 3) (n2 := 4) rfl (ru_bot) ?_
  refine ruL_c (n := 4) (n2 := 5) rfl (ru_bot) ?_
  refine ruL_c (n := 5) (n2 := 6) rfl (ru_getIN (own := RX5) (j := 4) (T := TX1) hx hb hown hK hN hts hin1 (by decide) rfl rfl (by decide) rfl hl99 dX5_foldedInto_5) ?_
  refine ruL_c (n := 6) (n2 := 7) rfl (ru_bot) ?_
  refine ruL_c (n := 7) (n2 := 8) rfl (ru_bot) ?_
  refine ruL_c (n := 8) (n2 := 9) rfl (ru_callX hx hb hml hown hts hK hN hX hno hlocks (c_X5_checkNumber l hl D cI cZ cA cL ad sa hi) (va_cwS 2 hts gX5_foldedInto_X5_checkNumber rfl rfl rfl (by decide +kernel) ⟨Nat.le_of_ble_eq_true rfl, Nat.le_of_ble_eq_true rfl⟩) dX5_foldedInto_8 ⟨hn, Nat.mul_le_mul_left 6 hn⟩ ⟨hn, Nat.mul_le_mul_left 6 hn⟩) ?_
  refine ruL_c (n := 9) (n2 := 10) rfl (ru_bot) ?_
  refine ruL_c (n := 10) (n2 := 11) rfl (ru_bot) ?_
  refine ruL_c (n := 11) (n2 := 12) rfl (ru_aload_n (k := 0) hx hb dX5_foldedInto_11) ?_
  refine ruL_c (n := 12) (n2 := 13) rfl (ru_getR (own := RX5) (j := 2) (T := TX5) hx hb hown hK hts hin5 (by decide) rfl rfl (by decide) rfl hl26 dX5_foldedInto_12) ?_
  refine ruL_c (n := 13) (n2 := 14) rfl (ru_bot) ?_
  refine ruL_c (n := 14) (n2 := 15) rfl (ru_bot) ?_
  refine ruL_c (n := 15) (n2 := 16) rfl (ru_getRN (own := RX5) (j := 7) (T := TX1) hx hb hown hK hN hts hin1 (by decide) rfl rfl (by decide) rfl hl118 dX5_foldedInto_15) ?_
  refine ruL_c (n := 16) (n2 := 17) rfl (ru_bot) ?_
  refine ruL_c (n := 17) (n2 := 18) rfl (ru_bot) ?_
  refine ruL_c (n := 18) (n2 := 19) rfl (ru_iload_n (k := 1) hx hb dX5_foldedInto_18) ?_
  refine ruL_c (n := 19) (n2 := 20) rfl (ru_iald hx hb hK dX5_foldedInto_19) ?_
  refine ruL_c (n := 20) (n2 := 21) rfl (ru_iretX hx hb hK hr hlocks dX5_foldedInto_20 ⟨Nat.le_of_lt hn, Nat.mul_le_mul_left 6 (Nat.le_of_lt hn)⟩) ?_
  exact trivial

-- CueTour.changes
def f_X5_changes (p0 : Int32) (p1 : Int32) (σ : aM) : Option (Nat × Int32 × aM) := bnX (f_X5_checkNumber p0 (σ 3 4) σ) (fun σ3 => bnX (f_X5_checkNumber p1 10 σ3) (fun σ8 => if inb p0 20 = true then if inb p1 10 = true then some (0, σ8 (108 + ix p0) (ix p1), σ8) else none else none))
def F_X5_changes : aFx := fun As σ => match As with
  | [.int p0, .int p1] => f_X5_changes p0 p1 σ
  | _ => none
def T_X5_changes : aTx := fun Qa Xa KN => [I_iload 1 1, I_aload 0 1, I_getR 0 3, I_bot, I_bot, I_getI 3 4, I_bot, I_bot, I_callX 2 F_X5_checkNumber KN Xa, I_bot, I_bot, I_iload 2 1, I_const (10) 2, I_bot, I_callX 2 F_X5_checkNumber KN Xa, I_bot, I_bot, I_aload 0 1, I_getR 0 3, I_bot, I_bot, I_getR 3 55, I_bot, I_bot, I_iload 1 1, I_aald, I_iload 2 1, I_iald, I_iret Qa]
set_option maxHeartbeats 4000000 in
set_option maxRecDepth 100000 in
theorem s_X5_changes : runsX T_X5_changes 3 [.ref 0] 3 F_X5_changes := by
  intro Qa Xa K hw hf As σ y h hQ hX
  unfold F_X5_changes at h
  split at h
  · rename_i p0 p1
    unfold f_X5_changes at h
    show K 0 (0, [.ref 0, .int p0, .int p1], [], σ)
    obtain ⟨e1, r2, σ3, q4, h⟩ := bnX_some h
    rcases h with ⟨c5, h⟩ | ⟨c5, h⟩
    · refine (hw 0 (by decide)) 5 _ ?_
      show ∃ e1 r2 σ3, f_X5_checkNumber p0 (σ 3 4) σ = some (e1, r2, σ3) ∧ (e1 = 0 → K 1 (11, [.ref 0, .int p0, .int p1], [], σ3)) ∧ (¬ e1 = 0 → Xa e1 σ3)
      refine ⟨e1, r2, σ3, q4, fun _ => ?_, fun q => absurd c5 q⟩
      obtain ⟨e6, r7, σ8, q9, h⟩ := bnX_some h
      rcases h with ⟨c10, h⟩ | ⟨c10, h⟩
      · refine (hw 1 (by decide)) 3 _ ?_
        show ∃ e6 r7 σ8, f_X5_checkNumber p1 10 σ3 = some (e6, r7, σ8) ∧ (e6 = 0 → K 2 (17, [.ref 0, .int p0, .int p1], [], σ8)) ∧ (¬ e6 = 0 → Xa e6 σ8)
        refine ⟨e6, r7, σ8, q9, fun _ => ?_, fun q => absurd c10 q⟩
        obtain ⟨g11, h⟩ := itX_some h
        obtain ⟨g12, h⟩ := itX_some h
        obtain rfl := Option.some.inj h
        refine (hw 2 (by decide)) 8 _ ?_
        show kd 55 = 3 ∧ (inb p0 20 = true ∧ (kd (108 + ix p0) = 1 ∧ (inb p1 (ln (108 + ix p0)) = true ∧ (Qa (σ8 (108 + ix p0) (ix p1)) σ8))))
        refine ⟨rfl, g11, (row55_kd g11), (by rw [row55_ln g11]; exact g12), (hQ rfl)⟩
      · refine (hw 1 (by decide)) 3 _ ?_
        show ∃ e6 r7 σ8, f_X5_checkNumber p1 10 σ3 = some (e6, r7, σ8) ∧ (e6 = 0 → K 2 (17, [.ref 0, .int p0, .int p1], [], σ8)) ∧ (¬ e6 = 0 → Xa e6 σ8)
        refine ⟨e6, r7, σ8, q9, fun q => absurd q c10, fun _ => ?_⟩
        subst h
        exact hX c10
    · refine (hw 0 (by decide)) 5 _ ?_
      show ∃ e1 r2 σ3, f_X5_checkNumber p0 (σ 3 4) σ = some (e1, r2, σ3) ∧ (e1 = 0 → K 1 (11, [.ref 0, .int p0, .int p1], [], σ3)) ∧ (¬ e1 = 0 → Xa e1 σ3)
      refine ⟨e1, r2, σ3, q4, fun q => absurd q c5, fun _ => ?_⟩
      subst h
      exact hX c5
  · cases h
theorem h_X5_changes : shpX [.ref 0] 3 F_X5_changes := by
  intro As σ y h
  unfold F_X5_changes at h
  split at h
  · exact ⟨by simp [Value.category], Nat.le_of_ble_eq_true rfl⟩
  · cases h
set_option maxHeartbeats 4000000 in
set_option maxRecDepth 100000 in
theorem c_X5_changes (l : Launch) (hl : l.stackTraces = false) (D : va_G) (cI cZ cA cL : ClassId) (ad sa : Nat → Nat) (hi : adI ad) : CtXi l yX5_changes wsX5_changes { frames := 7, cells := 3, slots := 18, locals := 103 } 3 D cI cZ cA cL ad sa [.ref 0] F_X5_changes := by
  refine mk_Xi (mc := 3) [.ref 0] F_X5_changes T_X5_changes (by decide +kernel) rfl ?_ h_X5_changes s_X5_changes
  intro p e s m args below meth c Qa Xa ⟨⟨hx, hb, hml, hown, hts, hr, hlocks, hK, hN⟩, hX, hno⟩ n hn
  have hin5 : ∀ w ∈ u_ws RX5 TX5 8, w ∈ wsX5_changes := by decide +kernel
  have hl26 : (Cond.fieldLink RX5 26 RX5 (TX5 2).2.1 (TX5 2).2.2.1) ∈ wsX5_changes := by decide +kernel
  have hin1 : ∀ w ∈ u_ws RX1 TX1 11, w ∈ wsX5_changes := by decide +kernel
  have hl99 : (Cond.fieldLinkNest RX5 99 RX1 (TX1 4).2.1 (TX1 4).2.2.1 "CueTour") ∈ nwL := by decide +kernel
  have hl121 : (Cond.fieldLinkNest RX5 121 RX1 (TX1 8).2.1 (TX1 8).2.2.1 "CueTour") ∈ nwL := by decide +kernel
  refine ruL_c (n := 0) (n2 := 1) rfl (ru_iload_n (k := 1) hx hb dX5_changes_0) ?_
  refine ruL_c (n := 1) (n2 := 2) rfl (ru_aload_n (k := 0) hx hb dX5_changes_1) ?_
  refine ruL_c (n := 2) (n2 := 3) rfl (ru_getR (own := RX5) (j := 2) (T := TX5) hx hb hown hK hts hin5 (by decide) rfl rfl (by decide) rfl hl26 dX5_changes_2) ?_
  refine ruL_c (n := 3) (n2 := 4) rfl (ru_bot) ?_
  refine ruL_c (n := 4) (n2 := 5) rfl (ru_bot) ?_
  refine ruL_c (n := 5) (n2 := 6) rfl (ru_getIN (own := RX5) (j := 4) (T := TX1) hx hb hown hK hN hts hin1 (by decide) rfl rfl (by decide) rfl hl99 dX5_changes_5) ?_
  refine ruL_c (n := 6) (n2 := 7) rfl (ru_bot) ?_
  refine ruL_c (n := 7) (n2 := 8) rfl (ru_bot) ?_
  refine ruL_c (n := 8) (n2 := 9) rfl (ru_callX hx hb hml hown hts hK hN hX hno hlocks (c_X5_checkNumber l hl D cI cZ cA cL ad sa hi) (va_cwS 2 hts gX5_changes_X5_checkNumber rfl rfl rfl (by decide +kernel) ⟨Nat.le_of_ble_eq_true rfl, Nat.le_of_ble_eq_true rfl⟩) dX5_changes_8 ⟨hn, Nat.mul_le_mul_left 6 hn⟩ ⟨hn, Nat.mul_le_mul_left 6 hn⟩) ?_
  refine ruL_c (n := 9) (n2 := 10) rfl (ru_bot) ?_
  refine ruL_c (n := 10) (n2 := 11) rfl (ru_bot) ?_
  refine ruL_c (n := 11) (n2 := 12) rfl (ru_iload_n (k := 2) hx hb dX5_changes_11) ?_
  refine ruL_c (n := 12) (n2 := 13) rfl (ru_bipush hx hb dX5_changes_12 rfl) ?_
  refine ruL_c (n := 13) (n2 := 14) rfl (ru_bot) ?_
  refine ruL_c (n := 14) (n2 := 15) rfl (ru_callX hx hb hml hown hts hK hN hX hno hlocks (c_X5_checkNumber l hl D cI cZ cA cL ad sa hi) (va_cwS 2 hts gX5_changes_X5_checkNumber rfl rfl rfl (by decide +kernel) ⟨Nat.le_of_ble_eq_true rfl, Nat.le_of_ble_eq_true rfl⟩) dX5_changes_14 ⟨hn, Nat.mul_le_mul_left 6 hn⟩ ⟨hn, Nat.mul_le_mul_left 6 hn⟩) ?_
  refine ruL_c (n := 15) (n2 := 16) rfl (ru_bot) ?_
  refine ruL_c (n := 16) (n2 := 17) rfl (ru_bot) ?_
  refine ruL_c (n := 17) (n2 := 18) rfl (ru_aload_n (k := 0) hx hb dX5_changes_17) ?_
  refine ruL_c (n := 18) (n2 := 19) rfl (ru_getR (own := RX5) (j := 2) (T := TX5) hx hb hown hK hts hin5 (by decide) rfl rfl (by decide) rfl hl26 dX5_changes_18) ?_
  refine ruL_c (n := 19) (n2 := 20) rfl (ru_bot) ?_
  refine ruL_c (n := 20) (n2 := 21) rfl (ru_bot) ?_
  refine ruL_c (n := 21) (n2 := 22) rfl (ru_getRN (own := RX5) (j := 8) (T := TX1) hx hb hown hK hN hts hin1 (by decide) rfl rfl (by decide) rfl hl121 dX5_changes_21) ?_
  refine ruL_c (n := 22) (n2 := 23) rfl (ru_bot) ?_
  refine ruL_c (n := 23) (n2 := 24) rfl (ru_bot) ?_
  refine ruL_c (n := 24) (n2 := 25) rfl (ru_iload_n (k := 1) hx hb dX5_changes_24) ?_
  refine ruL_c (n := 25) (n2 := 26) rfl (ru_aald hx hb hK dX5_changes_25) ?_
  refine ruL_c (n := 26) (n2 := 27) rfl (ru_iload_n (k := 2) hx hb dX5_changes_26) ?_
  refine ruL_c (n := 27) (n2 := 28) rfl (ru_iald hx hb hK dX5_changes_27) ?_
  refine ruL_c (n := 28) (n2 := 29) rfl (ru_iretX hx hb hK hr hlocks dX5_changes_28 ⟨Nat.le_of_lt hn, Nat.mul_le_mul_left 6 (Nat.le_of_lt hn)⟩) ?_
  exact trivial

-- CueTour.levelAt
def f_X5_levelAt (p0 : Int32) (p1 : Int32) (σ : aM) : Option (Nat × Int32 × aM) := bnX (f_X5_checkNumber p0 10 σ) (fun σ3 => bnX (f_X5_checkRange p1 0 2000 σ3) (fun σ8 => bnN (f_X1_levelByFades p0 p1 σ8) (fun r11 σ12 => some (0, r11, σ12))))
def F_X5_levelAt : aFx := fun As σ => match As with
  | [.int p0, .int p1] => f_X5_levelAt p0 p1 σ
  | _ => none
def T_X5_levelAt : aTx := fun Qa Xa KN => [I_iload 1 1, I_const (10) 2, I_bot, I_callX 2 F_X5_checkNumber KN Xa, I_bot, I_bot, I_iload 2 1, I_const 0 1, I_const (2000) 3, I_bot, I_bot, I_callX 3 F_X5_checkRange KN Xa, I_bot, I_bot, I_aload 0 1, I_getR 0 3, I_bot, I_bot, I_iload 1 1, I_iload 2 1, I_callV 3 2 F_X1_levelByFades, I_bot, I_bot, I_iret Qa]
set_option maxHeartbeats 4000000 in
set_option maxRecDepth 100000 in
theorem s_X5_levelAt : runsX T_X5_levelAt 3 [.ref 0] 3 F_X5_levelAt := by
  intro Qa Xa K hw hf As σ y h hQ hX
  unfold F_X5_levelAt at h
  split at h
  · rename_i p0 p1
    unfold f_X5_levelAt at h
    show K 0 (0, [.ref 0, .int p0, .int p1], [], σ)
    obtain ⟨e1, r2, σ3, q4, h⟩ := bnX_some h
    rcases h with ⟨c5, h⟩ | ⟨c5, h⟩
    · refine (hw 0 (by decide)) 3 _ ?_
      show ∃ e1 r2 σ3, f_X5_checkNumber p0 10 σ = some (e1, r2, σ3) ∧ (e1 = 0 → K 1 (6, [.ref 0, .int p0, .int p1], [], σ3)) ∧ (¬ e1 = 0 → Xa e1 σ3)
      refine ⟨e1, r2, σ3, q4, fun _ => ?_, fun q => absurd c5 q⟩
      obtain ⟨e6, r7, σ8, q9, h⟩ := bnX_some h
      rcases h with ⟨c10, h⟩ | ⟨c10, h⟩
      · refine (hw 1 (by decide)) 4 _ ?_
        show ∃ e6 r7 σ8, f_X5_checkRange p1 0 2000 σ3 = some (e6, r7, σ8) ∧ (e6 = 0 → K 2 (14, [.ref 0, .int p0, .int p1], [], σ8)) ∧ (¬ e6 = 0 → Xa e6 σ8)
        refine ⟨e6, r7, σ8, q9, fun _ => ?_, fun q => absurd c10 q⟩
        obtain ⟨r11, σ12, e13, h⟩ := bnN_some h
        refine (hw 2 (by decide)) 5 _ ?_
        show ∃ r11 σ12, f_X1_levelByFades p0 p1 σ8 = some (r11, σ12) ∧ K 2 (23, [.ref 0, .int p0, .int p1], [.int r11], σ12)
        refine ⟨r11, σ12, e13, ?_⟩
        obtain rfl := Option.some.inj h
        refine (hw 2 (by decide)) 1 _ ?_
        show Qa r11 σ12
        refine hQ rfl
      · refine (hw 1 (by decide)) 4 _ ?_
        show ∃ e6 r7 σ8, f_X5_checkRange p1 0 2000 σ3 = some (e6, r7, σ8) ∧ (e6 = 0 → K 2 (14, [.ref 0, .int p0, .int p1], [], σ8)) ∧ (¬ e6 = 0 → Xa e6 σ8)
        refine ⟨e6, r7, σ8, q9, fun q => absurd q c10, fun _ => ?_⟩
        subst h
        exact hX c10
    · refine (hw 0 (by decide)) 3 _ ?_
      show ∃ e1 r2 σ3, f_X5_checkNumber p0 10 σ = some (e1, r2, σ3) ∧ (e1 = 0 → K 1 (6, [.ref 0, .int p0, .int p1], [], σ3)) ∧ (¬ e1 = 0 → Xa e1 σ3)
      refine ⟨e1, r2, σ3, q4, fun q => absurd q c5, fun _ => ?_⟩
      subst h
      exact hX c5
  · cases h
theorem h_X5_levelAt : shpX [.ref 0] 3 F_X5_levelAt := by
  intro As σ y h
  unfold F_X5_levelAt at h
  split at h
  · exact ⟨by simp [Value.category], Nat.le_of_ble_eq_true rfl⟩
  · cases h
set_option maxHeartbeats 4000000 in
set_option maxRecDepth 100000 in
theorem c_X5_levelAt (l : Launch) (hl : l.stackTraces = false) (D : va_G) (cI cZ cA cL : ClassId) (ad sa : Nat → Nat) (hi : adI ad) : CtXi l yX5_levelAt wsX5_levelAt { frames := 7, cells := 3, slots := 18, locals := 104 } 3 D cI cZ cA cL ad sa [.ref 0] F_X5_levelAt := by
  refine mk_Xi (mc := 3) [.ref 0] F_X5_levelAt T_X5_levelAt (by decide +kernel) rfl ?_ h_X5_levelAt s_X5_levelAt
  intro p e s m args below meth c Qa Xa ⟨⟨hx, hb, hml, hown, hts, hr, hlocks, hK, hN⟩, hX, hno⟩ n hn
  have hin5 : ∀ w ∈ u_ws RX5 TX5 8, w ∈ wsX5_levelAt := by decide +kernel
  have hl26 : (Cond.fieldLink RX5 26 RX5 (TX5 2).2.1 (TX5 2).2.2.1) ∈ wsX5_levelAt := by decide +kernel
  refine ruL_c (n := 0) (n2 := 1) rfl (ru_iload_n (k := 1) hx hb dX5_levelAt_0) ?_
  refine ruL_c (n := 1) (n2 := 2) rfl (ru_bipush hx hb dX5_levelAt_1 rfl) ?_
  refine ruL_c (n := 2) (n2 := 3) rfl (ru_bot) ?_
  refine ruL_c (n := 3) (n2 := 4) rfl (ru_callX hx hb hml hown hts hK hN hX hno hlocks (c_X5_checkNumber l hl D cI cZ cA cL ad sa hi) (va_cwS 2 hts gX5_levelAt_X5_checkNumber rfl rfl rfl (by decide +kernel) ⟨Nat.le_of_ble_eq_true rfl, Nat.le_of_ble_eq_true rfl⟩) dX5_levelAt_3 ⟨hn, Nat.mul_le_mul_left 6 hn⟩ ⟨hn, Nat.mul_le_mul_left 6 hn⟩) ?_
  refine ruL_c (n := 4) (n2 := 5) rfl (ru_bot) ?_
  refine ruL_c (n := 5) (n2 := 6) rfl (ru_bot) ?_
  refine ruL_c (n := 6) (n2 := 7) rfl (ru_iload_n (k := 2) hx hb dX5_levelAt_6) ?_
  refine ruL_c (n := 7) (n2 := 8) rfl (ru_iconst hx hb dX5_levelAt_7 rfl) ?_
  refine ruL_c (n := 8) (n2 := 9) rfl (ru_sipush hx hb dX5_levelAt_8 rfl) ?_
  refine ruL_c (n := 9) (n2 := 10) rfl (ru_bot) ?_
  refine ruL_c (n := 10) (n2 := 11) rfl (ru_bot) ?_
  refine ruL_c (n := 11) (n2 := 12) rfl (ru_callX hx hb hml hown hts hK hN hX hno hlocks (c_X5_checkRange l hl D cI cZ cA cL ad sa hi) (va_cwS 3 hts gX5_levelAt_X5_checkRange rfl rfl rfl (by decide +kernel) ⟨Nat.le_of_ble_eq_true rfl, Nat.le_of_ble_eq_true rfl⟩) dX5_levelAt_11 ⟨hn, Nat.mul_le_mul_left 6 hn⟩ ⟨hn, Nat.mul_le_mul_left 6 hn⟩) ?_
  refine ruL_c (n := 12) (n2 := 13) rfl (ru_bot) ?_
  refine ruL_c (n := 13) (n2 := 14) rfl (ru_bot) ?_
  refine ruL_c (n := 14) (n2 := 15) rfl (ru_aload_n (k := 0) hx hb dX5_levelAt_14) ?_
  refine ruL_c (n := 15) (n2 := 16) rfl (ru_getR (own := RX5) (j := 2) (T := TX5) hx hb hown hK hts hin5 (by decide) rfl rfl (by decide) rfl hl26 dX5_levelAt_15) ?_
  refine ruL_c (n := 16) (n2 := 17) rfl (ru_bot) ?_
  refine ruL_c (n := 17) (n2 := 18) rfl (ru_bot) ?_
  refine ruL_c (n := 18) (n2 := 19) rfl (ru_iload_n (k := 1) hx hb dX5_levelAt_18) ?_
  refine ruL_c (n := 19) (n2 := 20) rfl (ru_iload_n (k := 2) hx hb dX5_levelAt_19) ?_
  refine ruL_c (n := 20) (n2 := 21) rfl (ru_callV hx hb hml hown hts hK hN (by decide) rfl (c_X1_levelByFades l D cI cZ cA cL ad hi) (cwV 2 hts gX5_levelAt_X1_levelByFades rfl rfl rfl (by decide +kernel) ⟨Nat.le_of_ble_eq_true rfl, Nat.le_of_ble_eq_true rfl⟩) dX5_levelAt_20 ⟨Nat.le_of_lt hn, Nat.mul_le_mul_left 6 (Nat.le_of_lt hn)⟩) ?_
  refine ruL_c (n := 21) (n2 := 22) rfl (ru_bot) ?_
  refine ruL_c (n := 22) (n2 := 23) rfl (ru_bot) ?_
  refine ruL_c (n := 23) (n2 := 24) rfl (ru_iretX hx hb hK hr hlocks dX5_levelAt_23 ⟨Nat.le_of_lt hn, Nat.mul_le_mul_left 6 (Nat.le_of_lt hn)⟩) ?_
  exact trivial

-- CueTour.levelBySeconds
def f_X5_levelBySeconds (p0 : Int32) (p1 : Int32) (σ : aM) : Option (Nat × Int32 × aM) := bnX (f_X5_checkNumber p0 10 σ) (fun σ3 => bnX (f_X5_checkRange p1 0 2000 σ3) (fun σ8 => bnN (f_X1_levelByTicks p0 p1 σ8) (fun r11 σ12 => some (0, r11, σ12))))
def F_X5_levelBySeconds : aFx := fun As σ => match As with
  | [.int p0, .int p1] => f_X5_levelBySeconds p0 p1 σ
  | _ => none
def T_X5_levelBySeconds : aTx := fun Qa Xa KN => [I_iload 1 1, I_const (10) 2, I_bot, I_callX 2 F_X5_checkNumber KN Xa, I_bot, I_bot, I_iload 2 1, I_const 0 1, I_const (2000) 3, I_bot, I_bot, I_callX 3 F_X5_checkRange KN Xa, I_bot, I_bot, I_aload 0 1, I_getR 0 3, I_bot, I_bot, I_iload 1 1, I_iload 2 1, I_callV 3 2 F_X1_levelByTicks, I_bot, I_bot, I_iret Qa]
set_option maxHeartbeats 4000000 in
set_option maxRecDepth 100000 in
theorem s_X5_levelBySeconds : runsX T_X5_levelBySeconds 3 [.ref 0] 3 F_X5_levelBySeconds := by
  intro Qa Xa K hw hf As σ y h hQ hX
  unfold F_X5_levelBySeconds at h
  split at h
  · rename_i p0 p1
    unfold f_X5_levelBySeconds at h
    show K 0 (0, [.ref 0, .int p0, .int p1], [], σ)
    obtain ⟨e1, r2, σ3, q4, h⟩ := bnX_some h
    rcases h with ⟨c5, h⟩ | ⟨c5, h⟩
    · refine (hw 0 (by decide)) 3 _ ?_
      show ∃ e1 r2 σ3, f_X5_checkNumber p0 10 σ = some (e1, r2, σ3) ∧ (e1 = 0 → K 1 (6, [.ref 0, .int p0, .int p1], [], σ3)) ∧ (¬ e1 = 0 → Xa e1 σ3)
      refine ⟨e1, r2, σ3, q4, fun _ => ?_, fun q => absurd c5 q⟩
      obtain ⟨e6, r7, σ8, q9, h⟩ := bnX_some h
      rcases h with ⟨c10, h⟩ | ⟨c10, h⟩
      · refine (hw 1 (by decide)) 4 _ ?_
        show ∃ e6 r7 σ8, f_X5_checkRange p1 0 2000 σ3 = some (e6, r7, σ8) ∧ (e6 = 0 → K 2 (14, [.ref 0, .int p0, .int p1], [], σ8)) ∧ (¬ e6 = 0 → Xa e6 σ8)
        refine ⟨e6, r7, σ8, q9, fun _ => ?_, fun q => absurd c10 q⟩
        obtain ⟨r11, σ12, e13, h⟩ := bnN_some h
        refine (hw 2 (by decide)) 5 _ ?_
        show ∃ r11 σ12, f_X1_levelByTicks p0 p1 σ8 = some (r11, σ12) ∧ K 2 (23, [.ref 0, .int p0, .int p1], [.int r11], σ12)
        refine ⟨r11, σ12, e13, ?_⟩
        obtain rfl := Option.some.inj h
        refine (hw 2 (by decide)) 1 _ ?_
        show Qa r11 σ12
        refine hQ rfl
      · refine (hw 1 (by decide)) 4 _ ?_
        show ∃ e6 r7 σ8, f_X5_checkRange p1 0 2000 σ3 = some (e6, r7, σ8) ∧ (e6 = 0 → K 2 (14, [.ref 0, .int p0, .int p1], [], σ8)) ∧ (¬ e6 = 0 → Xa e6 σ8)
        refine ⟨e6, r7, σ8, q9, fun q => absurd q c10, fun _ => ?_⟩
        subst h
        exact hX c10
    · refine (hw 0 (by decide)) 3 _ ?_
      show ∃ e1 r2 σ3, f_X5_checkNumber p0 10 σ = some (e1, r2, σ3) ∧ (e1 = 0 → K 1 (6, [.ref 0, .int p0, .int p1], [], σ3)) ∧ (¬ e1 = 0 → Xa e1 σ3)
      refine ⟨e1, r2, σ3, q4, fun q => absurd q c5, fun _ => ?_⟩
      subst h
      exact hX c5
  · cases h
theorem h_X5_levelBySeconds : shpX [.ref 0] 3 F_X5_levelBySeconds := by
  intro As σ y h
  unfold F_X5_levelBySeconds at h
  split at h
  · exact ⟨by simp [Value.category], Nat.le_of_ble_eq_true rfl⟩
  · cases h
set_option maxHeartbeats 4000000 in
set_option maxRecDepth 100000 in
theorem c_X5_levelBySeconds (l : Launch) (hl : l.stackTraces = false) (D : va_G) (cI cZ cA cL : ClassId) (ad sa : Nat → Nat) (hi : adI ad) : CtXi l yX5_levelBySeconds wsX5_levelBySeconds { frames := 7, cells := 3, slots := 18, locals := 104 } 3 D cI cZ cA cL ad sa [.ref 0] F_X5_levelBySeconds := by
  refine mk_Xi (mc := 3) [.ref 0] F_X5_levelBySeconds T_X5_levelBySeconds (by decide +kernel) rfl ?_ h_X5_levelBySeconds s_X5_levelBySeconds
  intro p e s m args below meth c Qa Xa ⟨⟨hx, hb, hml, hown, hts, hr, hlocks, hK, hN⟩, hX, hno⟩ n hn
  have hin5 : ∀ w ∈ u_ws RX5 TX5 8, w ∈ wsX5_levelBySeconds := by decide +kernel
  have hl26 : (Cond.fieldLink RX5 26 RX5 (TX5 2).2.1 (TX5 2).2.2.1) ∈ wsX5_levelBySeconds := by decide +kernel
  refine ruL_c (n := 0) (n2 := 1) rfl (ru_iload_n (k := 1) hx hb dX5_levelBySeconds_0) ?_
  refine ruL_c (n := 1) (n2 := 2) rfl (ru_bipush hx hb dX5_levelBySeconds_1 rfl) ?_
  refine ruL_c (n := 2) (n2 := 3) rfl (ru_bot) ?_
  refine ruL_c (n := 3) (n2 := 4) rfl (ru_callX hx hb hml hown hts hK hN hX hno hlocks (c_X5_checkNumber l hl D cI cZ cA cL ad sa hi) (va_cwS 2 hts gX5_levelBySeconds_X5_checkNumber rfl rfl rfl (by decide +kernel) ⟨Nat.le_of_ble_eq_true rfl, Nat.le_of_ble_eq_true rfl⟩) dX5_levelBySeconds_3 ⟨hn, Nat.mul_le_mul_left 6 hn⟩ ⟨hn, Nat.mul_le_mul_left 6 hn⟩) ?_
  refine ruL_c (n := 4) (n2 := 5) rfl (ru_bot) ?_
  refine ruL_c (n := 5) (n2 := 6) rfl (ru_bot) ?_
  refine ruL_c (n := 6) (n2 := 7) rfl (ru_iload_n (k := 2) hx hb dX5_levelBySeconds_6) ?_
  refine ruL_c (n := 7) (n2 := 8) rfl (ru_iconst hx hb dX5_levelBySeconds_7 rfl) ?_
  refine ruL_c (n := 8) (n2 := 9) rfl (ru_sipush hx hb dX5_levelBySeconds_8 rfl) ?_
  refine ruL_c (n := 9) (n2 := 10) rfl (ru_bot) ?_
  refine ruL_c (n := 10) (n2 := 11) rfl (ru_bot) ?_
  refine ruL_c (n := 11) (n2 := 12) rfl (ru_callX hx hb hml hown hts hK hN hX hno hlocks (c_X5_checkRange l hl D cI cZ cA cL ad sa hi) (va_cwS 3 hts gX5_levelBySeconds_X5_checkRange rfl rfl rfl (by decide +kernel) ⟨Nat.le_of_ble_eq_true rfl, Nat.le_of_ble_eq_true rfl⟩) dX5_levelBySeconds_11 ⟨hn, Nat.mul_le_mul_left 6 hn⟩ ⟨hn, Nat.mul_le_mul_left 6 hn⟩) ?_
  refine ruL_c (n := 12) (n2 := 13) rfl (ru_bot) ?_
  refine ruL_c (n := 13) (n2 := 14) rfl (ru_bot) ?_
  refine ruL_c (n := 14) (n2 := 15) rfl (ru_aload_n (k := 0) hx hb dX5_levelBySeconds_14) ?_
  refine ruL_c (n := 15) (n2 := 16) rfl (ru_getR (own := RX5) (j := 2) (T := TX5) hx hb hown hK hts hin5 (by decide) rfl rfl (by decide) rfl hl26 dX5_levelBySeconds_15) ?_
  refine ruL_c (n := 16) (n2 := 17) rfl (ru_bot) ?_
  refine ruL_c (n := 17) (n2 := 18) rfl (ru_bot) ?_
  refine ruL_c (n := 18) (n2 := 19) rfl (ru_iload_n (k := 1) hx hb dX5_levelBySeconds_18) ?_
  refine ruL_c (n := 19) (n2 := 20) rfl (ru_iload_n (k := 2) hx hb dX5_levelBySeconds_19) ?_
  refine ruL_c (n := 20) (n2 := 21) rfl (ru_callV hx hb hml hown hts hK hN (by decide) rfl (c_X1_levelByTicks l D cI cZ cA cL ad hi) (cwV 2 hts gX5_levelBySeconds_X1_levelByTicks rfl rfl rfl (by decide +kernel) ⟨Nat.le_of_ble_eq_true rfl, Nat.le_of_ble_eq_true rfl⟩) dX5_levelBySeconds_20 ⟨Nat.le_of_lt hn, Nat.mul_le_mul_left 6 (Nat.le_of_lt hn)⟩) ?_
  refine ruL_c (n := 21) (n2 := 22) rfl (ru_bot) ?_
  refine ruL_c (n := 22) (n2 := 23) rfl (ru_bot) ?_
  refine ruL_c (n := 23) (n2 := 24) rfl (ru_iretX hx hb hK hr hlocks dX5_levelBySeconds_23 ⟨Nat.le_of_lt hn, Nat.mul_le_mul_left 6 (Nat.le_of_lt hn)⟩) ?_
  exact trivial

