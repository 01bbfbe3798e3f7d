-- CueTourModel.shorts
def l_X6_shorts_35 (x8 : Int32) (x9 : Int32) : Nat → Int32 → Int32 → aM → (Int32 → Int32 → aM → Option (Int32 × aM)) → Option (Int32 × aM)
  | 0, _, _, _, _ => none
  | n + 1, v10, v11, σ12, k => if 4 ≤ v11 then k v10 v11 σ12 else bnd (f_X6_lightNow x8 v11 σ12) (fun r14 σ15 => if inb ((4 * x9) + v11) 120 = true then if (σ15 31 (ix ((4 * x9) + v11))) ≤ r14 then l_X6_shorts_35 x8 x9 n (v10 ||| 0) (v11 + 1) σ15 k else l_X6_shorts_35 x8 x9 n (v10 ||| (1 <<< (v11 &&& 31))) (v11 + 1) σ15 k else none)
def f_X6_shorts (p0 : Int32) (p1 : Int32) (σ : aM) : Option (Int32 × aM) := if inb p1 30 = true then if (σ 30 (ix p1)) = 0 then if inb p1 30 = true then if inb p1 30 = true then bnd (f_X6_lights (((σ 49 (ix p1)) + (σ 29 (ix p1))) - 1) σ) (fun r5 σ6 => l_X6_shorts_35 p0 p1 lf 0 0 σ6 (fun v19 v20 σ21 => some (v19, σ21))) else none else none else some (0, σ) else none
def F_X6_shorts : aF := fun As σ => match As with
  | [.int p0, .int p1] => f_X6_shorts p0 p1 σ
  | _ => none
def T_X6_shorts (Qa : Int32 → aM → Prop) : List aI := [I_aload 0 1, I_getR 6 30, I_bot, I_bot, I_iload 2 1, I_zald, I_if (fun x => x = 0) 11, I_bot, I_bot, I_const 0 1, I_iret Qa, I_const 0 1, I_istore 3 1, I_aload 0 1, I_aload 0 1, I_getR 6 49, I_bot, I_bot, I_iload 2 1, I_iald, I_aload 0 1, I_getR 6 29, I_bot, I_bot, I_iload 2 1, I_iald, I_bin fun x y => x + y, I_const 1 1, I_bin fun x y => x - y, I_callVv 6 1 F_X6_lights, I_bot, I_bot, I_const 0 1, I_istore 4 2, I_bot, I_iload 4 2, I_bot, I_const 4 1, I_icmp (fun x y => y ≤ x) 79, I_bot, I_bot, I_iload 3 1, I_aload 0 1, I_iload 1 1, I_iload 4 2, I_bot, I_callV 6 2 F_X6_lightNow, I_bot, I_bot, I_aload 0 1, I_getR 6 31, I_bot, I_bot, I_const 4 1, I_iload 2 1, I_bin fun x y => x * y, I_iload 4 2, I_bot, I_bin fun x y => x + y, I_iald, I_icmp (fun x y => y ≤ x) 70, I_bot, I_bot, I_const 1 1, I_iload 4 2, I_bot, I_bin fun x y => x <<< (y &&& 31), I_goto 71, I_bot, I_bot, I_const 0 1, I_bin fun x y => x ||| y, I_istore 3 1, I_iinc 4 (1), I_bot, I_bot, I_goto 35, I_bot, I_bot, I_iload 3 1, I_iret Qa]
set_option maxHeartbeats 4000000 in
set_option maxRecDepth 100000 in
theorem t_X6_shorts_35 {Qa : Int32 → aM → Prop} {K : aS → Prop} (hw : ∀ k x, wp (T_X6_shorts Qa) k K x → K x) (hf : ∀ pc L i st σ, K (pc, L.set i .null, st, σ) → K (pc, L, st, σ)) (x8 : Int32) (x9 : Int32) (y : Int32 × aM) (k : Int32 → Int32 → aM → Option (Int32 × aM)) :
    ∀ (n : Nat) (v10 : Int32) (v11 : Int32) (σ12 : aM), l_X6_shorts_35 x8 x9 n v10 v11 σ12 k = some y → (∀ (w0 : Int32) (w1 : Int32) (τ : aM), k w0 w1 τ = some y → K (79, [.ref 6, .int x8, .int x9, .int w0, .int w1], [], τ)) → K (35, [.ref 6, .int x8, .int x9, .int v10, .int v11], [], σ12) := by
  intro n
  induction n with
  | zero =>
    intro v10 v11 σ12 h hk
    exact absurd h (by simp [l_X6_shorts_35])
  | succ n ih =>
    intro v10 v11 σ12 h hk
    unfold l_X6_shorts_35 at h
    rcases ite_cases h with ⟨c13, h⟩ | ⟨c13, h⟩
    · refine hw 3 _ ?_
      show ((4 ≤ v11) → K (79, [.ref 6, .int x8, .int x9, .int v10, .int v11], [], σ12)) ∧ (¬ (4 ≤ v11) → K (41, [.ref 6, .int x8, .int x9, .int v10, .int v11], [], σ12))
      refine ⟨fun _ => ?_, fun q => absurd c13 q⟩
      exact hk v10 v11 σ12 h
    · refine hw 3 _ ?_
      show ((4 ≤ v11) → K (79, [.ref 6, .int x8, .int x9, .int v10, .int v11], [], σ12)) ∧ (¬ (4 ≤ v11) → K (41, [.ref 6, .int x8, .int x9, .int v10, .int v11], [], σ12))
      refine ⟨fun q => absurd q c13, fun _ => ?_⟩
      obtain ⟨r14, σ15, e16, h⟩ := bnd_some h
      refine hw 5 _ ?_
      show ∃ r14 σ15, f_X6_lightNow x8 v11 σ12 = some (r14, σ15) ∧ K (49, [.ref 6, .int x8, .int x9, .int v10, .int v11], [.int r14, .int v10], σ15)
      refine ⟨r14, σ15, e16, ?_⟩
      obtain ⟨g17, h⟩ := ite_some h
      rcases ite_cases h with ⟨c18, h⟩ | ⟨c18, h⟩
      · refine hw 9 _ ?_
        show kd 31 = 1 ∧ (inb ((4 * x9) + v11) 120 = true ∧ ((((σ15 31 (ix ((4 * x9) + v11))) ≤ r14) → K (70, [.ref 6, .int x8, .int x9, .int v10, .int v11], [.int v10], σ15)) ∧ (¬ ((σ15 31 (ix ((4 * x9) + v11))) ≤ r14) → K (63, [.ref 6, .int x8, .int x9, .int v10, .int v11], [.int v10], σ15))))
        refine ⟨rfl, g17, ⟨fun _ => ?_, fun q => absurd c18 q⟩⟩
        refine hw 5 _ ?_
        show K (35, [.ref 6, .int x8, .int x9, .int (v10 ||| 0), .int (v11 + 1)], [], σ15)
        exact ih (v10 ||| 0) (v11 + 1) σ15 h hk
      · refine hw 9 _ ?_
        show kd 31 = 1 ∧ (inb ((4 * x9) + v11) 120 = true ∧ ((((σ15 31 (ix ((4 * x9) + v11))) ≤ r14) → K (70, [.ref 6, .int x8, .int x9, .int v10, .int v11], [.int v10], σ15)) ∧ (¬ ((σ15 31 (ix ((4 * x9) + v11))) ≤ r14) → K (63, [.ref 6, .int x8, .int x9, .int v10, .int v11], [.int v10], σ15))))
        refine ⟨rfl, g17, ⟨fun q => absurd q c18, fun _ => ?_⟩⟩
        refine hw 8 _ ?_
        show K (35, [.ref 6, .int x8, .int x9, .int (v10 ||| (1 <<< (v11 &&& 31))), .int (v11 + 1)], [], σ15)
        exact ih (v10 ||| (1 <<< (v11 &&& 31))) (v11 + 1) σ15 h hk

set_option maxHeartbeats 4000000 in
set_option maxRecDepth 100000 in
theorem s_X6_shorts : runs T_X6_shorts [.ref 6] 5 F_X6_shorts := by
  intro Qa K hw hf As σ r σ' h hQ
  unfold F_X6_shorts at h
  split at h
  · rename_i p0 p1
    unfold f_X6_shorts at h
    have hQ : Qa (r, σ').1 (r, σ').2 := hQ
    generalize (r, σ') = y at h hQ
    show K (0, [.ref 6, .int p0, .int p1, .null, .null], [], σ)
    obtain ⟨g1, h⟩ := ite_some h
    rcases ite_cases h with ⟨c2, h⟩ | ⟨c2, h⟩
    · refine hw 5 _ ?_
      show kd 30 = 2 ∧ (inb p1 30 = true ∧ ((((σ 30 (ix p1)) = 0) → K (11, [.ref 6, .int p0, .int p1, .null, .null], [], σ)) ∧ (¬ ((σ 30 (ix p1)) = 0) → K (9, [.ref 6, .int p0, .int p1, .null, .null], [], σ))))
      refine ⟨rfl, g1, ⟨fun _ => ?_, fun q => absurd c2 q⟩⟩
      obtain ⟨g3, h⟩ := ite_some h
      obtain ⟨g4, h⟩ := ite_some h
      obtain ⟨r5, σ6, e7, h⟩ := bnd_some h
      refine hw 15 _ ?_
      show kd 49 = 1 ∧ (inb p1 30 = true ∧ (kd 29 = 1 ∧ (inb p1 30 = true ∧ (∃ r5 σ6, f_X6_lights (((σ 49 (ix p1)) + (σ 29 (ix p1))) - 1) σ = some (r5, σ6) ∧ K (32, [.ref 6, .int p0, .int p1, .int 0, .null], [], σ6)))))
      refine ⟨rfl, g3, rfl, g4, ⟨r5, σ6, e7, ?_⟩⟩
      refine hw 2 _ ?_
      show K (35, [.ref 6, .int p0, .int p1, .int 0, .int 0], [], σ6)
      refine t_X6_shorts_35 hw hf p0 p1 _ _ lf 0 0 σ6 h (fun v19 v20 σ21 h => ?_)
      show K (79, [.ref 6, .int p0, .int p1, .int v19, .int v20], [], σ21)
      obtain rfl := Option.some.inj h
      refine hw 2 _ ?_
      show Qa v19 σ21
      refine hQ
    · refine hw 5 _ ?_
      show kd 30 = 2 ∧ (inb p1 30 = true ∧ ((((σ 30 (ix p1)) = 0) → K (11, [.ref 6, .int p0, .int p1, .null, .null], [], σ)) ∧ (¬ ((σ 30 (ix p1)) = 0) → K (9, [.ref 6, .int p0, .int p1, .null, .null], [], σ))))
      refine ⟨rfl, g1, ⟨fun q => absurd q c2, fun _ => ?_⟩⟩
      obtain rfl := Option.some.inj h
      refine hw 2 _ ?_
      show Qa 0 σ
      refine hQ
  · cases h
theorem h_X6_shorts : shp [.ref 6] 5 F_X6_shorts := by
  intro As σ r σ' h
  unfold F_X6_shorts at h
  split at h
  · exact ⟨by simp [Value.category], Nat.le_of_ble_eq_true rfl⟩
  · cases h
set_option maxHeartbeats 4000000 in
set_option maxRecDepth 100000 in
theorem c_X6_shorts (l : Launch) (D : va_G) (cI cZ cA cL : ClassId) (ad : Nat → Nat) (hi : adI ad) : CtI l yX6_shorts wsX6_shorts { frames := 4, cells := 0, slots := 0, locals := 97 } D cI cZ cA cL ad [.ref 6] F_X6_shorts := by
  refine mk_I [.ref 6] F_X6_shorts T_X6_shorts (by decide +kernel) rfl ?_ h_X6_shorts s_X6_shorts
  intro p e s m args below meth c Qa ⟨hx, hb, hml, hown, hts, hr, hlocks, hK, hN⟩
  have hin6 : ∀ w ∈ u_ws RX6 TX6 30, w ∈ wsX6_shorts := by decide +kernel
  have hl13 : (Cond.fieldLink RX6 13 RX6 (TX6 2).2.1 (TX6 2).2.2.1) ∈ wsX6_shorts := by decide +kernel
  have hl71 : (Cond.fieldLink RX6 71 RX6 (TX6 26).2.1 (TX6 26).2.2.1) ∈ wsX6_shorts := by decide +kernel
  have hl7 : (Cond.fieldLink RX6 7 RX6 (TX6 1).2.1 (TX6 1).2.2.1) ∈ wsX6_shorts := by decide +kernel
  have hl17 : (Cond.fieldLink RX6 17 RX6 (TX6 3).2.1 (TX6 3).2.2.1) ∈ wsX6_shorts := by decide +kernel
  refine ruL_c (n := 0) (n2 := 1) rfl (ru_aload_n (k := 0) hx hb dX6_shorts_0) ?_
  refine ruL_c (n := 1) (n2 := 2) rfl (ru_getR (own := RX6) (j := 2) (T := TX6) hx hb hown hK hts hin6 (by decide) rfl rfl (by decide) rfl hl13 dX6_shorts_1) ?_
  refine ruL_c (n := 2) (n2 := 3) rfl (ru_bot) ?_
  refine ruL_c (n := 3) (n2 := 4) rfl (ru_bot) ?_
  refine ruL_c (n := 4) (n2 := 5) rfl (ru_iload_n (k := 2) hx hb dX6_shorts_4) ?_
  refine ruL_c (n := 5) (n2 := 6) rfl (ru_zald hx hb hK dX6_shorts_5) ?_
  refine ruL_c (n := 6) (n2 := 7) rfl (ru_ifeq hx hb dX6_shorts_6 (by decide)) ?_
  refine ruL_c (n := 7) (n2 := 8) rfl (ru_bot) ?_
  refine ruL_c (n := 8) (n2 := 9) rfl (ru_bot) ?_
  refine ruL_c (n := 9) (n2 := 10) rfl (ru_iconst hx hb dX6_shorts_9 rfl) ?_
  refine ruL_c (n := 10) (n2 := 11) rfl (ru_iret hx hb hK hr hlocks dX6_shorts_10) ?_
  refine ruL_c (n := 11) (n2 := 12) rfl (ru_iconst hx hb dX6_shorts_11 rfl) ?_
  refine ruL_c (n := 12) (n2 := 13) rfl (ru_istore_n (k := 3) hx hb dX6_shorts_12) ?_
  refine ruL_c (n := 13) (n2 := 14) rfl (ru_aload_n (k := 0) hx hb dX6_shorts_13) ?_
  refine ruL_c (n := 14) (n2 := 15) rfl (ru_aload_n (k := 0) hx hb dX6_shorts_14) ?_
  refine ruL_c (n := 15) (n2 := 16) rfl (ru_getR (own := RX6) (j := 26) (T := TX6) hx hb hown hK hts hin6 (by decide) rfl rfl (by decide) rfl hl71 dX6_shorts_15) ?_
  refine ruL_c (n := 16) (n2 := 17) rfl (ru_bot) ?_
  refine ruL_c (n := 17) (n2 := 18) rfl (ru_bot) ?_
  refine ruL_c (n := 18) (n2 := 19) rfl (ru_iload_n (k := 2) hx hb dX6_shorts_18) ?_
  refine ruL_c (n := 19) (n2 := 20) rfl (ru_iald hx hb hK dX6_shorts_19) ?_
  refine ruL_c (n := 20) (n2 := 21) rfl (ru_aload_n (k := 0) hx hb dX6_shorts_20) ?_
  refine ruL_c (n := 21) (n2 := 22) rfl (ru_getR (own := RX6) (j := 1) (T := TX6) hx hb hown hK hts hin6 (by decide) rfl rfl (by decide) rfl hl7 dX6_shorts_21) ?_
  refine ruL_c (n := 22) (n2 := 23) rfl (ru_bot) ?_
  refine ruL_c (n := 23) (n2 := 24) rfl (ru_bot) ?_
  refine ruL_c (n := 24) (n2 := 25) rfl (ru_iload_n (k := 2) hx hb dX6_shorts_24) ?_
  refine ruL_c (n := 25) (n2 := 26) rfl (ru_iald hx hb hK dX6_shorts_25) ?_
  refine ruL_c (n := 26) (n2 := 27) rfl (ru_iadd hx hb dX6_shorts_26) ?_
  refine ruL_c (n := 27) (n2 := 28) rfl (ru_iconst hx hb dX6_shorts_27 rfl) ?_
  refine ruL_c (n := 28) (n2 := 29) rfl (ru_isub hx hb dX6_shorts_28) ?_
  refine ruL_c (n := 29) (n2 := 30) rfl (ru_callVv hx hb hml hown hts hK hN (by decide) rfl (c_X6_lights l D cI cZ cA cL ad hi) (cwV 1 hts gX6_shorts_X6_lights rfl rfl rfl (by decide +kernel) ⟨Nat.le_of_ble_eq_true rfl, Nat.le_of_ble_eq_true rfl⟩) dX6_shorts_29 ⟨Nat.zero_le _, Nat.zero_le _⟩) ?_
  refine ruL_c (n := 30) (n2 := 31) rfl (ru_bot) ?_
  refine ruL_c (n := 31) (n2 := 32) rfl (ru_bot) ?_
  refine ruL_c (n := 32) (n2 := 33) rfl (ru_iconst hx hb dX6_shorts_32 rfl) ?_
  refine ruL_c (n := 33) (n2 := 34) rfl (ru_istore hx hb dX6_shorts_33) ?_
  refine ruL_c (n := 34) (n2 := 35) rfl (ru_bot) ?_
  refine ruL_c (n := 35) (n2 := 36) rfl (ru_iload hx hb dX6_shorts_35) ?_
  refine ruL_c (n := 36) (n2 := 37) rfl (ru_bot) ?_
  refine ruL_c (n := 37) (n2 := 38) rfl (ru_iconst hx hb dX6_shorts_37 rfl) ?_
  refine ruL_c (n := 38) (n2 := 39) rfl (ru_icmpge hx hb dX6_shorts_38 (by decide)) ?_
  refine ruL_c (n := 39) (n2 := 40) rfl (ru_bot) ?_
  refine ruL_c (n := 40) (n2 := 41) rfl (ru_bot) ?_
  refine ruL_c (n := 41) (n2 := 42) rfl (ru_iload_n (k := 3) hx hb dX6_shorts_41) ?_
  refine ruL_c (n := 42) (n2 := 43) rfl (ru_aload_n (k := 0) hx hb dX6_shorts_42) ?_
  refine ruL_c (n := 43) (n2 := 44) rfl (ru_iload_n (k := 1) hx hb dX6_shorts_43) ?_
  refine ruL_c (n := 44) (n2 := 45) rfl (ru_iload hx hb dX6_shorts_44) ?_
  refine ruL_c (n := 45) (n2 := 46) rfl (ru_bot) ?_
  refine ruL_c (n := 46) (n2 := 47) rfl (ru_callV hx hb hml hown hts hK hN (by decide) rfl (c_X6_lightNow l D cI cZ cA cL ad hi) (cwV 2 hts gX6_shorts_X6_lightNow rfl rfl rfl (by decide +kernel) ⟨Nat.le_of_ble_eq_true rfl, Nat.le_of_ble_eq_true rfl⟩) dX6_shorts_46 ⟨Nat.zero_le _, Nat.zero_le _⟩) ?_
  refine ruL_c (n := 47) (n2 := 48) rfl (ru_bot) ?_
  refine ruL_c (n := 48) (n2 := 49) rfl (ru_bot) ?_
  refine ruL_c (n := 49) (n2 := 50) rfl (ru_aload_n (k := 0) hx hb dX6_shorts_49) ?_
  refine ruL_c (n := 50) (n2 := 51) rfl (ru_getR (own := RX6) (j := 3) (T := TX6) hx hb hown hK hts hin6 (by decide) rfl rfl (by decide) rfl hl17 dX6_shorts_50) ?_
  refine ruL_c (n := 51) (n2 := 52) rfl (ru_bot) ?_
  refine ruL_c (n := 52) (n2 := 53) rfl (ru_bot) ?_
  refine ruL_c (n := 53) (n2 := 54) rfl (ru_iconst hx hb dX6_shorts_53 rfl) ?_
  refine ruL_c (n := 54) (n2 := 55) rfl (ru_iload_n (k := 2) hx hb dX6_shorts_54) ?_
  refine ruL_c (n := 55) (n2 := 56) rfl (ru_imul hx hb dX6_shorts_55) ?_
  refine ruL_c (n := 56) (n2 := 57) rfl (ru_iload hx hb dX6_shorts_56) ?_
  refine ruL_c (n := 57) (n2 := 58) rfl (ru_bot) ?_
  refine ruL_c (n := 58) (n2 := 59) rfl (ru_iadd hx hb dX6_shorts_58) ?_
  refine ruL_c (n := 59) (n2 := 60) rfl (ru_iald hx hb hK dX6_shorts_59) ?_
  refine ruL_c (n := 60) (n2 := 61) rfl (ru_icmpge hx hb dX6_shorts_60 (by decide)) ?_
  refine ruL_c (n := 61) (n2 := 62) rfl (ru_bot) ?_
  refine ruL_c (n := 62) (n2 := 63) rfl (ru_bot) ?_
  refine ruL_c (n := 63) (n2 := 64) rfl (ru_iconst hx hb dX6_shorts_63 rfl) ?_
  refine ruL_c (n := 64) (n2 := 65) rfl (ru_iload hx hb dX6_shorts_64) ?_
  refine ruL_c (n := 65) (n2 := 66) rfl (ru_bot) ?_
  refine ruL_c (n := 66) (n2 := 67) rfl (ru_ishl hx hb dX6_shorts_66) ?_
  refine ruL_c (n := 67) (n2 := 68) rfl (ru_goto hx hb dX6_shorts_67 (by decide)) ?_
  refine ruL_c (n := 68) (n2 := 69) rfl (ru_bot) ?_
  refine ruL_c (n := 69) (n2 := 70) rfl (ru_bot) ?_
  refine ruL_c (n := 70) (n2 := 71) rfl (ru_iconst hx hb dX6_shorts_70 rfl) ?_
  refine ruL_c (n := 71) (n2 := 72) rfl (ru_ior hx hb dX6_shorts_71) ?_
  refine ruL_c (n := 72) (n2 := 73) rfl (ru_istore_n (k := 3) hx hb dX6_shorts_72) ?_
  refine ruL_c (n := 73) (n2 := 74) rfl (ru_iinc hx hb dX6_shorts_73 rfl) ?_
  refine ruL_c (n := 74) (n2 := 75) rfl (ru_bot) ?_
  refine ruL_c (n := 75) (n2 := 76) rfl (ru_bot) ?_
  refine ruL_c (n := 76) (n2 := 77) rfl (ru_goto hx hb dX6_shorts_76 (by decide)) ?_
  refine ruL_c (n := 77) (n2 := 78) rfl (ru_bot) ?_
  refine ruL_c (n := 78) (n2 := 79) rfl (ru_bot) ?_
  refine ruL_c (n := 79) (n2 := 80) rfl (ru_iload_n (k := 3) hx hb dX6_shorts_79) ?_
  refine ruL_c (n := 80) (n2 := 81) rfl (ru_iret hx hb hK hr hlocks dX6_shorts_80) ?_
  exact trivial

-- CueTourModel.shortOf
def f_X6_shortOf (p0 : Int32) (p1 : Int32) (σ : aM) : Option (Int32 × aM) := bnd (f_X6_isStage p0 σ) (fun r1 σ2 => if r1 = 0 then bnd (f_X6_isFine 1 σ2) (fun r5 σ6 => if ¬ r5 = 0 then bnd (f_X6_plays σ6) (fun r9 σ10 => bnd (f_X6_laysAll p0 σ10) (fun r12 σ13 => bnd (f_X6_shorts p0 p1 σ13) (fun r15 σ16 => some (r15, σ16)))) else some (0, σ6)) else bnd (f_X6_isLine p1 σ2) (fun r18 σ19 => if r18 = 0 then bnd (f_X6_isFine 1 σ19) (fun r22 σ23 => if ¬ r22 = 0 then bnd (f_X6_plays σ23) (fun r26 σ27 => bnd (f_X6_laysAll p0 σ27) (fun r29 σ30 => bnd (f_X6_shorts p0 p1 σ30) (fun r32 σ33 => some (r32, σ33)))) else some (0, σ23)) else bnd (f_X6_isFine 0 σ19) (fun r35 σ36 => if ¬ r35 = 0 then bnd (f_X6_plays σ36) (fun r39 σ40 => bnd (f_X6_laysAll p0 σ40) (fun r42 σ43 => bnd (f_X6_shorts p0 p1 σ43) (fun r45 σ46 => some (r45, σ46)))) else some (0, σ36))))
def F_X6_shortOf : aF := fun As σ => match As with
  | [.int p0, .int p1] => f_X6_shortOf p0 p1 σ
  | _ => none
def T_X6_shortOf (Qa : Int32 → aM → Prop) : List aI := [I_aload 0 1, I_iload 1 1, I_callS 1 F_X6_isStage, I_bot, I_bot, I_if (fun x => x = 0) 20, I_bot, I_bot, I_aload 0 1, I_iload 2 1, I_callV 6 1 F_X6_isLine, I_bot, I_bot, I_if (fun x => x = 0) 20, I_bot, I_bot, I_const 0 1, I_goto 21, I_bot, I_bot, I_const 1 1, I_callV 6 1 F_X6_isFine, I_bot, I_bot, I_if (fun x => ¬ x = 0) 29, I_bot, I_bot, I_const 0 1, I_iret Qa, I_aload 0 1, I_callVv 6 0 F_X6_plays, I_bot, I_bot, I_aload 0 1, I_iload 1 1, I_callVv 6 1 F_X6_laysAll, I_bot, I_bot, I_aload 0 1, I_iload 1 1, I_iload 2 1, I_callV 6 2 F_X6_shorts, I_bot, I_bot, I_iret Qa]
set_option maxHeartbeats 4000000 in
set_option maxRecDepth 100000 in
theorem s_X6_shortOf : runs T_X6_shortOf [.ref 6] 3 F_X6_shortOf := by
  intro Qa K hw hf As σ r σ' h hQ
  unfold F_X6_shortOf at h
  split at h
  · rename_i p0 p1
    unfold f_X6_shortOf at h
    have hQ : Qa (r, σ').1 (r, σ').2 := hQ
    generalize (r, σ') = y at h hQ
    show K (0, [.ref 6, .int p0, .int p1], [], σ)
    obtain ⟨r1, σ2, e3, h⟩ := bnd_some h
    refine hw 3 _ ?_
    show ∃ r1 σ2, f_X6_isStage p0 σ = some (r1, σ2) ∧ K (5, [.ref 6, .int p0, .int p1], [.int r1, .ref 6], σ2)
    refine ⟨r1, σ2, e3, ?_⟩
    rcases ite_cases h with ⟨c4, h⟩ | ⟨c4, h⟩
    · refine hw 1 _ ?_
      show ((r1 = 0) → K (20, [.ref 6, .int p0, .int p1], [.ref 6], σ2)) ∧ (¬ (r1 = 0) → K (8, [.ref 6, .int p0, .int p1], [.ref 6], σ2))
      refine ⟨fun _ => ?_, fun q => absurd c4 q⟩
      obtain ⟨r5, σ6, e7, h⟩ := bnd_some h
      refine hw 2 _ ?_
      show ∃ r5 σ6, f_X6_isFine 1 σ2 = some (r5, σ6) ∧ K (24, [.ref 6, .int p0, .int p1], [.int r5], σ6)
      refine ⟨r5, σ6, e7, ?_⟩
      rcases ite_cases h with ⟨c8, h⟩ | ⟨c8, h⟩
      · refine hw 1 _ ?_
        show ((¬ r5 = 0) → K (29, [.ref 6, .int p0, .int p1], [], σ6)) ∧ (¬ (¬ r5 = 0) → K (27, [.ref 6, .int p0, .int p1], [], σ6))
        refine ⟨fun _ => ?_, fun q => absurd c8 q⟩
        obtain ⟨r9, σ10, e11, h⟩ := bnd_some h
        refine hw 2 _ ?_
        show ∃ r9 σ10, f_X6_plays σ6 = some (r9, σ10) ∧ K (33, [.ref 6, .int p0, .int p1], [], σ10)
        refine ⟨r9, σ10, e11, ?_⟩
        obtain ⟨r12, σ13, e14, h⟩ := bnd_some h
        refine hw 3 _ ?_
        show ∃ r12 σ13, f_X6_laysAll p0 σ10 = some (r12, σ13) ∧ K (38, [.ref 6, .int p0, .int p1], [], σ13)
        refine ⟨r12, σ13, e14, ?_⟩
        obtain ⟨r15, σ16, e17, h⟩ := bnd_some h
        refine hw 4 _ ?_
        show ∃ r15 σ16, f_X6_shorts p0 p1 σ13 = some (r15, σ16) ∧ K (44, [.ref 6, .int p0, .int p1], [.int r15], σ16)
        refine ⟨r15, σ16, e17, ?_⟩
        obtain rfl := Option.some.inj h
        refine hw 1 _ ?_
        show Qa r15 σ16
        refine hQ
      · refine hw 1 _ ?_
        show ((¬ r5 = 0) → K (29, [.ref 6, .int p0, .int p1], [], σ6)) ∧ (¬ (¬ r5 = 0) → K (27, [.ref 6, .int p0, .int p1], [], σ6))
        refine ⟨fun q => absurd q c8, fun _ => ?_⟩
        obtain rfl := Option.some.inj h
        refine hw 2 _ ?_
        show Qa 0 σ6
        refine hQ
    · refine hw 1 _ ?_
      show ((r1 = 0) → K (20, [.ref 6, .int p0, .int p1], [.ref 6], σ2)) ∧ (¬ (r1 = 0) → K (8, [.ref 6, .int p0, .int p1], [.ref 6], σ2))
      refine ⟨fun q => absurd q c4, fun _ => ?_⟩
      obtain ⟨r18, σ19, e20, h⟩ := bnd_some h
      refine hw 3 _ ?_
      show ∃ r18 σ19, f_X6_isLine p1 σ2 = some (r18, σ19) ∧ K (13, [.ref 6, .int p0, .int p1], [.int r18, .ref 6], σ19)
      refine ⟨r18, σ19, e20, ?_⟩
      rcases ite_cases h with ⟨c21, h⟩ | ⟨c21, h⟩
      · refine hw 1 _ ?_
        show ((r18 = 0) → K (20, [.ref 6, .int p0, .int p1], [.ref 6], σ19)) ∧ (¬ (r18 = 0) → K (16, [.ref 6, .int p0, .int p1], [.ref 6], σ19))
        refine ⟨fun _ => ?_, fun q => absurd c21 q⟩
        obtain ⟨r22, σ23, e24, h⟩ := bnd_some h
        refine hw 2 _ ?_
        show ∃ r22 σ23, f_X6_isFine 1 σ19 = some (r22, σ23) ∧ K (24, [.ref 6, .int p0, .int p1], [.int r22], σ23)
        refine ⟨r22, σ23, e24, ?_⟩
        rcases ite_cases h with ⟨c25, h⟩ | ⟨c25, h⟩
        · refine hw 1 _ ?_
          show ((¬ r22 = 0) → K (29, [.ref 6, .int p0, .int p1], [], σ23)) ∧ (¬ (¬ r22 = 0) → K (27, [.ref 6, .int p0, .int p1], [], σ23))
          refine ⟨fun _ => ?_, fun q => absurd c25 q⟩
          obtain ⟨r26, σ27, e28, h⟩ := bnd_some h
          refine hw 2 _ ?_
          show ∃ r26 σ27, f_X6_plays σ23 = some (r26, σ27) ∧ K (33, [.ref 6, .int p0, .int p1], [], σ27)
          refine ⟨r26, σ27, e28, ?_⟩
          obtain ⟨r29, σ30, e31, h⟩ := bnd_some h
          refine hw 3 _ ?_
          show ∃ r29 σ30, f_X6_laysAll p0 σ27 = some (r29, σ30) ∧ K (38, [.ref 6, .int p0, .int p1], [], σ30)
          refine ⟨r29, σ30, e31, ?_⟩
          obtain ⟨r32, σ33, e34, h⟩ := bnd_some h
          refine hw 4 _ ?_
          show ∃ r32 σ33, f_X6_shorts p0 p1 σ30 = some (r32, σ33) ∧ K (44, [.ref 6, .int p0, .int p1], [.int r32], σ33)
          refine ⟨r32, σ33, e34, ?_⟩
          obtain rfl := Option.some.inj h
          refine hw 1 _ ?_
          show Qa r32 σ33
          refine hQ
        · refine hw 1 _ ?_
          show ((¬ r22 = 0) → K (29, [.ref 6, .int p0, .int p1], [], σ23)) ∧ (¬ (¬ r22 = 0) → K (27, [.ref 6, .int p0, .int p1], [], σ23))
          refine ⟨fun q => absurd q c25, fun _ => ?_⟩
          obtain rfl := Option.some.inj h
          refine hw 2 _ ?_
          show Qa 0 σ23
          refine hQ
      · refine hw 1 _ ?_
        show ((r18 = 0) → K (20, [.ref 6, .int p0, .int p1], [.ref 6], σ19)) ∧ (¬ (r18 = 0) → K (16, [.ref 6, .int p0, .int p1], [.ref 6], σ19))
        refine ⟨fun q => absurd q c21, fun _ => ?_⟩
        obtain ⟨r35, σ36, e37, h⟩ := bnd_some h
        refine hw 3 _ ?_
        show ∃ r35 σ36, f_X6_isFine 0 σ19 = some (r35, σ36) ∧ K (24, [.ref 6, .int p0, .int p1], [.int r35], σ36)
        refine ⟨r35, σ36, e37, ?_⟩
        rcases ite_cases h with ⟨c38, h⟩ | ⟨c38, h⟩
        · refine hw 1 _ ?_
          show ((¬ r35 = 0) → K (29, [.ref 6, .int p0, .int p1], [], σ36)) ∧ (¬ (¬ r35 = 0) → K (27, [.ref 6, .int p0, .int p1], [], σ36))
          refine ⟨fun _ => ?_, fun q => absurd c38 q⟩
          obtain ⟨r39, σ40, e41, h⟩ := bnd_some h
          refine hw 2 _ ?_
          show ∃ r39 σ40, f_X6_plays σ36 = some (r39, σ40) ∧ K (33, [.ref 6, .int p0, .int p1], [], σ40)
          refine ⟨r39, σ40, e41, ?_⟩
          obtain ⟨r42, σ43, e44, h⟩ := bnd_some h
          refine hw 3 _ ?_
          show ∃ r42 σ43, f_X6_laysAll p0 σ40 = some (r42, σ43) ∧ K (38, [.ref 6, .int p0, .int p1], [], σ43)
          refine ⟨r42, σ43, e44, ?_⟩
          obtain ⟨r45, σ46, e47, h⟩ := bnd_some h
          refine hw 4 _ ?_
          show ∃ r45 σ46, f_X6_shorts p0 p1 σ43 = some (r45, σ46) ∧ K (44, [.ref 6, .int p0, .int p1], [.int r45], σ46)
          refine ⟨r45, σ46, e47, ?_⟩
          obtain rfl := Option.some.inj h
          refine hw 1 _ ?_
          show Qa r45 σ46
          refine hQ
        · refine hw 1 _ ?_
          show ((¬ r35 = 0) → K (29, [.ref 6, .int p0, .int p1], [], σ36)) ∧ (¬ (¬ r35 = 0) → K (27, [.ref 6, .int p0, .int p1], [], σ36))
          refine ⟨fun q => absurd q c38, fun _ => ?_⟩
          obtain rfl := Option.some.inj h
          refine hw 2 _ ?_
          show Qa 0 σ36
          refine hQ
  · cases h
theorem h_X6_shortOf : shp [.ref 6] 3 F_X6_shortOf := by
  intro As σ r σ' h
  unfold F_X6_shortOf at h
  split at h
  · exact ⟨by simp [Value.category], Nat.le_of_ble_eq_true rfl⟩
  · cases h
set_option maxHeartbeats 4000000 in
set_option maxRecDepth 100000 in
theorem c_X6_shortOf (l : Launch) (D : va_G) (cI cZ cA cL : ClassId) (ad : Nat → Nat) (hi : adI ad) : CtI l yX6_shortOf wsX6_shortOf { frames := 5, cells := 0, slots := 0, locals := 121 } D cI cZ cA cL ad [.ref 6] F_X6_shortOf := by
  refine mk_I [.ref 6] F_X6_shortOf T_X6_shortOf (by decide +kernel) rfl ?_ h_X6_shortOf s_X6_shortOf
  intro p e s m args below meth c Qa ⟨hx, hb, hml, hown, hts, hr, hlocks, hK, hN⟩
  refine ruL_c (n := 0) (n2 := 1) rfl (ru_aload_n (k := 0) hx hb dX6_shortOf_0) ?_
  refine ruL_c (n := 1) (n2 := 2) rfl (ru_iload_n (k := 1) hx hb dX6_shortOf_1) ?_
  refine ruL_c (n := 2) (n2 := 3) rfl (ru_callS hx hb hml hown hts hK hN (c_X6_isStage l D cI cZ cA cL ad hi) (va_cwS 1 hts gX6_shortOf_X6_isStage rfl rfl rfl (by decide +kernel) ⟨Nat.le_of_ble_eq_true rfl, Nat.le_of_ble_eq_true rfl⟩) dX6_shortOf_2 ⟨Nat.zero_le _, Nat.zero_le _⟩) ?_
  refine ruL_c (n := 3) (n2 := 4) rfl (ru_bot) ?_
  refine ruL_c (n := 4) (n2 := 5) rfl (ru_bot) ?_
  refine ruL_c (n := 5) (n2 := 6) rfl (ru_ifeq hx hb dX6_shortOf_5 (by decide)) ?_
  refine ruL_c (n := 6) (n2 := 7) rfl (ru_bot) ?_
  refine ruL_c (n := 7) (n2 := 8) rfl (ru_bot) ?_
  refine ruL_c (n := 8) (n2 := 9) rfl (ru_aload_n (k := 0) hx hb dX6_shortOf_8) ?_
  refine ruL_c (n := 9) (n2 := 10) rfl (ru_iload_n (k := 2) hx hb dX6_shortOf_9) ?_
  refine ruL_c (n := 10) (n2 := 11) rfl (ru_callV hx hb hml hown hts hK hN (by decide) rfl (c_X6_isLine l D cI cZ cA cL ad hi) (cwV 1 hts gX6_shortOf_X6_isLine rfl rfl rfl (by decide +kernel) ⟨Nat.le_of_ble_eq_true rfl, Nat.le_of_ble_eq_true rfl⟩) dX6_shortOf_10 ⟨Nat.zero_le _, Nat.zero_le _⟩) ?_
  refine ruL_c (n := 11) (n2 := 12) rfl (ru_bot) ?_
  refine ruL_c (n := 12) (n2 := 13) rfl (ru_bot) ?_
  refine ruL_c (n := 13) (n2 := 14) rfl (ru_ifeq hx hb dX6_shortOf_13 (by decide)) ?_
  refine ruL_c (n := 14) (n2 := 15) rfl (ru_bot) ?_
  refine ruL_c (n := 15) (n2 := 16) rfl (ru_bot) ?_
  refine ruL_c (n := 16) (n2 := 17) rfl (ru_iconst hx hb dX6_shortOf_16 rfl) ?_
  refine ruL_c (n := 17) (n2 := 18) rfl (ru_goto hx hb dX6_shortOf_17 (by decide)) ?_
  refine ruL_c (n := 18) (n2 := 19) rfl (ru_bot) ?_
  refine ruL_c (n := 19) (n2 := 20) rfl (ru_bot) ?_
  refine ruL_c (n := 20) (n2 := 21) rfl (ru_iconst hx hb dX6_shortOf_20 rfl) ?_
  refine ruL_c (n := 21) (n2 := 22) rfl (ru_callV hx hb hml hown hts hK hN (by decide) rfl (c_X6_isFine l D cI cZ cA cL ad hi) (cwV 1 hts gX6_shortOf_X6_isFine rfl rfl rfl (by decide +kernel) ⟨Nat.le_of_ble_eq_true rfl, Nat.le_of_ble_eq_true rfl⟩) dX6_shortOf_21 ⟨Nat.zero_le _, Nat.zero_le _⟩) ?_
  refine ruL_c (n := 22) (n2 := 23) rfl (ru_bot) ?_
  refine ruL_c (n := 23) (n2 := 24) rfl (ru_bot) ?_
  refine ruL_c (n := 24) (n2 := 25) rfl (ru_ifne hx hb dX6_shortOf_24 (by decide)) ?_
  refine ruL_c (n := 25) (n2 := 26) rfl (ru_bot) ?_
  refine ruL_c (n := 26) (n2 := 27) rfl (ru_bot) ?_
  refine ruL_c (n := 27) (n2 := 28) rfl (ru_iconst hx hb dX6_shortOf_27 rfl) ?_
  refine ruL_c (n := 28) (n2 := 29) rfl (ru_iret hx hb hK hr hlocks dX6_shortOf_28) ?_
  refine ruL_c (n := 29) (n2 := 30) rfl (ru_aload_n (k := 0) hx hb dX6_shortOf_29) ?_
  refine ruL_c (n := 30) (n2 := 31) rfl (ru_callVv hx hb hml hown hts hK hN (by decide) rfl (c_X6_plays l D cI cZ cA cL ad hi) (cwV 0 hts gX6_shortOf_X6_plays rfl rfl rfl (by decide +kernel) ⟨Nat.le_of_ble_eq_true rfl, Nat.le_of_ble_eq_true rfl⟩) dX6_shortOf_30 ⟨Nat.zero_le _, Nat.zero_le _⟩) ?_
  refine ruL_c (n := 31) (n2 := 32) rfl (ru_bot) ?_
  refine ruL_c (n := 32) (n2 := 33) rfl (ru_bot) ?_
  refine ruL_c (n := 33) (n2 := 34) rfl (ru_aload_n (k := 0) hx hb dX6_shortOf_33) ?_
  refine ruL_c (n := 34) (n2 := 35) rfl (ru_iload_n (k := 1) hx hb dX6_shortOf_34) ?_
  refine ruL_c (n := 35) (n2 := 36) rfl (ru_callVv hx hb hml hown hts hK hN (by decide) rfl (c_X6_laysAll l D cI cZ cA cL ad hi) (cwV 1 hts gX6_shortOf_X6_laysAll rfl rfl rfl (by decide +kernel) ⟨Nat.le_of_ble_eq_true rfl, Nat.le_of_ble_eq_true rfl⟩) dX6_shortOf_35 ⟨Nat.zero_le _, Nat.zero_le _⟩) ?_
  refine ruL_c (n := 36) (n2 := 37) rfl (ru_bot) ?_
  refine ruL_c (n := 37) (n2 := 38) rfl (ru_bot) ?_
  refine ruL_c (n := 38) (n2 := 39) rfl (ru_aload_n (k := 0) hx hb dX6_shortOf_38) ?_
  refine ruL_c (n := 39) (n2 := 40) rfl (ru_iload_n (k := 1) hx hb dX6_shortOf_39) ?_
  refine ruL_c (n := 40) (n2 := 41) rfl (ru_iload_n (k := 2) hx hb dX6_shortOf_40) ?_
  refine ruL_c (n := 41) (n2 := 42) rfl (ru_callV hx hb hml hown hts hK hN (by decide) rfl (c_X6_shorts l D cI cZ cA cL ad hi) (cwV 2 hts gX6_shortOf_X6_shorts rfl rfl rfl (by decide +kernel) ⟨Nat.le_of_ble_eq_true rfl, Nat.le_of_ble_eq_true rfl⟩) dX6_shortOf_41 ⟨Nat.zero_le _, Nat.zero_le _⟩) ?_
  refine ruL_c (n := 42) (n2 := 43) rfl (ru_bot) ?_
  refine ruL_c (n := 43) (n2 := 44) rfl (ru_bot) ?_
  refine ruL_c (n := 44) (n2 := 45) rfl (ru_iret hx hb hK hr hlocks dX6_shortOf_44) ?_
  exact trivial

-- CueTourModel.shortLines
def l_X6_shortLines_9 (x4 : Int32) : Nat → Int32 → Int32 → aM → (Int32 → Int32 → aM → Option (Int32 × aM)) → Option (Int32 × aM)
  | 0, _, _, _, _ => none
  | n + 1, v5, v6, σ7, k => if (σ7 6 4) ≤ v6 then k v5 v6 σ7 else bnd (f_X6_shorts x4 v6 σ7) (fun r9 σ10 => if r9 = 0 then l_X6_shortLines_9 x4 n (v5 + 0) (v6 + 1) σ10 k else l_X6_shortLines_9 x4 n (v5 + 1) (v6 + 1) σ10 k)
def f_X6_shortLines (p0 : Int32) (σ : aM) : Option (Int32 × aM) := bnd (f_X6_laysAll p0 σ) (fun r1 σ2 => l_X6_shortLines_9 p0 lf 0 0 σ2 (fun v13 v14 σ15 => some (v13, σ15)))
def F_X6_shortLines : aF := fun As σ => match As with
  | [.int p0] => f_X6_shortLines p0 σ
  | _ => none
def T_X6_shortLines (Qa : Int32 → aM → Prop) : List aI := [I_aload 0 1, I_iload 1 1, I_callVv 6 1 F_X6_laysAll, I_bot, I_bot, I_const 0 1, I_istore 2 1, I_const 0 1, I_istore 3 1, I_iload 3 1, I_aload 0 1, I_getI 6 4, I_bot, I_bot, I_icmp (fun x y => y ≤ x) 40, I_bot, I_bot, I_iload 2 1, I_aload 0 1, I_iload 1 1, I_iload 3 1, I_callV 6 2 F_X6_shorts, I_bot, I_bot, I_if (fun x => x = 0) 31, I_bot, I_bot, I_const 1 1, I_goto 32, I_bot, I_bot, I_const 0 1, I_bin fun x y => x + y, I_istore 2 1, I_iinc 3 (1), I_bot, I_bot, I_goto 9, I_bot, I_bot, I_iload 2 1, I_iret Qa]
set_option maxHeartbeats 4000000 in
set_option maxRecDepth 100000 in
theorem t_X6_shortLines_9 {Qa : Int32 → aM → Prop} {K : aS → Prop} (hw : ∀ k x, wp (T_X6_shortLines Qa) k K x → K x) (hf : ∀ pc L i st σ, K (pc, L.set i .null, st, σ) → K (pc, L, st, σ)) (x4 : Int32) (y : Int32 × aM) (k : Int32 → Int32 → aM → Option (Int32 × aM)) :
    ∀ (n : Nat) (v5 : Int32) (v6 : Int32) (σ7 : aM), l_X6_shortLines_9 x4 n v5 v6 σ7 k = some y → (∀ (w0 : Int32) (w1 : Int32) (τ : aM), k w0 w1 τ = some y → K (40, [.ref 6, .int x4, .int w0, .int w1], [], τ)) → K (9, [.ref 6, .int x4, .int v5, .int v6], [], σ7) := by
  intro n
  induction n with
  | zero =>
    intro v5 v6 σ7 h hk
    exact absurd h (by simp [l_X6_shortLines_9])
  | succ n ih =>
    intro v5 v6 σ7 h hk
    unfold l_X6_shortLines_9 at h
    rcases ite_cases h with ⟨c8, h⟩ | ⟨c8, h⟩
    · refine hw 4 _ ?_
      show (((σ7 6 4) ≤ v6) → K (40, [.ref 6, .int x4, .int v5, .int v6], [], σ7)) ∧ (¬ ((σ7 6 4) ≤ v6) → K (17, [.ref 6, .int x4, .int v5, .int v6], [], σ7))
      refine ⟨fun _ => ?_, fun q => absurd c8 q⟩
      exact hk v5 v6 σ7 h
    · refine hw 4 _ ?_
      show (((σ7 6 4) ≤ v6) → K (40, [.ref 6, .int x4, .int v5, .int v6], [], σ7)) ∧ (¬ ((σ7 6 4) ≤ v6) → K (17, [.ref 6, .int x4, .int v5, .int v6], [], σ7))
      refine ⟨fun q => absurd q c8, fun _ => ?_⟩
      obtain ⟨r9, σ10, e11, h⟩ := bnd_some h
      refine hw 5 _ ?_
      show ∃ r9 σ10, f_X6_shorts x4 v6 σ7 = some (r9, σ10) ∧ K (24, [.ref 6, .int x4, .int v5, .int v6], [.int r9, .int v5], σ10)
      refine ⟨r9, σ10, e11, ?_⟩
      rcases ite_cases h with ⟨c12, h⟩ | ⟨c12, h⟩
      · refine hw 1 _ ?_
        show ((r9 = 0) → K (31, [.ref 6, .int x4, .int v5, .int v6], [.int v5], σ10)) ∧ (¬ (r9 = 0) → K (27, [.ref 6, .int x4, .int v5, .int v6], [.int v5], σ10))
        refine ⟨fun _ => ?_, fun q => absurd c12 q⟩
        refine hw 5 _ ?_
        show K (9, [.ref 6, .int x4, .int (v5 + 0), .int (v6 + 1)], [], σ10)
        exact ih (v5 + 0) (v6 + 1) σ10 h hk
      · refine hw 1 _ ?_
        show ((r9 = 0) → K (31, [.ref 6, .int x4, .int v5, .int v6], [.int v5], σ10)) ∧ (¬ (r9 = 0) → K (27, [.ref 6, .int x4, .int v5, .int v6], [.int v5], σ10))
        refine ⟨fun q => absurd q c12, fun _ => ?_⟩
        refine hw 6 _ ?_
        show K (9, [.ref 6, .int x4, .int (v5 + 1), .int (v6 + 1)], [], σ10)
        exact ih (v5 + 1) (v6 + 1) σ10 h hk

set_option maxHeartbeats 4000000 in
set_option maxRecDepth 100000 in
theorem s_X6_shortLines : runs T_X6_shortLines [.ref 6] 4 F_X6_shortLines := by
  intro Qa K hw hf As σ r σ' h hQ
  unfold F_X6_shortLines at h
  split at h
  · rename_i p0
    unfold f_X6_shortLines at h
    have hQ : Qa (r, σ').1 (r, σ').2 := hQ
    generalize (r, σ') = y at h hQ
    show K (0, [.ref 6, .int p0, .null, .null], [], σ)
    obtain ⟨r1, σ2, e3, h⟩ := bnd_some h
    refine hw 3 _ ?_
    show ∃ r1 σ2, f_X6_laysAll p0 σ = some (r1, σ2) ∧ K (5, [.ref 6, .int p0, .null, .null], [], σ2)
    refine ⟨r1, σ2, e3, ?_⟩
    refine hw 4 _ ?_
    show K (9, [.ref 6, .int p0, .int 0, .int 0], [], σ2)
    refine t_X6_shortLines_9 hw hf p0 _ _ lf 0 0 σ2 h (fun v13 v14 σ15 h => ?_)
    show K (40, [.ref 6, .int p0, .int v13, .int v14], [], σ15)
    obtain rfl := Option.some.inj h
    refine hw 2 _ ?_
    show Qa v13 σ15
    refine hQ
  · cases h
theorem h_X6_shortLines : shp [.ref 6] 4 F_X6_shortLines := by
  intro As σ r σ' h
  unfold F_X6_shortLines at h
  split at h
  · exact ⟨by simp [Value.category], Nat.le_of_ble_eq_true rfl⟩
  · cases h
set_option maxHeartbeats 4000000 in
set_option maxRecDepth 100000 in
theorem c_X6_shortLines (l : Launch) (D : va_G) (cI cZ cA cL : ClassId) (ad : Nat → Nat) (hi : adI ad) : CtI l yX6_shortLines wsX6_shortLines { frames := 5, cells := 0, slots := 0, locals := 121 } D cI cZ cA cL ad [.ref 6] F_X6_shortLines := by
  refine mk_I [.ref 6] F_X6_shortLines T_X6_shortLines (by decide +kernel) rfl ?_ h_X6_shortLines s_X6_shortLines
  intro p e s m args below meth c Qa ⟨hx, hb, hml, hown, hts, hr, hlocks, hK, hN⟩
  have hin6 : ∀ w ∈ u_ws RX6 TX6 30, w ∈ wsX6_shortLines := by decide +kernel
  have hl87 : (Cond.fieldLink RX6 87 RX6 (TX6 4).2.1 (TX6 4).2.2.1) ∈ wsX6_shortLines := by decide +kernel
  refine ruL_c (n := 0) (n2 := 1) rfl (ru_aload_n (k := 0) hx hb dX6_shortLines_0) ?_
  refine ruL_c (n := 1) (n2 := 2) rfl (ru_iload_n (k := 1) hx hb dX6_shortLines_1) ?_
  refine ruL_c (n := 2) (n2 := 3) rfl (ru_callVv hx hb hml hown hts hK hN (by decide) rfl (c_X6_laysAll l D cI cZ cA cL ad hi) (cwV 1 hts gX6_shortLines_X6_laysAll rfl rfl rfl (by decide +kernel) ⟨Nat.le_of_ble_eq_true rfl, Nat.le_of_ble_eq_true rfl⟩) dX6_shortLines_2 ⟨Nat.zero_le _, Nat.zero_le _⟩) ?_
  refine ruL_c (n := 3) (n2 := 4) rfl (ru_bot) ?_
  refine ruL_c (n := 4) (n2 := 5) rfl (ru_bot) ?_
  refine ruL_c (n := 5) (n2 := 6) rfl (ru_iconst hx hb dX6_shortLines_5 rfl) ?_
  refine ruL_c (n := 6) (n2 := 7) rfl (ru_istore_n (k := 2) hx hb dX6_shortLines_6) ?_
  refine ruL_c (n := 7) (n2 := 8) rfl (ru_iconst hx hb dX6_shortLines_7 rfl) ?_
  refine ruL_c (n := 8) (n2 := 9) rfl (ru_istore_n (k := 3) hx hb dX6_shortLines_8) ?_
  refine ruL_c (n := 9) (n2 := 10) rfl (ru_iload_n (k := 3) hx hb dX6_shortLines_9) ?_
  refine ruL_c (n := 10) (n2 := 11) rfl (ru_aload_n (k := 0) hx hb dX6_shortLines_10) ?_
  refine ruL_c (n := 11) (n2 := 12) rfl (ru_getI (own := RX6) (j := 4) (T := TX6) hx hb hown hK hts hin6 (by decide) rfl rfl (by decide) rfl hl87 dX6_shortLines_11) ?_
  refine ruL_c (n := 12) (n2 := 13) rfl (ru_bot) ?_
  refine ruL_c (n := 13) (n2 := 14) rfl (ru_bot) ?_
  refine ruL_c (n := 14) (n2 := 15) rfl (ru_icmpge hx hb dX6_shortLines_14 (by decide)) ?_
  refine ruL_c (n := 15) (n2 := 16) rfl (ru_bot) ?_
  refine ruL_c (n := 16) (n2 := 17) rfl (ru_bot) ?_
  refine ruL_c (n := 17) (n2 := 18) rfl (ru_iload_n (k := 2) hx hb dX6_shortLines_17) ?_
  refine ruL_c (n := 18) (n2 := 19) rfl (ru_aload_n (k := 0) hx hb dX6_shortLines_18) ?_
  refine ruL_c (n := 19) (n2 := 20) rfl (ru_iload_n (k := 1) hx hb dX6_shortLines_19) ?_
  refine ruL_c (n := 20) (n2 := 21) rfl (ru_iload_n (k := 3) hx hb dX6_shortLines_20) ?_
  refine ruL_c (n := 21) (n2 := 22) rfl (ru_callV hx hb hml hown hts hK hN (by decide) rfl (c_X6_shorts l D cI cZ cA cL ad hi) (cwV 2 hts gX6_shortLines_X6_shorts rfl rfl rfl (by decide +kernel) ⟨Nat.le_of_ble_eq_true rfl, Nat.le_of_ble_eq_true rfl⟩) dX6_shortLines_21 ⟨Nat.zero_le _, Nat.zero_le _⟩) ?_
  refine ruL_c (n := 22) (n2 := 23) rfl (ru_bot) ?_
  refine ruL_c (n := 23) (n2 := 24) rfl (ru_bot) ?_
  refine ruL_c (n := 24) (n2 := 25) rfl (ru_ifeq hx hb dX6_shortLines_24 (by decide)) ?_
  refine ruL_c (n := 25) (n2 := 26) rfl (ru_bot) ?_
  refine ruL_c (n := 26) (n2 := 27) rfl (ru_bot) ?_
  refine ruL_c (n := 27) (n2 := 28) rfl (ru_iconst hx hb dX6_shortLines_27 rfl) ?_
  refine ruL_c (n := 28) (n2 := 29) rfl (ru_goto hx hb dX6_shortLines_28 (by decide)) ?_
  refine ruL_c (n := 29) (n2 := 30) rfl (ru_bot) ?_
  refine ruL_c (n := 30) (n2 := 31) rfl (ru_bot) ?_
  refine ruL_c (n := 31) (n2 := 32) rfl (ru_iconst hx hb dX6_shortLines_31 rfl) ?_
  refine ruL_c (n := 32) (n2 := 33) rfl (ru_iadd hx hb dX6_shortLines_32) ?_
  refine ruL_c (n := 33) (n2 := 34) rfl (ru_istore_n (k := 2) hx hb dX6_shortLines_33) ?_
  refine ruL_c (n := 34) (n2 := 35) rfl (ru_iinc hx hb dX6_shortLines_34 rfl) ?_
  refine ruL_c (n := 35) (n2 := 36) rfl (ru_bot) ?_
  refine ruL_c (n := 36) (n2 := 37) rfl (ru_bot) ?_
  refine ruL_c (n := 37) (n2 := 38) rfl (ru_goto hx hb dX6_shortLines_37 (by decide)) ?_
  refine ruL_c (n := 38) (n2 := 39) rfl (ru_bot) ?_
  refine ruL_c (n := 39) (n2 := 40) rfl (ru_bot) ?_
  refine ruL_c (n := 40) (n2 := 41) rfl (ru_iload_n (k := 2) hx hb dX6_shortLines_40) ?_
  refine ruL_c (n := 41) (n2 := 42) rfl (ru_iret hx hb hK hr hlocks dX6_shortLines_41) ?_
  exact trivial

-- CueTourModel.bestStage
def l_X6_bestStage_19 : Nat → Int32 → Int32 → Int32 → aM → (Int32 → Int32 → Int32 → aM → Option (Int32 × aM)) → Option (Int32 × aM)
  | 0, _, _, _, _, _ => none
  | n + 1, v7, v8, v9, σ10, k => if 4 ≤ v9 then k v7 v8 v9 σ10 else bnd (f_X6_shortLines v9 σ10) (fun r12 σ13 => if v8 ≤ r12 then if v8 ≤ r12 then l_X6_bestStage_19 n v7 v8 (v9 + 1) σ13 k else l_X6_bestStage_19 n v7 r12 (v9 + 1) σ13 k else if v8 ≤ r12 then l_X6_bestStage_19 n v9 v8 (v9 + 1) σ13 k else l_X6_bestStage_19 n v9 r12 (v9 + 1) σ13 k)
def f_X6_bestStage (σ : aM) : Option (Int32 × aM) := bnd (f_X6_plays (mput σ 6 0 0)) (fun r1 σ2 => bnd (f_X6_shortLines 0 σ2) (fun r4 σ5 => l_X6_bestStage_19 lf 0 r4 1 σ5 (fun v18 v19 v20 σ21 => some (v18, σ21))))
def F_X6_bestStage : aF := fun As σ => match As with
  | [] => f_X6_bestStage σ
  | _ => none
def T_X6_bestStage (Qa : Int32 → aM → Prop) : List aI := [I_aload 0 1, I_const 0 1, I_putI 6 0, I_bot, I_bot, I_aload 0 1, I_callVv 6 0 F_X6_plays, I_bot, I_bot, I_const 0 1, I_istore 1 1, I_aload 0 1, I_const 0 1, I_callV 6 1 F_X6_shortLines, I_bot, I_bot, I_istore 2 1, I_const 1 1, I_istore 3 1, I_iload 3 1, I_const 4 1, I_icmp (fun x y => y ≤ x) 62, I_bot, I_bot, I_aload 0 1, I_iload 3 1, I_callV 6 1 F_X6_shortLines, I_bot, I_bot, I_istore 4 2, I_bot, I_iload 4 2, I_bot, I_iload 2 1, I_icmp (fun x y => y ≤ x) 41, I_bot, I_bot, I_iload 3 1, I_goto 42, I_bot, I_bot, I_iload 1 1, I_istore 1 1, I_iload 4 2, I_bot, I_iload 2 1, I_icmp (fun x y => y ≤ x) 54, I_bot, I_bot, I_iload 4 2, I_bot, I_goto 55, I_bot, I_bot, I_iload 2 1, I_istore 2 1, I_iinc 3 (1), I_bot, I_bot, I_goto 19, I_bot, I_bot, I_iload 1 1, I_iret Qa]
set_option maxHeartbeats 4000000 in
set_option maxRecDepth 100000 in
theorem t_X6_bestStage_19 {Qa : Int32 → aM → Prop} {K : aS → Prop} (hw : ∀ k x, wp (T_X6_bestStage Qa) k K x → K x) (hf : ∀ pc L i st σ, K (pc, L.set i .null, st, σ) → K (pc, L, st, σ)) (y : Int32 × aM) (k : Int32 → Int32 → Int32 → aM → Option (Int32 × aM)) :
    ∀ (n : Nat) (v7 : Int32) (v8 : Int32) (v9 : Int32) (σ10 : aM), l_X6_bestStage_19 n v7 v8 v9 σ10 k = some y → (∀ (w0 : Int32) (w1 : Int32) (w2 : Int32) (τ : aM), k w0 w1 w2 τ = some y → K (62, [.ref 6, .int w0, .int w1, .int w2, .null], [], τ)) → K (19, [.ref 6, .int v7, .int v8, .int v9, .null], [], σ10) := by
  intro n
  induction n with
  | zero =>
    intro v7 v8 v9 σ10 h hk
    exact absurd h (by simp [l_X6_bestStage_19])
  | succ n ih =>
    intro v7 v8 v9 σ10 h hk
    unfold l_X6_bestStage_19 at h
    rcases ite_cases h with ⟨c11, h⟩ | ⟨c11, h⟩
    · refine hw 3 _ ?_
      show ((4 ≤ v9) → K (62, [.ref 6, .int v7, .int v8, .int v9, .null], [], σ10)) ∧ (¬ (4 ≤ v9) → K (24, [.ref 6, .int v7, .int v8, .int v9, .null], [], σ10))
      refine ⟨fun _ => ?_, fun q => absurd c11 q⟩
      exact hk v7 v8 v9 σ10 h
    · refine hw 3 _ ?_
      show ((4 ≤ v9) → K (62, [.ref 6, .int v7, .int v8, .int v9, .null], [], σ10)) ∧ (¬ (4 ≤ v9) → K (24, [.ref 6, .int v7, .int v8, .int v9, .null], [], σ10))
      refine ⟨fun q => absurd q c11, fun _ => ?_⟩
      obtain ⟨r12, σ13, e14, h⟩ := bnd_some h
      refine hw 3 _ ?_
      show ∃ r12 σ13, f_X6_shortLines v9 σ10 = some (r12, σ13) ∧ K (29, [.ref 6, .int v7, .int v8, .int v9, .null], [.int r12], σ13)
      refine ⟨r12, σ13, e14, ?_⟩
      rcases ite_cases h with ⟨c15, h⟩ | ⟨c15, h⟩
      · refine hw 4 _ ?_
        show ((v8 ≤ r12) → K (41, [.ref 6, .int v7, .int v8, .int v9, .int r12], [], σ13)) ∧ (¬ (v8 ≤ r12) → K (37, [.ref 6, .int v7, .int v8, .int v9, .int r12], [], σ13))
        refine ⟨fun _ => ?_, fun q => absurd c15 q⟩
        rcases ite_cases h with ⟨c16, h⟩ | ⟨c16, h⟩
        · refine hw 5 _ ?_
          show ((v8 ≤ r12) → K (54, [.ref 6, .int v7, .int v8, .int v9, .int r12], [], σ13)) ∧ (¬ (v8 ≤ r12) → K (49, [.ref 6, .int v7, .int v8, .int v9, .int r12], [], σ13))
          refine ⟨fun _ => ?_, fun q => absurd c16 q⟩
          refine hw 4 _ ?_
          show K (19, [.ref 6, .int v7, .int v8, .int (v9 + 1), .int r12], [], σ13)
          refine hf _ _ 4 _ _ ?_
          show K (19, [.ref 6, .int v7, .int v8, .int (v9 + 1), .null], [], σ13)
          exact ih v7 v8 (v9 + 1) σ13 h hk
        · refine hw 5 _ ?_
          show ((v8 ≤ r12) → K (54, [.ref 6, .int v7, .int v8, .int v9, .int r12], [], σ13)) ∧ (¬ (v8 ≤ r12) → K (49, [.ref 6, .int v7, .int v8, .int v9, .int r12], [], σ13))
          refine ⟨fun q => absurd q c16, fun _ => ?_⟩
          refine hw 5 _ ?_
          show K (19, [.ref 6, .int v7, .int r12, .int (v9 + 1), .int r12], [], σ13)
          refine hf _ _ 4 _ _ ?_
          show K (19, [.ref 6, .int v7, .int r12, .int (v9 + 1), .null], [], σ13)
          exact ih v7 r12 (v9 + 1) σ13 h hk
      · refine hw 4 _ ?_
        show ((v8 ≤ r12) → K (41, [.ref 6, .int v7, .int v8, .int v9, .int r12], [], σ13)) ∧ (¬ (v8 ≤ r12) → K (37, [.ref 6, .int v7, .int v8, .int v9, .int r12], [], σ13))
        refine ⟨fun q => absurd q c15, fun _ => ?_⟩
        rcases ite_cases h with ⟨c17, h⟩ | ⟨c17, h⟩
        · refine hw 6 _ ?_
          show ((v8 ≤ r12) → K (54, [.ref 6, .int v9, .int v8, .int v9, .int r12], [], σ13)) ∧ (¬ (v8 ≤ r12) → K (49, [.ref 6, .int v9, .int v8, .int v9, .int r12], [], σ13))
          refine ⟨fun _ => ?_, fun q => absurd c17 q⟩
          refine hw 4 _ ?_
          show K (19, [.ref 6, .int v9, .int v8, .int (v9 + 1), .int r12], [], σ13)
          refine hf _ _ 4 _ _ ?_
          show K (19, [.ref 6, .int v9, .int v8, .int (v9 + 1), .null], [], σ13)
          exact ih v9 v8 (v9 + 1) σ13 h hk
        · refine hw 6 _ ?_
          show ((v8 ≤ r12) → K (54, [.ref 6, .int v9, .int v8, .int v9, .int r12], [], σ13)) ∧ (¬ (v8 ≤ r12) → K (49, [.ref 6, .int v9, .int v8, .int v9, .int r12], [], σ13))
          refine ⟨fun q => absurd q c17, fun _ => ?_⟩
          refine hw 5 _ ?_
          show K (19, [.ref 6, .int v9, .int r12, .int (v9 + 1), .int r12], [], σ13)
          refine hf _ _ 4 _ _ ?_
          show K (19, [.ref 6, .int v9, .int r12, .int (v9 + 1), .null], [], σ13)
          exact ih v9 r12 (v9 + 1) σ13 h hk

set_option maxHeartbeats 4000000 in
set_option maxRecDepth 100000 in
theorem s_X6_bestStage : runs T_X6_bestStage [.ref 6] 5 F_X6_bestStage := by
  intro Qa K hw hf As σ r σ' h hQ
  unfold F_X6_bestStage at h
  split at h
  · unfold f_X6_bestStage at h
    have hQ : Qa (r, σ').1 (r, σ').2 := hQ
    generalize (r, σ') = y at h hQ
    show K (0, [.ref 6, .null, .null, .null, .null], [], σ)
    obtain ⟨r1, σ2, e3, h⟩ := bnd_some h
    refine hw 5 _ ?_
    show ∃ r1 σ2, f_X6_plays (mput σ 6 0 0) = some (r1, σ2) ∧ K (9, [.ref 6, .null, .null, .null, .null], [], σ2)
    refine ⟨r1, σ2, e3, ?_⟩
    obtain ⟨r4, σ5, e6, h⟩ := bnd_some h
    refine hw 5 _ ?_
    show ∃ r4 σ5, f_X6_shortLines 0 σ2 = some (r4, σ5) ∧ K (16, [.ref 6, .int 0, .null, .null, .null], [.int r4], σ5)
    refine ⟨r4, σ5, e6, ?_⟩
    refine hw 3 _ ?_
    show K (19, [.ref 6, .int 0, .int r4, .int 1, .null], [], σ5)
    refine t_X6_bestStage_19 hw hf _ _ lf 0 r4 1 σ5 h (fun v18 v19 v20 σ21 h => ?_)
    show K (62, [.ref 6, .int v18, .int v19, .int v20, .null], [], σ21)
    obtain rfl := Option.some.inj h
    refine hw 2 _ ?_
    show Qa v18 σ21
    refine hQ
  · cases h
theorem h_X6_bestStage : shp [.ref 6] 5 F_X6_bestStage := by
  intro As σ r σ' h
  unfold F_X6_bestStage at h
  split at h
  · exact ⟨by simp [Value.category], Nat.le_of_ble_eq_true rfl⟩
  · cases h
set_option maxHeartbeats 4000000 in
set_option maxRecDepth 100000 in
theorem c_X6_bestStage (l : Launch) (D : va_G) (cI cZ cA cL : ClassId) (ad : Nat → Nat) (hi : adI ad) : CtI l yX6_bestStage wsX6_bestStage { frames := 6, cells := 0, slots := 0, locals := 144 } D cI cZ cA cL ad [.ref 6] F_X6_bestStage := by
  refine mk_I [.ref 6] F_X6_bestStage T_X6_bestStage (by decide +kernel) rfl ?_ h_X6_bestStage s_X6_bestStage
  intro p e s m args below meth c Qa ⟨hx, hb, hml, hown, hts, hr, hlocks, hK, hN⟩
  have hin6 : ∀ w ∈ u_ws RX6 TX6 30, w ∈ wsX6_bestStage := by decide +kernel
  have hl83 : (Cond.fieldLink RX6 83 RX6 (TX6 0).2.1 (TX6 0).2.2.1) ∈ wsX6_bestStage := by decide +kernel
  refine ruL_c (n := 0) (n2 := 1) rfl (ru_aload_n (k := 0) hx hb dX6_bestStage_0) ?_
  refine ruL_c (n := 1) (n2 := 2) rfl (ru_iconst hx hb dX6_bestStage_1 rfl) ?_
  refine ruL_c (n := 2) (n2 := 3) rfl (ru_putI (own := RX6) (j := 0) (T := TX6) hx hb hown hK hi hts hin6 tyX6 tyX6_ok nmX6 (by decide) rfl rfl (by decide) rfl hl83 rfl (by decide +kernel) dX6_bestStage_2) ?_
  refine ruL_c (n := 3) (n2 := 4) rfl (ru_bot) ?_
  refine ruL_c (n := 4) (n2 := 5) rfl (ru_bot) ?_
  refine ruL_c (n := 5) (n2 := 6) rfl (ru_aload_n (k := 0) hx hb dX6_bestStage_5) ?_
  refine ruL_c (n := 6) (n2 := 7) rfl (ru_callVv hx hb hml hown hts hK hN (by decide) rfl (c_X6_plays l D cI cZ cA cL ad hi) (cwV 0 hts gX6_bestStage_X6_plays rfl rfl rfl (by decide +kernel) ⟨Nat.le_of_ble_eq_true rfl, Nat.le_of_ble_eq_true rfl⟩) dX6_bestStage_6 ⟨Nat.zero_le _, Nat.zero_le _⟩) ?_
  refine ruL_c (n := 7) (n2 := 8) rfl (ru_bot) ?_
  refine ruL_c (n := 8) (n2 := 9) rfl (ru_bot) ?_
  refine ruL_c (n := 9) (n2 := 10) rfl (ru_iconst hx hb dX6_bestStage_9 rfl) ?_
  refine ruL_c (n := 10) (n2 := 11) rfl (ru_istore_n (k := 1) hx hb dX6_bestStage_10) ?_
  refine ruL_c (n := 11) (n2 := 12) rfl (ru_aload_n (k := 0) hx hb dX6_bestStage_11) ?_
  refine ruL_c (n := 12) (n2 := 13) rfl (ru_iconst hx hb dX6_bestStage_12 rfl) ?_
  refine ruL_c (n := 13) (n2 := 14) rfl (ru_callV hx hb hml hown hts hK hN (by decide) rfl (c_X6_shortLines l D cI cZ cA cL ad hi) (cwV 1 hts gX6_bestStage_X6_shortLines rfl rfl rfl (by decide +kernel) ⟨Nat.le_of_ble_eq_true rfl, Nat.le_of_ble_eq_true rfl⟩) dX6_bestStage_13 ⟨Nat.zero_le _, Nat.zero_le _⟩) ?_
  refine ruL_c (n := 14) (n2 := 15) rfl (ru_bot) ?_
  refine ruL_c (n := 15) (n2 := 16) rfl (ru_bot) ?_
  refine ruL_c (n := 16) (n2 := 17) rfl (ru_istore_n (k := 2) hx hb dX6_bestStage_16) ?_
  refine ruL_c (n := 17) (n2 := 18) rfl (ru_iconst hx hb dX6_bestStage_17 rfl) ?_
  refine ruL_c (n := 18) (n2 := 19) rfl (ru_istore_n (k := 3) hx hb dX6_bestStage_18) ?_
  refine ruL_c (n := 19) (n2 := 20) rfl (ru_iload_n (k := 3) hx hb dX6_bestStage_19) ?_
  refine ruL_c (n := 20) (n2 := 21) rfl (ru_iconst hx hb dX6_bestStage_20 rfl) ?_
  refine ruL_c (n := 21) (n2 := 22) rfl (ru_icmpge hx hb dX6_bestStage_21 (by decide)) ?_
  refine ruL_c (n := 22) (n2 := 23) rfl (ru_bot) ?_
  refine ruL_c (n := 23) (n2 := 24) rfl (ru_bot) ?_
  refine ruL_c (n := 24) (n2 := 25) rfl (ru_aload_n (k := 0) hx hb dX6_bestStage_24) ?_
  refine ruL_c (n := 25) (n2 := 26) rfl (ru_iload_n (k := 3) hx hb dX6_bestStage_25) ?_
  refine ruL_c (n := 26) (n2 := 27) rfl (ru_callV hx hb hml hown hts hK hN (by decide) rfl (c_X6_shortLines l D cI cZ cA cL ad hi) (cwV 1 hts gX6_bestStage_X6_shortLines rfl rfl rfl (by decide +kernel) ⟨Nat.le_of_ble_eq_true rfl, Nat.le_of_ble_eq_true rfl⟩) dX6_bestStage_26 ⟨Nat.zero_le _, Nat.zero_le _⟩) ?_
  refine ruL_c (n := 27) (n2 := 28) rfl (ru_bot) ?_
  refine ruL_c (n := 28) (n2 := 29) rfl (ru_bot) ?_
  refine ruL_c (n := 29) (n2 := 30) rfl (ru_istore hx hb dX6_bestStage_29) ?_
  refine ruL_c (n := 30) (n2 := 31) rfl (ru_bot) ?_
  refine ruL_c (n := 31) (n2 := 32) rfl (ru_iload hx hb dX6_bestStage_31) ?_
  refine ruL_c (n := 32) (n2 := 33) rfl (ru_bot) ?_
  refine ruL_c (n := 33) (n2 := 34) rfl (ru_iload_n (k := 2) hx hb dX6_bestStage_33) ?_
  refine ruL_c (n := 34) (n2 := 35) rfl (ru_icmpge hx hb dX6_bestStage_34 (by decide)) ?_
  refine ruL_c (n := 35) (n2 := 36) rfl (ru_bot) ?_
  refine ruL_c (n := 36) (n2 := 37) rfl (ru_bot) ?_
  refine ruL_c (n := 37) (n2 := 38) rfl (ru_iload_n (k := 3) hx hb dX6_bestStage_37) ?_
  refine ruL_c (n := 38) (n2 := 39) rfl (ru_goto hx hb dX6_bestStage_38 (by decide)) ?_
  refine ruL_c (n := 39) (n2 := 40) rfl (ru_bot) ?_
  refine ruL_c (n := 40) (n2 := 41) rfl (ru_bot) ?_
  refine ruL_c (n := 41) (n2 := 42) rfl (ru_iload_n (k := 1) hx hb dX6_bestStage_41) ?_
  refine ruL_c (n := 42) (n2 := 43) rfl (ru_istore_n (k := 1) hx hb dX6_bestStage_42) ?_
  refine ruL_c (n := 43) (n2 := 44) rfl (ru_iload hx hb dX6_bestStage_43) ?_
  refine ruL_c (n := 44) (n2 := 45) rfl (ru_bot) ?_
  refine ruL_c (n := 45) (n2 := 46) rfl (ru_iload_n (k := 2) hx hb dX6_bestStage_45) ?_
  refine ruL_c (n := 46) (n2 := 47) rfl (ru_icmpge hx hb dX6_bestStage_46 (by decide)) ?_
  refine ruL_c (n := 47) (n2 := 48) rfl (ru_bot) ?_
  refine ruL_c (n := 48) (n2 := 49) rfl (ru_bot) ?_
  refine ruL_c (n := 49) (n2 := 50) rfl (ru_iload hx hb dX6_bestStage_49) ?_
  refine ruL_c (n := 50) (n2 := 51) rfl (ru_bot) ?_
  refine ruL_c (n := 51) (n2 := 52) rfl (ru_goto hx hb dX6_bestStage_51 (by decide)) ?_
  refine ruL_c (n := 52) (n2 := 53) rfl (ru_bot) ?_
  refine ruL_c (n := 53) (n2 := 54) rfl (ru_bot) ?_
  refine ruL_c (n := 54) (n2 := 55) rfl (ru_iload_n (k := 2) hx hb dX6_bestStage_54) ?_
  refine ruL_c (n := 55) (n2 := 56) rfl (ru_istore_n (k := 2) hx hb dX6_bestStage_55) ?_
  refine ruL_c (n := 56) (n2 := 57) rfl (ru_iinc hx hb dX6_bestStage_56 rfl) ?_
  refine ruL_c (n := 57) (n2 := 58) rfl (ru_bot) ?_
  refine ruL_c (n := 58) (n2 := 59) rfl (ru_bot) ?_
  refine ruL_c (n := 59) (n2 := 60) rfl (ru_goto hx hb dX6_bestStage_59 (by decide)) ?_
  refine ruL_c (n := 60) (n2 := 61) rfl (ru_bot) ?_
  refine ruL_c (n := 61) (n2 := 62) rfl (ru_bot) ?_
  refine ruL_c (n := 62) (n2 := 63) rfl (ru_iload_n (k := 1) hx hb dX6_bestStage_62) ?_
  refine ruL_c (n := 63) (n2 := 64) rfl (ru_iret hx hb hK hr hlocks dX6_bestStage_63) ?_
  exact trivial

-- CueTourModel.bestToBorrow
def l_X6_bestToBorrow_44 (x15 : Int32) (x16 : Int32) : Nat → Int32 → Int32 → Int32 → aM → (Int32 → Int32 → Int32 → aM → Option (Int32 × aM)) → Option (Int32 × aM)
  | 0, _, _, _, _, _ => none
  | n + 1, v17, v18, v19, σ20, k => if (σ20 6 19) ≤ v19 then k v17 v18 v19 σ20 else bnd (f_X6_isHome v19 σ20) (fun r22 σ23 => if r22 = 0 then l_X6_bestToBorrow_44 x15 x16 n v17 v18 (v19 + 1) σ23 k else if inb v19 20 = true then if (σ23 38 (ix v19)) = x15 then l_X6_bestToBorrow_44 x15 x16 n v17 v18 (v19 + 1) σ23 k else if inb v19 20 = true then if inb v19 20 = true then bnd (f_X6_shortLines x15 (mput (mput σ23 40 (ix v19) x15) 41 (ix v19) x16)) (fun r30 σ31 => if inb v19 20 = true then if inb v19 20 = true then if inb v19 20 = true then if inb v19 20 = true then if v18 ≤ r30 then if v18 ≤ r30 then l_X6_bestToBorrow_44 x15 x16 n v17 v18 (v19 + 1) (mput (mput σ31 40 (ix v19) (σ31 38 (ix v19))) 41 (ix v19) (σ31 39 (ix v19))) k else l_X6_bestToBorrow_44 x15 x16 n v17 r30 (v19 + 1) (mput (mput σ31 40 (ix v19) (σ31 38 (ix v19))) 41 (ix v19) (σ31 39 (ix v19))) k else if v18 ≤ r30 then l_X6_bestToBorrow_44 x15 x16 n v19 v18 (v19 + 1) (mput (mput σ31 40 (ix v19) (σ31 38 (ix v19))) 41 (ix v19) (σ31 39 (ix v19))) k else l_X6_bestToBorrow_44 x15 x16 n v19 r30 (v19 + 1) (mput (mput σ31 40 (ix v19) (σ31 38 (ix v19))) 41 (ix v19) (σ31 39 (ix v19))) k else none else none else none else none) else none else none else none)
def f_X6_bestToBorrow (p0 : Int32) (p1 : Int32) (σ : aM) : Option (Int32 × aM) := bnd (f_X6_isStage p0 σ) (fun r1 σ2 => if r1 = 0 then bnd (f_X6_isFine 1 σ2) (fun r5 σ6 => if ¬ r5 = 0 then bnd (f_X6_plays σ6) (fun r9 σ10 => bnd (f_X6_shortLines p0 σ10) (fun r12 σ13 => l_X6_bestToBorrow_44 p0 p1 lf ((-1)) r12 0 σ13 (fun v40 v41 v42 σ43 => some (v40, σ43)))) else some (0, σ6)) else bnd (f_X6_isArea p1 σ2) (fun r44 σ45 => if r44 = 0 then bnd (f_X6_isFine 1 σ45) (fun r48 σ49 => if ¬ r48 = 0 then bnd (f_X6_plays σ49) (fun r52 σ53 => bnd (f_X6_shortLines p0 σ53) (fun r55 σ56 => l_X6_bestToBorrow_44 p0 p1 lf ((-1)) r55 0 σ56 (fun v58 v59 v60 σ61 => some (v58, σ61)))) else some (0, σ49)) else bnd (f_X6_isFine 0 σ45) (fun r62 σ63 => if ¬ r62 = 0 then bnd (f_X6_plays σ63) (fun r66 σ67 => bnd (f_X6_shortLines p0 σ67) (fun r69 σ70 => l_X6_bestToBorrow_44 p0 p1 lf ((-1)) r69 0 σ70 (fun v72 v73 v74 σ75 => some (v72, σ75)))) else some (0, σ63))))
def F_X6_bestToBorrow : aF := fun As σ => match As with
  | [.int p0, .int p1] => f_X6_bestToBorrow p0 p1 σ
  | _ => none
def T_X6_bestToBorrow (Qa : Int32 → aM → Prop) : List aI := [I_aload 0 1, I_iload 1 1, I_callS 1 F_X6_isStage, I_bot, I_bot, I_if (fun x => x = 0) 19, I_bot, I_bot, I_iload 2 1, I_callS 1 F_X6_isArea, I_bot, I_bot, I_if (fun x => x = 0) 19, I_bot, I_bot, I_const 0 1, I_goto 20, I_bot, I_bot, I_const 1 1, I_callV 6 1 F_X6_isFine, I_bot, I_bot, I_if (fun x => ¬ x = 0) 28, I_bot, I_bot, I_const 0 1, I_iret Qa, I_aload 0 1, I_callVv 6 0 F_X6_plays, I_bot, I_bot, I_const (-1) 1, I_istore 3 1, I_aload 0 1, I_iload 1 1, I_callV 6 1 F_X6_shortLines, I_bot, I_bot, I_istore 4 2, I_bot, I_const 0 1, I_istore 5 2, I_bot, I_iload 5 2, I_bot, I_aload 0 1, I_getI 6 19, I_bot, I_bot, I_icmp (fun x y => y ≤ x) 160, I_bot, I_bot, I_aload 0 1, I_iload 5 2, I_bot, I_callV 6 1 F_X6_isHome, I_bot, I_bot, I_if (fun x => x = 0) 154, I_bot, I_bot, I_aload 0 1, I_getR 6 38, I_bot, I_bot, I_iload 5 2, I_bot, I_iald, I_iload 1 1, I_icmp (fun x y => x = y) 154, I_bot, I_bot, I_aload 0 1, I_getR 6 40, I_bot, I_bot, I_iload 5 2, I_bot, I_iload 1 1, I_iast, I_aload 0 1, I_getR 6 41, I_bot, I_bot, I_iload 5 2, I_bot, I_iload 2 1, I_iast, I_aload 0 1, I_iload 1 1, I_callV 6 1 F_X6_shortLines, I_bot, I_bot, I_istore 6 2, I_bot, I_aload 0 1, I_getR 6 40, I_bot, I_bot, I_iload 5 2, I_bot, I_aload 0 1, I_getR 6 38, I_bot, I_bot, I_iload 5 2, I_bot, I_iald, I_iast, I_aload 0 1, I_getR 6 41, I_bot, I_bot, I_iload 5 2, I_bot, I_aload 0 1, I_getR 6 39, I_bot, I_bot, I_iload 5 2, I_bot, I_iald, I_iast, I_iload 6 2, I_bot, I_iload 4 2, I_bot, I_icmp (fun x y => y ≤ x) 136, I_bot, I_bot, I_iload 5 2, I_bot, I_goto 137, I_bot, I_bot, I_iload 3 1, I_istore 3 1, I_iload 6 2, I_bot, I_iload 4 2, I_bot, I_icmp (fun x y => y ≤ x) 150, I_bot, I_bot, I_iload 6 2, I_bot, I_goto 152, I_bot, I_bot, I_iload 4 2, I_bot, I_istore 4 2, I_bot, I_iinc 5 (1), I_bot, I_bot, I_goto 44, I_bot, I_bot, I_iload 3 1, I_iret Qa]
set_option maxHeartbeats 4000000 in
set_option maxRecDepth 100000 in
theorem t_X6_bestToBorrow_44 {Qa : Int32 → aM → Prop} {K : aS → Prop} (hw : ∀ k x, wp (T_X6_bestToBorrow Qa) k K x → K x) (hf : ∀ pc L i st σ, K (pc, L.set i .null, st, σ) → K (pc, L, st, σ)) (x15 : Int32) (x16 : Int32) (y : Int32 × aM) (k : Int32 → Int32 → Int32 → aM → Option (Int32 × aM)) :
    ∀ (n : Nat) (v17 : Int32) (v18 : Int32) (v19 : Int32) (σ20 : aM), l_X6_bestToBorrow_44 x15 x16 n v17 v18 v19 σ20 k = some y → (∀ (w0 : Int32) (w1 : Int32) (w2 : Int32) (τ : aM), k w0 w1 w2 τ = some y → K (160, [.ref 6, .int x15, .int x16, .int w0, .int w1, .int w2, .null], [], τ)) → K (44, [.ref 6, .int x15, .int x16, .int v17, .int v18, .int v19, .null], [], σ20) := by
  intro n
  induction n with
  | zero =>
    intro v17 v18 v19 σ20 h hk
    exact absurd h (by simp [l_X6_bestToBorrow_44])
  | succ n ih =>
    intro v17 v18 v19 σ20 h hk
    unfold l_X6_bestToBorrow_44 at h
    rcases ite_cases h with ⟨c21, h⟩ | ⟨c21, h⟩
    · refine hw 4 _ ?_
      show (((σ20 6 19) ≤ v19) → K (160, [.ref 6, .int x15, .int x16, .int v17, .int v18, .int v19, .null], [], σ20)) ∧ (¬ ((σ20 6 19) ≤ v19) → K (53, [.ref 6, .int x15, .int x16, .int v17, .int v18, .int v19, .null], [], σ20))
      refine ⟨fun _ => ?_, fun q => absurd c21 q⟩
      exact hk v17 v18 v19 σ20 h
    · refine hw 4 _ ?_
      show (((σ20 6 19) ≤ v19) → K (160, [.ref 6, .int x15, .int x16, .int v17, .int v18, .int v19, .null], [], σ20)) ∧ (¬ ((σ20 6 19) ≤ v19) → K (53, [.ref 6, .int x15, .int x16, .int v17, .int v18, .int v19, .null], [], σ20))
      refine ⟨fun q => absurd q c21, fun _ => ?_⟩
      obtain ⟨r22, σ23, e24, h⟩ := bnd_some h
      refine hw 3 _ ?_
      show ∃ r22 σ23, f_X6_isHome v19 σ20 = some (r22, σ23) ∧ K (59, [.ref 6, .int x15, .int x16, .int v17, .int v18, .int v19, .null], [.int r22], σ23)
      refine ⟨r22, σ23, e24, ?_⟩
      rcases ite_cases h with ⟨c25, h⟩ | ⟨c25, h⟩
      · refine hw 1 _ ?_
        show ((r22 = 0) → K (154, [.ref 6, .int x15, .int x16, .int v17, .int v18, .int v19, .null], [], σ23)) ∧ (¬ (r22 = 0) → K (62, [.ref 6, .int x15, .int x16, .int v17, .int v18, .int v19, .null], [], σ23))
        refine ⟨fun _ => ?_, fun q => absurd c25 q⟩
        refine hw 2 _ ?_
        show K (44, [.ref 6, .int x15, .int x16, .int v17, .int v18, .int (v19 + 1), .null], [], σ23)
        exact ih v17 v18 (v19 + 1) σ23 h hk
      · refine hw 1 _ ?_
        show ((r22 = 0) → K (154, [.ref 6, .int x15, .int x16, .int v17, .int v18, .int v19, .null], [], σ23)) ∧ (¬ (r22 = 0) → K (62, [.ref 6, .int x15, .int x16, .int v17, .int v18, .int v19, .null], [], σ23))
        refine ⟨fun q => absurd q c25, fun _ => ?_⟩
        obtain ⟨g26, h⟩ := ite_some h
        rcases ite_cases h with ⟨c27, h⟩ | ⟨c27, h⟩
        · refine hw 6 _ ?_
          show kd 38 = 1 ∧ (inb v19 20 = true ∧ ((((σ23 38 (ix v19)) = x15) → K (154, [.ref 6, .int x15, .int x16, .int v17, .int v18, .int v19, .null], [], σ23)) ∧ (¬ ((σ23 38 (ix v19)) = x15) → K (73, [.ref 6, .int x15, .int x16, .int v17, .int v18, .int v19, .null], [], σ23))))
          refine ⟨rfl, g26, ⟨fun _ => ?_, fun q => absurd c27 q⟩⟩
          refine hw 2 _ ?_
          show K (44, [.ref 6, .int x15, .int x16, .int v17, .int v18, .int (v19 + 1), .null], [], σ23)
          exact ih v17 v18 (v19 + 1) σ23 h hk
        · refine hw 6 _ ?_
          show kd 38 = 1 ∧ (inb v19 20 = true ∧ ((((σ23 38 (ix v19)) = x15) → K (154, [.ref 6, .int x15, .int x16, .int v17, .int v18, .int v19, .null], [], σ23)) ∧ (¬ ((σ23 38 (ix v19)) = x15) → K (73, [.ref 6, .int x15, .int x16, .int v17, .int v18, .int v19, .null], [], σ23))))
          refine ⟨rfl, g26, ⟨fun q => absurd q c27, fun _ => ?_⟩⟩
          obtain ⟨g28, h⟩ := ite_some h
          obtain ⟨g29, h⟩ := ite_some h
          obtain ⟨r30, σ31, e32, h⟩ := bnd_some h
          refine hw 13 _ ?_
          show kd 40 = 1 ∧ (inb v19 20 = true ∧ (kd 41 = 1 ∧ (inb v19 20 = true ∧ (∃ r30 σ31, f_X6_shortLines x15 (mput (mput σ23 40 (ix v19) x15) 41 (ix v19) x16) = some (r30, σ31) ∧ K (94, [.ref 6, .int x15, .int x16, .int v17, .int v18, .int v19, .null], [.int r30], σ31)))))
          refine ⟨rfl, g28, rfl, g29, ⟨r30, σ31, e32, ?_⟩⟩
          obtain ⟨g33, h⟩ := ite_some h
          obtain ⟨g34, h⟩ := ite_some h
          obtain ⟨g35, h⟩ := ite_some h
          obtain ⟨g36, h⟩ := ite_some h
          rcases ite_cases h with ⟨c37, h⟩ | ⟨c37, h⟩
          · refine hw 20 _ ?_
            show kd 38 = 1 ∧ (inb v19 20 = true ∧ (kd 40 = 1 ∧ (inb v19 20 = true ∧ (kd 39 = 1 ∧ (inb v19 20 = true ∧ (kd 41 = 1 ∧ (inb v19 20 = true ∧ (((v18 ≤ r30) → K (136, [.ref 6, .int x15, .int x16, .int v17, .int v18, .int v19, .int r30], [], mput (mput σ31 40 (ix v19) (σ31 38 (ix v19))) 41 (ix v19) (σ31 39 (ix v19)))) ∧ (¬ (v18 ≤ r30) → K (131, [.ref 6, .int x15, .int x16, .int v17, .int v18, .int v19, .int r30], [], mput (mput σ31 40 (ix v19) (σ31 38 (ix v19))) 41 (ix v19) (σ31 39 (ix v19))))))))))))
            refine ⟨rfl, g33, rfl, g34, rfl, g35, rfl, g36, ⟨fun _ => ?_, fun q => absurd c37 q⟩⟩
            rcases ite_cases h with ⟨c38, h⟩ | ⟨c38, h⟩
            · refine hw 5 _ ?_
              show ((v18 ≤ r30) → K (150, [.ref 6, .int x15, .int x16, .int v17, .int v18, .int v19, .int r30], [], mput (mput σ31 40 (ix v19) (σ31 38 (ix v19))) 41 (ix v19) (σ31 39 (ix v19)))) ∧ (¬ (v18 ≤ r30) → K (145, [.ref 6, .int x15, .int x16, .int v17, .int v18, .int v19, .int r30], [], mput (mput σ31 40 (ix v19) (σ31 38 (ix v19))) 41 (ix v19) (σ31 39 (ix v19))))
              refine ⟨fun _ => ?_, fun q => absurd c38 q⟩
              refine hw 4 _ ?_
              show K (44, [.ref 6, .int x15, .int x16, .int v17, .int v18, .int (v19 + 1), .int r30], [], mput (mput σ31 40 (ix v19) (σ31 38 (ix v19))) 41 (ix v19) (σ31 39 (ix v19)))
              refine hf _ _ 6 _ _ ?_
              show K (44, [.ref 6, .int x15, .int x16, .int v17, .int v18, .int (v19 + 1), .null], [], mput (mput σ31 40 (ix v19) (σ31 38 (ix v19))) 41 (ix v19) (σ31 39 (ix v19)))
              exact ih v17 v18 (v19 + 1) (mput (mput σ31 40 (ix v19) (σ31 38 (ix v19))) 41 (ix v19) (σ31 39 (ix v19))) h hk
            · refine hw 5 _ ?_
              show ((v18 ≤ r30) → K (150, [.ref 6, .int x15, .int x16, .int v17, .int v18, .int v19, .int r30], [], mput (mput σ31 40 (ix v19) (σ31 38 (ix v19))) 41 (ix v19) (σ31 39 (ix v19)))) ∧ (¬ (v18 ≤ r30) → K (145, [.ref 6, .int x15, .int x16, .int v17, .int v18, .int v19, .int r30], [], mput (mput σ31 40 (ix v19) (σ31 38 (ix v19))) 41 (ix v19) (σ31 39 (ix v19))))
              refine ⟨fun q => absurd q c38, fun _ => ?_⟩
              refine hw 5 _ ?_
              show K (44, [.ref 6, .int x15, .int x16, .int v17, .int r30, .int (v19 + 1), .int r30], [], mput (mput σ31 40 (ix v19) (σ31 38 (ix v19))) 41 (ix v19) (σ31 39 (ix v19)))
              refine hf _ _ 6 _ _ ?_
              show K (44, [.ref 6, .int x15, .int x16, .int v17, .int r30, .int (v19 + 1), .null], [], mput (mput σ31 40 (ix v19) (σ31 38 (ix v19))) 41 (ix v19) (σ31 39 (ix v19)))
              exact ih v17 r30 (v19 + 1) (mput (mput σ31 40 (ix v19) (σ31 38 (ix v19))) 41 (ix v19) (σ31 39 (ix v19))) h hk
          · refine hw 20 _ ?_
            show kd 38 = 1 ∧ (inb v19 20 = true ∧ (kd 40 = 1 ∧ (inb v19 20 = true ∧ (kd 39 = 1 ∧ (inb v19 20 = true ∧ (kd 41 = 1 ∧ (inb v19 20 = true ∧ (((v18 ≤ r30) → K (136, [.ref 6, .int x15, .int x16, .int v17, .int v18, .int v19, .int r30], [], mput (mput σ31 40 (ix v19) (σ31 38 (ix v19))) 41 (ix v19) (σ31 39 (ix v19)))) ∧ (¬ (v18 ≤ r30) → K (131, [.ref 6, .int x15, .int x16, .int v17, .int v18, .int v19, .int r30], [], mput (mput σ31 40 (ix v19) (σ31 38 (ix v19))) 41 (ix v19) (σ31 39 (ix v19))))))))))))
            refine ⟨rfl, g33, rfl, g34, rfl, g35, rfl, g36, ⟨fun q => absurd q c37, fun _ => ?_⟩⟩
            rcases ite_cases h with ⟨c39, h⟩ | ⟨c39, h⟩
            · refine hw 6 _ ?_
              show ((v18 ≤ r30) → K (150, [.ref 6, .int x15, .int x16, .int v19, .int v18, .int v19, .int r30], [], mput (mput σ31 40 (ix v19) (σ31 38 (ix v19))) 41 (ix v19) (σ31 39 (ix v19)))) ∧ (¬ (v18 ≤ r30) → K (145, [.ref 6, .int x15, .int x16, .int v19, .int v18, .int v19, .int r30], [], mput (mput σ31 40 (ix v19) (σ31 38 (ix v19))) 41 (ix v19) (σ31 39 (ix v19))))
              refine ⟨fun _ => ?_, fun q => absurd c39 q⟩
              refine hw 4 _ ?_
              show K (44, [.ref 6, .int x15, .int x16, .int v19, .int v18, .int (v19 + 1), .int r30], [], mput (mput σ31 40 (ix v19) (σ31 38 (ix v19))) 41 (ix v19) (σ31 39 (ix v19)))
              refine hf _ _ 6 _ _ ?_
              show K (44, [.ref 6, .int x15, .int x16, .int v19, .int v18, .int (v19 + 1), .null], [], mput (mput σ31 40 (ix v19) (σ31 38 (ix v19))) 41 (ix v19) (σ31 39 (ix v19)))
              exact ih v19 v18 (v19 + 1) (mput (mput σ31 40 (ix v19) (σ31 38 (ix v19))) 41 (ix v19) (σ31 39 (ix v19))) h hk
            · refine hw 6 _ ?_
              show ((v18 ≤ r30) → K (150, [.ref 6, .int x15, .int x16, .int v19, .int v18, .int v19, .int r30], [], mput (mput σ31 40 (ix v19) (σ31 38 (ix v19))) 41 (ix v19) (σ31 39 (ix v19)))) ∧ (¬ (v18 ≤ r30) → K (145, [.ref 6, .int x15, .int x16, .int v19, .int v18, .int v19, .int r30], [], mput (mput σ31 40 (ix v19) (σ31 38 (ix v19))) 41 (ix v19) (σ31 39 (ix v19))))
              refine ⟨fun q => absurd q c39, fun _ => ?_⟩
              refine hw 5 _ ?_
              show K (44, [.ref 6, .int x15, .int x16, .int v19, .int r30, .int (v19 + 1), .int r30], [], mput (mput σ31 40 (ix v19) (σ31 38 (ix v19))) 41 (ix v19) (σ31 39 (ix v19)))
              refine hf _ _ 6 _ _ ?_
              show K (44, [.ref 6, .int x15, .int x16, .int v19, .int r30, .int (v19 + 1), .null], [], mput (mput σ31 40 (ix v19) (σ31 38 (ix v19))) 41 (ix v19) (σ31 39 (ix v19)))
              exact ih v19 r30 (v19 + 1) (mput (mput σ31 40 (ix v19) (σ31 38 (ix v19))) 41 (ix v19) (σ31 39 (ix v19))) h hk

set_option maxHeartbeats 4000000 in
set_option maxRecDepth 100000 in
theorem s_X6_bestToBorrow : runs T_X6_bestToBorrow [.ref 6] 7 F_X6_bestToBorrow := by
  intro Qa K hw hf As σ r σ' h hQ
  unfold F_X6_bestToBorrow at h
  split at h
  · rename_i p0 p1
    unfold f_X6_bestToBorrow at h
    have hQ : Qa (r, σ').1 (r, σ').2 := hQ
    generalize (r, σ') = y at h hQ
    show K (0, [.ref 6, .int p0, .int p1, .null, .null, .null, .null], [], σ)
    obtain ⟨r1, σ2, e3, h⟩ := bnd_some h
    refine hw 3 _ ?_
    show ∃ r1 σ2, f_X6_isStage p0 σ = some (r1, σ2) ∧ K (5, [.ref 6, .int p0, .int p1, .null, .null, .null, .null], [.int r1, .ref 6], σ2)
    refine ⟨r1, σ2, e3, ?_⟩
    rcases ite_cases h with ⟨c4, h⟩ | ⟨c4, h⟩
    · refine hw 1 _ ?_
      show ((r1 = 0) → K (19, [.ref 6, .int p0, .int p1, .null, .null, .null, .null], [.ref 6], σ2)) ∧ (¬ (r1 = 0) → K (8, [.ref 6, .int p0, .int p1, .null, .null, .null, .null], [.ref 6], σ2))
      refine ⟨fun _ => ?_, fun q => absurd c4 q⟩
      obtain ⟨r5, σ6, e7, h⟩ := bnd_some h
      refine hw 2 _ ?_
      show ∃ r5 σ6, f_X6_isFine 1 σ2 = some (r5, σ6) ∧ K (23, [.ref 6, .int p0, .int p1, .null, .null, .null, .null], [.int r5], σ6)
      refine ⟨r5, σ6, e7, ?_⟩
      rcases ite_cases h with ⟨c8, h⟩ | ⟨c8, h⟩
      · refine hw 1 _ ?_
        show ((¬ r5 = 0) → K (28, [.ref 6, .int p0, .int p1, .null, .null, .null, .null], [], σ6)) ∧ (¬ (¬ r5 = 0) → K (26, [.ref 6, .int p0, .int p1, .null, .null, .null, .null], [], σ6))
        refine ⟨fun _ => ?_, fun q => absurd c8 q⟩
        obtain ⟨r9, σ10, e11, h⟩ := bnd_some h
        refine hw 2 _ ?_
        show ∃ r9 σ10, f_X6_plays σ6 = some (r9, σ10) ∧ K (32, [.ref 6, .int p0, .int p1, .null, .null, .null, .null], [], σ10)
        refine ⟨r9, σ10, e11, ?_⟩
        obtain ⟨r12, σ13, e14, h⟩ := bnd_some h
        refine hw 5 _ ?_
        show ∃ r12 σ13, f_X6_shortLines p0 σ10 = some (r12, σ13) ∧ K (39, [.ref 6, .int p0, .int p1, .int ((-1)), .null, .null, .null], [.int r12], σ13)
        refine ⟨r12, σ13, e14, ?_⟩
        refine hw 3 _ ?_
        show K (44, [.ref 6, .int p0, .int p1, .int ((-1)), .int r12, .int 0, .null], [], σ13)
        refine t_X6_bestToBorrow_44 hw hf p0 p1 _ _ lf ((-1)) r12 0 σ13 h (fun v40 v41 v42 σ43 h => ?_)
        show K (160, [.ref 6, .int p0, .int p1, .int v40, .int v41, .int v42, .null], [], σ43)
        obtain rfl := Option.some.inj h
        refine hw 2 _ ?_
        show Qa v40 σ43
        refine hQ
      · refine hw 1 _ ?_
        show ((¬ r5 = 0) → K (28, [.ref 6, .int p0, .int p1, .null, .null, .null, .null], [], σ6)) ∧ (¬ (¬ r5 = 0) → K (26, [.ref 6, .int p0, .int p1, .null, .null, .null, .null], [], σ6))
        refine ⟨fun q => absurd q c8, fun _ => ?_⟩
        obtain rfl := Option.some.inj h
        refine hw 2 _ ?_
        show Qa 0 σ6
        refine hQ
    · refine hw 1 _ ?_
      show ((r1 = 0) → K (19, [.ref 6, .int p0, .int p1, .null, .null, .null, .null], [.ref 6], σ2)) ∧ (¬ (r1 = 0) → K (8, [.ref 6, .int p0, .int p1, .null, .null, .null, .null], [.ref 6], σ2))
      refine ⟨fun q => absurd q c4, fun _ => ?_⟩
      obtain ⟨r44, σ45, e46, h⟩ := bnd_some h
      refine hw 2 _ ?_
      show ∃ r44 σ45, f_X6_isArea p1 σ2 = some (r44, σ45) ∧ K (12, [.ref 6, .int p0, .int p1, .null, .null, .null, .null], [.int r44, .ref 6], σ45)
      refine ⟨r44, σ45, e46, ?_⟩
      rcases ite_cases h with ⟨c47, h⟩ | ⟨c47, h⟩
      · refine hw 1 _ ?_
        show ((r44 = 0) → K (19, [.ref 6, .int p0, .int p1, .null, .null, .null, .null], [.ref 6], σ45)) ∧ (¬ (r44 = 0) → K (15, [.ref 6, .int p0, .int p1, .null, .null, .null, .null], [.ref 6], σ45))
        refine ⟨fun _ => ?_, fun q => absurd c47 q⟩
        obtain ⟨r48, σ49, e50, h⟩ := bnd_some h
        refine hw 2 _ ?_
        show ∃ r48 σ49, f_X6_isFine 1 σ45 = some (r48, σ49) ∧ K (23, [.ref 6, .int p0, .int p1, .null, .null, .null, .null], [.int r48], σ49)
        refine ⟨r48, σ49, e50, ?_⟩
        rcases ite_cases h with ⟨c51, h⟩ | ⟨c51, h⟩
        · refine hw 1 _ ?_
          show ((¬ r48 = 0) → K (28, [.ref 6, .int p0, .int p1, .null, .null, .null, .null], [], σ49)) ∧ (¬ (¬ r48 = 0) → K (26, [.ref 6, .int p0, .int p1, .null, .null, .null, .null], [], σ49))
          refine ⟨fun _ => ?_, fun q => absurd c51 q⟩
          obtain ⟨r52, σ53, e54, h⟩ := bnd_some h
          refine hw 2 _ ?_
          show ∃ r52 σ53, f_X6_plays σ49 = some (r52, σ53) ∧ K (32, [.ref 6, .int p0, .int p1, .null, .null, .null, .null], [], σ53)
          refine ⟨r52, σ53, e54, ?_⟩
          obtain ⟨r55, σ56, e57, h⟩ := bnd_some h
          refine hw 5 _ ?_
          show ∃ r55 σ56, f_X6_shortLines p0 σ53 = some (r55, σ56) ∧ K (39, [.ref 6, .int p0, .int p1, .int ((-1)), .null, .null, .null], [.int r55], σ56)
          refine ⟨r55, σ56, e57, ?_⟩
          refine hw 3 _ ?_
          show K (44, [.ref 6, .int p0, .int p1, .int ((-1)), .int r55, .int 0, .null], [], σ56)
          refine t_X6_bestToBorrow_44 hw hf p0 p1 _ _ lf ((-1)) r55 0 σ56 h (fun v58 v59 v60 σ61 h => ?_)
          show K (160, [.ref 6, .int p0, .int p1, .int v58, .int v59, .int v60, .null], [], σ61)
          obtain rfl := Option.some.inj h
          refine hw 2 _ ?_
          show Qa v58 σ61
          refine hQ
        · refine hw 1 _ ?_
          show ((¬ r48 = 0) → K (28, [.ref 6, .int p0, .int p1, .null, .null, .null, .null], [], σ49)) ∧ (¬ (¬ r48 = 0) → K (26, [.ref 6, .int p0, .int p1, .null, .null, .null, .null], [], σ49))
          refine ⟨fun q => absurd q c51, fun _ => ?_⟩
          obtain rfl := Option.some.inj h
          refine hw 2 _ ?_
          show Qa 0 σ49
          refine hQ
      · refine hw 1 _ ?_
        show ((r44 = 0) → K (19, [.ref 6, .int p0, .int p1, .null, .null, .null, .null], [.ref 6], σ45)) ∧ (¬ (r44 = 0) → K (15, [.ref 6, .int p0, .int p1, .null, .null, .null, .null], [.ref 6], σ45))
        refine ⟨fun q => absurd q c47, fun _ => ?_⟩
        obtain ⟨r62, σ63, e64, h⟩ := bnd_some h
        refine hw 3 _ ?_
        show ∃ r62 σ63, f_X6_isFine 0 σ45 = some (r62, σ63) ∧ K (23, [.ref 6, .int p0, .int p1, .null, .null, .null, .null], [.int r62], σ63)
        refine ⟨r62, σ63, e64, ?_⟩
        rcases ite_cases h with ⟨c65, h⟩ | ⟨c65, h⟩
        · refine hw 1 _ ?_
          show ((¬ r62 = 0) → K (28, [.ref 6, .int p0, .int p1, .null, .null, .null, .null], [], σ63)) ∧ (¬ (¬ r62 = 0) → K (26, [.ref 6, .int p0, .int p1, .null, .null, .null, .null], [], σ63))
          refine ⟨fun _ => ?_, fun q => absurd c65 q⟩
          obtain ⟨r66, σ67, e68, h⟩ := bnd_some h
          refine hw 2 _ ?_
          show ∃ r66 σ67, f_X6_plays σ63 = some (r66, σ67) ∧ K (32, [.ref 6, .int p0, .int p1, .null, .null, .null, .null], [], σ67)
          refine ⟨r66, σ67, e68, ?_⟩
          obtain ⟨r69, σ70, e71, h⟩ := bnd_some h
          refine hw 5 _ ?_
          show ∃ r69 σ70, f_X6_shortLines p0 σ67 = some (r69, σ70) ∧ K (39, [.ref 6, .int p0, .int p1, .int ((-1)), .null, .null, .null], [.int r69], σ70)
          refine ⟨r69, σ70, e71, ?_⟩
          refine hw 3 _ ?_
          show K (44, [.ref 6, .int p0, .int p1, .int ((-1)), .int r69, .int 0, .null], [], σ70)
          refine t_X6_bestToBorrow_44 hw hf p0 p1 _ _ lf ((-1)) r69 0 σ70 h (fun v72 v73 v74 σ75 h => ?_)
          show K (160, [.ref 6, .int p0, .int p1, .int v72, .int v73, .int v74, .null], [], σ75)
          obtain rfl := Option.some.inj h
          refine hw 2 _ ?_
          show Qa v72 σ75
          refine hQ
        · refine hw 1 _ ?_
          show ((¬ r62 = 0) → K (28, [.ref 6, .int p0, .int p1, .null, .null, .null, .null], [], σ63)) ∧ (¬ (¬ r62 = 0) → K (26, [.ref 6, .int p0, .int p1, .null, .null, .null, .null], [], σ63))
          refine ⟨fun q => absurd q c65, fun _ => ?_⟩
          obtain rfl := Option.some.inj h
          refine hw 2 _ ?_
          show Qa 0 σ63
          refine hQ
  · cases h
theorem h_X6_bestToBorrow : shp [.ref 6] 7 F_X6_bestToBorrow := by
  intro As σ r σ' h
  unfold F_X6_bestToBorrow at h
  split at h
  · exact ⟨by simp [Value.category], Nat.le_of_ble_eq_true rfl⟩
  · cases h
set_option maxHeartbeats 4000000 in
set_option maxRecDepth 100000 in
theorem c_X6_bestToBorrow (l : Launch) (D : va_G) (cI cZ cA cL : ClassId) (ad : Nat → Nat) (hi : adI ad) : CtI l yX6_bestToBorrow wsX6_bestToBorrow { frames := 6, cells := 0, slots := 0, locals := 144 } D cI cZ cA cL ad [.ref 6] F_X6_bestToBorrow := by
  refine mk_I [.ref 6] F_X6_bestToBorrow T_X6_bestToBorrow (by decide +kernel) rfl ?_ h_X6_bestToBorrow s_X6_bestToBorrow
  intro p e s m args below meth c Qa ⟨hx, hb, hml, hown, hts, hr, hlocks, hK, hN⟩
  have hin6 : ∀ w ∈ u_ws RX6 TX6 30, w ∈ wsX6_bestToBorrow := by decide +kernel
  have hl159 : (Cond.fieldLink RX6 159 RX6 (TX6 19).2.1 (TX6 19).2.2.1) ∈ wsX6_bestToBorrow := by decide +kernel
  have hl38 : (Cond.fieldLink RX6 38 RX6 (TX6 12).2.1 (TX6 12).2.2.1) ∈ wsX6_bestToBorrow := by decide +kernel
  have hl44 : (Cond.fieldLink RX6 44 RX6 (TX6 14).2.1 (TX6 14).2.2.1) ∈ wsX6_bestToBorrow := by decide +kernel
  have hl47 : (Cond.fieldLink RX6 47 RX6 (TX6 15).2.1 (TX6 15).2.2.1) ∈ wsX6_bestToBorrow := by decide +kernel
  have hl41 : (Cond.fieldLink RX6 41 RX6 (TX6 13).2.1 (TX6 13).2.2.1) ∈ wsX6_bestToBorrow := by decide +kernel
  refine ruL_c (n := 0) (n2 := 1) rfl (ru_aload_n (k := 0) hx hb dX6_bestToBorrow_0) ?_
  refine ruL_c (n := 1) (n2 := 2) rfl (ru_iload_n (k := 1) hx hb dX6_bestToBorrow_1) ?_
  refine ruL_c (n := 2) (n2 := 3) rfl (ru_callS hx hb hml hown hts hK hN (c_X6_isStage l D cI cZ cA cL ad hi) (va_cwS 1 hts gX6_bestToBorrow_X6_isStage rfl rfl rfl (by decide +kernel) ⟨Nat.le_of_ble_eq_true rfl, Nat.le_of_ble_eq_true rfl⟩) dX6_bestToBorrow_2 ⟨Nat.zero_le _, Nat.zero_le _⟩) ?_
  refine ruL_c (n := 3) (n2 := 4) rfl (ru_bot) ?_
  refine ruL_c (n := 4) (n2 := 5) rfl (ru_bot) ?_
  refine ruL_c (n := 5) (n2 := 6) rfl (ru_ifeq hx hb dX6_bestToBorrow_5 (by decide)) ?_
  refine ruL_c (n := 6) (n2 := 7) rfl (ru_bot) ?_
  refine ruL_c (n := 7) (n2 := 8) rfl (ru_bot) ?_
  refine ruL_c (n := 8) (n2 := 9) rfl (ru_iload_n (k := 2) hx hb dX6_bestToBorrow_8) ?_
  refine ruL_c (n := 9) (n2 := 10) rfl (ru_callS hx hb hml hown hts hK hN (c_X6_isArea l D cI cZ cA cL ad hi) (va_cwS 1 hts gX6_bestToBorrow_X6_isArea rfl rfl rfl (by decide +kernel) ⟨Nat.le_of_ble_eq_true rfl, Nat.le_of_ble_eq_true rfl⟩) dX6_bestToBorrow_9 ⟨Nat.zero_le _, Nat.zero_le _⟩) ?_
  refine ruL_c (n := 10) (n2 := 11) rfl (ru_bot) ?_
  refine ruL_c (n := 11) (n2 := 12) rfl (ru_bot) ?_
  refine ruL_c (n := 12) (n2 := 13) rfl (ru_ifeq hx hb dX6_bestToBorrow_12 (by decide)) ?_
  refine ruL_c (n := 13) (n2 := 14) rfl (ru_bot) ?_
  refine ruL_c (n := 14) (n2 := 15) rfl (ru_bot) ?_
  refine ruL_c (n := 15) (n2 := 16) rfl (ru_iconst hx hb dX6_bestToBorrow_15 rfl) ?_
  refine ruL_c (n := 16) (n2 := 17) rfl (ru_goto hx hb dX6_bestToBorrow_16 (by decide)) ?_
  refine ruL_c (n := 17) (n2 := 18) rfl (ru_bot) ?_
  refine ruL_c (n := 18) (n2 := 19) rfl (ru_bot) ?_
  refine ruL_c (n := 19) (n2 := 20) rfl (ru_iconst hx hb dX6_bestToBorrow_19 rfl) ?_
  refine ruL_c (n := 20) (n2 := 21) rfl (ru_callV hx hb hml hown hts hK hN (by decide) rfl (c_X6_isFine l D cI cZ cA cL ad hi) (cwV 1 hts gX6_bestToBorrow_X6_isFine rfl rfl rfl (by decide +kernel) ⟨Nat.le_of_ble_eq_true rfl, Nat.le_of_ble_eq_true rfl⟩) dX6_bestToBorrow_20 ⟨Nat.zero_le _, Nat.zero_le _⟩) ?_
  refine ruL_c (n := 21) (n2 := 22) rfl (ru_bot) ?_
  refine ruL_c (n := 22) (n2 := 23) rfl (ru_bot) ?_
  refine ruL_c (n := 23) (n2 := 24) rfl (ru_ifne hx hb dX6_bestToBorrow_23 (by decide)) ?_
  refine ruL_c (n := 24) (n2 := 25) rfl (ru_bot) ?_
  refine ruL_c (n := 25) (n2 := 26) rfl (ru_bot) ?_
  refine ruL_c (n := 26) (n2 := 27) rfl (ru_iconst hx hb dX6_bestToBorrow_26 rfl) ?_
  refine ruL_c (n := 27) (n2 := 28) rfl (ru_iret hx hb hK hr hlocks dX6_bestToBorrow_27) ?_
  refine ruL_c (n := 28) (n2 := 29) rfl (ru_aload_n (k := 0) hx hb dX6_bestToBorrow_28) ?_
  refine ruL_c (n := 29) (n2 := 30) rfl (ru_callVv hx hb hml hown hts hK hN (by decide) rfl (c_X6_plays l D cI cZ cA cL ad hi) (cwV 0 hts gX6_bestToBorrow_X6_plays rfl rfl rfl (by decide +kernel) ⟨Nat.le_of_ble_eq_true rfl, Nat.le_of_ble_eq_true rfl⟩) dX6_bestToBorrow_29 ⟨Nat.zero_le _, Nat.zero_le _⟩) ?_
  refine ruL_c (n := 30) (n2 := 31) rfl (ru_bot) ?_
  refine ruL_c (n := 31) (n2 := 32) rfl (ru_bot) ?_
  refine ruL_c (n := 32) (n2 := 33) rfl (ru_iconst hx hb dX6_bestToBorrow_32 rfl) ?_
  refine ruL_c (n := 33) (n2 := 34) rfl (ru_istore_n (k := 3) hx hb dX6_bestToBorrow_33) ?_
  refine ruL_c (n := 34) (n2 := 35) rfl (ru_aload_n (k := 0) hx hb dX6_bestToBorrow_34) ?_
  refine ruL_c (n := 35) (n2 := 36) rfl (ru_iload_n (k := 1) hx hb dX6_bestToBorrow_35) ?_
  refine ruL_c (n := 36) (n2 := 37) rfl (ru_callV hx hb hml hown hts hK hN (by decide) rfl (c_X6_shortLines l D cI cZ cA cL ad hi) (cwV 1 hts gX6_bestToBorrow_X6_shortLines rfl rfl rfl (by decide +kernel) ⟨Nat.le_of_ble_eq_true rfl, Nat.le_of_ble_eq_true rfl⟩) dX6_bestToBorrow_36 ⟨Nat.zero_le _, Nat.zero_le _⟩) ?_
  refine ruL_c (n := 37) (n2 := 38) rfl (ru_bot) ?_
  refine ruL_c (n := 38) (n2 := 39) rfl (ru_bot) ?_
  refine ruL_c (n := 39) (n2 := 40) rfl (ru_istore hx hb dX6_bestToBorrow_39) ?_
  refine ruL_c (n := 40) (n2 := 41) rfl (ru_bot) ?_
  refine ruL_c (n := 41) (n2 := 42) rfl (ru_iconst hx hb dX6_bestToBorrow_41 rfl) ?_
  refine ruL_c (n := 42) (n2 := 43) rfl (ru_istore hx hb dX6_bestToBorrow_42) ?_
  refine ruL_c (n := 43) (n2 := 44) rfl (ru_bot) ?_
  refine ruL_c (n := 44) (n2 := 45) rfl (ru_iload hx hb dX6_bestToBorrow_44) ?_
  refine ruL_c (n := 45) (n2 := 46) rfl (ru_bot) ?_
  refine ruL_c (n := 46) (n2 := 47) rfl (ru_aload_n (k := 0) hx hb dX6_bestToBorrow_46) ?_
  refine ruL_c (n := 47) (n2 := 48) rfl (ru_getI (own := RX6) (j := 19) (T := TX6) hx hb hown hK hts hin6 (by decide) rfl rfl (by decide) rfl hl159 dX6_bestToBorrow_47) ?_
  refine ruL_c (n := 48) (n2 := 49) rfl (ru_bot) ?_
  refine ruL_c (n := 49) (n2 := 50) rfl (ru_bot) ?_
  refine ruL_c (n := 50) (n2 := 51) rfl (ru_icmpge hx hb dX6_bestToBorrow_50 (by decide)) ?_
  refine ruL_c (n := 51) (n2 := 52) rfl (ru_bot) ?_
  refine ruL_c (n := 52) (n2 := 53) rfl (ru_bot) ?_
  refine ruL_c (n := 53) (n2 := 54) rfl (ru_aload_n (k := 0) hx hb dX6_bestToBorrow_53) ?_
  refine ruL_c (n := 54) (n2 := 55) rfl (ru_iload hx hb dX6_bestToBorrow_54) ?_
  refine ruL_c (n := 55) (n2 := 56) rfl (ru_bot) ?_
  refine ruL_c (n := 56) (n2 := 57) rfl (ru_callV hx hb hml hown hts hK hN (by decide) rfl (c_X6_isHome l D cI cZ cA cL ad hi) (cwV 1 hts gX6_bestToBorrow_X6_isHome rfl rfl rfl (by decide +kernel) ⟨Nat.le_of_ble_eq_true rfl, Nat.le_of_ble_eq_true rfl⟩) dX6_bestToBorrow_56 ⟨Nat.zero_le _, Nat.zero_le _⟩) ?_
  refine ruL_c (n := 57) (n2 := 58) rfl (ru_bot) ?_
  refine ruL_c (n := 58) (n2 := 59) rfl (ru_bot) ?_
  refine ruL_c (n := 59) (n2 := 60) rfl (ru_ifeq hx hb dX6_bestToBorrow_59 (by decide)) ?_
  refine ruL_c (n := 60) (n2 := 61) rfl (ru_bot) ?_
  refine ruL_c (n := 61) (n2 := 62) rfl (ru_bot) ?_
  refine ruL_c (n := 62) (n2 := 63) rfl (ru_aload_n (k := 0) hx hb dX6_bestToBorrow_62) ?_
  refine ruL_c (n := 63) (n2 := 64) rfl (ru_getR (own := RX6) (j := 12) (T := TX6) hx hb hown hK hts hin6 (by decide) rfl rfl (by decide) rfl hl38 dX6_bestToBorrow_63) ?_
  refine ruL_c (n := 64) (n2 := 65) rfl (ru_bot) ?_
  refine ruL_c (n := 65) (n2 := 66) rfl (ru_bot) ?_
  refine ruL_c (n := 66) (n2 := 67) rfl (ru_iload hx hb dX6_bestToBorrow_66) ?_
  refine ruL_c (n := 67) (n2 := 68) rfl (ru_bot) ?_
  refine ruL_c (n := 68) (n2 := 69) rfl (ru_iald hx hb hK dX6_bestToBorrow_68) ?_
  refine ruL_c (n := 69) (n2 := 70) rfl (ru_iload_n (k := 1) hx hb dX6_bestToBorrow_69) ?_
  refine ruL_c (n := 70) (n2 := 71) rfl (ru_icmpeq hx hb dX6_bestToBorrow_70 (by decide)) ?_
  refine ruL_c (n := 71) (n2 := 72) rfl (ru_bot) ?_
  refine ruL_c (n := 72) (n2 := 73) rfl (ru_bot) ?_
  refine ruL_c (n := 73) (n2 := 74) rfl (ru_aload_n (k := 0) hx hb dX6_bestToBorrow_73) ?_
  refine ruL_c (n := 74) (n2 := 75) rfl (ru_getR (own := RX6) (j := 14) (T := TX6) hx hb hown hK hts hin6 (by decide) rfl rfl (by decide) rfl hl44 dX6_bestToBorrow_74) ?_
  refine ruL_c (n := 75) (n2 := 76) rfl (ru_bot) ?_
  refine ruL_c (n := 76) (n2 := 77) rfl (ru_bot) ?_
  refine ruL_c (n := 77) (n2 := 78) rfl (ru_iload hx hb dX6_bestToBorrow_77) ?_
  refine ruL_c (n := 78) (n2 := 79) rfl (ru_bot) ?_
  refine ruL_c (n := 79) (n2 := 80) rfl (ru_iload_n (k := 1) hx hb dX6_bestToBorrow_79) ?_
  refine ruL_c (n := 80) (n2 := 81) rfl (ru_iast hx hb hK hi dX6_bestToBorrow_80) ?_
  refine ruL_c (n := 81) (n2 := 82) rfl (ru_aload_n (k := 0) hx hb dX6_bestToBorrow_81) ?_
  refine ruL_c (n := 82) (n2 := 83) rfl (ru_getR (own := RX6) (j := 15) (T := TX6) hx hb hown hK hts hin6 (by decide) rfl rfl (by decide) rfl hl47 dX6_bestToBorrow_82) ?_
  refine ruL_c (n := 83) (n2 := 84) rfl (ru_bot) ?_
  refine ruL_c (n := 84) (n2 := 85) rfl (ru_bot) ?_
  refine ruL_c (n := 85) (n2 := 86) rfl (ru_iload hx hb dX6_bestToBorrow_85) ?_
  refine ruL_c (n := 86) (n2 := 87) rfl (ru_bot) ?_
  refine ruL_c (n := 87) (n2 := 88) rfl (ru_iload_n (k := 2) hx hb dX6_bestToBorrow_87) ?_
  refine ruL_c (n := 88) (n2 := 89) rfl (ru_iast hx hb hK hi dX6_bestToBorrow_88) ?_
  refine ruL_c (n := 89) (n2 := 90) rfl (ru_aload_n (k := 0) hx hb dX6_bestToBorrow_89) ?_
  refine ruL_c (n := 90) (n2 := 91) rfl (ru_iload_n (k := 1) hx hb dX6_bestToBorrow_90) ?_
  refine ruL_c (n := 91) (n2 := 92) rfl (ru_callV hx hb hml hown hts hK hN (by decide) rfl (c_X6_shortLines l D cI cZ cA cL ad hi) (cwV 1 hts gX6_bestToBorrow_X6_shortLines rfl rfl rfl (by decide +kernel) ⟨Nat.le_of_ble_eq_true rfl, Nat.le_of_ble_eq_true rfl⟩) dX6_bestToBorrow_91 ⟨Nat.zero_le _, Nat.zero_le _⟩) ?_
  refine ruL_c (n := 92) (n2 := 93) rfl (ru_bot) ?_
  refine ruL_c (n := 93) (n2 := 94) rfl (ru_bot) ?_
  refine ruL_c (n := 94) (n2 := 95) rfl (ru_istore hx hb dX6_bestToBorrow_94) ?_
  refine ruL_c (n := 95) (n2 := 96) rfl (ru_bot) ?_
  refine ruL_c (n := 96) (n2 := 97) rfl (ru_aload_n (k := 0) hx hb dX6_bestToBorrow_96) ?_
  refine ruL_c (n := 97) (n2 := 98) rfl (ru_getR (own := RX6) (j := 14) (T := TX6) hx hb hown hK hts hin6 (by decide) rfl rfl (by decide) rfl hl44 dX6_bestToBorrow_97) ?_
  refine ruL_c (n := 98) (n2 := 99) rfl (ru_bot) ?_
  refine ruL_c (n := 99) (n2 := 100) rfl (ru_bot) ?_
  refine ruL_c (n := 100) (n2 := 101) rfl (ru_iload hx hb dX6_bestToBorrow_100) ?_
  refine ruL_c (n := 101) (n2 := 102) rfl (ru_bot) ?_
  refine ruL_c (n := 102) (n2 := 103) rfl (ru_aload_n (k := 0) hx hb dX6_bestToBorrow_102) ?_
  refine ruL_c (n := 103) (n2 := 104) rfl (ru_getR (own := RX6) (j := 12) (T := TX6) hx hb hown hK hts hin6 (by decide) rfl rfl (by decide) rfl hl38 dX6_bestToBorrow_103) ?_
  refine ruL_c (n := 104) (n2 := 105) rfl (ru_bot) ?_
  refine ruL_c (n := 105) (n2 := 106) rfl (ru_bot) ?_
  refine ruL_c (n := 106) (n2 := 107) rfl (ru_iload hx hb dX6_bestToBorrow_106) ?_
  refine ruL_c (n := 107) (n2 := 108) rfl (ru_bot) ?_
  refine ruL_c (n := 108) (n2 := 109) rfl (ru_iald hx hb hK dX6_bestToBorrow_108) ?_
  refine ruL_c (n := 109) (n2 := 110) rfl (ru_iast hx hb hK hi dX6_bestToBorrow_109) ?_
  refine ruL_c (n := 110) (n2 := 111) rfl (ru_aload_n (k := 0) hx hb dX6_bestToBorrow_110) ?_
  refine ruL_c (n := 111) (n2 := 112) rfl (ru_getR (own := RX6) (j := 15) (T := TX6) hx hb hown hK hts hin6 (by decide) rfl rfl (by decide) rfl hl47 dX6_bestToBorrow_111) ?_
  refine ruL_c (n := 112) (n2 := 113) rfl (ru_bot) ?_
  refine ruL_c (n := 113) (n2 := 114) rfl (ru_bot) ?_
  refine ruL_c (n := 114) (n2 := 115) rfl (ru_iload hx hb dX6_bestToBorrow_114) ?_
  refine ruL_c (n := 115) (n2 := 116) rfl (ru_bot) ?_
  refine ruL_c (n := 116) (n2 := 117) rfl (ru_aload_n (k := 0) hx hb dX6_bestToBorrow_116) ?_
  refine ruL_c (n := 117) (n2 := 118) rfl (ru_getR (own := RX6) (j := 13) (T := TX6) hx hb hown hK hts hin6 (by decide) rfl rfl (by decide) rfl hl41 dX6_bestToBorrow_117) ?_
  refine ruL_c (n := 118) (n2 := 119) rfl (ru_bot) ?_
  refine ruL_c (n := 119) (n2 := 120) rfl (ru_bot) ?_
  refine ruL_c (n := 120) (n2 := 121) rfl (ru_iload hx hb dX6_bestToBorrow_120) ?_
  refine ruL_c (n := 121) (n2 := 122) rfl (ru_bot) ?_
  refine ruL_c (n := 122) (n2 := 123) rfl (ru_iald hx hb hK dX6_bestToBorrow_122) ?_
  refine ruL_c (n := 123) (n2 := 124) rfl (ru_iast hx hb hK hi dX6_bestToBorrow_123) ?_
  refine ruL_c (n := 124) (n2 := 125) rfl (ru_iload hx hb dX6_bestToBorrow_124) ?_
  refine ruL_c (n := 125) (n2 := 126) rfl (ru_bot) ?_
  refine ruL_c (n := 126) (n2 := 127) rfl (ru_iload hx hb dX6_bestToBorrow_126) ?_
  refine ruL_c (n := 127) (n2 := 128) rfl (ru_bot) ?_
  refine ruL_c (n := 128) (n2 := 129) rfl (ru_icmpge hx hb dX6_bestToBorrow_128 (by decide)) ?_
  refine ruL_c (n := 129) (n2 := 130) rfl (ru_bot) ?_
  refine ruL_c (n := 130) (n2 := 131) rfl (ru_bot) ?_
  refine ruL_c (n := 131) (n2 := 132) rfl (ru_iload hx hb dX6_bestToBorrow_131) ?_
  refine ruL_c (n := 132) (n2 := 133) rfl (ru_bot) ?_
  refine ruL_c (n := 133) (n2 := 134) rfl (ru_goto hx hb dX6_bestToBorrow_133 (by decide)) ?_
  refine ruL_c (n := 134) (n2 := 135) rfl (ru_bot) ?_
  refine ruL_c (n := 135) (n2 := 136) rfl (ru_bot) ?_
  refine ruL_c (n := 136) (n2 := 137) rfl (ru_iload_n (k := 3) hx hb dX6_bestToBorrow_136) ?_
  refine ruL_c (n := 137) (n2 := 138) rfl (ru_istore_n (k := 3) hx hb dX6_bestToBorrow_137) ?_
  refine ruL_c (n := 138) (n2 := 139) rfl (ru_iload hx hb dX6_bestToBorrow_138) ?_
  refine ruL_c (n := 139) (n2 := 140) rfl (ru_bot) ?_
  refine ruL_c (n := 140) (n2 := 141) rfl (ru_iload hx hb dX6_bestToBorrow_140) ?_
  refine ruL_c (n := 141) (n2 := 142) rfl (ru_bot) ?_
  refine ruL_c (n := 142) (n2 := 143) rfl (ru_icmpge hx hb dX6_bestToBorrow_142 (by decide)) ?_
  refine ruL_c (n := 143) (n2 := 144) rfl (ru_bot) ?_
  refine ruL_c (n := 144) (n2 := 145) rfl (ru_bot) ?_
  refine ruL_c (n := 145) (n2 := 146) rfl (ru_iload hx hb dX6_bestToBorrow_145) ?_
  refine ruL_c (n := 146) (n2 := 147) rfl (ru_bot) ?_
  refine ruL_c (n := 147) (n2 := 148) rfl (ru_goto hx hb dX6_bestToBorrow_147 (by decide)) ?_
  refine ruL_c (n := 148) (n2 := 149) rfl (ru_bot) ?_
  refine ruL_c (n := 149) (n2 := 150) rfl (ru_bot) ?_
  refine ruL_c (n := 150) (n2 := 151) rfl (ru_iload hx hb dX6_bestToBorrow_150) ?_
  refine ruL_c (n := 151) (n2 := 152) rfl (ru_bot) ?_
  refine ruL_c (n := 152) (n2 := 153) rfl (ru_istore hx hb dX6_bestToBorrow_152) ?_
  refine ruL_c (n := 153) (n2 := 154) rfl (ru_bot) ?_
  refine ruL_c (n := 154) (n2 := 155) rfl (ru_iinc hx hb dX6_bestToBorrow_154 rfl) ?_
  refine ruL_c (n := 155) (n2 := 156) rfl (ru_bot) ?_
  refine ruL_c (n := 156) (n2 := 157) rfl (ru_bot) ?_
  refine ruL_c (n := 157) (n2 := 158) rfl (ru_goto hx hb dX6_bestToBorrow_157 (by decide)) ?_
  refine ruL_c (n := 158) (n2 := 159) rfl (ru_bot) ?_
  refine ruL_c (n := 159) (n2 := 160) rfl (ru_bot) ?_
  refine ruL_c (n := 160) (n2 := 161) rfl (ru_iload_n (k := 3) hx hb dX6_bestToBorrow_160) ?_
  refine ruL_c (n := 161) (n2 := 162) rfl (ru_iret hx hb hK hr hlocks dX6_bestToBorrow_161) ?_
  exact trivial

-- CueTourModel.wears
def l_X6_wears_2 (x1 : Int32) : Nat → Int32 → aM → (Int32 → aM → Option (Int32 × aM)) → Option (Int32 × aM)
  | 0, _, _, _ => none
  | n + 1, v2, σ3, k => if (σ3 6 19) ≤ v2 then k v2 σ3 else if inb v2 20 = true then l_X6_wears_2 x1 n (v2 + 1) (mput σ3 52 (ix v2) 0) k else none
def l_X6_wears_47 (x19 : Int32) (x20 : Int32) (x21 : Int32) : Nat → Int32 → aM → (Int32 → aM → Option (Int32 × aM)) → Option (Int32 × aM)
  | 0, _, _, _ => none
  | n + 1, v22, σ23, k => if (σ23 6 19) ≤ v22 then k v22 σ23 else if inb v22 20 = true then if inb v22 20 = true then if ¬ (σ23 40 (ix v22)) = x19 then if inb v22 20 = true then l_X6_wears_47 x19 x20 x21 n (v22 + 1) (mput σ23 52 (ix v22) ((σ23 52 (ix v22)) + 0)) k else none else bnd (f_X6_lampNow v22 σ23) (fun r29 σ30 => if r29 ≤ 0 then if inb v22 20 = true then l_X6_wears_47 x19 x20 x21 n (v22 + 1) (mput σ30 52 (ix v22) ((σ23 52 (ix v22)) + 0)) k else none else if inb v22 20 = true then l_X6_wears_47 x19 x20 x21 n (v22 + 1) (mput σ30 52 (ix v22) ((σ23 52 (ix v22)) + 1)) k else none) else none else none
def l_X6_wears_34 (x11 : Int32) (x12 : Int32) : Nat → Int32 → aM → (Int32 → aM → Option (Int32 × aM)) → Option (Int32 × aM)
  | 0, _, _, _ => none
  | n + 1, v13, σ14, k => if x12 ≤ v13 then k v13 σ14 else bnd (f_X6_lights v13 σ14) (fun r16 σ17 => l_X6_wears_47 x11 x12 v13 lf 0 σ17 (fun v35 σ36 => l_X6_wears_34 x11 x12 n (v13 + 1) σ36 k))
def l_X6_wears_105 (x39 : Int32) (x40 : Int32) : Nat → Int32 → aM → (Int32 → aM → Option (Int32 × aM)) → Option (Int32 × aM)
  | 0, _, _, _ => none
  | n + 1, v41, σ42, k => if (σ42 6 19) ≤ v41 then k v41 σ42 else if inb v41 20 = true then if inb v41 20 = true then if inb v41 20 = true then l_X6_wears_105 x39 x40 n (v41 + 1) (mput σ42 44 (ix v41) ((σ42 44 (ix v41)) + (σ42 52 (ix v41)))) k else none else none else none
def f_X6_wears (p0 : Int32) (σ : aM) : Option (Int32 × aM) := l_X6_wears_2 p0 lf 0 σ (fun v6 σ7 => bnd (f_X6_ahead (σ7 6 4) σ7) (fun r8 σ9 => l_X6_wears_34 p0 r8 lf 0 σ9 (fun v37 σ38 => l_X6_wears_105 p0 r8 lf 0 σ38 (fun v47 σ48 => some (0, σ48)))))
def F_X6_wears : aF := fun As σ => match As with
  | [.int p0] => f_X6_wears p0 σ
  | _ => none
def T_X6_wears (Qa : Int32 → aM → Prop) : List aI := [I_const 0 1, I_istore 2 1, I_iload 2 1, I_aload 0 1, I_getI 6 19, I_bot, I_bot, I_icmp (fun x y => y ≤ x) 23, I_bot, I_bot, I_aload 0 1, I_getR 6 52, I_bot, I_bot, I_iload 2 1, I_const 0 1, I_iast, I_iinc 2 (1), I_bot, I_bot, I_goto 2, I_bot, I_bot, I_aload 0 1, I_aload 0 1, I_getI 6 4, I_bot, I_bot, I_callV 6 1 F_X6_ahead, I_bot, I_bot, I_istore 2 1, I_const 0 1, I_istore 3 1, I_iload 3 1, I_iload 2 1, I_icmp (fun x y => y ≤ x) 103, I_bot, I_bot, I_aload 0 1, I_iload 3 1, I_callVv 6 1 F_X6_lights, I_bot, I_bot, I_const 0 1, I_istore 4 2, I_bot, I_iload 4 2, I_bot, I_aload 0 1, I_getI 6 19, I_bot, I_bot, I_icmp (fun x y => y ≤ x) 97, I_bot, I_bot, I_aload 0 1, I_getR 6 52, I_bot, I_bot, I_iload 4 2, I_bot, I_dup2, I_iald, I_aload 0 1, I_getR 6 40, I_bot, I_bot, I_iload 4 2, I_bot, I_iald, I_iload 1 1, I_icmp (fun x y => ¬ x = y) 88, I_bot, I_bot, I_aload 0 1, I_iload 4 2, I_bot, I_callV 6 1 F_X6_lampNow, I_bot, I_bot, I_if (fun x => x ≤ 0) 88, I_bot, I_bot, I_const 1 1, I_goto 89, I_bot, I_bot, I_const 0 1, I_bin fun x y => x + y, I_iast, I_iinc 4 (1), I_bot, I_bot, I_goto 47, I_bot, I_bot, I_iinc 3 (1), I_bot, I_bot, I_goto 34, I_bot, I_bot, I_const 0 1, I_istore 3 1, I_iload 3 1, I_aload 0 1, I_getI 6 19, I_bot, I_bot, I_icmp (fun x y => y ≤ x) 134, I_bot, I_bot, I_aload 0 1, I_getR 6 44, I_bot, I_bot, I_iload 3 1, I_dup2, I_iald, I_aload 0 1, I_getR 6 52, I_bot, I_bot, I_iload 3 1, I_iald, I_bin fun x y => x + y, I_iast, I_iinc 3 (1), I_bot, I_bot, I_goto 105, I_bot, I_bot, I_vret Qa]
set_option maxHeartbeats 4000000 in
set_option maxRecDepth 100000 in
theorem t_X6_wears_2 {Qa : Int32 → aM → Prop} {K : aS → Prop} (hw : ∀ k x, wp (T_X6_wears Qa) k K x → K x) (hf : ∀ pc L i st σ, K (pc, L.set i .null, st, σ) → K (pc, L, st, σ)) (x1 : Int32) (y : Int32 × aM) (k : Int32 → aM → Option (Int32 × aM)) :
    ∀ (n : Nat) (v2 : Int32) (σ3 : aM), l_X6_wears_2 x1 n v2 σ3 k = some y → (∀ (w0 : Int32) (τ : aM), k w0 τ = some y → K (23, [.ref 6, .int x1, .int w0, .null, .null], [], τ)) → K (2, [.ref 6, .int x1, .int v2, .null, .null], [], σ3) := by
  intro n
  induction n with
  | zero =>
    intro v2 σ3 h hk
    exact absurd h (by simp [l_X6_wears_2])
  | succ n ih =>
    intro v2 σ3 h hk
    unfold l_X6_wears_2 at h
    rcases ite_cases h with ⟨c4, h⟩ | ⟨c4, h⟩
    · refine hw 4 _ ?_
      show (((σ3 6 19) ≤ v2) → K (23, [.ref 6, .int x1, .int v2, .null, .null], [], σ3)) ∧ (¬ ((σ3 6 19) ≤ v2) → K (10, [.ref 6, .int x1, .int v2, .null, .null], [], σ3))
      refine ⟨fun _ => ?_, fun q => absurd c4 q⟩
      exact hk v2 σ3 h
    · refine hw 4 _ ?_
      show (((σ3 6 19) ≤ v2) → K (23, [.ref 6, .int x1, .int v2, .null, .null], [], σ3)) ∧ (¬ ((σ3 6 19) ≤ v2) → K (10, [.ref 6, .int x1, .int v2, .null, .null], [], σ3))
      refine ⟨fun q => absurd q c4, fun _ => ?_⟩
      obtain ⟨g5, h⟩ := ite_some h
      refine hw 7 _ ?_
      show kd 52 = 1 ∧ (inb v2 20 = true ∧ (K (2, [.ref 6, .int x1, .int (v2 + 1), .null, .null], [], mput σ3 52 (ix v2) 0)))
      refine ⟨rfl, g5, ?_⟩
      exact ih (v2 + 1) (mput σ3 52 (ix v2) 0) h hk

set_option maxHeartbeats 4000000 in
set_option maxRecDepth 100000 in
theorem t_X6_wears_47 {Qa : Int32 → aM → Prop} {K : aS → Prop} (hw : ∀ k x, wp (T_X6_wears Qa) k K x → K x) (hf : ∀ pc L i st σ, K (pc, L.set i .null, st, σ) → K (pc, L, st, σ)) (x19 : Int32) (x20 : Int32) (x21 : Int32) (y : Int32 × aM) (k : Int32 → aM → Option (Int32 × aM)) :
    ∀ (n : Nat) (v22 : Int32) (σ23 : aM), l_X6_wears_47 x19 x20 x21 n v22 σ23 k = some y → (∀ (w0 : Int32) (τ : aM), k w0 τ = some y → K (97, [.ref 6, .int x19, .int x20, .int x21, .int w0], [], τ)) → K (47, [.ref 6, .int x19, .int x20, .int x21, .int v22], [], σ23) := by
  intro n
  induction n with
  | zero =>
    intro v22 σ23 h hk
    exact absurd h (by simp [l_X6_wears_47])
  | succ n ih =>
    intro v22 σ23 h hk
    unfold l_X6_wears_47 at h
    rcases ite_cases h with ⟨c24, h⟩ | ⟨c24, h⟩
    · refine hw 4 _ ?_
      show (((σ23 6 19) ≤ v22) → K (97, [.ref 6, .int x19, .int x20, .int x21, .int v22], [], σ23)) ∧ (¬ ((σ23 6 19) ≤ v22) → K (56, [.ref 6, .int x19, .int x20, .int x21, .int v22], [], σ23))
      refine ⟨fun _ => ?_, fun q => absurd c24 q⟩
      exact hk v22 σ23 h
    · refine hw 4 _ ?_
      show (((σ23 6 19) ≤ v22) → K (97, [.ref 6, .int x19, .int x20, .int x21, .int v22], [], σ23)) ∧ (¬ ((σ23 6 19) ≤ v22) → K (56, [.ref 6, .int x19, .int x20, .int x21, .int v22], [], σ23))
      refine ⟨fun q => absurd q c24, fun _ => ?_⟩
      obtain ⟨g25, h⟩ := ite_some h
      obtain ⟨g26, h⟩ := ite_some h
      rcases ite_cases h with ⟨c27, h⟩ | ⟨c27, h⟩
      · refine hw 11 _ ?_
        show kd 52 = 1 ∧ (inb v22 20 = true ∧ (kd 40 = 1 ∧ (inb v22 20 = true ∧ (((¬ (σ23 40 (ix v22)) = x19) → K (88, [.ref 6, .int x19, .int x20, .int x21, .int v22], [.int (σ23 52 (ix v22)), .int v22, .ref 52], σ23)) ∧ (¬ (¬ (σ23 40 (ix v22)) = x19) → K (75, [.ref 6, .int x19, .int x20, .int x21, .int v22], [.int (σ23 52 (ix v22)), .int v22, .ref 52], σ23))))))
        refine ⟨rfl, g25, rfl, g26, ⟨fun _ => ?_, fun q => absurd c27 q⟩⟩
        obtain ⟨g28, h⟩ := ite_some h
        refine hw 5 _ ?_
        show kd 52 = 1 ∧ (inb v22 20 = true ∧ (K (47, [.ref 6, .int x19, .int x20, .int x21, .int (v22 + 1)], [], mput σ23 52 (ix v22) ((σ23 52 (ix v22)) + 0))))
        refine ⟨rfl, g28, ?_⟩
        exact ih (v22 + 1) (mput σ23 52 (ix v22) ((σ23 52 (ix v22)) + 0)) h hk
      · refine hw 11 _ ?_
        show kd 52 = 1 ∧ (inb v22 20 = true ∧ (kd 40 = 1 ∧ (inb v22 20 = true ∧ (((¬ (σ23 40 (ix v22)) = x19) → K (88, [.ref 6, .int x19, .int x20, .int x21, .int v22], [.int (σ23 52 (ix v22)), .int v22, .ref 52], σ23)) ∧ (¬ (¬ (σ23 40 (ix v22)) = x19) → K (75, [.ref 6, .int x19, .int x20, .int x21, .int v22], [.int (σ23 52 (ix v22)), .int v22, .ref 52], σ23))))))
        refine ⟨rfl, g25, rfl, g26, ⟨fun q => absurd q c27, fun _ => ?_⟩⟩
        obtain ⟨r29, σ30, e31, h⟩ := bnd_some h
        refine hw 3 _ ?_
        show ∃ r29 σ30, f_X6_lampNow v22 σ23 = some (r29, σ30) ∧ K (81, [.ref 6, .int x19, .int x20, .int x21, .int v22], [.int r29, .int (σ23 52 (ix v22)), .int v22, .ref 52], σ30)
        refine ⟨r29, σ30, e31, ?_⟩
        rcases ite_cases h with ⟨c32, h⟩ | ⟨c32, h⟩
        · refine hw 1 _ ?_
          show ((r29 ≤ 0) → K (88, [.ref 6, .int x19, .int x20, .int x21, .int v22], [.int (σ23 52 (ix v22)), .int v22, .ref 52], σ30)) ∧ (¬ (r29 ≤ 0) → K (84, [.ref 6, .int x19, .int x20, .int x21, .int v22], [.int (σ23 52 (ix v22)), .int v22, .ref 52], σ30))
          refine ⟨fun _ => ?_, fun q => absurd c32 q⟩
          obtain ⟨g33, h⟩ := ite_some h
          refine hw 5 _ ?_
          show kd 52 = 1 ∧ (inb v22 20 = true ∧ (K (47, [.ref 6, .int x19, .int x20, .int x21, .int (v22 + 1)], [], mput σ30 52 (ix v22) ((σ23 52 (ix v22)) + 0))))
          refine ⟨rfl, g33, ?_⟩
          exact ih (v22 + 1) (mput σ30 52 (ix v22) ((σ23 52 (ix v22)) + 0)) h hk
        · refine hw 1 _ ?_
          show ((r29 ≤ 0) → K (88, [.ref 6, .int x19, .int x20, .int x21, .int v22], [.int (σ23 52 (ix v22)), .int v22, .ref 52], σ30)) ∧ (¬ (r29 ≤ 0) → K (84, [.ref 6, .int x19, .int x20, .int x21, .int v22], [.int (σ23 52 (ix v22)), .int v22, .ref 52], σ30))
          refine ⟨fun q => absurd q c32, fun _ => ?_⟩
          obtain ⟨g34, h⟩ := ite_some h
          refine hw 6 _ ?_
          show kd 52 = 1 ∧ (inb v22 20 = true ∧ (K (47, [.ref 6, .int x19, .int x20, .int x21, .int (v22 + 1)], [], mput σ30 52 (ix v22) ((σ23 52 (ix v22)) + 1))))
          refine ⟨rfl, g34, ?_⟩
          exact ih (v22 + 1) (mput σ30 52 (ix v22) ((σ23 52 (ix v22)) + 1)) h hk

set_option maxHeartbeats 4000000 in
set_option maxRecDepth 100000 in
theorem t_X6_wears_34 {Qa : Int32 → aM → Prop} {K : aS → Prop} (hw : ∀ k x, wp (T_X6_wears Qa) k K x → K x) (hf : ∀ pc L i st σ, K (pc, L.set i .null, st, σ) → K (pc, L, st, σ)) (x11 : Int32) (x12 : Int32) (y : Int32 × aM) (k : Int32 → aM → Option (Int32 × aM)) :
    ∀ (n : Nat) (v13 : Int32) (σ14 : aM), l_X6_wears_34 x11 x12 n v13 σ14 k = some y → (∀ (w0 : Int32) (τ : aM), k w0 τ = some y → K (103, [.ref 6, .int x11, .int x12, .int w0, .null], [], τ)) → K (34, [.ref 6, .int x11, .int x12, .int v13, .null], [], σ14) := by
  intro n
  induction n with
  | zero =>
    intro v13 σ14 h hk
    exact absurd h (by simp [l_X6_wears_34])
  | succ n ih =>
    intro v13 σ14 h hk
    unfold l_X6_wears_34 at h
    rcases ite_cases h with ⟨c15, h⟩ | ⟨c15, h⟩
    · refine hw 3 _ ?_
      show ((x12 ≤ v13) → K (103, [.ref 6, .int x11, .int x12, .int v13, .null], [], σ14)) ∧ (¬ (x12 ≤ v13) → K (39, [.ref 6, .int x11, .int x12, .int v13, .null], [], σ14))
      refine ⟨fun _ => ?_, fun q => absurd c15 q⟩
      exact hk v13 σ14 h
    · refine hw 3 _ ?_
      show ((x12 ≤ v13) → K (103, [.ref 6, .int x11, .int x12, .int v13, .null], [], σ14)) ∧ (¬ (x12 ≤ v13) → K (39, [.ref 6, .int x11, .int x12, .int v13, .null], [], σ14))
      refine ⟨fun q => absurd q c15, fun _ => ?_⟩
      obtain ⟨r16, σ17, e18, h⟩ := bnd_some h
      refine hw 3 _ ?_
      show ∃ r16 σ17, f_X6_lights v13 σ14 = some (r16, σ17) ∧ K (44, [.ref 6, .int x11, .int x12, .int v13, .null], [], σ17)
      refine ⟨r16, σ17, e18, ?_⟩
      refine hw 2 _ ?_
      show K (47, [.ref 6, .int x11, .int x12, .int v13, .int 0], [], σ17)
      refine t_X6_wears_47 hw hf x11 x12 v13 _ _ lf 0 σ17 h (fun v35 σ36 h => ?_)
      show K (97, [.ref 6, .int x11, .int x12, .int v13, .int v35], [], σ36)
      refine hw 2 _ ?_
      show K (34, [.ref 6, .int x11, .int x12, .int (v13 + 1), .int v35], [], σ36)
      refine hf _ _ 4 _ _ ?_
      show K (34, [.ref 6, .int x11, .int x12, .int (v13 + 1), .null], [], σ36)
      exact ih (v13 + 1) σ36 h hk

set_option maxHeartbeats 4000000 in
set_option maxRecDepth 100000 in
theorem t_X6_wears_105 {Qa : Int32 → aM → Prop} {K : aS → Prop} (hw : ∀ k x, wp (T_X6_wears Qa) k K x → K x) (hf : ∀ pc L i st σ, K (pc, L.set i .null, st, σ) → K (pc, L, st, σ)) (x39 : Int32) (x40 : Int32) (y : Int32 × aM) (k : Int32 → aM → Option (Int32 × aM)) :
    ∀ (n : Nat) (v41 : Int32) (σ42 : aM), l_X6_wears_105 x39 x40 n v41 σ42 k = some y → (∀ (w0 : Int32) (τ : aM), k w0 τ = some y → K (134, [.ref 6, .int x39, .int x40, .int w0, .null], [], τ)) → K (105, [.ref 6, .int x39, .int x40, .int v41, .null], [], σ42) := by
  intro n
  induction n with
  | zero =>
    intro v41 σ42 h hk
    exact absurd h (by simp [l_X6_wears_105])
  | succ n ih =>
    intro v41 σ42 h hk
    unfold l_X6_wears_105 at h
    rcases ite_cases h with ⟨c43, h⟩ | ⟨c43, h⟩
    · refine hw 4 _ ?_
      show (((σ42 6 19) ≤ v41) → K (134, [.ref 6, .int x39, .int x40, .int v41, .null], [], σ42)) ∧ (¬ ((σ42 6 19) ≤ v41) → K (113, [.ref 6, .int x39, .int x40, .int v41, .null], [], σ42))
      refine ⟨fun _ => ?_, fun q => absurd c43 q⟩
      exact hk v41 σ42 h
    · refine hw 4 _ ?_
      show (((σ42 6 19) ≤ v41) → K (134, [.ref 6, .int x39, .int x40, .int v41, .null], [], σ42)) ∧ (¬ ((σ42 6 19) ≤ v41) → K (113, [.ref 6, .int x39, .int x40, .int v41, .null], [], σ42))
      refine ⟨fun q => absurd q c43, fun _ => ?_⟩
      obtain ⟨g44, h⟩ := ite_some h
      obtain ⟨g45, h⟩ := ite_some h
      obtain ⟨g46, h⟩ := ite_some h
      refine hw 13 _ ?_
      show kd 44 = 1 ∧ (inb v41 20 = true ∧ (kd 52 = 1 ∧ (inb v41 20 = true ∧ (kd 44 = 1 ∧ (inb v41 20 = true ∧ (K (105, [.ref 6, .int x39, .int x40, .int (v41 + 1), .null], [], mput σ42 44 (ix v41) ((σ42 44 (ix v41)) + (σ42 52 (ix v41))))))))))
      refine ⟨rfl, g44, rfl, g45, rfl, g46, ?_⟩
      exact ih (v41 + 1) (mput σ42 44 (ix v41) ((σ42 44 (ix v41)) + (σ42 52 (ix v41)))) h hk

set_option maxHeartbeats 4000000 in
set_option maxRecDepth 100000 in
theorem s_X6_wears : runs T_X6_wears [.ref 6] 5 F_X6_wears := by
  intro Qa K hw hf As σ r σ' h hQ
  unfold F_X6_wears at h
  split at h
  · rename_i p0
    unfold f_X6_wears at h
    have hQ : Qa (r, σ').1 (r, σ').2 := hQ
    generalize (r, σ') = y at h hQ
    show K (0, [.ref 6, .int p0, .null, .null, .null], [], σ)
    refine hw 2 _ ?_
    show K (2, [.ref 6, .int p0, .int 0, .null, .null], [], σ)
    refine t_X6_wears_2 hw hf p0 _ _ lf 0 σ h (fun v6 σ7 h => ?_)
    show K (23, [.ref 6, .int p0, .int v6, .null, .null], [], σ7)
    obtain ⟨r8, σ9, e10, h⟩ := bnd_some h
    refine hw 4 _ ?_
    show ∃ r8 σ9, f_X6_ahead (σ7 6 4) σ7 = some (r8, σ9) ∧ K (31, [.ref 6, .int p0, .int v6, .null, .null], [.int r8], σ9)
    refine ⟨r8, σ9, e10, ?_⟩
    refine hw 3 _ ?_
    show K (34, [.ref 6, .int p0, .int r8, .int 0, .null], [], σ9)
    refine t_X6_wears_34 hw hf p0 r8 _ _ lf 0 σ9 h (fun v37 σ38 h => ?_)
    show K (103, [.ref 6, .int p0, .int r8, .int v37, .null], [], σ38)
    refine hw 2 _ ?_
    show K (105, [.ref 6, .int p0, .int r8, .int 0, .null], [], σ38)
    refine t_X6_wears_105 hw hf p0 r8 _ _ lf 0 σ38 h (fun v47 σ48 h => ?_)
    show K (134, [.ref 6, .int p0, .int r8, .int v47, .null], [], σ48)
    obtain rfl := Option.some.inj h
    refine hw 1 _ ?_
    show Qa 0 σ48
    refine hQ
  · cases h
theorem h_X6_wears : shp [.ref 6] 5 F_X6_wears := by
  intro As σ r σ' h
  unfold F_X6_wears at h
  split at h
  · exact ⟨by simp [Value.category], Nat.le_of_ble_eq_true rfl⟩
  · cases h
set_option maxHeartbeats 4000000 in
set_option maxRecDepth 100000 in
theorem c_X6_wears (l : Launch) (D : va_G) (cI cZ cA cL : ClassId) (ad : Nat → Nat) (hi : adI ad) : CtV l yX6_wears wsX6_wears { frames := 4, cells := 0, slots := 0, locals := 97 } D cI cZ cA cL ad [.ref 6] F_X6_wears := by
  refine mk_V [.ref 6] F_X6_wears T_X6_wears (by decide +kernel) rfl ?_ h_X6_wears s_X6_wears
  intro p e s m args below meth c Qa ⟨hx, hb, hml, hown, hts, hr, hlocks, hK, hN⟩
  have hin6 : ∀ w ∈ u_ws RX6 TX6 30, w ∈ wsX6_wears := by decide +kernel
  have hl159 : (Cond.fieldLink RX6 159 RX6 (TX6 19).2.1 (TX6 19).2.2.1) ∈ wsX6_wears := by decide +kernel
  have hl80 : (Cond.fieldLink RX6 80 RX6 (TX6 29).2.1 (TX6 29).2.2.1) ∈ wsX6_wears := by decide +kernel
  have hl87 : (Cond.fieldLink RX6 87 RX6 (TX6 4).2.1 (TX6 4).2.2.1) ∈ wsX6_wears := by decide +kernel
  have hl44 : (Cond.fieldLink RX6 44 RX6 (TX6 14).2.1 (TX6 14).2.2.1) ∈ wsX6_wears := by decide +kernel
  have hl56 : (Cond.fieldLink RX6 56 RX6 (TX6 18).2.1 (TX6 18).2.2.1) ∈ wsX6_wears := by decide +kernel
  refine ruL_c (n := 0) (n2 := 1) rfl (ru_iconst hx hb dX6_wears_0 rfl) ?_
  refine ruL_c (n := 1) (n2 := 2) rfl (ru_istore_n (k := 2) hx hb dX6_wears_1) ?_
  refine ruL_c (n := 2) (n2 := 3) rfl (ru_iload_n (k := 2) hx hb dX6_wears_2) ?_
  refine ruL_c (n := 3) (n2 := 4) rfl (ru_aload_n (k := 0) hx hb dX6_wears_3) ?_
  refine ruL_c (n := 4) (n2 := 5) rfl (ru_getI (own := RX6) (j := 19) (T := TX6) hx hb hown hK hts hin6 (by decide) rfl rfl (by decide) rfl hl159 dX6_wears_4) ?_
  refine ruL_c (n := 5) (n2 := 6) rfl (ru_bot) ?_
  refine ruL_c (n := 6) (n2 := 7) rfl (ru_bot) ?_
  refine ruL_c (n := 7) (n2 := 8) rfl (ru_icmpge hx hb dX6_wears_7 (by decide)) ?_
  refine ruL_c (n := 8) (n2 := 9) rfl (ru_bot) ?_
  refine ruL_c (n := 9) (n2 := 10) rfl (ru_bot) ?_
  refine ruL_c (n := 10) (n2 := 11) rfl (ru_aload_n (k := 0) hx hb dX6_wears_10) ?_
  refine ruL_c (n := 11) (n2 := 12) rfl (ru_getR (own := RX6) (j := 29) (T := TX6) hx hb hown hK hts hin6 (by decide) rfl rfl (by decide) rfl hl80 dX6_wears_11) ?_
  refine ruL_c (n := 12) (n2 := 13) rfl (ru_bot) ?_
  refine ruL_c (n := 13) (n2 := 14) rfl (ru_bot) ?_
  refine ruL_c (n := 14) (n2 := 15) rfl (ru_iload_n (k := 2) hx hb dX6_wears_14) ?_
  refine ruL_c (n := 15) (n2 := 16) rfl (ru_iconst hx hb dX6_wears_15 rfl) ?_
  refine ruL_c (n := 16) (n2 := 17) rfl (ru_iast hx hb hK hi dX6_wears_16) ?_
  refine ruL_c (n := 17) (n2 := 18) rfl (ru_iinc hx hb dX6_wears_17 rfl) ?_
  refine ruL_c (n := 18) (n2 := 19) rfl (ru_bot) ?_
  refine ruL_c (n := 19) (n2 := 20) rfl (ru_bot) ?_
  refine ruL_c (n := 20) (n2 := 21) rfl (ru_goto hx hb dX6_wears_20 (by decide)) ?_
  refine ruL_c (n := 21) (n2 := 22) rfl (ru_bot) ?_
  refine ruL_c (n := 22) (n2 := 23) rfl (ru_bot) ?_
  refine ruL_c (n := 23) (n2 := 24) rfl (ru_aload_n (k := 0) hx hb dX6_wears_23) ?_
  refine ruL_c (n := 24) (n2 := 25) rfl (ru_aload_n (k := 0) hx hb dX6_wears_24) ?_
  refine ruL_c (n := 25) (n2 := 26) rfl (ru_getI (own := RX6) (j := 4) (T := TX6) hx hb hown hK hts hin6 (by decide) rfl rfl (by decide) rfl hl87 dX6_wears_25) ?_
  refine ruL_c (n := 26) (n2 := 27) rfl (ru_bot) ?_
  refine ruL_c (n := 27) (n2 := 28) rfl (ru_bot) ?_
  refine ruL_c (n := 28) (n2 := 29) rfl (ru_callV hx hb hml hown hts hK hN (by decide) rfl (c_X6_ahead l D cI cZ cA cL ad hi) (cwV 1 hts gX6_wears_X6_ahead rfl rfl rfl (by decide +kernel) ⟨Nat.le_of_ble_eq_true rfl, Nat.le_of_ble_eq_true rfl⟩) dX6_wears_28 ⟨Nat.zero_le _, Nat.zero_le _⟩) ?_
  refine ruL_c (n := 29) (n2 := 30) rfl (ru_bot) ?_
  refine ruL_c (n := 30) (n2 := 31) rfl (ru_bot) ?_
  refine ruL_c (n := 31) (n2 := 32) rfl (ru_istore_n (k := 2) hx hb dX6_wears_31) ?_
  refine ruL_c (n := 32) (n2 := 33) rfl (ru_iconst hx hb dX6_wears_32 rfl) ?_
  refine ruL_c (n := 33) (n2 := 34) rfl (ru_istore_n (k := 3) hx hb dX6_wears_33) ?_
  refine ruL_c (n := 34) (n2 := 35) rfl (ru_iload_n (k := 3) hx hb dX6_wears_34) ?_
  refine ruL_c (n := 35) (n2 := 36) rfl (ru_iload_n (k := 2) hx hb dX6_wears_35) ?_
  refine ruL_c (n := 36) (n2 := 37) rfl (ru_icmpge hx hb dX6_wears_36 (by decide)) ?_
  refine ruL_c (n := 37) (n2 := 38) rfl (ru_bot) ?_
  refine ruL_c (n := 38) (n2 := 39) rfl (ru_bot) ?_
  refine ruL_c (n := 39) (n2 := 40) rfl (ru_aload_n (k := 0) hx hb dX6_wears_39) ?_
  refine ruL_c (n := 40) (n2 := 41) rfl (ru_iload_n (k := 3) hx hb dX6_wears_40) ?_
  refine ruL_c (n := 41) (n2 := 42) rfl (ru_callVv hx hb hml hown hts hK hN (by decide) rfl (c_X6_lights l D cI cZ cA cL ad hi) (cwV 1 hts gX6_wears_X6_lights rfl rfl rfl (by decide +kernel) ⟨Nat.le_of_ble_eq_true rfl, Nat.le_of_ble_eq_true rfl⟩) dX6_wears_41 ⟨Nat.zero_le _, Nat.zero_le _⟩) ?_
  refine ruL_c (n := 42) (n2 := 43) rfl (ru_bot) ?_
  refine ruL_c (n := 43) (n2 := 44) rfl (ru_bot) ?_
  refine ruL_c (n := 44) (n2 := 45) rfl (ru_iconst hx hb dX6_wears_44 rfl) ?_
  refine ruL_c (n := 45) (n2 := 46) rfl (ru_istore hx hb dX6_wears_45) ?_
  refine ruL_c (n := 46) (n2 := 47) rfl (ru_bot) ?_
  refine ruL_c (n := 47) (n2 := 48) rfl (ru_iload hx hb dX6_wears_47) ?_
  refine ruL_c (n := 48) (n2 := 49) rfl (ru_bot) ?_
  refine ruL_c (n := 49) (n2 := 50) rfl (ru_aload_n (k := 0) hx hb dX6_wears_49) ?_
  refine ruL_c (n := 50) (n2 := 51) rfl (ru_getI (own := RX6) (j := 19) (T := TX6) hx hb hown hK hts hin6 (by decide) rfl rfl (by decide) rfl hl159 dX6_wears_50) ?_
  refine ruL_c (n := 51) (n2 := 52) rfl (ru_bot) ?_
  refine ruL_c (n := 52) (n2 := 53) rfl (ru_bot) ?_
  refine ruL_c (n := 53) (n2 := 54) rfl (ru_icmpge hx hb dX6_wears_53 (by decide)) ?_
  refine ruL_c (n := 54) (n2 := 55) rfl (ru_bot) ?_
  refine ruL_c (n := 55) (n2 := 56) rfl (ru_bot) ?_
  refine ruL_c (n := 56) (n2 := 57) rfl (ru_aload_n (k := 0) hx hb dX6_wears_56) ?_
  refine ruL_c (n := 57) (n2 := 58) rfl (ru_getR (own := RX6) (j := 29) (T := TX6) hx hb hown hK hts hin6 (by decide) rfl rfl (by decide) rfl hl80 dX6_wears_57) ?_
  refine ruL_c (n := 58) (n2 := 59) rfl (ru_bot) ?_
  refine ruL_c (n := 59) (n2 := 60) rfl (ru_bot) ?_
  refine ruL_c (n := 60) (n2 := 61) rfl (ru_iload hx hb dX6_wears_60) ?_
  refine ruL_c (n := 61) (n2 := 62) rfl (ru_bot) ?_
  refine ruL_c (n := 62) (n2 := 63) rfl (ru_dup2 hx hb dX6_wears_62) ?_
  refine ruL_c (n := 63) (n2 := 64) rfl (ru_iald hx hb hK dX6_wears_63) ?_
  refine ruL_c (n := 64) (n2 := 65) rfl (ru_aload_n (k := 0) hx hb dX6_wears_64) ?_
  refine ruL_c (n := 65) (n2 := 66) rfl (ru_getR (own := RX6) (j := 14) (T := TX6) hx hb hown hK hts hin6 (by decide) rfl rfl (by decide) rfl hl44 dX6_wears_65) ?_
  refine ruL_c (n := 66) (n2 := 67) rfl (ru_bot) ?_
  refine ruL_c (n := 67) (n2 := 68) rfl (ru_bot) ?_
  refine ruL_c (n := 68) (n2 := 69) rfl (ru_iload hx hb dX6_wears_68) ?_
  refine ruL_c (n := 69) (n2 := 70) rfl (ru_bot) ?_
  refine ruL_c (n := 70) (n2 := 71) rfl (ru_iald hx hb hK dX6_wears_70) ?_
  refine ruL_c (n := 71) (n2 := 72) rfl (ru_iload_n (k := 1) hx hb dX6_wears_71) ?_
  refine ruL_c (n := 72) (n2 := 73) rfl (ru_icmpne hx hb dX6_wears_72 (by decide)) ?_
  refine ruL_c (n := 73) (n2 := 74) rfl (ru_bot) ?_
  refine ruL_c (n := 74) (n2 := 75) rfl (ru_bot) ?_
  refine ruL_c (n := 75) (n2 := 76) rfl (ru_aload_n (k := 0) hx hb dX6_wears_75) ?_
  refine ruL_c (n := 76) (n2 := 77) rfl (ru_iload hx hb dX6_wears_76) ?_
  refine ruL_c (n := 77) (n2 := 78) rfl (ru_bot) ?_
  refine ruL_c (n := 78) (n2 := 79) rfl (ru_callV hx hb hml hown hts hK hN (by decide) rfl (c_X6_lampNow l D cI cZ cA cL ad hi) (cwV 1 hts gX6_wears_X6_lampNow rfl rfl rfl (by decide +kernel) ⟨Nat.le_of_ble_eq_true rfl, Nat.le_of_ble_eq_true rfl⟩) dX6_wears_78 ⟨Nat.zero_le _, Nat.zero_le _⟩) ?_
  refine ruL_c (n := 79) (n2 := 80) rfl (ru_bot) ?_
  refine ruL_c (n := 80) (n2 := 81) rfl (ru_bot) ?_
  refine ruL_c (n := 81) (n2 := 82) rfl (ru_ifle hx hb dX6_wears_81 (by decide)) ?_
  refine ruL_c (n := 82) (n2 := 83) rfl (ru_bot) ?_
  refine ruL_c (n := 83) (n2 := 84) rfl (ru_bot) ?_
  refine ruL_c (n := 84) (n2 := 85) rfl (ru_iconst hx hb dX6_wears_84 rfl) ?_
  refine ruL_c (n := 85) (n2 := 86) rfl (ru_goto hx hb dX6_wears_85 (by decide)) ?_
  refine ruL_c (n := 86) (n2 := 87) rfl (ru_bot) ?_
  refine ruL_c (n := 87) (n2 := 88) rfl (ru_bot) ?_
  refine ruL_c (n := 88) (n2 := 89) rfl (ru_iconst hx hb dX6_wears_88 rfl) ?_
  refine ruL_c (n := 89) (n2 := 90) rfl (ru_iadd hx hb dX6_wears_89) ?_
  refine ruL_c (n := 90) (n2 := 91) rfl (ru_iast hx hb hK hi dX6_wears_90) ?_
  refine ruL_c (n := 91) (n2 := 92) rfl (ru_iinc hx hb dX6_wears_91 rfl) ?_
  refine ruL_c (n := 92) (n2 := 93) rfl (ru_bot) ?_
  refine ruL_c (n := 93) (n2 := 94) rfl (ru_bot) ?_
  refine ruL_c (n := 94) (n2 := 95) rfl (ru_goto hx hb dX6_wears_94 (by decide)) ?_
  refine ruL_c (n := 95) (n2 := 96) rfl (ru_bot) ?_
  refine ruL_c (n := 96) (n2 := 97) rfl (ru_bot) ?_
  refine ruL_c (n := 97) (n2 := 98) rfl (ru_iinc hx hb dX6_wears_97 rfl) ?_
  refine ruL_c (n := 98) (n2 := 99) rfl (ru_bot) ?_
  refine ruL_c (n := 99) (n2 := 100) rfl (ru_bot) ?_
  refine ruL_c (n := 100) (n2 := 101) rfl (ru_goto hx hb dX6_wears_100 (by decide)) ?_
  refine ruL_c (n := 101) (n2 := 102) rfl (ru_bot) ?_
  refine ruL_c (n := 102) (n2 := 103) rfl (ru_bot) ?_
  refine ruL_c (n := 103) (n2 := 104) rfl (ru_iconst hx hb dX6_wears_103 rfl) ?_
  refine ruL_c (n := 104) (n2 := 105) rfl (ru_istore_n (k := 3) hx hb dX6_wears_104) ?_
  refine ruL_c (n := 105) (n2 := 106) rfl (ru_iload_n (k := 3) hx hb dX6_wears_105) ?_
  refine ruL_c (n := 106) (n2 := 107) rfl (ru_aload_n (k := 0) hx hb dX6_wears_106) ?_
  refine ruL_c (n := 107) (n2 := 108) rfl (ru_getI (own := RX6) (j := 19) (T := TX6) hx hb hown hK hts hin6 (by decide) rfl rfl (by decide) rfl hl159 dX6_wears_107) ?_
  refine ruL_c (n := 108) (n2 := 109) rfl (ru_bot) ?_
  refine ruL_c (n := 109) (n2 := 110) rfl (ru_bot) ?_
  refine ruL_c (n := 110) (n2 := 111) rfl (ru_icmpge hx hb dX6_wears_110 (by decide)) ?_
  refine ruL_c (n := 111) (n2 := 112) rfl (ru_bot) ?_
  refine ruL_c (n := 112) (n2 := 113) rfl (ru_bot) ?_
  refine ruL_c (n := 113) (n2 := 114) rfl (ru_aload_n (k := 0) hx hb dX6_wears_113) ?_
  refine ruL_c (n := 114) (n2 := 115) rfl (ru_getR (own := RX6) (j := 18) (T := TX6) hx hb hown hK hts hin6 (by decide) rfl rfl (by decide) rfl hl56 dX6_wears_114) ?_
  refine ruL_c (n := 115) (n2 := 116) rfl (ru_bot) ?_
  refine ruL_c (n := 116) (n2 := 117) rfl (ru_bot) ?_
  refine ruL_c (n := 117) (n2 := 118) rfl (ru_iload_n (k := 3) hx hb dX6_wears_117) ?_
  refine ruL_c (n := 118) (n2 := 119) rfl (ru_dup2 hx hb dX6_wears_118) ?_
  refine ruL_c (n := 119) (n2 := 120) rfl (ru_iald hx hb hK dX6_wears_119) ?_
  refine ruL_c (n := 120) (n2 := 121) rfl (ru_aload_n (k := 0) hx hb dX6_wears_120) ?_
  refine ruL_c (n := 121) (n2 := 122) rfl (ru_getR (own := RX6) (j := 29) (T := TX6) hx hb hown hK hts hin6 (by decide) rfl rfl (by decide) rfl hl80 dX6_wears_121) ?_
  refine ruL_c (n := 122) (n2 := 123) rfl (ru_bot) ?_
  refine ruL_c (n := 123) (n2 := 124) rfl (ru_bot) ?_
  refine ruL_c (n := 124) (n2 := 125) rfl (ru_iload_n (k := 3) hx hb dX6_wears_124) ?_
  refine ruL_c (n := 125) (n2 := 126) rfl (ru_iald hx hb hK dX6_wears_125) ?_
  refine ruL_c (n := 126) (n2 := 127) rfl (ru_iadd hx hb dX6_wears_126) ?_
  refine ruL_c (n := 127) (n2 := 128) rfl (ru_iast hx hb hK hi dX6_wears_127) ?_
  refine ruL_c (n := 128) (n2 := 129) rfl (ru_iinc hx hb dX6_wears_128 rfl) ?_
  refine ruL_c (n := 129) (n2 := 130) rfl (ru_bot) ?_
  refine ruL_c (n := 130) (n2 := 131) rfl (ru_bot) ?_
  refine ruL_c (n := 131) (n2 := 132) rfl (ru_goto hx hb dX6_wears_131 (by decide)) ?_
  refine ruL_c (n := 132) (n2 := 133) rfl (ru_bot) ?_
  refine ruL_c (n := 133) (n2 := 134) rfl (ru_bot) ?_
  refine ruL_c (n := 134) (n2 := 135) rfl (ru_vret hx hb hK hr hlocks dX6_wears_134) ?_
  exact trivial

-- CueTourModel.perform
def l_X6_perform_71 (x20 : Int32) (x21 : Int32) : Nat → Int32 → Int32 → aM → (Int32 → Int32 → aM → Option (Int32 × aM)) → Option (Int32 × aM)
  | 0, _, _, _, _ => none
  | n + 1, v22, v23, σ24, k => if (σ24 6 4) ≤ v23 then k v22 v23 σ24 else bnd (f_X6_shorts x20 v23 σ24) (fun r26 σ27 => if inb ((30 * (σ27 6 22)) + v23) 600 = true then if r26 = 0 then l_X6_perform_71 x20 x21 n (v22 + 0) (v23 + 1) (mput σ27 46 (ix ((30 * (σ27 6 22)) + v23)) r26) k else l_X6_perform_71 x20 x21 n (v22 + 1) (v23 + 1) (mput σ27 46 (ix ((30 * (σ27 6 22)) + v23)) r26) k else none)
def f_X6_perform (p0 : Int32) (σ : aM) : Option (Int32 × aM) := bnd (f_X6_isStage p0 σ) (fun r1 σ2 => if ¬ r1 = 0 then bnd (f_X6_ahead (σ2 6 4) σ2) (fun r5 σ6 => if r5 = 0 then bnd (f_X6_isFine 2 σ6) (fun r9 σ10 => if ¬ r9 = 0 then bnd (f_X6_plays σ10) (fun r13 σ14 => bnd (f_X6_laysAll p0 σ14) (fun r16 σ17 => if inb (σ17 6 22) 20 = true then l_X6_perform_71 p0 r1 lf 0 0 (mput σ17 45 (ix (σ17 6 22)) p0) (fun v31 v32 σ33 => bnd (f_X6_wears p0 (mput σ33 6 22 ((σ33 6 22) + 1))) (fun r34 σ35 => some (v31, σ35))) else none)) else some (0, σ10)) else if ¬ (σ6 6 22) = 20 then bnd (f_X6_isFine 0 σ6) (fun r38 σ39 => if ¬ r38 = 0 then bnd (f_X6_plays σ39) (fun r42 σ43 => bnd (f_X6_laysAll p0 σ43) (fun r45 σ46 => if inb (σ46 6 22) 20 = true then l_X6_perform_71 p0 r1 lf 0 0 (mput σ46 45 (ix (σ46 6 22)) p0) (fun v49 v50 σ51 => bnd (f_X6_wears p0 (mput σ51 6 22 ((σ51 6 22) + 1))) (fun r52 σ53 => some (v49, σ53))) else none)) else some (0, σ39)) else bnd (f_X6_isFine 2 σ6) (fun r55 σ56 => if ¬ r55 = 0 then bnd (f_X6_plays σ56) (fun r59 σ60 => bnd (f_X6_laysAll p0 σ60) (fun r62 σ63 => if inb (σ63 6 22) 20 = true then l_X6_perform_71 p0 r1 lf 0 0 (mput σ63 45 (ix (σ63 6 22)) p0) (fun v66 v67 σ68 => bnd (f_X6_wears p0 (mput σ68 6 22 ((σ68 6 22) + 1))) (fun r69 σ70 => some (v66, σ70))) else none)) else some (0, σ56))) else bnd (f_X6_isFine 1 σ2) (fun r72 σ73 => if ¬ r72 = 0 then bnd (f_X6_plays σ73) (fun r76 σ77 => bnd (f_X6_laysAll p0 σ77) (fun r79 σ80 => if inb (σ80 6 22) 20 = true then l_X6_perform_71 p0 r1 lf 0 0 (mput σ80 45 (ix (σ80 6 22)) p0) (fun v83 v84 σ85 => bnd (f_X6_wears p0 (mput σ85 6 22 ((σ85 6 22) + 1))) (fun r86 σ87 => some (v83, σ87))) else none)) else some (0, σ73)))
def F_X6_perform : aF := fun As σ => match As with
  | [.int p0] => f_X6_perform p0 σ
  | _ => none
def T_X6_perform (Qa : Int32 → aM → Prop) : List aI := [I_iload 1 1, I_callS 1 F_X6_isStage, I_bot, I_bot, I_istore 2 1, I_aload 0 1, I_iload 2 1, I_if (fun x => ¬ x = 0) 14, I_bot, I_bot, I_const 1 1, I_goto 39, I_bot, I_bot, I_aload 0 1, I_aload 0 1, I_getI 6 4, I_bot, I_bot, I_callV 6 1 F_X6_ahead, I_bot, I_bot, I_if (fun x => x = 0) 34, I_bot, I_bot, I_aload 0 1, I_getI 6 22, I_bot, I_bot, I_const (20) 2, I_bot, I_icmp (fun x y => ¬ x = y) 38, I_bot, I_bot, I_const 2 1, I_goto 39, I_bot, I_bot, I_const 0 1, I_callV 6 1 F_X6_isFine, I_bot, I_bot, I_if (fun x => ¬ x = 0) 47, I_bot, I_bot, I_const 0 1, I_iret Qa, I_aload 0 1, I_callVv 6 0 F_X6_plays, I_bot, I_bot, I_aload 0 1, I_iload 1 1, I_callVv 6 1 F_X6_laysAll, I_bot, I_bot, I_aload 0 1, I_getR 6 45, I_bot, I_bot, I_aload 0 1, I_getI 6 22, I_bot, I_bot, I_iload 1 1, I_iast, I_const 0 1, I_istore 3 1, I_const 0 1, I_istore 4 2, I_bot, I_iload 4 2, I_bot, I_aload 0 1, I_getI 6 4, I_bot, I_bot, I_icmp (fun x y => y ≤ x) 125, I_bot, I_bot, I_aload 0 1, I_iload 1 1, I_iload 4 2, I_bot, I_callV 6 2 F_X6_shorts, I_bot, I_bot, I_istore 5 2, I_bot, I_aload 0 1, I_getR 6 46, I_bot, I_bot, I_const (30) 2, I_bot, I_aload 0 1, I_getI 6 22, I_bot, I_bot, I_bin fun x y => x * y, I_iload 4 2, I_bot, I_bin fun x y => x + y, I_iload 5 2, I_bot, I_iast, I_iload 3 1, I_iload 5 2, I_bot, I_if (fun x => x = 0) 116, I_bot, I_bot, I_const 1 1, I_goto 117, I_bot, I_bot, I_const 0 1, I_bin fun x y => x + y, I_istore 3 1, I_iinc 4 (1), I_bot, I_bot, I_goto 71, I_bot, I_bot, I_aload 0 1, I_dup, I_getI 6 22, I_bot, I_bot, I_const 1 1, I_bin fun x y => x + y, I_putI 6 22, I_bot, I_bot, I_aload 0 1, I_iload 1 1, I_callVv 6 1 F_X6_wears, I_bot, I_bot, I_iload 3 1, I_iret Qa]
set_option maxHeartbeats 4000000 in
set_option maxRecDepth 100000 in
theorem t_X6_perform_71 {Qa : Int32 → aM → Prop} {K : aS → Prop} (hw : ∀ k x, wp (T_X6_perform Qa) k K x → K x) (hf : ∀ pc L i st σ, K (pc, L.set i .null, st, σ) → K (pc, L, st, σ)) (x20 : Int32) (x21 : Int32) (y : Int32 × aM) (k : Int32 → Int32 → aM → Option (Int32 × aM)) :
    ∀ (n : Nat) (v22 : Int32) (v23 : Int32) (σ24 : aM), l_X6_perform_71 x20 x21 n v22 v23 σ24 k = some y → (∀ (w0 : Int32) (w1 : Int32) (τ : aM), k w0 w1 τ = some y → K (125, [.ref 6, .int x20, .int x21, .int w0, .int w1, .null], [], τ)) → K (71, [.ref 6, .int x20, .int x21, .int v22, .int v23, .null], [], σ24) := by
  intro n
  induction n with
  | zero =>
    intro v22 v23 σ24 h hk
    exact absurd h (by simp [l_X6_perform_71])
  | succ n ih =>
    intro v22 v23 σ24 h hk
    unfold l_X6_perform_71 at h
    rcases ite_cases h with ⟨c25, h⟩ | ⟨c25, h⟩
    · refine hw 4 _ ?_
      show (((σ24 6 4) ≤ v23) → K (125, [.ref 6, .int x20, .int x21, .int v22, .int v23, .null], [], σ24)) ∧ (¬ ((σ24 6 4) ≤ v23) → K (80, [.ref 6, .int x20, .int x21, .int v22, .int v23, .null], [], σ24))
      refine ⟨fun _ => ?_, fun q => absurd c25 q⟩
      exact hk v22 v23 σ24 h
    · refine hw 4 _ ?_
      show (((σ24 6 4) ≤ v23) → K (125, [.ref 6, .int x20, .int x21, .int v22, .int v23, .null], [], σ24)) ∧ (¬ ((σ24 6 4) ≤ v23) → K (80, [.ref 6, .int x20, .int x21, .int v22, .int v23, .null], [], σ24))
      refine ⟨fun q => absurd q c25, fun _ => ?_⟩
      obtain ⟨r26, σ27, e28, h⟩ := bnd_some h
      refine hw 4 _ ?_
      show ∃ r26 σ27, f_X6_shorts x20 v23 σ24 = some (r26, σ27) ∧ K (87, [.ref 6, .int x20, .int x21, .int v22, .int v23, .null], [.int r26], σ27)
      refine ⟨r26, σ27, e28, ?_⟩
      obtain ⟨g29, h⟩ := ite_some h
      rcases ite_cases h with ⟨c30, h⟩ | ⟨c30, h⟩
      · refine hw 14 _ ?_
        show kd 46 = 1 ∧ (inb ((30 * (σ27 6 22)) + v23) 600 = true ∧ (((r26 = 0) → K (116, [.ref 6, .int x20, .int x21, .int v22, .int v23, .int r26], [.int v22], mput σ27 46 (ix ((30 * (σ27 6 22)) + v23)) r26)) ∧ (¬ (r26 = 0) → K (112, [.ref 6, .int x20, .int x21, .int v22, .int v23, .int r26], [.int v22], mput σ27 46 (ix ((30 * (σ27 6 22)) + v23)) r26))))
        refine ⟨rfl, g29, ⟨fun _ => ?_, fun q => absurd c30 q⟩⟩
        refine hw 5 _ ?_
        show K (71, [.ref 6, .int x20, .int x21, .int (v22 + 0), .int (v23 + 1), .int r26], [], mput σ27 46 (ix ((30 * (σ27 6 22)) + v23)) r26)
        refine hf _ _ 5 _ _ ?_
        show K (71, [.ref 6, .int x20, .int x21, .int (v22 + 0), .int (v23 + 1), .null], [], mput σ27 46 (ix ((30 * (σ27 6 22)) + v23)) r26)
        exact ih (v22 + 0) (v23 + 1) (mput σ27 46 (ix ((30 * (σ27 6 22)) + v23)) r26) h hk
      · refine hw 14 _ ?_
        show kd 46 = 1 ∧ (inb ((30 * (σ27 6 22)) + v23) 600 = true ∧ (((r26 = 0) → K (116, [.ref 6, .int x20, .int x21, .int v22, .int v23, .int r26], [.int v22], mput σ27 46 (ix ((30 * (σ27 6 22)) + v23)) r26)) ∧ (¬ (r26 = 0) → K (112, [.ref 6, .int x20, .int x21, .int v22, .int v23, .int r26], [.int v22], mput σ27 46 (ix ((30 * (σ27 6 22)) + v23)) r26))))
        refine ⟨rfl, g29, ⟨fun q => absurd q c30, fun _ => ?_⟩⟩
        refine hw 6 _ ?_
        show K (71, [.ref 6, .int x20, .int x21, .int (v22 + 1), .int (v23 + 1), .int r26], [], mput σ27 46 (ix ((30 * (σ27 6 22)) + v23)) r26)
        refine hf _ _ 5 _ _ ?_
        show K (71, [.ref 6, .int x20, .int x21, .int (v22 + 1), .int (v23 + 1), .null], [], mput σ27 46 (ix ((30 * (σ27 6 22)) + v23)) r26)
        exact ih (v22 + 1) (v23 + 1) (mput σ27 46 (ix ((30 * (σ27 6 22)) + v23)) r26) h hk

set_option maxHeartbeats 4000000 in
set_option maxRecDepth 100000 in
theorem s_X6_perform : runs T_X6_perform [.ref 6] 6 F_X6_perform := by
  intro Qa K hw hf As σ r σ' h hQ
  unfold F_X6_perform at h
  split at h
  · rename_i p0
    unfold f_X6_perform at h
    have hQ : Qa (r, σ').1 (r, σ').2 := hQ
    generalize (r, σ') = y at h hQ
    show K (0, [.ref 6, .int p0, .null, .null, .null, .null], [], σ)
    obtain ⟨r1, σ2, e3, h⟩ := bnd_some h
    refine hw 2 _ ?_
    show ∃ r1 σ2, f_X6_isStage p0 σ = some (r1, σ2) ∧ K (4, [.ref 6, .int p0, .null, .null, .null, .null], [.int r1], σ2)
    refine ⟨r1, σ2, e3, ?_⟩
    rcases ite_cases h with ⟨c4, h⟩ | ⟨c4, h⟩
    · refine hw 4 _ ?_
      show ((¬ r1 = 0) → K (14, [.ref 6, .int p0, .int r1, .null, .null, .null], [.ref 6], σ2)) ∧ (¬ (¬ r1 = 0) → K (10, [.ref 6, .int p0, .int r1, .null, .null, .null], [.ref 6], σ2))
      refine ⟨fun _ => ?_, fun q => absurd c4 q⟩
      obtain ⟨r5, σ6, e7, h⟩ := bnd_some h
      refine hw 4 _ ?_
      show ∃ r5 σ6, f_X6_ahead (σ2 6 4) σ2 = some (r5, σ6) ∧ K (22, [.ref 6, .int p0, .int r1, .null, .null, .null], [.int r5, .ref 6], σ6)
      refine ⟨r5, σ6, e7, ?_⟩
      rcases ite_cases h with ⟨c8, h⟩ | ⟨c8, h⟩
      · refine hw 1 _ ?_
        show ((r5 = 0) → K (34, [.ref 6, .int p0, .int r1, .null, .null, .null], [.ref 6], σ6)) ∧ (¬ (r5 = 0) → K (25, [.ref 6, .int p0, .int r1, .null, .null, .null], [.ref 6], σ6))
        refine ⟨fun _ => ?_, fun q => absurd c8 q⟩
        obtain ⟨r9, σ10, e11, h⟩ := bnd_some h
        refine hw 3 _ ?_
        show ∃ r9 σ10, f_X6_isFine 2 σ6 = some (r9, σ10) ∧ K (42, [.ref 6, .int p0, .int r1, .null, .null, .null], [.int r9], σ10)
        refine ⟨r9, σ10, e11, ?_⟩
        rcases ite_cases h with ⟨c12, h⟩ | ⟨c12, h⟩
        · refine hw 1 _ ?_
          show ((¬ r9 = 0) → K (47, [.ref 6, .int p0, .int r1, .null, .null, .null], [], σ10)) ∧ (¬ (¬ r9 = 0) → K (45, [.ref 6, .int p0, .int r1, .null, .null, .null], [], σ10))
          refine ⟨fun _ => ?_, fun q => absurd c12 q⟩
          obtain ⟨r13, σ14, e15, h⟩ := bnd_some h
          refine hw 2 _ ?_
          show ∃ r13 σ14, f_X6_plays σ10 = some (r13, σ14) ∧ K (51, [.ref 6, .int p0, .int r1, .null, .null, .null], [], σ14)
          refine ⟨r13, σ14, e15, ?_⟩
          obtain ⟨r16, σ17, e18, h⟩ := bnd_some h
          refine hw 3 _ ?_
          show ∃ r16 σ17, f_X6_laysAll p0 σ14 = some (r16, σ17) ∧ K (56, [.ref 6, .int p0, .int r1, .null, .null, .null], [], σ17)
          refine ⟨r16, σ17, e18, ?_⟩
          obtain ⟨g19, h⟩ := ite_some h
          refine hw 10 _ ?_
          show kd 45 = 1 ∧ (inb (σ17 6 22) 20 = true ∧ (K (71, [.ref 6, .int p0, .int r1, .int 0, .int 0, .null], [], mput σ17 45 (ix (σ17 6 22)) p0)))
          refine ⟨rfl, g19, ?_⟩
          refine t_X6_perform_71 hw hf p0 r1 _ _ lf 0 0 (mput σ17 45 (ix (σ17 6 22)) p0) h (fun v31 v32 σ33 h => ?_)
          show K (125, [.ref 6, .int p0, .int r1, .int v31, .int v32, .null], [], σ33)
          obtain ⟨r34, σ35, e36, h⟩ := bnd_some h
          refine hw 9 _ ?_
          show ∃ r34 σ35, f_X6_wears p0 (mput σ33 6 22 ((σ33 6 22) + 1)) = some (r34, σ35) ∧ K (140, [.ref 6, .int p0, .int r1, .int v31, .int v32, .null], [], σ35)
          refine ⟨r34, σ35, e36, ?_⟩
          obtain rfl := Option.some.inj h
          refine hw 2 _ ?_
          show Qa v31 σ35
          refine hQ
        · refine hw 1 _ ?_
          show ((¬ r9 = 0) → K (47, [.ref 6, .int p0, .int r1, .null, .null, .null], [], σ10)) ∧ (¬ (¬ r9 = 0) → K (45, [.ref 6, .int p0, .int r1, .null, .null, .null], [], σ10))
          refine ⟨fun q => absurd q c12, fun _ => ?_⟩
          obtain rfl := Option.some.inj h
          refine hw 2 _ ?_
          show Qa 0 σ10
          refine hQ
      · refine hw 1 _ ?_
        show ((r5 = 0) → K (34, [.ref 6, .int p0, .int r1, .null, .null, .null], [.ref 6], σ6)) ∧ (¬ (r5 = 0) → K (25, [.ref 6, .int p0, .int r1, .null, .null, .null], [.ref 6], σ6))
        refine ⟨fun q => absurd q c8, fun _ => ?_⟩
        rcases ite_cases h with ⟨c37, h⟩ | ⟨c37, h⟩
        · refine hw 4 _ ?_
          show ((¬ (σ6 6 22) = 20) → K (38, [.ref 6, .int p0, .int r1, .null, .null, .null], [.ref 6], σ6)) ∧ (¬ (¬ (σ6 6 22) = 20) → K (34, [.ref 6, .int p0, .int r1, .null, .null, .null], [.ref 6], σ6))
          refine ⟨fun _ => ?_, fun q => absurd c37 q⟩
          obtain ⟨r38, σ39, e40, h⟩ := bnd_some h
          refine hw 2 _ ?_
          show ∃ r38 σ39, f_X6_isFine 0 σ6 = some (r38, σ39) ∧ K (42, [.ref 6, .int p0, .int r1, .null, .null, .null], [.int r38], σ39)
          refine ⟨r38, σ39, e40, ?_⟩
          rcases ite_cases h with ⟨c41, h⟩ | ⟨c41, h⟩
          · refine hw 1 _ ?_
            show ((¬ r38 = 0) → K (47, [.ref 6, .int p0, .int r1, .null, .null, .null], [], σ39)) ∧ (¬ (¬ r38 = 0) → K (45, [.ref 6, .int p0, .int r1, .null, .null, .null], [], σ39))
            refine ⟨fun _ => ?_, fun q => absurd c41 q⟩
            obtain ⟨r42, σ43, e44, h⟩ := bnd_some h
            refine hw 2 _ ?_
            show ∃ r42 σ43, f_X6_plays σ39 = some (r42, σ43) ∧ K (51, [.ref 6, .int p0, .int r1, .null, .null, .null], [], σ43)
            refine ⟨r42, σ43, e44, ?_⟩
            obtain ⟨r45, σ46, e47, h⟩ := bnd_some h
            refine hw 3 _ ?_
            show ∃ r45 σ46, f_X6_laysAll p0 σ43 = some (r45, σ46) ∧ K (56, [.ref 6, .int p0, .int r1, .null, .null, .null], [], σ46)
            refine ⟨r45, σ46, e47, ?_⟩
            obtain ⟨g48, h⟩ := ite_some h
            refine hw 10 _ ?_
            show kd 45 = 1 ∧ (inb (σ46 6 22) 20 = true ∧ (K (71, [.ref 6, .int p0, .int r1, .int 0, .int 0, .null], [], mput σ46 45 (ix (σ46 6 22)) p0)))
            refine ⟨rfl, g48, ?_⟩
            refine t_X6_perform_71 hw hf p0 r1 _ _ lf 0 0 (mput σ46 45 (ix (σ46 6 22)) p0) h (fun v49 v50 σ51 h => ?_)
            show K (125, [.ref 6, .int p0, .int r1, .int v49, .int v50, .null], [], σ51)
            obtain ⟨r52, σ53, e54, h⟩ := bnd_some h
            refine hw 9 _ ?_
            show ∃ r52 σ53, f_X6_wears p0 (mput σ51 6 22 ((σ51 6 22) + 1)) = some (r52, σ53) ∧ K (140, [.ref 6, .int p0, .int r1, .int v49, .int v50, .null], [], σ53)
            refine ⟨r52, σ53, e54, ?_⟩
            obtain rfl := Option.some.inj h
            refine hw 2 _ ?_
            show Qa v49 σ53
            refine hQ
          · refine hw 1 _ ?_
            show ((¬ r38 = 0) → K (47, [.ref 6, .int p0, .int r1, .null, .null, .null], [], σ39)) ∧ (¬ (¬ r38 = 0) → K (45, [.ref 6, .int p0, .int r1, .null, .null, .null], [], σ39))
            refine ⟨fun q => absurd q c41, fun _ => ?_⟩
            obtain rfl := Option.some.inj h
            refine hw 2 _ ?_
            show Qa 0 σ39
            refine hQ
        · refine hw 4 _ ?_
          show ((¬ (σ6 6 22) = 20) → K (38, [.ref 6, .int p0, .int r1, .null, .null, .null], [.ref 6], σ6)) ∧ (¬ (¬ (σ6 6 22) = 20) → K (34, [.ref 6, .int p0, .int r1, .null, .null, .null], [.ref 6], σ6))
          refine ⟨fun q => absurd q c37, fun _ => ?_⟩
          obtain ⟨r55, σ56, e57, h⟩ := bnd_some h
          refine hw 3 _ ?_
          show ∃ r55 σ56, f_X6_isFine 2 σ6 = some (r55, σ56) ∧ K (42, [.ref 6, .int p0, .int r1, .null, .null, .null], [.int r55], σ56)
          refine ⟨r55, σ56, e57, ?_⟩
          rcases ite_cases h with ⟨c58, h⟩ | ⟨c58, h⟩
          · refine hw 1 _ ?_
            show ((¬ r55 = 0) → K (47, [.ref 6, .int p0, .int r1, .null, .null, .null], [], σ56)) ∧ (¬ (¬ r55 = 0) → K (45, [.ref 6, .int p0, .int r1, .null, .null, .null], [], σ56))
            refine ⟨fun _ => ?_, fun q => absurd c58 q⟩
            obtain ⟨r59, σ60, e61, h⟩ := bnd_some h
            refine hw 2 _ ?_
            show ∃ r59 σ60, f_X6_plays σ56 = some (r59, σ60) ∧ K (51, [.ref 6, .int p0, .int r1, .null, .null, .null], [], σ60)
            refine ⟨r59, σ60, e61, ?_⟩
            obtain ⟨r62, σ63, e64, h⟩ := bnd_some h
            refine hw 3 _ ?_
            show ∃ r62 σ63, f_X6_laysAll p0 σ60 = some (r62, σ63) ∧ K (56, [.ref 6, .int p0, .int r1, .null, .null, .null], [], σ63)
            refine ⟨r62, σ63, e64, ?_⟩
            obtain ⟨g65, h⟩ := ite_some h
            refine hw 10 _ ?_
            show kd 45 = 1 ∧ (inb (σ63 6 22) 20 = true ∧ (K (71, [.ref 6, .int p0, .int r1, .int 0, .int 0, .null], [], mput σ63 45 (ix (σ63 6 22)) p0)))
            refine ⟨rfl, g65, ?_⟩
            refine t_X6_perform_71 hw hf p0 r1 _ _ lf 0 0 (mput σ63 45 (ix (σ63 6 22)) p0) h (fun v66 v67 σ68 h => ?_)
            show K (125, [.ref 6, .int p0, .int r1, .int v66, .int v67, .null], [], σ68)
            obtain ⟨r69, σ70, e71, h⟩ := bnd_some h
            refine hw 9 _ ?_
            show ∃ r69 σ70, f_X6_wears p0 (mput σ68 6 22 ((σ68 6 22) + 1)) = some (r69, σ70) ∧ K (140, [.ref 6, .int p0, .int r1, .int v66, .int v67, .null], [], σ70)
            refine ⟨r69, σ70, e71, ?_⟩
            obtain rfl := Option.some.inj h
            refine hw 2 _ ?_
            show Qa v66 σ70
            refine hQ
          · refine hw 1 _ ?_
            show ((¬ r55 = 0) → K (47, [.ref 6, .int p0, .int r1, .null, .null, .null], [], σ56)) ∧ (¬ (¬ r55 = 0) → K (45, [.ref 6, .int p0, .int r1, .null, .null, .null], [], σ56))
            refine ⟨fun q => absurd q c58, fun _ => ?_⟩
            obtain rfl := Option.some.inj h
            refine hw 2 _ ?_
            show Qa 0 σ56
            refine hQ
    · refine hw 4 _ ?_
      show ((¬ r1 = 0) → K (14, [.ref 6, .int p0, .int r1, .null, .null, .null], [.ref 6], σ2)) ∧ (¬ (¬ r1 = 0) → K (10, [.ref 6, .int p0, .int r1, .null, .null, .null], [.ref 6], σ2))
      refine ⟨fun q => absurd q c4, fun _ => ?_⟩
      obtain ⟨r72, σ73, e74, h⟩ := bnd_some h
      refine hw 3 _ ?_
      show ∃ r72 σ73, f_X6_isFine 1 σ2 = some (r72, σ73) ∧ K (42, [.ref 6, .int p0, .int r1, .null, .null, .null], [.int r72], σ73)
      refine ⟨r72, σ73, e74, ?_⟩
      rcases ite_cases h with ⟨c75, h⟩ | ⟨c75, h⟩
      · refine hw 1 _ ?_
        show ((¬ r72 = 0) → K (47, [.ref 6, .int p0, .int r1, .null, .null, .null], [], σ73)) ∧ (¬ (¬ r72 = 0) → K (45, [.ref 6, .int p0, .int r1, .null, .null, .null], [], σ73))
        refine ⟨fun _ => ?_, fun q => absurd c75 q⟩
        obtain ⟨r76, σ77, e78, h⟩ := bnd_some h
        refine hw 2 _ ?_
        show ∃ r76 σ77, f_X6_plays σ73 = some (r76, σ77) ∧ K (51, [.ref 6, .int p0, .int r1, .null, .null, .null], [], σ77)
        refine ⟨r76, σ77, e78, ?_⟩
        obtain ⟨r79, σ80, e81, h⟩ := bnd_some h
        refine hw 3 _ ?_
        show ∃ r79 σ80, f_X6_laysAll p0 σ77 = some (r79, σ80) ∧ K (56, [.ref 6, .int p0, .int r1, .null, .null, .null], [], σ80)
        refine ⟨r79, σ80, e81, ?_⟩
        obtain ⟨g82, h⟩ := ite_some h
        refine hw 10 _ ?_
        show kd 45 = 1 ∧ (inb (σ80 6 22) 20 = true ∧ (K (71, [.ref 6, .int p0, .int r1, .int 0, .int 0, .null], [], mput σ80 45 (ix (σ80 6 22)) p0)))
        refine ⟨rfl, g82, ?_⟩
        refine t_X6_perform_71 hw hf p0 r1 _ _ lf 0 0 (mput σ80 45 (ix (σ80 6 22)) p0) h (fun v83 v84 σ85 h => ?_)
        show K (125, [.ref 6, .int p0, .int r1, .int v83, .int v84, .null], [], σ85)
        obtain ⟨r86, σ87, e88, h⟩ := bnd_some h
        refine hw 9 _ ?_
        show ∃ r86 σ87, f_X6_wears p0 (mput σ85 6 22 ((σ85 6 22) + 1)) = some (r86, σ87) ∧ K (140, [.ref 6, .int p0, .int r1, .int v83, .int v84, .null], [], σ87)
        refine ⟨r86, σ87, e88, ?_⟩
        obtain rfl := Option.some.inj h
        refine hw 2 _ ?_
        show Qa v83 σ87
        refine hQ
      · refine hw 1 _ ?_
        show ((¬ r72 = 0) → K (47, [.ref 6, .int p0, .int r1, .null, .null, .null], [], σ73)) ∧ (¬ (¬ r72 = 0) → K (45, [.ref 6, .int p0, .int r1, .null, .null, .null], [], σ73))
        refine ⟨fun q => absurd q c75, fun _ => ?_⟩
        obtain rfl := Option.some.inj h
        refine hw 2 _ ?_
        show Qa 0 σ73
        refine hQ
  · cases h
theorem h_X6_perform : shp [.ref 6] 6 F_X6_perform := by
  intro As σ r σ' h
  unfold F_X6_perform at h
  split at h
  · exact ⟨by simp [Value.category], Nat.le_of_ble_eq_true rfl⟩
  · cases h
set_option maxHeartbeats 4000000 in
set_option maxRecDepth 100000 in
theorem c_X6_perform (l : Launch) (D : va_G) (cI cZ cA cL : ClassId) (ad : Nat → Nat) (hi : adI ad) : CtI l yX6_perform wsX6_perform { frames := 5, cells := 0, slots := 0, locals := 121 } D cI cZ cA cL ad [.ref 6] F_X6_perform := by
  refine mk_I [.ref 6] F_X6_perform T_X6_perform (by decide +kernel) rfl ?_ h_X6_perform s_X6_perform
  intro p e s m args below meth c Qa ⟨hx, hb, hml, hown, hts, hr, hlocks, hK, hN⟩
  have hin6 : ∀ w ∈ u_ws RX6 TX6 30, w ∈ wsX6_perform := by decide +kernel
  have hl87 : (Cond.fieldLink RX6 87 RX6 (TX6 4).2.1 (TX6 4).2.2.1) ∈ wsX6_perform := by decide +kernel
  have hl193 : (Cond.fieldLink RX6 193 RX6 (TX6 22).2.1 (TX6 22).2.2.1) ∈ wsX6_perform := by decide +kernel
  have hl59 : (Cond.fieldLink RX6 59 RX6 (TX6 20).2.1 (TX6 20).2.2.1) ∈ wsX6_perform := by decide +kernel
  have hl62 : (Cond.fieldLink RX6 62 RX6 (TX6 21).2.1 (TX6 21).2.2.1) ∈ wsX6_perform := by decide +kernel
  refine ruL_c (n := 0) (n2 := 1) rfl (ru_iload_n (k := 1) hx hb dX6_perform_0) ?_
  refine ruL_c (n := 1) (n2 := 2) rfl (ru_callS hx hb hml hown hts hK hN (c_X6_isStage l D cI cZ cA cL ad hi) (va_cwS 1 hts gX6_perform_X6_isStage rfl rfl rfl (by decide +kernel) ⟨Nat.le_of_ble_eq_true rfl, Nat.le_of_ble_eq_true rfl⟩) dX6_perform_1 ⟨Nat.zero_le _, Nat.zero_le _⟩) ?_
  refine ruL_c (n := 2) (n2 := 3) rfl (ru_bot) ?_
  refine ruL_c (n := 3) (n2 := 4) rfl (ru_bot) ?_
  refine ruL_c (n := 4) (n2 := 5) rfl (ru_istore_n (k := 2) hx hb dX6_perform_4) ?_
  refine ruL_c (n := 5) (n2 := 6) rfl (ru_aload_n (k := 0) hx hb dX6_perform_5) ?_
  refine ruL_c (n := 6) (n2 := 7) rfl (ru_iload_n (k := 2) hx hb dX6_perform_6) ?_
  refine ruL_c (n := 7) (n2 := 8) rfl (ru_ifne hx hb dX6_perform_7 (by decide)) ?_
  refine ruL_c (n := 8) (n2 := 9) rfl (ru_bot) ?_
  refine ruL_c (n := 9) (n2 := 10) rfl (ru_bot) ?_
  refine ruL_c (n := 10) (n2 := 11) rfl (ru_iconst hx hb dX6_perform_10 rfl) ?_
  refine ruL_c (n := 11) (n2 := 12) rfl (ru_goto hx hb dX6_perform_11 (by decide)) ?_
  refine ruL_c (n := 12) (n2 := 13) rfl (ru_bot) ?_
  refine ruL_c (n := 13) (n2 := 14) rfl (ru_bot) ?_
  refine ruL_c (n := 14) (n2 := 15) rfl (ru_aload_n (k := 0) hx hb dX6_perform_14) ?_
  refine ruL_c (n := 15) (n2 := 16) rfl (ru_aload_n (k := 0) hx hb dX6_perform_15) ?_
  refine ruL_c (n := 16) (n2 := 17) rfl (ru_getI (own := RX6) (j := 4) (T := TX6) hx hb hown hK hts hin6 (by decide) rfl rfl (by decide) rfl hl87 dX6_perform_16) ?_
  refine ruL_c (n := 17) (n2 := 18) rfl (ru_bot) ?_
  refine ruL_c (n := 18) (n2 := 19) rfl (ru_bot) ?_
  refine ruL_c (n := 19) (n2 := 20) rfl (ru_callV hx hb hml hown hts hK hN (by decide) rfl (c_X6_ahead l D cI cZ cA cL ad hi) (cwV 1 hts gX6_perform_X6_ahead rfl rfl rfl (by decide +kernel) ⟨Nat.le_of_ble_eq_true rfl, Nat.le_of_ble_eq_true rfl⟩) dX6_perform_19 ⟨Nat.zero_le _, Nat.zero_le _⟩) ?_
  refine ruL_c (n := 20) (n2 := 21) rfl (ru_bot) ?_
  refine ruL_c (n := 21) (n2 := 22) rfl (ru_bot) ?_
  refine ruL_c (n := 22) (n2 := 23) rfl (ru_ifeq hx hb dX6_perform_22 (by decide)) ?_
  refine ruL_c (n := 23) (n2 := 24) rfl (ru_bot) ?_
  refine ruL_c (n := 24) (n2 := 25) rfl (ru_bot) ?_
  refine ruL_c (n := 25) (n2 := 26) rfl (ru_aload_n (k := 0) hx hb dX6_perform_25) ?_
  refine ruL_c (n := 26) (n2 := 27) rfl (ru_getI (own := RX6) (j := 22) (T := TX6) hx hb hown hK hts hin6 (by decide) rfl rfl (by decide) rfl hl193 dX6_perform_26) ?_
  refine ruL_c (n := 27) (n2 := 28) rfl (ru_bot) ?_
  refine ruL_c (n := 28) (n2 := 29) rfl (ru_bot) ?_
  refine ruL_c (n := 29) (n2 := 30) rfl (ru_bipush hx hb dX6_perform_29 rfl) ?_
  refine ruL_c (n := 30) (n2 := 31) rfl (ru_bot) ?_
  refine ruL_c (n := 31) (n2 := 32) rfl (ru_icmpne hx hb dX6_perform_31 (by decide)) ?_
  refine ruL_c (n := 32) (n2 := 33) rfl (ru_bot) ?_
  refine ruL_c (n := 33) (n2 := 34) rfl (ru_bot) ?_
  refine ruL_c (n := 34) (n2 := 35) rfl (ru_iconst hx hb dX6_perform_34 rfl) ?_
  refine ruL_c (n := 35) (n2 := 36) rfl (ru_goto hx hb dX6_perform_35 (by decide)) ?_
  refine ruL_c (n := 36) (n2 := 37) rfl (ru_bot) ?_
  refine ruL_c (n := 37) (n2 := 38) rfl (ru_bot) ?_
  refine ruL_c (n := 38) (n2 := 39) rfl (ru_iconst hx hb dX6_perform_38 rfl) ?_
  refine ruL_c (n := 39) (n2 := 40) rfl (ru_callV hx hb hml hown hts hK hN (by decide) rfl (c_X6_isFine l D cI cZ cA cL ad hi) (cwV 1 hts gX6_perform_X6_isFine rfl rfl rfl (by decide +kernel) ⟨Nat.le_of_ble_eq_true rfl, Nat.le_of_ble_eq_true rfl⟩) dX6_perform_39 ⟨Nat.zero_le _, Nat.zero_le _⟩) ?_
  refine ruL_c (n := 40) (n2 := 41) rfl (ru_bot) ?_
  refine ruL_c (n := 41) (n2 := 42) rfl (ru_bot) ?_
  refine ruL_c (n := 42) (n2 := 43) rfl (ru_ifne hx hb dX6_perform_42 (by decide)) ?_
  refine ruL_c (n := 43) (n2 := 44) rfl (ru_bot) ?_
  refine ruL_c (n := 44) (n2 := 45) rfl (ru_bot) ?_
  refine ruL_c (n := 45) (n2 := 46) rfl (ru_iconst hx hb dX6_perform_45 rfl) ?_
  refine ruL_c (n := 46) (n2 := 47) rfl (ru_iret hx hb hK hr hlocks dX6_perform_46) ?_
  refine ruL_c (n := 47) (n2 := 48) rfl (ru_aload_n (k := 0) hx hb dX6_perform_47) ?_
  refine ruL_c (n := 48) (n2 := 49) rfl (ru_callVv hx hb hml hown hts hK hN (by decide) rfl (c_X6_plays l D cI cZ cA cL ad hi) (cwV 0 hts gX6_perform_X6_plays rfl rfl rfl (by decide +kernel) ⟨Nat.le_of_ble_eq_true rfl, Nat.le_of_ble_eq_true rfl⟩) dX6_perform_48 ⟨Nat.zero_le _, Nat.zero_le _⟩) ?_
  refine ruL_c (n := 49) (n2 := 50) rfl (ru_bot) ?_
  refine ruL_c (n := 50) (n2 := 51) rfl (ru_bot) ?_
  refine ruL_c (n := 51) (n2 := 52) rfl (ru_aload_n (k := 0) hx hb dX6_perform_51) ?_
  refine ruL_c (n := 52) (n2 := 53) rfl (ru_iload_n (k := 1) hx hb dX6_perform_52) ?_
  refine ruL_c (n := 53) (n2 := 54) rfl (ru_callVv hx hb hml hown hts hK hN (by decide) rfl (c_X6_laysAll l D cI cZ cA cL ad hi) (cwV 1 hts gX6_perform_X6_laysAll rfl rfl rfl (by decide +kernel) ⟨Nat.le_of_ble_eq_true rfl, Nat.le_of_ble_eq_true rfl⟩) dX6_perform_53 ⟨Nat.zero_le _, Nat.zero_le _⟩) ?_
  refine ruL_c (n := 54) (n2 := 55) rfl (ru_bot) ?_
  refine ruL_c (n := 55) (n2 := 56) rfl (ru_bot) ?_
  refine ruL_c (n := 56) (n2 := 57) rfl (ru_aload_n (k := 0) hx hb dX6_perform_56) ?_
  refine ruL_c (n := 57) (n2 := 58) rfl (ru_getR (own := RX6) (j := 20) (T := TX6) hx hb hown hK hts hin6 (by decide) rfl rfl (by decide) rfl hl59 dX6_perform_57) ?_
  refine ruL_c (n := 58) (n2 := 59) rfl (ru_bot) ?_
  refine ruL_c (n := 59) (n2 := 60) rfl (ru_bot) ?_
  refine ruL_c (n := 60) (n2 := 61) rfl (ru_aload_n (k := 0) hx hb dX6_perform_60) ?_
  refine ruL_c (n := 61) (n2 := 62) rfl (ru_getI (own := RX6) (j := 22) (T := TX6) hx hb hown hK hts hin6 (by decide) rfl rfl (by decide) rfl hl193 dX6_perform_61) ?_
  refine ruL_c (n := 62) (n2 := 63) rfl (ru_bot) ?_
  refine ruL_c (n := 63) (n2 := 64) rfl (ru_bot) ?_
  refine ruL_c (n := 64) (n2 := 65) rfl (ru_iload_n (k := 1) hx hb dX6_perform_64) ?_
  refine ruL_c (n := 65) (n2 := 66) rfl (ru_iast hx hb hK hi dX6_perform_65) ?_
  refine ruL_c (n := 66) (n2 := 67) rfl (ru_iconst hx hb dX6_perform_66 rfl) ?_
  refine ruL_c (n := 67) (n2 := 68) rfl (ru_istore_n (k := 3) hx hb dX6_perform_67) ?_
  refine ruL_c (n := 68) (n2 := 69) rfl (ru_iconst hx hb dX6_perform_68 rfl) ?_
  refine ruL_c (n := 69) (n2 := 70) rfl (ru_istore hx hb dX6_perform_69) ?_
  refine ruL_c (n := 70) (n2 := 71) rfl (ru_bot) ?_
  refine ruL_c (n := 71) (n2 := 72) rfl (ru_iload hx hb dX6_perform_71) ?_
  refine ruL_c (n := 72) (n2 := 73) rfl (ru_bot) ?_
  refine ruL_c (n := 73) (n2 := 74) rfl (ru_aload_n (k := 0) hx hb dX6_perform_73) ?_
  refine ruL_c (n := 74) (n2 := 75) rfl (ru_getI (own := RX6) (j := 4) (T := TX6) hx hb hown hK hts hin6 (by decide) rfl rfl (by decide) rfl hl87 dX6_perform_74) ?_
  refine ruL_c (n := 75) (n2 := 76) rfl (ru_bot) ?_
  refine ruL_c (n := 76) (n2 := 77) rfl (ru_bot) ?_
  refine ruL_c (n := 77) (n2 := 78) rfl (ru_icmpge hx hb dX6_perform_77 (by decide)) ?_
  refine ruL_c (n := 78) (n2 := 79) rfl (ru_bot) ?_
  refine ruL_c (n := 79) (n2 := 80) rfl (ru_bot) ?_
  refine ruL_c (n := 80) (n2 := 81) rfl (ru_aload_n (k := 0) hx hb dX6_perform_80) ?_
  refine ruL_c (n := 81) (n2 := 82) rfl (ru_iload_n (k := 1) hx hb dX6_perform_81) ?_
  refine ruL_c (n := 82) (n2 := 83) rfl (ru_iload hx hb dX6_perform_82) ?_
  refine ruL_c (n := 83) (n2 := 84) rfl (ru_bot) ?_
  refine ruL_c (n := 84) (n2 := 85) rfl (ru_callV hx hb hml hown hts hK hN (by decide) rfl (c_X6_shorts l D cI cZ cA cL ad hi) (cwV 2 hts gX6_perform_X6_shorts rfl rfl rfl (by decide +kernel) ⟨Nat.le_of_ble_eq_true rfl, Nat.le_of_ble_eq_true rfl⟩) dX6_perform_84 ⟨Nat.zero_le _, Nat.zero_le _⟩) ?_
  refine ruL_c (n := 85) (n2 := 86) rfl (ru_bot) ?_
  refine ruL_c (n := 86) (n2 := 87) rfl (ru_bot) ?_
  refine ruL_c (n := 87) (n2 := 88) rfl (ru_istore hx hb dX6_perform_87) ?_
  refine ruL_c (n := 88) (n2 := 89) rfl (ru_bot) ?_
  refine ruL_c (n := 89) (n2 := 90) rfl (ru_aload_n (k := 0) hx hb dX6_perform_89) ?_
  refine ruL_c (n := 90) (n2 := 91) rfl (ru_getR (own := RX6) (j := 21) (T := TX6) hx hb hown hK hts hin6 (by decide) rfl rfl (by decide) rfl hl62 dX6_perform_90) ?_
  refine ruL_c (n := 91) (n2 := 92) rfl (ru_bot) ?_
  refine ruL_c (n := 92) (n2 := 93) rfl (ru_bot) ?_
  refine ruL_c (n := 93) (n2 := 94) rfl (ru_bipush hx hb dX6_perform_93 rfl) ?_
  refine ruL_c (n := 94) (n2 := 95) rfl (ru_bot) ?_
  refine ruL_c (n := 95) (n2 := 96) rfl (ru_aload_n (k := 0) hx hb dX6_perform_95) ?_
  refine ruL_c (n := 96) (n2 := 97) rfl (ru_getI (own := RX6) (j := 22) (T := TX6) hx hb hown hK hts hin6 (by decide) rfl rfl (by decide) rfl hl193 dX6_perform_96) ?_
  refine ruL_c (n := 97) (n2 := 98) rfl (ru_bot) ?_
  refine ruL_c (n := 98) (n2 := 99) rfl (ru_bot) ?_
  refine ruL_c (n := 99) (n2 := 100) rfl (ru_imul hx hb dX6_perform_99) ?_
  refine ruL_c (n := 100) (n2 := 101) rfl (ru_iload hx hb dX6_perform_100) ?_
  refine ruL_c (n := 101) (n2 := 102) rfl (ru_bot) ?_
  refine ruL_c (n := 102) (n2 := 103) rfl (ru_iadd hx hb dX6_perform_102) ?_
  refine ruL_c (n := 103) (n2 := 104) rfl (ru_iload hx hb dX6_perform_103) ?_
  refine ruL_c (n := 104) (n2 := 105) rfl (ru_bot) ?_
  refine ruL_c (n := 105) (n2 := 106) rfl (ru_iast hx hb hK hi dX6_perform_105) ?_
  refine ruL_c (n := 106) (n2 := 107) rfl (ru_iload_n (k := 3) hx hb dX6_perform_106) ?_
  refine ruL_c (n := 107) (n2 := 108) rfl (ru_iload hx hb dX6_perform_107) ?_
  refine ruL_c (n := 108) (n2 := 109) rfl (ru_bot) ?_
  refine ruL_c (n := 109) (n2 := 110) rfl (ru_ifeq hx hb dX6_perform_109 (by decide)) ?_
  refine ruL_c (n := 110) (n2 := 111) rfl (ru_bot) ?_
  refine ruL_c (n := 111) (n2 := 112) rfl (ru_bot) ?_
  refine ruL_c (n := 112) (n2 := 113) rfl (ru_iconst hx hb dX6_perform_112 rfl) ?_
  refine ruL_c (n := 113) (n2 := 114) rfl (ru_goto hx hb dX6_perform_113 (by decide)) ?_
  refine ruL_c (n := 114) (n2 := 115) rfl (ru_bot) ?_
  refine ruL_c (n := 115) (n2 := 116) rfl (ru_bot) ?_
  refine ruL_c (n := 116) (n2 := 117) rfl (ru_iconst hx hb dX6_perform_116 rfl) ?_
  refine ruL_c (n := 117) (n2 := 118) rfl (ru_iadd hx hb dX6_perform_117) ?_
  refine ruL_c (n := 118) (n2 := 119) rfl (ru_istore_n (k := 3) hx hb dX6_perform_118) ?_
  refine ruL_c (n := 119) (n2 := 120) rfl (ru_iinc hx hb dX6_perform_119 rfl) ?_
  refine ruL_c (n := 120) (n2 := 121) rfl (ru_bot) ?_
  refine ruL_c (n := 121) (n2 := 122) rfl (ru_bot) ?_
  refine ruL_c (n := 122) (n2 := 123) rfl (ru_goto hx hb dX6_perform_122 (by decide)) ?_
  refine ruL_c (n := 123) (n2 := 124) rfl (ru_bot) ?_
  refine ruL_c (n := 124) (n2 := 125) rfl (ru_bot) ?_
  refine ruL_c (n := 125) (n2 := 126) rfl (ru_aload_n (k := 0) hx hb dX6_perform_125) ?_
  refine ruL_c (n := 126) (n2 := 127) rfl (ru_dup hx hb dX6_perform_126) ?_
  refine ruL_c (n := 127) (n2 := 128) rfl (ru_getI (own := RX6) (j := 22) (T := TX6) hx hb hown hK hts hin6 (by decide) rfl rfl (by decide) rfl hl193 dX6_perform_127) ?_
  refine ruL_c (n := 128) (n2 := 129) rfl (ru_bot) ?_
  refine ruL_c (n := 129) (n2 := 130) rfl (ru_bot) ?_
  refine ruL_c (n := 130) (n2 := 131) rfl (ru_iconst hx hb dX6_perform_130 rfl) ?_
  refine ruL_c (n := 131) (n2 := 132) rfl (ru_iadd hx hb dX6_perform_131) ?_
  refine ruL_c (n := 132) (n2 := 133) rfl (ru_putI (own := RX6) (j := 22) (T := TX6) hx hb hown hK hi hts hin6 tyX6 tyX6_ok nmX6 (by decide) rfl rfl (by decide) rfl hl193 rfl (by decide +kernel) dX6_perform_132) ?_
  refine ruL_c (n := 133) (n2 := 134) rfl (ru_bot) ?_
  refine ruL_c (n := 134) (n2 := 135) rfl (ru_bot) ?_
  refine ruL_c (n := 135) (n2 := 136) rfl (ru_aload_n (k := 0) hx hb dX6_perform_135) ?_
  refine ruL_c (n := 136) (n2 := 137) rfl (ru_iload_n (k := 1) hx hb dX6_perform_136) ?_
  refine ruL_c (n := 137) (n2 := 138) rfl (ru_callVv hx hb hml hown hts hK hN (by decide) rfl (c_X6_wears l D cI cZ cA cL ad hi) (cwV 1 hts gX6_perform_X6_wears rfl rfl rfl (by decide +kernel) ⟨Nat.le_of_ble_eq_true rfl, Nat.le_of_ble_eq_true rfl⟩) dX6_perform_137 ⟨Nat.zero_le _, Nat.zero_le _⟩) ?_
  refine ruL_c (n := 138) (n2 := 139) rfl (ru_bot) ?_
  refine ruL_c (n := 139) (n2 := 140) rfl (ru_bot) ?_
  refine ruL_c (n := 140) (n2 := 141) rfl (ru_iload_n (k := 3) hx hb dX6_perform_140) ?_
  refine ruL_c (n := 141) (n2 := 142) rfl (ru_iret hx hb hK hr hlocks dX6_perform_141) ?_
  exact trivial

-- CueTourModel.logs
def f_X6_logs (σ : aM) : Option (Int32 × aM) := some (σ 6 22, mput σ 6 0 0)
def F_X6_logs : aF := fun As σ => match As with
  | [] => f_X6_logs σ
  | _ => none
def T_X6_logs (Qa : Int32 → aM → Prop) : List aI := [I_aload 0 1, I_const 0 1, I_putI 6 0, I_bot, I_bot, I_aload 0 1, I_getI 6 22, I_bot, I_bot, I_iret Qa]
set_option maxHeartbeats 4000000 in
set_option maxRecDepth 100000 in
theorem s_X6_logs : runs T_X6_logs [.ref 6] 1 F_X6_logs := by
  intro Qa K hw hf As σ r σ' h hQ
  unfold F_X6_logs at h
  split at h
  · unfold f_X6_logs at h
    have hQ : Qa (r, σ').1 (r, σ').2 := hQ
    generalize (r, σ') = y at h hQ
    show K (0, [.ref 6], [], σ)
    obtain rfl := Option.some.inj h
    refine hw 6 _ ?_
    show Qa (σ 6 22) (mput σ 6 0 0)
    refine hQ
  · cases h
theorem h_X6_logs : shp [.ref 6] 1 F_X6_logs := by
  intro As σ r σ' h
  unfold F_X6_logs at h
  split at h
  · exact ⟨by simp [Value.category], Nat.le_of_ble_eq_true rfl⟩
  · cases h
set_option maxHeartbeats 4000000 in
set_option maxRecDepth 100000 in
theorem c_X6_logs (l : Launch) (D : va_G) (cI cZ cA cL : ClassId) (ad : Nat → Nat) (hi : adI ad) : CtI l yX6_logs wsX6_logs { frames := 0, cells := 0, slots := 0, locals := 0 } D cI cZ cA cL ad [.ref 6] F_X6_logs := by
  refine mk_I [.ref 6] F_X6_logs T_X6_logs (by decide +kernel) rfl ?_ h_X6_logs s_X6_logs
  intro p e s m args below meth c Qa ⟨hx, hb, hml, hown, hts, hr, hlocks, hK, hN⟩
  have hin6 : ∀ w ∈ u_ws RX6 TX6 30, w ∈ wsX6_logs := by decide +kernel
  have hl83 : (Cond.fieldLink RX6 83 RX6 (TX6 0).2.1 (TX6 0).2.2.1) ∈ wsX6_logs := by decide +kernel
  have hl193 : (Cond.fieldLink RX6 193 RX6 (TX6 22).2.1 (TX6 22).2.2.1) ∈ wsX6_logs := by decide +kernel
  refine ruL_c (n := 0) (n2 := 1) rfl (ru_aload_n (k := 0) hx hb dX6_logs_0) ?_
  refine ruL_c (n := 1) (n2 := 2) rfl (ru_iconst hx hb dX6_logs_1 rfl) ?_
  refine ruL_c (n := 2) (n2 := 3) rfl (ru_putI (own := RX6) (j := 0) (T := TX6) hx hb hown hK hi hts hin6 tyX6 tyX6_ok nmX6 (by decide) rfl rfl (by decide) rfl hl83 rfl (by decide +kernel) dX6_logs_2) ?_
  refine ruL_c (n := 3) (n2 := 4) rfl (ru_bot) ?_
  refine ruL_c (n := 4) (n2 := 5) rfl (ru_bot) ?_
  refine ruL_c (n := 5) (n2 := 6) rfl (ru_aload_n (k := 0) hx hb dX6_logs_5) ?_
  refine ruL_c (n := 6) (n2 := 7) rfl (ru_getI (own := RX6) (j := 22) (T := TX6) hx hb hown hK hts hin6 (by decide) rfl rfl (by decide) rfl hl193 dX6_logs_6) ?_
  refine ruL_c (n := 7) (n2 := 8) rfl (ru_bot) ?_
  refine ruL_c (n := 8) (n2 := 9) rfl (ru_bot) ?_
  refine ruL_c (n := 9) (n2 := 10) rfl (ru_iret hx hb hK hr hlocks dX6_logs_9) ?_
  exact trivial

-- CueTourModel.isLog
def f_X6_isLog (p0 : Int32) (σ : aM) : Option (Int32 × aM) := bnd (f_X6_isIn p0 0 ((σ 6 22) - 1) σ) (fun r1 σ2 => if r1 = 0 ∨ r1 = 1 then some (r1, σ2) else none)
def F_X6_isLog : aF := fun As σ => match As with
  | [.int p0] => f_X6_isLog p0 σ
  | _ => none
def T_X6_isLog (Qa : Int32 → aM → Prop) : List aI := [I_iload 1 1, I_const 0 1, I_aload 0 1, I_getI 6 22, I_bot, I_bot, I_const 1 1, I_bin fun x y => x - y, I_callS 3 F_X6_isIn, I_bot, I_bot, I_zret Qa]
set_option maxHeartbeats 4000000 in
set_option maxRecDepth 100000 in
theorem s_X6_isLog : runs T_X6_isLog [.ref 6] 2 F_X6_isLog := by
  intro Qa K hw hf As σ r σ' h hQ
  unfold F_X6_isLog at h
  split at h
  · rename_i p0
    unfold f_X6_isLog at h
    have hQ : Qa (r, σ').1 (r, σ').2 := hQ
    generalize (r, σ') = y at h hQ
    show K (0, [.ref 6, .int p0], [], σ)
    obtain ⟨r1, σ2, e3, h⟩ := bnd_some h
    refine hw 7 _ ?_
    show ∃ r1 σ2, f_X6_isIn p0 0 ((σ 6 22) - 1) σ = some (r1, σ2) ∧ K (11, [.ref 6, .int p0], [.int r1], σ2)
    refine ⟨r1, σ2, e3, ?_⟩
    obtain ⟨g4, h⟩ := ite_some h
    obtain rfl := Option.some.inj h
    refine hw 1 _ ?_
    show (r1 = 0 ∨ r1 = 1) ∧ (Qa r1 σ2)
    refine ⟨g4, hQ⟩
  · cases h
theorem h_X6_isLog : shp [.ref 6] 2 F_X6_isLog := by
  intro As σ r σ' h
  unfold F_X6_isLog at h
  split at h
  · exact ⟨by simp [Value.category], Nat.le_of_ble_eq_true rfl⟩
  · cases h
set_option maxHeartbeats 4000000 in
set_option maxRecDepth 100000 in
theorem c_X6_isLog (l : Launch) (D : va_G) (cI cZ cA cL : ClassId) (ad : Nat → Nat) (hi : adI ad) : CtI l yX6_isLog wsX6_isLog { frames := 1, cells := 0, slots := 0, locals := 22 } D cI cZ cA cL ad [.ref 6] F_X6_isLog := by
  refine mk_I [.ref 6] F_X6_isLog T_X6_isLog (by decide +kernel) rfl ?_ h_X6_isLog s_X6_isLog
  intro p e s m args below meth c Qa ⟨hx, hb, hml, hown, hts, hr, hlocks, hK, hN⟩
  have hin6 : ∀ w ∈ u_ws RX6 TX6 30, w ∈ wsX6_isLog := by decide +kernel
  have hl193 : (Cond.fieldLink RX6 193 RX6 (TX6 22).2.1 (TX6 22).2.2.1) ∈ wsX6_isLog := by decide +kernel
  refine ruL_c (n := 0) (n2 := 1) rfl (ru_iload_n (k := 1) hx hb dX6_isLog_0) ?_
  refine ruL_c (n := 1) (n2 := 2) rfl (ru_iconst hx hb dX6_isLog_1 rfl) ?_
  refine ruL_c (n := 2) (n2 := 3) rfl (ru_aload_n (k := 0) hx hb dX6_isLog_2) ?_
  refine ruL_c (n := 3) (n2 := 4) rfl (ru_getI (own := RX6) (j := 22) (T := TX6) hx hb hown hK hts hin6 (by decide) rfl rfl (by decide) rfl hl193 dX6_isLog_3) ?_
  refine ruL_c (n := 4) (n2 := 5) rfl (ru_bot) ?_
  refine ruL_c (n := 5) (n2 := 6) rfl (ru_bot) ?_
  refine ruL_c (n := 6) (n2 := 7) rfl (ru_iconst hx hb dX6_isLog_6 rfl) ?_
  refine ruL_c (n := 7) (n2 := 8) rfl (ru_isub hx hb dX6_isLog_7) ?_
  refine ruL_c (n := 8) (n2 := 9) rfl (ru_callS hx hb hml hown hts hK hN (c_X6_isIn l D cI cZ cA cL ad hi) (va_cwS 3 hts gX6_isLog_X6_isIn rfl rfl rfl (by decide +kernel) ⟨Nat.le_of_ble_eq_true rfl, Nat.le_of_ble_eq_true rfl⟩) dX6_isLog_8 ⟨Nat.zero_le _, Nat.zero_le _⟩) ?_
  refine ruL_c (n := 9) (n2 := 10) rfl (ru_bot) ?_
  refine ruL_c (n := 10) (n2 := 11) rfl (ru_bot) ?_
  refine ruL_c (n := 11) (n2 := 12) rfl (ru_zret hx hb hK hr hlocks dX6_isLog_11) ?_
  exact trivial

-- CueTourModel.stageOf
def f_X6_stageOf (p0 : Int32) (σ : aM) : Option (Int32 × aM) := bnd (f_X6_isLog p0 σ) (fun r1 σ2 => if r1 = 0 then bnd (f_X6_isFine 1 σ2) (fun r5 σ6 => if r5 = 0 then some (0, σ6) else if inb p0 20 = true then some (σ6 45 (ix p0), σ6) else none) else bnd (f_X6_isFine 0 σ2) (fun r10 σ11 => if r10 = 0 then some (0, σ11) else if inb p0 20 = true then some (σ11 45 (ix p0), σ11) else none))
def F_X6_stageOf : aF := fun As σ => match As with
  | [.int p0] => f_X6_stageOf p0 σ
  | _ => none
def T_X6_stageOf (Qa : Int32 → aM → Prop) : List aI := [I_aload 0 1, I_aload 0 1, I_iload 1 1, I_callV 6 1 F_X6_isLog, I_bot, I_bot, I_if (fun x => x = 0) 13, I_bot, I_bot, I_const 0 1, I_goto 14, I_bot, I_bot, I_const 1 1, I_callV 6 1 F_X6_isFine, I_bot, I_bot, I_if (fun x => x = 0) 29, I_bot, I_bot, I_aload 0 1, I_getR 6 45, I_bot, I_bot, I_iload 1 1, I_iald, I_goto 30, I_bot, I_bot, I_const 0 1, I_iret Qa]
set_option maxHeartbeats 4000000 in
set_option maxRecDepth 100000 in
theorem s_X6_stageOf : runs T_X6_stageOf [.ref 6] 2 F_X6_stageOf := by
  intro Qa K hw hf As σ r σ' h hQ
  unfold F_X6_stageOf at h
  split at h
  · rename_i p0
    unfold f_X6_stageOf at h
    have hQ : Qa (r, σ').1 (r, σ').2 := hQ
    generalize (r, σ') = y at h hQ
    show K (0, [.ref 6, .int p0], [], σ)
    obtain ⟨r1, σ2, e3, h⟩ := bnd_some h
    refine hw 4 _ ?_
    show ∃ r1 σ2, f_X6_isLog p0 σ = some (r1, σ2) ∧ K (6, [.ref 6, .int p0], [.int r1, .ref 6], σ2)
    refine ⟨r1, σ2, e3, ?_⟩
    rcases ite_cases h with ⟨c4, h⟩ | ⟨c4, h⟩
    · refine hw 1 _ ?_
      show ((r1 = 0) → K (13, [.ref 6, .int p0], [.ref 6], σ2)) ∧ (¬ (r1 = 0) → K (9, [.ref 6, .int p0], [.ref 6], σ2))
      refine ⟨fun _ => ?_, fun q => absurd c4 q⟩
      obtain ⟨r5, σ6, e7, h⟩ := bnd_some h
      refine hw 2 _ ?_
      show ∃ r5 σ6, f_X6_isFine 1 σ2 = some (r5, σ6) ∧ K (17, [.ref 6, .int p0], [.int r5], σ6)
      refine ⟨r5, σ6, e7, ?_⟩
      rcases ite_cases h with ⟨c8, h⟩ | ⟨c8, h⟩
      · refine hw 1 _ ?_
        show ((r5 = 0) → K (29, [.ref 6, .int p0], [], σ6)) ∧ (¬ (r5 = 0) → K (20, [.ref 6, .int p0], [], σ6))
        refine ⟨fun _ => ?_, fun q => absurd c8 q⟩
        obtain rfl := Option.some.inj h
        refine hw 2 _ ?_
        show Qa 0 σ6
        refine hQ
      · refine hw 1 _ ?_
        show ((r5 = 0) → K (29, [.ref 6, .int p0], [], σ6)) ∧ (¬ (r5 = 0) → K (20, [.ref 6, .int p0], [], σ6))
        refine ⟨fun q => absurd q c8, fun _ => ?_⟩
        obtain ⟨g9, h⟩ := ite_some h
        obtain rfl := Option.some.inj h
        refine hw 6 _ ?_
        show kd 45 = 1 ∧ (inb p0 20 = true ∧ (Qa (σ6 45 (ix p0)) σ6))
        refine ⟨rfl, g9, hQ⟩
    · refine hw 1 _ ?_
      show ((r1 = 0) → K (13, [.ref 6, .int p0], [.ref 6], σ2)) ∧ (¬ (r1 = 0) → K (9, [.ref 6, .int p0], [.ref 6], σ2))
      refine ⟨fun q => absurd q c4, fun _ => ?_⟩
      obtain ⟨r10, σ11, e12, h⟩ := bnd_some h
      refine hw 3 _ ?_
      show ∃ r10 σ11, f_X6_isFine 0 σ2 = some (r10, σ11) ∧ K (17, [.ref 6, .int p0], [.int r10], σ11)
      refine ⟨r10, σ11, e12, ?_⟩
      rcases ite_cases h with ⟨c13, h⟩ | ⟨c13, h⟩
      · refine hw 1 _ ?_
        show ((r10 = 0) → K (29, [.ref 6, .int p0], [], σ11)) ∧ (¬ (r10 = 0) → K (20, [.ref 6, .int p0], [], σ11))
        refine ⟨fun _ => ?_, fun q => absurd c13 q⟩
        obtain rfl := Option.some.inj h
        refine hw 2 _ ?_
        show Qa 0 σ11
        refine hQ
      · refine hw 1 _ ?_
        show ((r10 = 0) → K (29, [.ref 6, .int p0], [], σ11)) ∧ (¬ (r10 = 0) → K (20, [.ref 6, .int p0], [], σ11))
        refine ⟨fun q => absurd q c13, fun _ => ?_⟩
        obtain ⟨g14, h⟩ := ite_some h
        obtain rfl := Option.some.inj h
        refine hw 6 _ ?_
        show kd 45 = 1 ∧ (inb p0 20 = true ∧ (Qa (σ11 45 (ix p0)) σ11))
        refine ⟨rfl, g14, hQ⟩
  · cases h
theorem h_X6_stageOf : shp [.ref 6] 2 F_X6_stageOf := by
  intro As σ r σ' h
  unfold F_X6_stageOf at h
  split at h
  · exact ⟨by simp [Value.category], Nat.le_of_ble_eq_true rfl⟩
  · cases h
set_option maxHeartbeats 4000000 in
set_option maxRecDepth 100000 in
theorem c_X6_stageOf (l : Launch) (D : va_G) (cI cZ cA cL : ClassId) (ad : Nat → Nat) (hi : adI ad) : CtI l yX6_stageOf wsX6_stageOf { frames := 2, cells := 0, slots := 0, locals := 43 } D cI cZ cA cL ad [.ref 6] F_X6_stageOf := by
  refine mk_I [.ref 6] F_X6_stageOf T_X6_stageOf (by decide +kernel) rfl ?_ h_X6_stageOf s_X6_stageOf
  intro p e s m args below meth c Qa ⟨hx, hb, hml, hown, hts, hr, hlocks, hK, hN⟩
  have hin6 : ∀ w ∈ u_ws RX6 TX6 30, w ∈ wsX6_stageOf := by decide +kernel
  have hl59 : (Cond.fieldLink RX6 59 RX6 (TX6 20).2.1 (TX6 20).2.2.1) ∈ wsX6_stageOf := by decide +kernel
  refine ruL_c (n := 0) (n2 := 1) rfl (ru_aload_n (k := 0) hx hb dX6_stageOf_0) ?_
  refine ruL_c (n := 1) (n2 := 2) rfl (ru_aload_n (k := 0) hx hb dX6_stageOf_1) ?_
  refine ruL_c (n := 2) (n2 := 3) rfl (ru_iload_n (k := 1) hx hb dX6_stageOf_2) ?_
  refine ruL_c (n := 3) (n2 := 4) rfl (ru_callV hx hb hml hown hts hK hN (by decide) rfl (c_X6_isLog l D cI cZ cA cL ad hi) (cwV 1 hts gX6_stageOf_X6_isLog rfl rfl rfl (by decide +kernel) ⟨Nat.le_of_ble_eq_true rfl, Nat.le_of_ble_eq_true rfl⟩) dX6_stageOf_3 ⟨Nat.zero_le _, Nat.zero_le _⟩) ?_
  refine ruL_c (n := 4) (n2 := 5) rfl (ru_bot) ?_
  refine ruL_c (n := 5) (n2 := 6) rfl (ru_bot) ?_
  refine ruL_c (n := 6) (n2 := 7) rfl (ru_ifeq hx hb dX6_stageOf_6 (by decide)) ?_
  refine ruL_c (n := 7) (n2 := 8) rfl (ru_bot) ?_
  refine ruL_c (n := 8) (n2 := 9) rfl (ru_bot) ?_
  refine ruL_c (n := 9) (n2 := 10) rfl (ru_iconst hx hb dX6_stageOf_9 rfl) ?_
  refine ruL_c (n := 10) (n2 := 11) rfl (ru_goto hx hb dX6_stageOf_10 (by decide)) ?_
  refine ruL_c (n := 11) (n2 := 12) rfl (ru_bot) ?_
  refine ruL_c (n := 12) (n2 := 13) rfl (ru_bot) ?_
  refine ruL_c (n := 13) (n2 := 14) rfl (ru_iconst hx hb dX6_stageOf_13 rfl) ?_
  refine ruL_c (n := 14) (n2 := 15) rfl (ru_callV hx hb hml hown hts hK hN (by decide) rfl (c_X6_isFine l D cI cZ cA cL ad hi) (cwV 1 hts gX6_stageOf_X6_isFine rfl rfl rfl (by decide +kernel) ⟨Nat.le_of_ble_eq_true rfl, Nat.le_of_ble_eq_true rfl⟩) dX6_stageOf_14 ⟨Nat.zero_le _, Nat.zero_le _⟩) ?_
  refine ruL_c (n := 15) (n2 := 16) rfl (ru_bot) ?_
  refine ruL_c (n := 16) (n2 := 17) rfl (ru_bot) ?_
  refine ruL_c (n := 17) (n2 := 18) rfl (ru_ifeq hx hb dX6_stageOf_17 (by decide)) ?_
  refine ruL_c (n := 18) (n2 := 19) rfl (ru_bot) ?_
  refine ruL_c (n := 19) (n2 := 20) rfl (ru_bot) ?_
  refine ruL_c (n := 20) (n2 := 21) rfl (ru_aload_n (k := 0) hx hb dX6_stageOf_20) ?_
  refine ruL_c (n := 21) (n2 := 22) rfl (ru_getR (own := RX6) (j := 20) (T := TX6) hx hb hown hK hts hin6 (by decide) rfl rfl (by decide) rfl hl59 dX6_stageOf_21) ?_
  refine ruL_c (n := 22) (n2 := 23) rfl (ru_bot) ?_
  refine ruL_c (n := 23) (n2 := 24) rfl (ru_bot) ?_
  refine ruL_c (n := 24) (n2 := 25) rfl (ru_iload_n (k := 1) hx hb dX6_stageOf_24) ?_
  refine ruL_c (n := 25) (n2 := 26) rfl (ru_iald hx hb hK dX6_stageOf_25) ?_
  refine ruL_c (n := 26) (n2 := 27) rfl (ru_goto hx hb dX6_stageOf_26 (by decide)) ?_
  refine ruL_c (n := 27) (n2 := 28) rfl (ru_bot) ?_
  refine ruL_c (n := 28) (n2 := 29) rfl (ru_bot) ?_
  refine ruL_c (n := 29) (n2 := 30) rfl (ru_iconst hx hb dX6_stageOf_29 rfl) ?_
  refine ruL_c (n := 30) (n2 := 31) rfl (ru_iret hx hb hK hr hlocks dX6_stageOf_30) ?_
  exact trivial

-- CueTourModel.wasShortOf
def f_X6_wasShortOf (p0 : Int32) (p1 : Int32) (σ : aM) : Option (Int32 × aM) := bnd (f_X6_isLog p0 σ) (fun r1 σ2 => if r1 = 0 then bnd (f_X6_isFine 1 σ2) (fun r5 σ6 => if r5 = 0 then some (0, σ6) else if inb ((30 * p0) + p1) 600 = true then some (σ6 46 (ix ((30 * p0) + p1)), σ6) else none) else bnd (f_X6_isLine p1 σ2) (fun r10 σ11 => if r10 = 0 then bnd (f_X6_isFine 1 σ11) (fun r14 σ15 => if r14 = 0 then some (0, σ15) else if inb ((30 * p0) + p1) 600 = true then some (σ15 46 (ix ((30 * p0) + p1)), σ15) else none) else bnd (f_X6_isFine 0 σ11) (fun r19 σ20 => if r19 = 0 then some (0, σ20) else if inb ((30 * p0) + p1) 600 = true then some (σ20 46 (ix ((30 * p0) + p1)), σ20) else none)))
def F_X6_wasShortOf : aF := fun As σ => match As with
  | [.int p0, .int p1] => f_X6_wasShortOf p0 p1 σ
  | _ => none
def T_X6_wasShortOf (Qa : Int32 → aM → Prop) : List aI := [I_aload 0 1, I_aload 0 1, I_iload 1 1, I_callV 6 1 F_X6_isLog, I_bot, I_bot, I_if (fun x => x = 0) 21, I_bot, I_bot, I_aload 0 1, I_iload 2 1, I_callV 6 1 F_X6_isLine, I_bot, I_bot, I_if (fun x => x = 0) 21, I_bot, I_bot, I_const 0 1, I_goto 22, I_bot, I_bot, I_const 1 1, I_callV 6 1 F_X6_isFine, I_bot, I_bot, I_if (fun x => x = 0) 42, I_bot, I_bot, I_aload 0 1, I_getR 6 46, I_bot, I_bot, I_const (30) 2, I_bot, I_iload 1 1, I_bin fun x y => x * y, I_iload 2 1, I_bin fun x y => x + y, I_iald, I_goto 43, I_bot, I_bot, I_const 0 1, I_iret Qa]
set_option maxHeartbeats 4000000 in
set_option maxRecDepth 100000 in
theorem s_X6_wasShortOf : runs T_X6_wasShortOf [.ref 6] 3 F_X6_wasShortOf := by
  intro Qa K hw hf As σ r σ' h hQ
  unfold F_X6_wasShortOf at h
  split at h
  · rename_i p0 p1
    unfold f_X6_wasShortOf at h
    have hQ : Qa (r, σ').1 (r, σ').2 := hQ
    generalize (r, σ') = y at h hQ
    show K (0, [.ref 6, .int p0, .int p1], [], σ)
    obtain ⟨r1, σ2, e3, h⟩ := bnd_some h
    refine hw 4 _ ?_
    show ∃ r1 σ2, f_X6_isLog p0 σ = some (r1, σ2) ∧ K (6, [.ref 6, .int p0, .int p1], [.int r1, .ref 6], σ2)
    refine ⟨r1, σ2, e3, ?_⟩
    rcases ite_cases h with ⟨c4, h⟩ | ⟨c4, h⟩
    · refine hw 1 _ ?_
      show ((r1 = 0) → K (21, [.ref 6, .int p0, .int p1], [.ref 6], σ2)) ∧ (¬ (r1 = 0) → K (9, [.ref 6, .int p0, .int p1], [.ref 6], σ2))
      refine ⟨fun _ => ?_, fun q => absurd c4 q⟩
      obtain ⟨r5, σ6, e7, h⟩ := bnd_some h
      refine hw 2 _ ?_
      show ∃ r5 σ6, f_X6_isFine 1 σ2 = some (r5, σ6) ∧ K (25, [.ref 6, .int p0, .int p1], [.int r5], σ6)
      refine ⟨r5, σ6, e7, ?_⟩
      rcases ite_cases h with ⟨c8, h⟩ | ⟨c8, h⟩
      · refine hw 1 _ ?_
        show ((r5 = 0) → K (42, [.ref 6, .int p0, .int p1], [], σ6)) ∧ (¬ (r5 = 0) → K (28, [.ref 6, .int p0, .int p1], [], σ6))
        refine ⟨fun _ => ?_, fun q => absurd c8 q⟩
        obtain rfl := Option.some.inj h
        refine hw 2 _ ?_
        show Qa 0 σ6
        refine hQ
      · refine hw 1 _ ?_
        show ((r5 = 0) → K (42, [.ref 6, .int p0, .int p1], [], σ6)) ∧ (¬ (r5 = 0) → K (28, [.ref 6, .int p0, .int p1], [], σ6))
        refine ⟨fun q => absurd q c8, fun _ => ?_⟩
        obtain ⟨g9, h⟩ := ite_some h
        obtain rfl := Option.some.inj h
        refine hw 10 _ ?_
        show kd 46 = 1 ∧ (inb ((30 * p0) + p1) 600 = true ∧ (Qa (σ6 46 (ix ((30 * p0) + p1))) σ6))
        refine ⟨rfl, g9, hQ⟩
    · refine hw 1 _ ?_
      show ((r1 = 0) → K (21, [.ref 6, .int p0, .int p1], [.ref 6], σ2)) ∧ (¬ (r1 = 0) → K (9, [.ref 6, .int p0, .int p1], [.ref 6], σ2))
      refine ⟨fun q => absurd q c4, fun _ => ?_⟩
      obtain ⟨r10, σ11, e12, h⟩ := bnd_some h
      refine hw 3 _ ?_
      show ∃ r10 σ11, f_X6_isLine p1 σ2 = some (r10, σ11) ∧ K (14, [.ref 6, .int p0, .int p1], [.int r10, .ref 6], σ11)
      refine ⟨r10, σ11, e12, ?_⟩
      rcases ite_cases h with ⟨c13, h⟩ | ⟨c13, h⟩
      · refine hw 1 _ ?_
        show ((r10 = 0) → K (21, [.ref 6, .int p0, .int p1], [.ref 6], σ11)) ∧ (¬ (r10 = 0) → K (17, [.ref 6, .int p0, .int p1], [.ref 6], σ11))
        refine ⟨fun _ => ?_, fun q => absurd c13 q⟩
        obtain ⟨r14, σ15, e16, h⟩ := bnd_some h
        refine hw 2 _ ?_
        show ∃ r14 σ15, f_X6_isFine 1 σ11 = some (r14, σ15) ∧ K (25, [.ref 6, .int p0, .int p1], [.int r14], σ15)
        refine ⟨r14, σ15, e16, ?_⟩
        rcases ite_cases h with ⟨c17, h⟩ | ⟨c17, h⟩
        · refine hw 1 _ ?_
          show ((r14 = 0) → K (42, [.ref 6, .int p0, .int p1], [], σ15)) ∧ (¬ (r14 = 0) → K (28, [.ref 6, .int p0, .int p1], [], σ15))
          refine ⟨fun _ => ?_, fun q => absurd c17 q⟩
          obtain rfl := Option.some.inj h
          refine hw 2 _ ?_
          show Qa 0 σ15
          refine hQ
        · refine hw 1 _ ?_
          show ((r14 = 0) → K (42, [.ref 6, .int p0, .int p1], [], σ15)) ∧ (¬ (r14 = 0) → K (28, [.ref 6, .int p0, .int p1], [], σ15))
          refine ⟨fun q => absurd q c17, fun _ => ?_⟩
          obtain ⟨g18, h⟩ := ite_some h
          obtain rfl := Option.some.inj h
          refine hw 10 _ ?_
          show kd 46 = 1 ∧ (inb ((30 * p0) + p1) 600 = true ∧ (Qa (σ15 46 (ix ((30 * p0) + p1))) σ15))
          refine ⟨rfl, g18, hQ⟩
      · refine hw 1 _ ?_
        show ((r10 = 0) → K (21, [.ref 6, .int p0, .int p1], [.ref 6], σ11)) ∧ (¬ (r10 = 0) → K (17, [.ref 6, .int p0, .int p1], [.ref 6], σ11))
        refine ⟨fun q => absurd q c13, fun _ => ?_⟩
        obtain ⟨r19, σ20, e21, h⟩ := bnd_some h
        refine hw 3 _ ?_
        show ∃ r19 σ20, f_X6_isFine 0 σ11 = some (r19, σ20) ∧ K (25, [.ref 6, .int p0, .int p1], [.int r19], σ20)
        refine ⟨r19, σ20, e21, ?_⟩
        rcases ite_cases h with ⟨c22, h⟩ | ⟨c22, h⟩
        · refine hw 1 _ ?_
          show ((r19 = 0) → K (42, [.ref 6, .int p0, .int p1], [], σ20)) ∧ (¬ (r19 = 0) → K (28, [.ref 6, .int p0, .int p1], [], σ20))
          refine ⟨fun _ => ?_, fun q => absurd c22 q⟩
          obtain rfl := Option.some.inj h
          refine hw 2 _ ?_
          show Qa 0 σ20
          refine hQ
        · refine hw 1 _ ?_
          show ((r19 = 0) → K (42, [.ref 6, .int p0, .int p1], [], σ20)) ∧ (¬ (r19 = 0) → K (28, [.ref 6, .int p0, .int p1], [], σ20))
          refine ⟨fun q => absurd q c22, fun _ => ?_⟩
          obtain ⟨g23, h⟩ := ite_some h
          obtain rfl := Option.some.inj h
          refine hw 10 _ ?_
          show kd 46 = 1 ∧ (inb ((30 * p0) + p1) 600 = true ∧ (Qa (σ20 46 (ix ((30 * p0) + p1))) σ20))
          refine ⟨rfl, g23, hQ⟩
  · cases h
theorem h_X6_wasShortOf : shp [.ref 6] 3 F_X6_wasShortOf := by
  intro As σ r σ' h
  unfold F_X6_wasShortOf at h
  split at h
  · exact ⟨by simp [Value.category], Nat.le_of_ble_eq_true rfl⟩
  · cases h
set_option maxHeartbeats 4000000 in
set_option maxRecDepth 100000 in
theorem c_X6_wasShortOf (l : Launch) (D : va_G) (cI cZ cA cL : ClassId) (ad : Nat → Nat) (hi : adI ad) : CtI l yX6_wasShortOf wsX6_wasShortOf { frames := 2, cells := 0, slots := 0, locals := 43 } D cI cZ cA cL ad [.ref 6] F_X6_wasShortOf := by
  refine mk_I [.ref 6] F_X6_wasShortOf T_X6_wasShortOf (by decide +kernel) rfl ?_ h_X6_wasShortOf s_X6_wasShortOf
  intro p e s m args below meth c Qa ⟨hx, hb, hml, hown, hts, hr, hlocks, hK, hN⟩
  have hin6 : ∀ w ∈ u_ws RX6 TX6 30, w ∈ wsX6_wasShortOf := by decide +kernel
  have hl62 : (Cond.fieldLink RX6 62 RX6 (TX6 21).2.1 (TX6 21).2.2.1) ∈ wsX6_wasShortOf := by decide +kernel
  refine ruL_c (n := 0) (n2 := 1) rfl (ru_aload_n (k := 0) hx hb dX6_wasShortOf_0) ?_
  refine ruL_c (n := 1) (n2 := 2) rfl (ru_aload_n (k := 0) hx hb dX6_wasShortOf_1) ?_
  refine ruL_c (n := 2) (n2 := 3) rfl (ru_iload_n (k := 1) hx hb dX6_wasShortOf_2) ?_
  refine ruL_c (n := 3) (n2 := 4) rfl (ru_callV hx hb hml hown hts hK hN (by decide) rfl (c_X6_isLog l D cI cZ cA cL ad hi) (cwV 1 hts gX6_wasShortOf_X6_isLog rfl rfl rfl (by decide +kernel) ⟨Nat.le_of_ble_eq_true rfl, Nat.le_of_ble_eq_true rfl⟩) dX6_wasShortOf_3 ⟨Nat.zero_le _, Nat.zero_le _⟩) ?_
  refine ruL_c (n := 4) (n2 := 5) rfl (ru_bot) ?_
  refine ruL_c (n := 5) (n2 := 6) rfl (ru_bot) ?_
  refine ruL_c (n := 6) (n2 := 7) rfl (ru_ifeq hx hb dX6_wasShortOf_6 (by decide)) ?_
  refine ruL_c (n := 7) (n2 := 8) rfl (ru_bot) ?_
  refine ruL_c (n := 8) (n2 := 9) rfl (ru_bot) ?_
  refine ruL_c (n := 9) (n2 := 10) rfl (ru_aload_n (k := 0) hx hb dX6_wasShortOf_9) ?_
  refine ruL_c (n := 10) (n2 := 11) rfl (ru_iload_n (k := 2) hx hb dX6_wasShortOf_10) ?_
  refine ruL_c (n := 11) (n2 := 12) rfl (ru_callV hx hb hml hown hts hK hN (by decide) rfl (c_X6_isLine l D cI cZ cA cL ad hi) (cwV 1 hts gX6_wasShortOf_X6_isLine rfl rfl rfl (by decide +kernel) ⟨Nat.le_of_ble_eq_true rfl, Nat.le_of_ble_eq_true rfl⟩) dX6_wasShortOf_11 ⟨Nat.zero_le _, Nat.zero_le _⟩) ?_
  refine ruL_c (n := 12) (n2 := 13) rfl (ru_bot) ?_
  refine ruL_c (n := 13) (n2 := 14) rfl (ru_bot) ?_
  refine ruL_c (n := 14) (n2 := 15) rfl (ru_ifeq hx hb dX6_wasShortOf_14 (by decide)) ?_
  refine ruL_c (n := 15) (n2 := 16) rfl (ru_bot) ?_
  refine ruL_c (n := 16) (n2 := 17) rfl (ru_bot) ?_
  refine ruL_c (n := 17) (n2 := 18) rfl (ru_iconst hx hb dX6_wasShortOf_17 rfl) ?_
  refine ruL_c (n := 18) (n2 := 19) rfl (ru_goto hx hb dX6_wasShortOf_18 (by decide)) ?_
  refine ruL_c (n := 19) (n2 := 20) rfl (ru_bot) ?_
  refine ruL_c (n := 20) (n2 := 21) rfl (ru_bot) ?_
  refine ruL_c (n := 21) (n2 := 22) rfl (ru_iconst hx hb dX6_wasShortOf_21 rfl) ?_
  refine ruL_c (n := 22) (n2 := 23) rfl (ru_callV hx hb hml hown hts hK hN (by decide) rfl (c_X6_isFine l D cI cZ cA cL ad hi) (cwV 1 hts gX6_wasShortOf_X6_isFine rfl rfl rfl (by decide +kernel) ⟨Nat.le_of_ble_eq_true rfl, Nat.le_of_ble_eq_true rfl⟩) dX6_wasShortOf_22 ⟨Nat.zero_le _, Nat.zero_le _⟩) ?_
  refine ruL_c (n := 23) (n2 := 24) rfl (ru_bot) ?_
  refine ruL_c (n := 24) (n2 := 25) rfl (ru_bot) ?_
  refine ruL_c (n := 25) (n2 := 26) rfl (ru_ifeq hx hb dX6_wasShortOf_25 (by decide)) ?_
  refine ruL_c (n := 26) (n2 := 27) rfl (ru_bot) ?_
  refine ruL_c (n := 27) (n2 := 28) rfl (ru_bot) ?_
  refine ruL_c (n := 28) (n2 := 29) rfl (ru_aload_n (k := 0) hx hb dX6_wasShortOf_28) ?_
  refine ruL_c (n := 29) (n2 := 30) rfl (ru_getR (own := RX6) (j := 21) (T := TX6) hx hb hown hK hts hin6 (by decide) rfl rfl (by decide) rfl hl62 dX6_wasShortOf_29) ?_
  refine ruL_c (n := 30) (n2 := 31) rfl (ru_bot) ?_
  refine ruL_c (n := 31) (n2 := 32) rfl (ru_bot) ?_
  refine ruL_c (n := 32) (n2 := 33) rfl (ru_bipush hx hb dX6_wasShortOf_32 rfl) ?_
  refine ruL_c (n := 33) (n2 := 34) rfl (ru_bot) ?_
  refine ruL_c (n := 34) (n2 := 35) rfl (ru_iload_n (k := 1) hx hb dX6_wasShortOf_34) ?_
  refine ruL_c (n := 35) (n2 := 36) rfl (ru_imul hx hb dX6_wasShortOf_35) ?_
  refine ruL_c (n := 36) (n2 := 37) rfl (ru_iload_n (k := 2) hx hb dX6_wasShortOf_36) ?_
  refine ruL_c (n := 37) (n2 := 38) rfl (ru_iadd hx hb dX6_wasShortOf_37) ?_
  refine ruL_c (n := 38) (n2 := 39) rfl (ru_iald hx hb hK dX6_wasShortOf_38) ?_
  refine ruL_c (n := 39) (n2 := 40) rfl (ru_goto hx hb dX6_wasShortOf_39 (by decide)) ?_
  refine ruL_c (n := 40) (n2 := 41) rfl (ru_bot) ?_
  refine ruL_c (n := 41) (n2 := 42) rfl (ru_bot) ?_
  refine ruL_c (n := 42) (n2 := 43) rfl (ru_iconst hx hb dX6_wasShortOf_42 rfl) ?_
  refine ruL_c (n := 43) (n2 := 44) rfl (ru_iret hx hb hK hr hlocks dX6_wasShortOf_43) ?_
  exact trivial

-- CueTourModel.timesShort
def l_X6_timesShort_26 (x9 : Int32) : Nat → Int32 → Int32 → aM → (Int32 → Int32 → aM → Option (Int32 × aM)) → Option (Int32 × aM)
  | 0, _, _, _, _ => none
  | n + 1, v10, v11, σ12, k => if (σ12 6 22) ≤ v11 then k v10 v11 σ12 else if inb ((30 * v11) + x9) 600 = true then if (σ12 46 (ix ((30 * v11) + x9))) = 0 then l_X6_timesShort_26 x9 n (v10 + 0) (v11 + 1) σ12 k else l_X6_timesShort_26 x9 n (v10 + 1) (v11 + 1) σ12 k else none
def f_X6_timesShort (p0 : Int32) (σ : aM) : Option (Int32 × aM) := bnd (f_X6_isLine p0 σ) (fun r1 σ2 => if r1 = 0 then bnd (f_X6_isFine 1 σ2) (fun r5 σ6 => if ¬ r5 = 0 then l_X6_timesShort_26 p0 lf 0 0 σ6 (fun v16 v17 σ18 => some (v16, σ18)) else some (0, σ6)) else bnd (f_X6_isFine 0 σ2) (fun r19 σ20 => if ¬ r19 = 0 then l_X6_timesShort_26 p0 lf 0 0 σ20 (fun v23 v24 σ25 => some (v23, σ25)) else some (0, σ20)))
def F_X6_timesShort : aF := fun As σ => match As with
  | [.int p0] => f_X6_timesShort p0 σ
  | _ => none
def T_X6_timesShort (Qa : Int32 → aM → Prop) : List aI := [I_aload 0 1, I_aload 0 1, I_iload 1 1, I_callV 6 1 F_X6_isLine, I_bot, I_bot, I_if (fun x => x = 0) 13, I_bot, I_bot, I_const 0 1, I_goto 14, I_bot, I_bot, I_const 1 1, I_callV 6 1 F_X6_isFine, I_bot, I_bot, I_if (fun x => ¬ x = 0) 22, I_bot, I_bot, I_const 0 1, I_iret Qa, I_const 0 1, I_istore 2 1, I_const 0 1, I_istore 3 1, I_iload 3 1, I_aload 0 1, I_getI 6 22, I_bot, I_bot, I_icmp (fun x y => y ≤ x) 62, I_bot, I_bot, I_iload 2 1, I_aload 0 1, I_getR 6 46, I_bot, I_bot, I_const (30) 2, I_bot, I_iload 3 1, I_bin fun x y => x * y, I_iload 1 1, I_bin fun x y => x + y, I_iald, I_if (fun x => x = 0) 53, I_bot, I_bot, I_const 1 1, I_goto 54, I_bot, I_bot, I_const 0 1, I_bin fun x y => x + y, I_istore 2 1, I_iinc 3 (1), I_bot, I_bot, I_goto 26, I_bot, I_bot, I_iload 2 1, I_iret Qa]
set_option maxHeartbeats 4000000 in
set_option maxRecDepth 100000 in
theorem t_X6_timesShort_26 {Qa : Int32 → aM → Prop} {K : aS → Prop} (hw : ∀ k x, wp (T_X6_timesShort Qa) k K x → K x) (hf : ∀ pc L i st σ, K (pc, L.set i .null, st, σ) → K (pc, L, st, σ)) (x9 : Int32) (y : Int32 × aM) (k : Int32 → Int32 → aM → Option (Int32 × aM)) :
    ∀ (n : Nat) (v10 : Int32) (v11 : Int32) (σ12 : aM), l_X6_timesShort_26 x9 n v10 v11 σ12 k = some y → (∀ (w0 : Int32) (w1 : Int32) (τ : aM), k w0 w1 τ = some y → K (62, [.ref 6, .int x9, .int w0, .int w1], [], τ)) → K (26, [.ref 6, .int x9, .int v10, .int v11], [], σ12) := by
  intro n
  induction n with
  | zero =>
    intro v10 v11 σ12 h hk
    exact absurd h (by simp [l_X6_timesShort_26])
  | succ n ih =>
    intro v10 v11 σ12 h hk
    unfold l_X6_timesShort_26 at h
    rcases ite_cases h with ⟨c13, h⟩ | ⟨c13, h⟩
    · refine hw 4 _ ?_
      show (((σ12 6 22) ≤ v11) → K (62, [.ref 6, .int x9, .int v10, .int v11], [], σ12)) ∧ (¬ ((σ12 6 22) ≤ v11) → K (34, [.ref 6, .int x9, .int v10, .int v11], [], σ12))
      refine ⟨fun _ => ?_, fun q => absurd c13 q⟩
      exact hk v10 v11 σ12 h
    · refine hw 4 _ ?_
      show (((σ12 6 22) ≤ v11) → K (62, [.ref 6, .int x9, .int v10, .int v11], [], σ12)) ∧ (¬ ((σ12 6 22) ≤ v11) → K (34, [.ref 6, .int x9, .int v10, .int v11], [], σ12))
      refine ⟨fun q => absurd q c13, fun _ => ?_⟩
      obtain ⟨g14, h⟩ := ite_some h
      rcases ite_cases h with ⟨c15, h⟩ | ⟨c15, h⟩
      · refine hw 10 _ ?_
        show kd 46 = 1 ∧ (inb ((30 * v11) + x9) 600 = true ∧ ((((σ12 46 (ix ((30 * v11) + x9))) = 0) → K (53, [.ref 6, .int x9, .int v10, .int v11], [.int v10], σ12)) ∧ (¬ ((σ12 46 (ix ((30 * v11) + x9))) = 0) → K (49, [.ref 6, .int x9, .int v10, .int v11], [.int v10], σ12))))
        refine ⟨rfl, g14, ⟨fun _ => ?_, fun q => absurd c15 q⟩⟩
        refine hw 5 _ ?_
        show K (26, [.ref 6, .int x9, .int (v10 + 0), .int (v11 + 1)], [], σ12)
        exact ih (v10 + 0) (v11 + 1) σ12 h hk
      · refine hw 10 _ ?_
        show kd 46 = 1 ∧ (inb ((30 * v11) + x9) 600 = true ∧ ((((σ12 46 (ix ((30 * v11) + x9))) = 0) → K (53, [.ref 6, .int x9, .int v10, .int v11], [.int v10], σ12)) ∧ (¬ ((σ12 46 (ix ((30 * v11) + x9))) = 0) → K (49, [.ref 6, .int x9, .int v10, .int v11], [.int v10], σ12))))
        refine ⟨rfl, g14, ⟨fun q => absurd q c15, fun _ => ?_⟩⟩
        refine hw 6 _ ?_
        show K (26, [.ref 6, .int x9, .int (v10 + 1), .int (v11 + 1)], [], σ12)
        exact ih (v10 + 1) (v11 + 1) σ12 h hk

set_option maxHeartbeats 4000000 in
set_option maxRecDepth 100000 in
theorem s_X6_timesShort : runs T_X6_timesShort [.ref 6] 4 F_X6_timesShort := by
  intro Qa K hw hf As σ r σ' h hQ
  unfold F_X6_timesShort at h
  split at h
  · rename_i p0
    unfold f_X6_timesShort at h
    have hQ : Qa (r, σ').1 (r, σ').2 := hQ
    generalize (r, σ') = y at h hQ
    show K (0, [.ref 6, .int p0, .null, .null], [], σ)
    obtain ⟨r1, σ2, e3, h⟩ := bnd_some h
    refine hw 4 _ ?_
    show ∃ r1 σ2, f_X6_isLine p0 σ = some (r1, σ2) ∧ K (6, [.ref 6, .int p0, .null, .null], [.int r1, .ref 6], σ2)
    refine ⟨r1, σ2, e3, ?_⟩
    rcases ite_cases h with ⟨c4, h⟩ | ⟨c4, h⟩
    · refine hw 1 _ ?_
      show ((r1 = 0) → K (13, [.ref 6, .int p0, .null, .null], [.ref 6], σ2)) ∧ (¬ (r1 = 0) → K (9, [.ref 6, .int p0, .null, .null], [.ref 6], σ2))
      refine ⟨fun _ => ?_, fun q => absurd c4 q⟩
      obtain ⟨r5, σ6, e7, h⟩ := bnd_some h
      refine hw 2 _ ?_
      show ∃ r5 σ6, f_X6_isFine 1 σ2 = some (r5, σ6) ∧ K (17, [.ref 6, .int p0, .null, .null], [.int r5], σ6)
      refine ⟨r5, σ6, e7, ?_⟩
      rcases ite_cases h with ⟨c8, h⟩ | ⟨c8, h⟩
      · refine hw 1 _ ?_
        show ((¬ r5 = 0) → K (22, [.ref 6, .int p0, .null, .null], [], σ6)) ∧ (¬ (¬ r5 = 0) → K (20, [.ref 6, .int p0, .null, .null], [], σ6))
        refine ⟨fun _ => ?_, fun q => absurd c8 q⟩
        refine hw 4 _ ?_
        show K (26, [.ref 6, .int p0, .int 0, .int 0], [], σ6)
        refine t_X6_timesShort_26 hw hf p0 _ _ lf 0 0 σ6 h (fun v16 v17 σ18 h => ?_)
        show K (62, [.ref 6, .int p0, .int v16, .int v17], [], σ18)
        obtain rfl := Option.some.inj h
        refine hw 2 _ ?_
        show Qa v16 σ18
        refine hQ
      · refine hw 1 _ ?_
        show ((¬ r5 = 0) → K (22, [.ref 6, .int p0, .null, .null], [], σ6)) ∧ (¬ (¬ r5 = 0) → K (20, [.ref 6, .int p0, .null, .null], [], σ6))
        refine ⟨fun q => absurd q c8, fun _ => ?_⟩
        obtain rfl := Option.some.inj h
        refine hw 2 _ ?_
        show Qa 0 σ6
        refine hQ
    · refine hw 1 _ ?_
      show ((r1 = 0) → K (13, [.ref 6, .int p0, .null, .null], [.ref 6], σ2)) ∧ (¬ (r1 = 0) → K (9, [.ref 6, .int p0, .null, .null], [.ref 6], σ2))
      refine ⟨fun q => absurd q c4, fun _ => ?_⟩
      obtain ⟨r19, σ20, e21, h⟩ := bnd_some h
      refine hw 3 _ ?_
      show ∃ r19 σ20, f_X6_isFine 0 σ2 = some (r19, σ20) ∧ K (17, [.ref 6, .int p0, .null, .null], [.int r19], σ20)
      refine ⟨r19, σ20, e21, ?_⟩
      rcases ite_cases h with ⟨c22, h⟩ | ⟨c22, h⟩
      · refine hw 1 _ ?_
        show ((¬ r19 = 0) → K (22, [.ref 6, .int p0, .null, .null], [], σ20)) ∧ (¬ (¬ r19 = 0) → K (20, [.ref 6, .int p0, .null, .null], [], σ20))
        refine ⟨fun _ => ?_, fun q => absurd c22 q⟩
        refine hw 4 _ ?_
        show K (26, [.ref 6, .int p0, .int 0, .int 0], [], σ20)
        refine t_X6_timesShort_26 hw hf p0 _ _ lf 0 0 σ20 h (fun v23 v24 σ25 h => ?_)
        show K (62, [.ref 6, .int p0, .int v23, .int v24], [], σ25)
        obtain rfl := Option.some.inj h
        refine hw 2 _ ?_
        show Qa v23 σ25
        refine hQ
      · refine hw 1 _ ?_
        show ((¬ r19 = 0) → K (22, [.ref 6, .int p0, .null, .null], [], σ20)) ∧ (¬ (¬ r19 = 0) → K (20, [.ref 6, .int p0, .null, .null], [], σ20))
        refine ⟨fun q => absurd q c22, fun _ => ?_⟩
        obtain rfl := Option.some.inj h
        refine hw 2 _ ?_
        show Qa 0 σ20
        refine hQ
  · cases h
theorem h_X6_timesShort : shp [.ref 6] 4 F_X6_timesShort := by
  intro As σ r σ' h
  unfold F_X6_timesShort at h
  split at h
  · exact ⟨by simp [Value.category], Nat.le_of_ble_eq_true rfl⟩
  · cases h
set_option maxHeartbeats 4000000 in
set_option maxRecDepth 100000 in
theorem c_X6_timesShort (l : Launch) (D : va_G) (cI cZ cA cL : ClassId) (ad : Nat → Nat) (hi : adI ad) : CtI l yX6_timesShort wsX6_timesShort { frames := 2, cells := 0, slots := 0, locals := 43 } D cI cZ cA cL ad [.ref 6] F_X6_timesShort := by
  refine mk_I [.ref 6] F_X6_timesShort T_X6_timesShort (by decide +kernel) rfl ?_ h_X6_timesShort s_X6_timesShort
  intro p e s m args below meth c Qa ⟨hx, hb, hml, hown, hts, hr, hlocks, hK, hN⟩
  have hin6 : ∀ w ∈ u_ws RX6 TX6 30, w ∈ wsX6_timesShort := by decide +kernel
  have hl193 : (Cond.fieldLink RX6 193 RX6 (TX6 22).2.1 (TX6 22).2.2.1) ∈ wsX6_timesShort := by decide +kernel
  have hl62 : (Cond.fieldLink RX6 62 RX6 (TX6 21).2.1 (TX6 21).2.2.1) ∈ wsX6_timesShort := by decide +kernel
  refine ruL_c (n := 0) (n2 := 1) rfl (ru_aload_n (k := 0) hx hb dX6_timesShort_0) ?_
  refine ruL_c (n := 1) (n2 := 2) rfl (ru_aload_n (k := 0) hx hb dX6_timesShort_1) ?_
  refine ruL_c (n := 2) (n2 := 3) rfl (ru_iload_n (k := 1) hx hb dX6_timesShort_2) ?_
  refine ruL_c (n := 3) (n2 := 4) rfl (ru_callV hx hb hml hown hts hK hN (by decide) rfl (c_X6_isLine l D cI cZ cA cL ad hi) (cwV 1 hts gX6_timesShort_X6_isLine rfl rfl rfl (by decide +kernel) ⟨Nat.le_of_ble_eq_true rfl, Nat.le_of_ble_eq_true rfl⟩) dX6_timesShort_3 ⟨Nat.zero_le _, Nat.zero_le _⟩) ?_
  refine ruL_c (n := 4) (n2 := 5) rfl (ru_bot) ?_
  refine ruL_c (n := 5) (n2 := 6) rfl (ru_bot) ?_
  refine ruL_c (n := 6) (n2 := 7) rfl (ru_ifeq hx hb dX6_timesShort_6 (by decide)) ?_
  refine ruL_c (n := 7) (n2 := 8) rfl (ru_bot) ?_
  refine ruL_c (n := 8) (n2 := 9) rfl (ru_bot) ?_
  refine ruL_c (n := 9) (n2 := 10) rfl (ru_iconst hx hb dX6_timesShort_9 rfl) ?_
  refine ruL_c (n := 10) (n2 := 11) rfl (ru_goto hx hb dX6_timesShort_10 (by decide)) ?_
  refine ruL_c (n := 11) (n2 := 12) rfl (ru_bot) ?_
  refine ruL_c (n := 12) (n2 := 13) rfl (ru_bot) ?_
  refine ruL_c (n := 13) (n2 := 14) rfl (ru_iconst hx hb dX6_timesShort_13 rfl) ?_
  refine ruL_c (n := 14) (n2 := 15) rfl (ru_callV hx hb hml hown hts hK hN (by decide) rfl (c_X6_isFine l D cI cZ cA cL ad hi) (cwV 1 hts gX6_timesShort_X6_isFine rfl rfl rfl (by decide +kernel) ⟨Nat.le_of_ble_eq_true rfl, Nat.le_of_ble_eq_true rfl⟩) dX6_timesShort_14 ⟨Nat.zero_le _, Nat.zero_le _⟩) ?_
  refine ruL_c (n := 15) (n2 := 16) rfl (ru_bot) ?_
  refine ruL_c (n := 16) (n2 := 17) rfl (ru_bot) ?_
  refine ruL_c (n := 17) (n2 := 18) rfl (ru_ifne hx hb dX6_timesShort_17 (by decide)) ?_
  refine ruL_c (n := 18) (n2 := 19) rfl (ru_bot) ?_
  refine ruL_c (n := 19) (n2 := 20) rfl (ru_bot) ?_
  refine ruL_c (n := 20) (n2 := 21) rfl (ru_iconst hx hb dX6_timesShort_20 rfl) ?_
  refine ruL_c (n := 21) (n2 := 22) rfl (ru_iret hx hb hK hr hlocks dX6_timesShort_21) ?_
  refine ruL_c (n := 22) (n2 := 23) rfl (ru_iconst hx hb dX6_timesShort_22 rfl) ?_
  refine ruL_c (n := 23) (n2 := 24) rfl (ru_istore_n (k := 2) hx hb dX6_timesShort_23) ?_
  refine ruL_c (n := 24) (n2 := 25) rfl (ru_iconst hx hb dX6_timesShort_24 rfl) ?_
  refine ruL_c (n := 25) (n2 := 26) rfl (ru_istore_n (k := 3) hx hb dX6_timesShort_25) ?_
  refine ruL_c (n := 26) (n2 := 27) rfl (ru_iload_n (k := 3) hx hb dX6_timesShort_26) ?_
  refine ruL_c (n := 27) (n2 := 28) rfl (ru_aload_n (k := 0) hx hb dX6_timesShort_27) ?_
  refine ruL_c (n := 28) (n2 := 29) rfl (ru_getI (own := RX6) (j := 22) (T := TX6) hx hb hown hK hts hin6 (by decide) rfl rfl (by decide) rfl hl193 dX6_timesShort_28) ?_
  refine ruL_c (n := 29) (n2 := 30) rfl (ru_bot) ?_
  refine ruL_c (n := 30) (n2 := 31) rfl (ru_bot) ?_
  refine ruL_c (n := 31) (n2 := 32) rfl (ru_icmpge hx hb dX6_timesShort_31 (by decide)) ?_
  refine ruL_c (n := 32) (n2 := 33) rfl (ru_bot) ?_
  refine ruL_c (n := 33) (n2 := 34) rfl (ru_bot) ?_
  refine ruL_c (n := 34) (n2 := 35) rfl (ru_iload_n (k := 2) hx hb dX6_timesShort_34) ?_
  refine ruL_c (n := 35) (n2 := 36) rfl (ru_aload_n (k := 0) hx hb dX6_timesShort_35) ?_
  refine ruL_c (n := 36) (n2 := 37) rfl (ru_getR (own := RX6) (j := 21) (T := TX6) hx hb hown hK hts hin6 (by decide) rfl rfl (by decide) rfl hl62 dX6_timesShort_36) ?_
  refine ruL_c (n := 37) (n2 := 38) rfl (ru_bot) ?_
  refine ruL_c (n := 38) (n2 := 39) rfl (ru_bot) ?_
  refine ruL_c (n := 39) (n2 := 40) rfl (ru_bipush hx hb dX6_timesShort_39 rfl) ?_
  refine ruL_c (n := 40) (n2 := 41) rfl (ru_bot) ?_
  refine ruL_c (n := 41) (n2 := 42) rfl (ru_iload_n (k := 3) hx hb dX6_timesShort_41) ?_
  refine ruL_c (n := 42) (n2 := 43) rfl (ru_imul hx hb dX6_timesShort_42) ?_
  refine ruL_c (n := 43) (n2 := 44) rfl (ru_iload_n (k := 1) hx hb dX6_timesShort_43) ?_
  refine ruL_c (n := 44) (n2 := 45) rfl (ru_iadd hx hb dX6_timesShort_44) ?_
  refine ruL_c (n := 45) (n2 := 46) rfl (ru_iald hx hb hK dX6_timesShort_45) ?_
  refine ruL_c (n := 46) (n2 := 47) rfl (ru_ifeq hx hb dX6_timesShort_46 (by decide)) ?_
  refine ruL_c (n := 47) (n2 := 48) rfl (ru_bot) ?_
  refine ruL_c (n := 48) (n2 := 49) rfl (ru_bot) ?_
  refine ruL_c (n := 49) (n2 := 50) rfl (ru_iconst hx hb dX6_timesShort_49 rfl) ?_
  refine ruL_c (n := 50) (n2 := 51) rfl (ru_goto hx hb dX6_timesShort_50 (by decide)) ?_
  refine ruL_c (n := 51) (n2 := 52) rfl (ru_bot) ?_
  refine ruL_c (n := 52) (n2 := 53) rfl (ru_bot) ?_
  refine ruL_c (n := 53) (n2 := 54) rfl (ru_iconst hx hb dX6_timesShort_53 rfl) ?_
  refine ruL_c (n := 54) (n2 := 55) rfl (ru_iadd hx hb dX6_timesShort_54) ?_
  refine ruL_c (n := 55) (n2 := 56) rfl (ru_istore_n (k := 2) hx hb dX6_timesShort_55) ?_
  refine ruL_c (n := 56) (n2 := 57) rfl (ru_iinc hx hb dX6_timesShort_56 rfl) ?_
  refine ruL_c (n := 57) (n2 := 58) rfl (ru_bot) ?_
  refine ruL_c (n := 58) (n2 := 59) rfl (ru_bot) ?_
  refine ruL_c (n := 59) (n2 := 60) rfl (ru_goto hx hb dX6_timesShort_59 (by decide)) ?_
  refine ruL_c (n := 60) (n2 := 61) rfl (ru_bot) ?_
  refine ruL_c (n := 61) (n2 := 62) rfl (ru_bot) ?_
  refine ruL_c (n := 62) (n2 := 63) rfl (ru_iload_n (k := 2) hx hb dX6_timesShort_62) ?_
  refine ruL_c (n := 63) (n2 := 64) rfl (ru_iret hx hb hK hr hlocks dX6_timesShort_63) ?_
  exact trivial

