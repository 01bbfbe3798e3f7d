-- CueTourModel.isLamp
def f_X6_isLamp (p0 : Int32) (σ : aM) : Option (Int32 × aM) := bnd (f_X6_isIn p0 0 ((σ 6 19) - 1) σ) (fun r1 σ2 => if r1 = 0 ∨ r1 = 1 then some (r1, σ2) else none)
def F_X6_isLamp : aF := fun As σ => match As with
  | [.int p0] => f_X6_isLamp p0 σ
  | _ => none
def T_X6_isLamp (Qa : Int32 → aM → Prop) : List aI := [I_iload 1 1, I_const 0 1, I_aload 0 1, I_getI 6 19, I_bot, I_bot, I_const 1 1, I_bin fun x y => x - y, I_callS 3 F_X6_isIn, I_bot, I_bot, I_zret Qa]
set_option maxHeartbeats 4000000 in
set_option maxRecDepth 100000 in
theorem s_X6_isLamp : runs T_X6_isLamp [.ref 6] 2 F_X6_isLamp := by
  intro Qa K hw hf As σ r σ' h hQ
  unfold F_X6_isLamp at h
  split at h
  · rename_i p0
    unfold f_X6_isLamp at h
    have hQ : Qa (r, σ').1 (r, σ').2 := hQ
    generalize (r, σ') = y at h hQ
    show K (0, [.ref 6, .int p0], [], σ)
    obtain ⟨r1, σ2, e3, h⟩ := bnd_some h
    refine hw 7 _ ?_
    show ∃ r1 σ2, f_X6_isIn p0 0 ((σ 6 19) - 1) σ = some (r1, σ2) ∧ K (11, [.ref 6, .int p0], [.int r1], σ2)
    refine ⟨r1, σ2, e3, ?_⟩
    obtain ⟨g4, h⟩ := ite_some h
    obtain rfl := Option.some.inj h
    refine hw 1 _ ?_
    show (r1 = 0 ∨ r1 = 1) ∧ (Qa r1 σ2)
    refine ⟨g4, hQ⟩
  · cases h
theorem h_X6_isLamp : shp [.ref 6] 2 F_X6_isLamp := by
  intro As σ r σ' h
  unfold F_X6_isLamp at h
  split at h
  · exact ⟨by simp [Value.category], Nat.le_of_ble_eq_true rfl⟩
  · cases h
set_option maxHeartbeats 4000000 in
set_option maxRecDepth 100000 in
theorem c_X6_isLamp (l : Launch) (D : va_G) (cI cZ cA cL : ClassId) (ad : Nat → Nat) (hi : adI ad) : CtI l yX6_isLamp wsX6_isLamp { frames := 1, cells := 0, slots := 0, locals := 22 } D cI cZ cA cL ad [.ref 6] F_X6_isLamp := by
  refine mk_I [.ref 6] F_X6_isLamp T_X6_isLamp (by decide +kernel) rfl ?_ h_X6_isLamp s_X6_isLamp
  intro p e s m args below meth c Qa ⟨hx, hb, hml, hown, hts, hr, hlocks, hK, hN⟩
  have hin6 : ∀ w ∈ u_ws RX6 TX6 30, w ∈ wsX6_isLamp := by decide +kernel
  have hl159 : (Cond.fieldLink RX6 159 RX6 (TX6 19).2.1 (TX6 19).2.2.1) ∈ wsX6_isLamp := by decide +kernel
  refine ruL_c (n := 0) (n2 := 1) rfl (ru_iload_n (k := 1) hx hb dX6_isLamp_0) ?_
  refine ruL_c (n := 1) (n2 := 2) rfl (ru_iconst hx hb dX6_isLamp_1 rfl) ?_
  refine ruL_c (n := 2) (n2 := 3) rfl (ru_aload_n (k := 0) hx hb dX6_isLamp_2) ?_
  refine ruL_c (n := 3) (n2 := 4) rfl (ru_getI (own := RX6) (j := 19) (T := TX6) hx hb hown hK hts hin6 (by decide) rfl rfl (by decide) rfl hl159 dX6_isLamp_3) ?_
  refine ruL_c (n := 4) (n2 := 5) rfl (ru_bot) ?_
  refine ruL_c (n := 5) (n2 := 6) rfl (ru_bot) ?_
  refine ruL_c (n := 6) (n2 := 7) rfl (ru_iconst hx hb dX6_isLamp_6 rfl) ?_
  refine ruL_c (n := 7) (n2 := 8) rfl (ru_isub hx hb dX6_isLamp_7) ?_
  refine ruL_c (n := 8) (n2 := 9) rfl (ru_callS hx hb hml hown hts hK hN (c_X6_isIn l D cI cZ cA cL ad hi) (va_cwS 3 hts gX6_isLamp_X6_isIn rfl rfl rfl (by decide +kernel) ⟨Nat.le_of_ble_eq_true rfl, Nat.le_of_ble_eq_true rfl⟩) dX6_isLamp_8 ⟨Nat.zero_le _, Nat.zero_le _⟩) ?_
  refine ruL_c (n := 9) (n2 := 10) rfl (ru_bot) ?_
  refine ruL_c (n := 10) (n2 := 11) rfl (ru_bot) ?_
  refine ruL_c (n := 11) (n2 := 12) rfl (ru_zret hx hb hK hr hlocks dX6_isLamp_11) ?_
  exact trivial

-- CueTourModel.addLamp
def f_X6_addLamp (p0 : Int32) (p1 : Int32) (p2 : Int32) (p3 : Int32) (σ : aM) : Option (Int32 × aM) := bnd (f_X6_isStage p0 σ) (fun r1 σ2 => if r1 = 0 then bnd (f_X6_isIn p2 0 2 σ2) (fun r5 σ6 => if r5 = 0 then bnd (f_X6_isFine 1 σ6) (fun r9 σ10 => if ¬ r9 = 0 then if inb (σ10 6 19) 20 = true then if inb (σ10 6 19) 20 = true then if inb (σ10 6 19) 20 = true then if inb (σ10 6 19) 20 = true then if inb (σ10 6 19) 20 = true then if inb (σ10 6 19) 20 = true then some (((σ10 6 19) + 1) - 1, mput (mput (mput (mput (mput (mput (mput σ10 38 (ix (σ10 6 19)) p0) 39 (ix (σ10 6 19)) p1) 40 (ix (σ10 6 19)) p0) 41 (ix (σ10 6 19)) p1) 42 (ix (σ10 6 19)) p2) 43 (ix (σ10 6 19)) p3) 6 19 ((σ10 6 19) + 1)) else none else none else none else none else none else none else some (0, σ10)) else bnd (f_X6_isIn p3 1 100 σ6) (fun r19 σ20 => if r19 = 0 then bnd (f_X6_isFine 1 σ20) (fun r23 σ24 => if ¬ r23 = 0 then if inb (σ24 6 19) 20 = true then if inb (σ24 6 19) 20 = true then if inb (σ24 6 19) 20 = true then if inb (σ24 6 19) 20 = true then if inb (σ24 6 19) 20 = true then if inb (σ24 6 19) 20 = true then some (((σ24 6 19) + 1) - 1, mput (mput (mput (mput (mput (mput (mput σ24 38 (ix (σ24 6 19)) p0) 39 (ix (σ24 6 19)) p1) 40 (ix (σ24 6 19)) p0) 41 (ix (σ24 6 19)) p1) 42 (ix (σ24 6 19)) p2) 43 (ix (σ24 6 19)) p3) 6 19 ((σ24 6 19) + 1)) else none else none else none else none else none else none else some (0, σ24)) else bnd (f_X6_isFine 1 σ20) (fun r33 σ34 => if ¬ r33 = 0 then if inb (σ34 6 19) 20 = true then if inb (σ34 6 19) 20 = true then if inb (σ34 6 19) 20 = true then if inb (σ34 6 19) 20 = true then if inb (σ34 6 19) 20 = true then if inb (σ34 6 19) 20 = true then some (((σ34 6 19) + 1) - 1, mput (mput (mput (mput (mput (mput (mput σ34 38 (ix (σ34 6 19)) p0) 39 (ix (σ34 6 19)) p1) 40 (ix (σ34 6 19)) p0) 41 (ix (σ34 6 19)) p1) 42 (ix (σ34 6 19)) p2) 43 (ix (σ34 6 19)) p3) 6 19 ((σ34 6 19) + 1)) else none else none else none else none else none else none else some (0, σ34)))) else bnd (f_X6_isArea p1 σ2) (fun r43 σ44 => if r43 = 0 then bnd (f_X6_isIn p2 0 2 σ44) (fun r47 σ48 => if r47 = 0 then bnd (f_X6_isFine 1 σ48) (fun r51 σ52 => if ¬ r51 = 0 then if inb (σ52 6 19) 20 = true then if inb (σ52 6 19) 20 = true then if inb (σ52 6 19) 20 = true then if inb (σ52 6 19) 20 = true then if inb (σ52 6 19) 20 = true then if inb (σ52 6 19) 20 = true then some (((σ52 6 19) + 1) - 1, mput (mput (mput (mput (mput (mput (mput σ52 38 (ix (σ52 6 19)) p0) 39 (ix (σ52 6 19)) p1) 40 (ix (σ52 6 19)) p0) 41 (ix (σ52 6 19)) p1) 42 (ix (σ52 6 19)) p2) 43 (ix (σ52 6 19)) p3) 6 19 ((σ52 6 19) + 1)) else none else none else none else none else none else none else some (0, σ52)) else bnd (f_X6_isIn p3 1 100 σ48) (fun r61 σ62 => if r61 = 0 then bnd (f_X6_isFine 1 σ62) (fun r65 σ66 => if ¬ r65 = 0 then if inb (σ66 6 19) 20 = true then if inb (σ66 6 19) 20 = true then if inb (σ66 6 19) 20 = true then if inb (σ66 6 19) 20 = true then if inb (σ66 6 19) 20 = true then if inb (σ66 6 19) 20 = true then some (((σ66 6 19) + 1) - 1, mput (mput (mput (mput (mput (mput (mput σ66 38 (ix (σ66 6 19)) p0) 39 (ix (σ66 6 19)) p1) 40 (ix (σ66 6 19)) p0) 41 (ix (σ66 6 19)) p1) 42 (ix (σ66 6 19)) p2) 43 (ix (σ66 6 19)) p3) 6 19 ((σ66 6 19) + 1)) else none else none else none else none else none else none else some (0, σ66)) else bnd (f_X6_isFine 1 σ62) (fun r75 σ76 => if ¬ r75 = 0 then if inb (σ76 6 19) 20 = true then if inb (σ76 6 19) 20 = true then if inb (σ76 6 19) 20 = true then if inb (σ76 6 19) 20 = true then if inb (σ76 6 19) 20 = true then if inb (σ76 6 19) 20 = true then some (((σ76 6 19) + 1) - 1, mput (mput (mput (mput (mput (mput (mput σ76 38 (ix (σ76 6 19)) p0) 39 (ix (σ76 6 19)) p1) 40 (ix (σ76 6 19)) p0) 41 (ix (σ76 6 19)) p1) 42 (ix (σ76 6 19)) p2) 43 (ix (σ76 6 19)) p3) 6 19 ((σ76 6 19) + 1)) else none else none else none else none else none else none else some (0, σ76)))) else bnd (f_X6_isIn p2 0 2 σ44) (fun r85 σ86 => if r85 = 0 then bnd (f_X6_isFine 2 σ86) (fun r89 σ90 => if ¬ r89 = 0 then if inb (σ90 6 19) 20 = true then if inb (σ90 6 19) 20 = true then if inb (σ90 6 19) 20 = true then if inb (σ90 6 19) 20 = true then if inb (σ90 6 19) 20 = true then if inb (σ90 6 19) 20 = true then some (((σ90 6 19) + 1) - 1, mput (mput (mput (mput (mput (mput (mput σ90 38 (ix (σ90 6 19)) p0) 39 (ix (σ90 6 19)) p1) 40 (ix (σ90 6 19)) p0) 41 (ix (σ90 6 19)) p1) 42 (ix (σ90 6 19)) p2) 43 (ix (σ90 6 19)) p3) 6 19 ((σ90 6 19) + 1)) else none else none else none else none else none else none else some (0, σ90)) else bnd (f_X6_isIn p3 1 100 σ86) (fun r99 σ100 => if r99 = 0 then bnd (f_X6_isFine 2 σ100) (fun r103 σ104 => if ¬ r103 = 0 then if inb (σ104 6 19) 20 = true then if inb (σ104 6 19) 20 = true then if inb (σ104 6 19) 20 = true then if inb (σ104 6 19) 20 = true then if inb (σ104 6 19) 20 = true then if inb (σ104 6 19) 20 = true then some (((σ104 6 19) + 1) - 1, mput (mput (mput (mput (mput (mput (mput σ104 38 (ix (σ104 6 19)) p0) 39 (ix (σ104 6 19)) p1) 40 (ix (σ104 6 19)) p0) 41 (ix (σ104 6 19)) p1) 42 (ix (σ104 6 19)) p2) 43 (ix (σ104 6 19)) p3) 6 19 ((σ104 6 19) + 1)) else none else none else none else none else none else none else some (0, σ104)) else if ¬ (σ100 6 19) = 20 then bnd (f_X6_isFine 0 σ100) (fun r114 σ115 => if ¬ r114 = 0 then if inb (σ115 6 19) 20 = true then if inb (σ115 6 19) 20 = true then if inb (σ115 6 19) 20 = true then if inb (σ115 6 19) 20 = true then if inb (σ115 6 19) 20 = true then if inb (σ115 6 19) 20 = true then some (((σ115 6 19) + 1) - 1, mput (mput (mput (mput (mput (mput (mput σ115 38 (ix (σ115 6 19)) p0) 39 (ix (σ115 6 19)) p1) 40 (ix (σ115 6 19)) p0) 41 (ix (σ115 6 19)) p1) 42 (ix (σ115 6 19)) p2) 43 (ix (σ115 6 19)) p3) 6 19 ((σ115 6 19) + 1)) else none else none else none else none else none else none else some (0, σ115)) else bnd (f_X6_isFine 3 σ100) (fun r124 σ125 => if ¬ r124 = 0 then if inb (σ125 6 19) 20 = true then if inb (σ125 6 19) 20 = true then if inb (σ125 6 19) 20 = true then if inb (σ125 6 19) 20 = true then if inb (σ125 6 19) 20 = true then if inb (σ125 6 19) 20 = true then some (((σ125 6 19) + 1) - 1, mput (mput (mput (mput (mput (mput (mput σ125 38 (ix (σ125 6 19)) p0) 39 (ix (σ125 6 19)) p1) 40 (ix (σ125 6 19)) p0) 41 (ix (σ125 6 19)) p1) 42 (ix (σ125 6 19)) p2) 43 (ix (σ125 6 19)) p3) 6 19 ((σ125 6 19) + 1)) else none else none else none else none else none else none else some (0, σ125))))))
def F_X6_addLamp : aF := fun As σ => match As with
  | [.int p0, .int p1, .int p2, .int p3] => f_X6_addLamp p0 p1 p2 p3 σ
  | _ => none
def T_X6_addLamp (Qa : Int32 → aM → Prop) : List aI := [I_iload 1 1, I_callS 1 F_X6_isStage, I_bot, I_bot, I_if (fun x => x = 0) 18, I_bot, I_bot, I_iload 2 1, I_callS 1 F_X6_isArea, I_bot, I_bot, I_if (fun x => x = 0) 18, I_bot, I_bot, I_const 1 1, I_goto 19, I_bot, I_bot, I_const 0 1, I_istore 5 2, I_bot, I_iload 3 1, I_const 0 1, I_const 2 1, I_callS 3 F_X6_isIn, I_bot, I_bot, I_if (fun x => x = 0) 45, I_bot, I_bot, I_iload 4 2, I_bot, I_const 1 1, I_const (100) 2, I_bot, I_callS 3 F_X6_isIn, I_bot, I_bot, I_if (fun x => x = 0) 45, I_bot, I_bot, I_const 1 1, I_goto 46, I_bot, I_bot, I_const 0 1, I_istore 6 2, I_bot, I_aload 0 1, I_iload 5 2, I_bot, I_if (fun x => ¬ x = 0) 58, I_bot, I_bot, I_const 1 1, I_goto 81, I_bot, I_bot, I_iload 6 2, I_bot, I_if (fun x => ¬ x = 0) 67, I_bot, I_bot, I_const 2 1, I_goto 81, I_bot, I_bot, I_aload 0 1, I_getI 6 19, I_bot, I_bot, I_const (20) 2, I_bot, I_icmp (fun x y => ¬ x = y) 80, I_bot, I_bot, I_const 3 1, I_goto 81, I_bot, I_bot, I_const 0 1, I_callV 6 1 F_X6_isFine, I_bot, I_bot, I_if (fun x => ¬ x = 0) 89, I_bot, I_bot, I_const 0 1, I_iret Qa, I_aload 0 1, I_getR 6 38, I_bot, I_bot, I_aload 0 1, I_getI 6 19, I_bot, I_bot, I_iload 1 1, I_iast, I_aload 0 1, I_getR 6 39, I_bot, I_bot, I_aload 0 1, I_getI 6 19, I_bot, I_bot, I_iload 2 1, I_iast, I_aload 0 1, I_getR 6 40, I_bot, I_bot, I_aload 0 1, I_getI 6 19, I_bot, I_bot, I_iload 1 1, I_iast, I_aload 0 1, I_getR 6 41, I_bot, I_bot, I_aload 0 1, I_getI 6 19, I_bot, I_bot, I_iload 2 1, I_iast, I_aload 0 1, I_getR 6 42, I_bot, I_bot, I_aload 0 1, I_getI 6 19, I_bot, I_bot, I_iload 3 1, I_iast, I_aload 0 1, I_getR 6 43, I_bot, I_bot, I_aload 0 1, I_getI 6 19, I_bot, I_bot, I_iload 4 2, I_bot, I_iast, I_aload 0 1, I_dup, I_getI 6 19, I_bot, I_bot, I_const 1 1, I_bin fun x y => x + y, I_putI 6 19, I_bot, I_bot, I_aload 0 1, I_getI 6 19, I_bot, I_bot, I_const 1 1, I_bin fun x y => x - y, I_iret Qa]
set_option maxHeartbeats 4000000 in
set_option maxRecDepth 100000 in
theorem s_X6_addLamp : runs T_X6_addLamp [.ref 6] 7 F_X6_addLamp := by
  intro Qa K hw hf As σ r σ' h hQ
  unfold F_X6_addLamp at h
  split at h
  · rename_i p0 p1 p2 p3
    unfold f_X6_addLamp at h
    have hQ : Qa (r, σ').1 (r, σ').2 := hQ
    generalize (r, σ') = y at h hQ
    show K (0, [.ref 6, .int p0, .int p1, .int p2, .int p3, .null, .null], [], σ)
    obtain ⟨r1, σ2, e3, h⟩ := bnd_some h
    refine hw 2 _ ?_
    show ∃ r1 σ2, f_X6_isStage p0 σ = some (r1, σ2) ∧ K (4, [.ref 6, .int p0, .int p1, .int p2, .int p3, .null, .null], [.int r1], σ2)
    refine ⟨r1, σ2, e3, ?_⟩
    rcases ite_cases h with ⟨c4, h⟩ | ⟨c4, h⟩
    · refine hw 1 _ ?_
      show ((r1 = 0) → K (18, [.ref 6, .int p0, .int p1, .int p2, .int p3, .null, .null], [], σ2)) ∧ (¬ (r1 = 0) → K (7, [.ref 6, .int p0, .int p1, .int p2, .int p3, .null, .null], [], σ2))
      refine ⟨fun _ => ?_, fun q => absurd c4 q⟩
      obtain ⟨r5, σ6, e7, h⟩ := bnd_some h
      refine hw 6 _ ?_
      show ∃ r5 σ6, f_X6_isIn p2 0 2 σ2 = some (r5, σ6) ∧ K (27, [.ref 6, .int p0, .int p1, .int p2, .int p3, .int 0, .null], [.int r5], σ6)
      refine ⟨r5, σ6, e7, ?_⟩
      rcases ite_cases h with ⟨c8, h⟩ | ⟨c8, h⟩
      · refine hw 1 _ ?_
        show ((r5 = 0) → K (45, [.ref 6, .int p0, .int p1, .int p2, .int p3, .int 0, .null], [], σ6)) ∧ (¬ (r5 = 0) → K (30, [.ref 6, .int p0, .int p1, .int p2, .int p3, .int 0, .null], [], σ6))
        refine ⟨fun _ => ?_, fun q => absurd c8 q⟩
        refine hw 5 _ ?_
        show ((¬ (0 : Int32) = 0) → K (58, [.ref 6, .int p0, .int p1, .int p2, .int p3, .int 0, .int 0], [.ref 6], σ6)) ∧ (¬ (¬ (0 : Int32) = 0) → K (54, [.ref 6, .int p0, .int p1, .int p2, .int p3, .int 0, .int 0], [.ref 6], σ6))
        refine ⟨fun q => absurd q (by decide), fun _ => ?_⟩
        obtain ⟨r9, σ10, e11, h⟩ := bnd_some h
        refine hw 3 _ ?_
        show ∃ r9 σ10, f_X6_isFine 1 σ6 = some (r9, σ10) ∧ K (84, [.ref 6, .int p0, .int p1, .int p2, .int p3, .int 0, .int 0], [.int r9], σ10)
        refine ⟨r9, σ10, e11, ?_⟩
        rcases ite_cases h with ⟨c12, h⟩ | ⟨c12, h⟩
        · refine hw 1 _ ?_
          show ((¬ r9 = 0) → K (89, [.ref 6, .int p0, .int p1, .int p2, .int p3, .int 0, .int 0], [], σ10)) ∧ (¬ (¬ r9 = 0) → K (87, [.ref 6, .int p0, .int p1, .int p2, .int p3, .int 0, .int 0], [], σ10))
          refine ⟨fun _ => ?_, fun q => absurd c12 q⟩
          obtain ⟨g13, h⟩ := ite_some h
          obtain ⟨g14, h⟩ := ite_some h
          obtain ⟨g15, h⟩ := ite_some h
          obtain ⟨g16, h⟩ := ite_some h
          obtain ⟨g17, h⟩ := ite_some h
          obtain ⟨g18, h⟩ := ite_some h
          refine hw 40 _ ?_
          show kd 38 = 1 ∧ (inb (σ10 6 19) 20 = true ∧ (kd 39 = 1 ∧ (inb (σ10 6 19) 20 = true ∧ (kd 40 = 1 ∧ (inb (σ10 6 19) 20 = true ∧ (kd 41 = 1 ∧ (inb (σ10 6 19) 20 = true ∧ (kd 42 = 1 ∧ (inb (σ10 6 19) 20 = true ∧ (kd 43 = 1 ∧ (inb (σ10 6 19) 20 = true ∧ (K (156, [.ref 6, .int p0, .int p1, .int p2, .int p3, .int 0, .int 0], [.int 1, .int (σ10 6 19), .ref 6], mput (mput (mput (mput (mput (mput σ10 38 (ix (σ10 6 19)) p0) 39 (ix (σ10 6 19)) p1) 40 (ix (σ10 6 19)) p0) 41 (ix (σ10 6 19)) p1) 42 (ix (σ10 6 19)) p2) 43 (ix (σ10 6 19)) p3)))))))))))))
          refine ⟨rfl, g13, rfl, g14, rfl, g15, rfl, g16, rfl, g17, rfl, g18, ?_⟩
          obtain rfl := Option.some.inj h
          refine hw 7 _ ?_
          show Qa (((σ10 6 19) + 1) - 1) (mput (mput (mput (mput (mput (mput (mput σ10 38 (ix (σ10 6 19)) p0) 39 (ix (σ10 6 19)) p1) 40 (ix (σ10 6 19)) p0) 41 (ix (σ10 6 19)) p1) 42 (ix (σ10 6 19)) p2) 43 (ix (σ10 6 19)) p3) 6 19 ((σ10 6 19) + 1))
          refine hQ
        · refine hw 1 _ ?_
          show ((¬ r9 = 0) → K (89, [.ref 6, .int p0, .int p1, .int p2, .int p3, .int 0, .int 0], [], σ10)) ∧ (¬ (¬ r9 = 0) → K (87, [.ref 6, .int p0, .int p1, .int p2, .int p3, .int 0, .int 0], [], σ10))
          refine ⟨fun q => absurd q c12, fun _ => ?_⟩
          obtain rfl := Option.some.inj h
          refine hw 2 _ ?_
          show Qa 0 σ10
          refine hQ
      · refine hw 1 _ ?_
        show ((r5 = 0) → K (45, [.ref 6, .int p0, .int p1, .int p2, .int p3, .int 0, .null], [], σ6)) ∧ (¬ (r5 = 0) → K (30, [.ref 6, .int p0, .int p1, .int p2, .int p3, .int 0, .null], [], σ6))
        refine ⟨fun q => absurd q c8, fun _ => ?_⟩
        obtain ⟨r19, σ20, e21, h⟩ := bnd_some h
        refine hw 4 _ ?_
        show ∃ r19 σ20, f_X6_isIn p3 1 100 σ6 = some (r19, σ20) ∧ K (38, [.ref 6, .int p0, .int p1, .int p2, .int p3, .int 0, .null], [.int r19], σ20)
        refine ⟨r19, σ20, e21, ?_⟩
        rcases ite_cases h with ⟨c22, h⟩ | ⟨c22, h⟩
        · refine hw 1 _ ?_
          show ((r19 = 0) → K (45, [.ref 6, .int p0, .int p1, .int p2, .int p3, .int 0, .null], [], σ20)) ∧ (¬ (r19 = 0) → K (41, [.ref 6, .int p0, .int p1, .int p2, .int p3, .int 0, .null], [], σ20))
          refine ⟨fun _ => ?_, fun q => absurd c22 q⟩
          refine hw 5 _ ?_
          show ((¬ (0 : Int32) = 0) → K (58, [.ref 6, .int p0, .int p1, .int p2, .int p3, .int 0, .int 0], [.ref 6], σ20)) ∧ (¬ (¬ (0 : Int32) = 0) → K (54, [.ref 6, .int p0, .int p1, .int p2, .int p3, .int 0, .int 0], [.ref 6], σ20))
          refine ⟨fun q => absurd q (by decide), fun _ => ?_⟩
          obtain ⟨r23, σ24, e25, h⟩ := bnd_some h
          refine hw 3 _ ?_
          show ∃ r23 σ24, f_X6_isFine 1 σ20 = some (r23, σ24) ∧ K (84, [.ref 6, .int p0, .int p1, .int p2, .int p3, .int 0, .int 0], [.int r23], σ24)
          refine ⟨r23, σ24, e25, ?_⟩
          rcases ite_cases h with ⟨c26, h⟩ | ⟨c26, h⟩
          · refine hw 1 _ ?_
            show ((¬ r23 = 0) → K (89, [.ref 6, .int p0, .int p1, .int p2, .int p3, .int 0, .int 0], [], σ24)) ∧ (¬ (¬ r23 = 0) → K (87, [.ref 6, .int p0, .int p1, .int p2, .int p3, .int 0, .int 0], [], σ24))
            refine ⟨fun _ => ?_, fun q => absurd c26 q⟩
            obtain ⟨g27, h⟩ := ite_some h
            obtain ⟨g28, h⟩ := ite_some h
            obtain ⟨g29, h⟩ := ite_some h
            obtain ⟨g30, h⟩ := ite_some h
            obtain ⟨g31, h⟩ := ite_some h
            obtain ⟨g32, h⟩ := ite_some h
            refine hw 40 _ ?_
            show kd 38 = 1 ∧ (inb (σ24 6 19) 20 = true ∧ (kd 39 = 1 ∧ (inb (σ24 6 19) 20 = true ∧ (kd 40 = 1 ∧ (inb (σ24 6 19) 20 = true ∧ (kd 41 = 1 ∧ (inb (σ24 6 19) 20 = true ∧ (kd 42 = 1 ∧ (inb (σ24 6 19) 20 = true ∧ (kd 43 = 1 ∧ (inb (σ24 6 19) 20 = true ∧ (K (156, [.ref 6, .int p0, .int p1, .int p2, .int p3, .int 0, .int 0], [.int 1, .int (σ24 6 19), .ref 6], mput (mput (mput (mput (mput (mput σ24 38 (ix (σ24 6 19)) p0) 39 (ix (σ24 6 19)) p1) 40 (ix (σ24 6 19)) p0) 41 (ix (σ24 6 19)) p1) 42 (ix (σ24 6 19)) p2) 43 (ix (σ24 6 19)) p3)))))))))))))
            refine ⟨rfl, g27, rfl, g28, rfl, g29, rfl, g30, rfl, g31, rfl, g32, ?_⟩
            obtain rfl := Option.some.inj h
            refine hw 7 _ ?_
            show Qa (((σ24 6 19) + 1) - 1) (mput (mput (mput (mput (mput (mput (mput σ24 38 (ix (σ24 6 19)) p0) 39 (ix (σ24 6 19)) p1) 40 (ix (σ24 6 19)) p0) 41 (ix (σ24 6 19)) p1) 42 (ix (σ24 6 19)) p2) 43 (ix (σ24 6 19)) p3) 6 19 ((σ24 6 19) + 1))
            refine hQ
          · refine hw 1 _ ?_
            show ((¬ r23 = 0) → K (89, [.ref 6, .int p0, .int p1, .int p2, .int p3, .int 0, .int 0], [], σ24)) ∧ (¬ (¬ r23 = 0) → K (87, [.ref 6, .int p0, .int p1, .int p2, .int p3, .int 0, .int 0], [], σ24))
            refine ⟨fun q => absurd q c26, fun _ => ?_⟩
            obtain rfl := Option.some.inj h
            refine hw 2 _ ?_
            show Qa 0 σ24
            refine hQ
        · refine hw 1 _ ?_
          show ((r19 = 0) → K (45, [.ref 6, .int p0, .int p1, .int p2, .int p3, .int 0, .null], [], σ20)) ∧ (¬ (r19 = 0) → K (41, [.ref 6, .int p0, .int p1, .int p2, .int p3, .int 0, .null], [], σ20))
          refine ⟨fun q => absurd q c22, fun _ => ?_⟩
          refine hw 6 _ ?_
          show ((¬ (0 : Int32) = 0) → K (58, [.ref 6, .int p0, .int p1, .int p2, .int p3, .int 0, .int 1], [.ref 6], σ20)) ∧ (¬ (¬ (0 : Int32) = 0) → K (54, [.ref 6, .int p0, .int p1, .int p2, .int p3, .int 0, .int 1], [.ref 6], σ20))
          refine ⟨fun q => absurd q (by decide), fun _ => ?_⟩
          obtain ⟨r33, σ34, e35, h⟩ := bnd_some h
          refine hw 3 _ ?_
          show ∃ r33 σ34, f_X6_isFine 1 σ20 = some (r33, σ34) ∧ K (84, [.ref 6, .int p0, .int p1, .int p2, .int p3, .int 0, .int 1], [.int r33], σ34)
          refine ⟨r33, σ34, e35, ?_⟩
          rcases ite_cases h with ⟨c36, h⟩ | ⟨c36, h⟩
          · refine hw 1 _ ?_
            show ((¬ r33 = 0) → K (89, [.ref 6, .int p0, .int p1, .int p2, .int p3, .int 0, .int 1], [], σ34)) ∧ (¬ (¬ r33 = 0) → K (87, [.ref 6, .int p0, .int p1, .int p2, .int p3, .int 0, .int 1], [], σ34))
            refine ⟨fun _ => ?_, fun q => absurd c36 q⟩
            obtain ⟨g37, h⟩ := ite_some h
            obtain ⟨g38, h⟩ := ite_some h
            obtain ⟨g39, h⟩ := ite_some h
            obtain ⟨g40, h⟩ := ite_some h
            obtain ⟨g41, h⟩ := ite_some h
            obtain ⟨g42, h⟩ := ite_some h
            refine hw 40 _ ?_
            show kd 38 = 1 ∧ (inb (σ34 6 19) 20 = true ∧ (kd 39 = 1 ∧ (inb (σ34 6 19) 20 = true ∧ (kd 40 = 1 ∧ (inb (σ34 6 19) 20 = true ∧ (kd 41 = 1 ∧ (inb (σ34 6 19) 20 = true ∧ (kd 42 = 1 ∧ (inb (σ34 6 19) 20 = true ∧ (kd 43 = 1 ∧ (inb (σ34 6 19) 20 = true ∧ (K (156, [.ref 6, .int p0, .int p1, .int p2, .int p3, .int 0, .int 1], [.int 1, .int (σ34 6 19), .ref 6], mput (mput (mput (mput (mput (mput σ34 38 (ix (σ34 6 19)) p0) 39 (ix (σ34 6 19)) p1) 40 (ix (σ34 6 19)) p0) 41 (ix (σ34 6 19)) p1) 42 (ix (σ34 6 19)) p2) 43 (ix (σ34 6 19)) p3)))))))))))))
            refine ⟨rfl, g37, rfl, g38, rfl, g39, rfl, g40, rfl, g41, rfl, g42, ?_⟩
            obtain rfl := Option.some.inj h
            refine hw 7 _ ?_
            show Qa (((σ34 6 19) + 1) - 1) (mput (mput (mput (mput (mput (mput (mput σ34 38 (ix (σ34 6 19)) p0) 39 (ix (σ34 6 19)) p1) 40 (ix (σ34 6 19)) p0) 41 (ix (σ34 6 19)) p1) 42 (ix (σ34 6 19)) p2) 43 (ix (σ34 6 19)) p3) 6 19 ((σ34 6 19) + 1))
            refine hQ
          · refine hw 1 _ ?_
            show ((¬ r33 = 0) → K (89, [.ref 6, .int p0, .int p1, .int p2, .int p3, .int 0, .int 1], [], σ34)) ∧ (¬ (¬ r33 = 0) → K (87, [.ref 6, .int p0, .int p1, .int p2, .int p3, .int 0, .int 1], [], σ34))
            refine ⟨fun q => absurd q c36, fun _ => ?_⟩
            obtain rfl := Option.some.inj h
            refine hw 2 _ ?_
            show Qa 0 σ34
            refine hQ
    · refine hw 1 _ ?_
      show ((r1 = 0) → K (18, [.ref 6, .int p0, .int p1, .int p2, .int p3, .null, .null], [], σ2)) ∧ (¬ (r1 = 0) → K (7, [.ref 6, .int p0, .int p1, .int p2, .int p3, .null, .null], [], σ2))
      refine ⟨fun q => absurd q c4, fun _ => ?_⟩
      obtain ⟨r43, σ44, e45, h⟩ := bnd_some h
      refine hw 2 _ ?_
      show ∃ r43 σ44, f_X6_isArea p1 σ2 = some (r43, σ44) ∧ K (11, [.ref 6, .int p0, .int p1, .int p2, .int p3, .null, .null], [.int r43], σ44)
      refine ⟨r43, σ44, e45, ?_⟩
      rcases ite_cases h with ⟨c46, h⟩ | ⟨c46, h⟩
      · refine hw 1 _ ?_
        show ((r43 = 0) → K (18, [.ref 6, .int p0, .int p1, .int p2, .int p3, .null, .null], [], σ44)) ∧ (¬ (r43 = 0) → K (14, [.ref 6, .int p0, .int p1, .int p2, .int p3, .null, .null], [], σ44))
        refine ⟨fun _ => ?_, fun q => absurd c46 q⟩
        obtain ⟨r47, σ48, e49, h⟩ := bnd_some h
        refine hw 6 _ ?_
        show ∃ r47 σ48, f_X6_isIn p2 0 2 σ44 = some (r47, σ48) ∧ K (27, [.ref 6, .int p0, .int p1, .int p2, .int p3, .int 0, .null], [.int r47], σ48)
        refine ⟨r47, σ48, e49, ?_⟩
        rcases ite_cases h with ⟨c50, h⟩ | ⟨c50, h⟩
        · refine hw 1 _ ?_
          show ((r47 = 0) → K (45, [.ref 6, .int p0, .int p1, .int p2, .int p3, .int 0, .null], [], σ48)) ∧ (¬ (r47 = 0) → K (30, [.ref 6, .int p0, .int p1, .int p2, .int p3, .int 0, .null], [], σ48))
          refine ⟨fun _ => ?_, fun q => absurd c50 q⟩
          refine hw 5 _ ?_
          show ((¬ (0 : Int32) = 0) → K (58, [.ref 6, .int p0, .int p1, .int p2, .int p3, .int 0, .int 0], [.ref 6], σ48)) ∧ (¬ (¬ (0 : Int32) = 0) → K (54, [.ref 6, .int p0, .int p1, .int p2, .int p3, .int 0, .int 0], [.ref 6], σ48))
          refine ⟨fun q => absurd q (by decide), fun _ => ?_⟩
          obtain ⟨r51, σ52, e53, h⟩ := bnd_some h
          refine hw 3 _ ?_
          show ∃ r51 σ52, f_X6_isFine 1 σ48 = some (r51, σ52) ∧ K (84, [.ref 6, .int p0, .int p1, .int p2, .int p3, .int 0, .int 0], [.int r51], σ52)
          refine ⟨r51, σ52, e53, ?_⟩
          rcases ite_cases h with ⟨c54, h⟩ | ⟨c54, h⟩
          · refine hw 1 _ ?_
            show ((¬ r51 = 0) → K (89, [.ref 6, .int p0, .int p1, .int p2, .int p3, .int 0, .int 0], [], σ52)) ∧ (¬ (¬ r51 = 0) → K (87, [.ref 6, .int p0, .int p1, .int p2, .int p3, .int 0, .int 0], [], σ52))
            refine ⟨fun _ => ?_, fun q => absurd c54 q⟩
            obtain ⟨g55, h⟩ := ite_some h
            obtain ⟨g56, h⟩ := ite_some h
            obtain ⟨g57, h⟩ := ite_some h
            obtain ⟨g58, h⟩ := ite_some h
            obtain ⟨g59, h⟩ := ite_some h
            obtain ⟨g60, h⟩ := ite_some h
            refine hw 40 _ ?_
            show kd 38 = 1 ∧ (inb (σ52 6 19) 20 = true ∧ (kd 39 = 1 ∧ (inb (σ52 6 19) 20 = true ∧ (kd 40 = 1 ∧ (inb (σ52 6 19) 20 = true ∧ (kd 41 = 1 ∧ (inb (σ52 6 19) 20 = true ∧ (kd 42 = 1 ∧ (inb (σ52 6 19) 20 = true ∧ (kd 43 = 1 ∧ (inb (σ52 6 19) 20 = true ∧ (K (156, [.ref 6, .int p0, .int p1, .int p2, .int p3, .int 0, .int 0], [.int 1, .int (σ52 6 19), .ref 6], mput (mput (mput (mput (mput (mput σ52 38 (ix (σ52 6 19)) p0) 39 (ix (σ52 6 19)) p1) 40 (ix (σ52 6 19)) p0) 41 (ix (σ52 6 19)) p1) 42 (ix (σ52 6 19)) p2) 43 (ix (σ52 6 19)) p3)))))))))))))
            refine ⟨rfl, g55, rfl, g56, rfl, g57, rfl, g58, rfl, g59, rfl, g60, ?_⟩
            obtain rfl := Option.some.inj h
            refine hw 7 _ ?_
            show Qa (((σ52 6 19) + 1) - 1) (mput (mput (mput (mput (mput (mput (mput σ52 38 (ix (σ52 6 19)) p0) 39 (ix (σ52 6 19)) p1) 40 (ix (σ52 6 19)) p0) 41 (ix (σ52 6 19)) p1) 42 (ix (σ52 6 19)) p2) 43 (ix (σ52 6 19)) p3) 6 19 ((σ52 6 19) + 1))
            refine hQ
          · refine hw 1 _ ?_
            show ((¬ r51 = 0) → K (89, [.ref 6, .int p0, .int p1, .int p2, .int p3, .int 0, .int 0], [], σ52)) ∧ (¬ (¬ r51 = 0) → K (87, [.ref 6, .int p0, .int p1, .int p2, .int p3, .int 0, .int 0], [], σ52))
            refine ⟨fun q => absurd q c54, fun _ => ?_⟩
            obtain rfl := Option.some.inj h
            refine hw 2 _ ?_
            show Qa 0 σ52
            refine hQ
        · refine hw 1 _ ?_
          show ((r47 = 0) → K (45, [.ref 6, .int p0, .int p1, .int p2, .int p3, .int 0, .null], [], σ48)) ∧ (¬ (r47 = 0) → K (30, [.ref 6, .int p0, .int p1, .int p2, .int p3, .int 0, .null], [], σ48))
          refine ⟨fun q => absurd q c50, fun _ => ?_⟩
          obtain ⟨r61, σ62, e63, h⟩ := bnd_some h
          refine hw 4 _ ?_
          show ∃ r61 σ62, f_X6_isIn p3 1 100 σ48 = some (r61, σ62) ∧ K (38, [.ref 6, .int p0, .int p1, .int p2, .int p3, .int 0, .null], [.int r61], σ62)
          refine ⟨r61, σ62, e63, ?_⟩
          rcases ite_cases h with ⟨c64, h⟩ | ⟨c64, h⟩
          · refine hw 1 _ ?_
            show ((r61 = 0) → K (45, [.ref 6, .int p0, .int p1, .int p2, .int p3, .int 0, .null], [], σ62)) ∧ (¬ (r61 = 0) → K (41, [.ref 6, .int p0, .int p1, .int p2, .int p3, .int 0, .null], [], σ62))
            refine ⟨fun _ => ?_, fun q => absurd c64 q⟩
            refine hw 5 _ ?_
            show ((¬ (0 : Int32) = 0) → K (58, [.ref 6, .int p0, .int p1, .int p2, .int p3, .int 0, .int 0], [.ref 6], σ62)) ∧ (¬ (¬ (0 : Int32) = 0) → K (54, [.ref 6, .int p0, .int p1, .int p2, .int p3, .int 0, .int 0], [.ref 6], σ62))
            refine ⟨fun q => absurd q (by decide), fun _ => ?_⟩
            obtain ⟨r65, σ66, e67, h⟩ := bnd_some h
            refine hw 3 _ ?_
            show ∃ r65 σ66, f_X6_isFine 1 σ62 = some (r65, σ66) ∧ K (84, [.ref 6, .int p0, .int p1, .int p2, .int p3, .int 0, .int 0], [.int r65], σ66)
            refine ⟨r65, σ66, e67, ?_⟩
            rcases ite_cases h with ⟨c68, h⟩ | ⟨c68, h⟩
            · refine hw 1 _ ?_
              show ((¬ r65 = 0) → K (89, [.ref 6, .int p0, .int p1, .int p2, .int p3, .int 0, .int 0], [], σ66)) ∧ (¬ (¬ r65 = 0) → K (87, [.ref 6, .int p0, .int p1, .int p2, .int p3, .int 0, .int 0], [], σ66))
              refine ⟨fun _ => ?_, fun q => absurd c68 q⟩
              obtain ⟨g69, h⟩ := ite_some h
              obtain ⟨g70, h⟩ := ite_some h
              obtain ⟨g71, h⟩ := ite_some h
              obtain ⟨g72, h⟩ := ite_some h
              obtain ⟨g73, h⟩ := ite_some h
              obtain ⟨g74, h⟩ := ite_some h
              refine hw 40 _ ?_
              show kd 38 = 1 ∧ (inb (σ66 6 19) 20 = true ∧ (kd 39 = 1 ∧ (inb (σ66 6 19) 20 = true ∧ (kd 40 = 1 ∧ (inb (σ66 6 19) 20 = true ∧ (kd 41 = 1 ∧ (inb (σ66 6 19) 20 = true ∧ (kd 42 = 1 ∧ (inb (σ66 6 19) 20 = true ∧ (kd 43 = 1 ∧ (inb (σ66 6 19) 20 = true ∧ (K (156, [.ref 6, .int p0, .int p1, .int p2, .int p3, .int 0, .int 0], [.int 1, .int (σ66 6 19), .ref 6], mput (mput (mput (mput (mput (mput σ66 38 (ix (σ66 6 19)) p0) 39 (ix (σ66 6 19)) p1) 40 (ix (σ66 6 19)) p0) 41 (ix (σ66 6 19)) p1) 42 (ix (σ66 6 19)) p2) 43 (ix (σ66 6 19)) p3)))))))))))))
              refine ⟨rfl, g69, rfl, g70, rfl, g71, rfl, g72, rfl, g73, rfl, g74, ?_⟩
              obtain rfl := Option.some.inj h
              refine hw 7 _ ?_
              show Qa (((σ66 6 19) + 1) - 1) (mput (mput (mput (mput (mput (mput (mput σ66 38 (ix (σ66 6 19)) p0) 39 (ix (σ66 6 19)) p1) 40 (ix (σ66 6 19)) p0) 41 (ix (σ66 6 19)) p1) 42 (ix (σ66 6 19)) p2) 43 (ix (σ66 6 19)) p3) 6 19 ((σ66 6 19) + 1))
              refine hQ
            · refine hw 1 _ ?_
              show ((¬ r65 = 0) → K (89, [.ref 6, .int p0, .int p1, .int p2, .int p3, .int 0, .int 0], [], σ66)) ∧ (¬ (¬ r65 = 0) → K (87, [.ref 6, .int p0, .int p1, .int p2, .int p3, .int 0, .int 0], [], σ66))
              refine ⟨fun q => absurd q c68, fun _ => ?_⟩
              obtain rfl := Option.some.inj h
              refine hw 2 _ ?_
              show Qa 0 σ66
              refine hQ
          · refine hw 1 _ ?_
            show ((r61 = 0) → K (45, [.ref 6, .int p0, .int p1, .int p2, .int p3, .int 0, .null], [], σ62)) ∧ (¬ (r61 = 0) → K (41, [.ref 6, .int p0, .int p1, .int p2, .int p3, .int 0, .null], [], σ62))
            refine ⟨fun q => absurd q c64, fun _ => ?_⟩
            refine hw 6 _ ?_
            show ((¬ (0 : Int32) = 0) → K (58, [.ref 6, .int p0, .int p1, .int p2, .int p3, .int 0, .int 1], [.ref 6], σ62)) ∧ (¬ (¬ (0 : Int32) = 0) → K (54, [.ref 6, .int p0, .int p1, .int p2, .int p3, .int 0, .int 1], [.ref 6], σ62))
            refine ⟨fun q => absurd q (by decide), fun _ => ?_⟩
            obtain ⟨r75, σ76, e77, h⟩ := bnd_some h
            refine hw 3 _ ?_
            show ∃ r75 σ76, f_X6_isFine 1 σ62 = some (r75, σ76) ∧ K (84, [.ref 6, .int p0, .int p1, .int p2, .int p3, .int 0, .int 1], [.int r75], σ76)
            refine ⟨r75, σ76, e77, ?_⟩
            rcases ite_cases h with ⟨c78, h⟩ | ⟨c78, h⟩
            · refine hw 1 _ ?_
              show ((¬ r75 = 0) → K (89, [.ref 6, .int p0, .int p1, .int p2, .int p3, .int 0, .int 1], [], σ76)) ∧ (¬ (¬ r75 = 0) → K (87, [.ref 6, .int p0, .int p1, .int p2, .int p3, .int 0, .int 1], [], σ76))
              refine ⟨fun _ => ?_, fun q => absurd c78 q⟩
              obtain ⟨g79, h⟩ := ite_some h
              obtain ⟨g80, h⟩ := ite_some h
              obtain ⟨g81, h⟩ := ite_some h
              obtain ⟨g82, h⟩ := ite_some h
              obtain ⟨g83, h⟩ := ite_some h
              obtain ⟨g84, h⟩ := ite_some h
              refine hw 40 _ ?_
              show kd 38 = 1 ∧ (inb (σ76 6 19) 20 = true ∧ (kd 39 = 1 ∧ (inb (σ76 6 19) 20 = true ∧ (kd 40 = 1 ∧ (inb (σ76 6 19) 20 = true ∧ (kd 41 = 1 ∧ (inb (σ76 6 19) 20 = true ∧ (kd 42 = 1 ∧ (inb (σ76 6 19) 20 = true ∧ (kd 43 = 1 ∧ (inb (σ76 6 19) 20 = true ∧ (K (156, [.ref 6, .int p0, .int p1, .int p2, .int p3, .int 0, .int 1], [.int 1, .int (σ76 6 19), .ref 6], mput (mput (mput (mput (mput (mput σ76 38 (ix (σ76 6 19)) p0) 39 (ix (σ76 6 19)) p1) 40 (ix (σ76 6 19)) p0) 41 (ix (σ76 6 19)) p1) 42 (ix (σ76 6 19)) p2) 43 (ix (σ76 6 19)) p3)))))))))))))
              refine ⟨rfl, g79, rfl, g80, rfl, g81, rfl, g82, rfl, g83, rfl, g84, ?_⟩
              obtain rfl := Option.some.inj h
              refine hw 7 _ ?_
              show Qa (((σ76 6 19) + 1) - 1) (mput (mput (mput (mput (mput (mput (mput σ76 38 (ix (σ76 6 19)) p0) 39 (ix (σ76 6 19)) p1) 40 (ix (σ76 6 19)) p0) 41 (ix (σ76 6 19)) p1) 42 (ix (σ76 6 19)) p2) 43 (ix (σ76 6 19)) p3) 6 19 ((σ76 6 19) + 1))
              refine hQ
            · refine hw 1 _ ?_
              show ((¬ r75 = 0) → K (89, [.ref 6, .int p0, .int p1, .int p2, .int p3, .int 0, .int 1], [], σ76)) ∧ (¬ (¬ r75 = 0) → K (87, [.ref 6, .int p0, .int p1, .int p2, .int p3, .int 0, .int 1], [], σ76))
              refine ⟨fun q => absurd q c78, fun _ => ?_⟩
              obtain rfl := Option.some.inj h
              refine hw 2 _ ?_
              show Qa 0 σ76
              refine hQ
      · refine hw 1 _ ?_
        show ((r43 = 0) → K (18, [.ref 6, .int p0, .int p1, .int p2, .int p3, .null, .null], [], σ44)) ∧ (¬ (r43 = 0) → K (14, [.ref 6, .int p0, .int p1, .int p2, .int p3, .null, .null], [], σ44))
        refine ⟨fun q => absurd q c46, fun _ => ?_⟩
        obtain ⟨r85, σ86, e87, h⟩ := bnd_some h
        refine hw 7 _ ?_
        show ∃ r85 σ86, f_X6_isIn p2 0 2 σ44 = some (r85, σ86) ∧ K (27, [.ref 6, .int p0, .int p1, .int p2, .int p3, .int 1, .null], [.int r85], σ86)
        refine ⟨r85, σ86, e87, ?_⟩
        rcases ite_cases h with ⟨c88, h⟩ | ⟨c88, h⟩
        · refine hw 1 _ ?_
          show ((r85 = 0) → K (45, [.ref 6, .int p0, .int p1, .int p2, .int p3, .int 1, .null], [], σ86)) ∧ (¬ (r85 = 0) → K (30, [.ref 6, .int p0, .int p1, .int p2, .int p3, .int 1, .null], [], σ86))
          refine ⟨fun _ => ?_, fun q => absurd c88 q⟩
          refine hw 5 _ ?_
          show ((¬ (1 : Int32) = 0) → K (58, [.ref 6, .int p0, .int p1, .int p2, .int p3, .int 1, .int 0], [.ref 6], σ86)) ∧ (¬ (¬ (1 : Int32) = 0) → K (54, [.ref 6, .int p0, .int p1, .int p2, .int p3, .int 1, .int 0], [.ref 6], σ86))
          refine ⟨fun _ => ?_, fun q => absurd (by decide) q⟩
          refine hw 2 _ ?_
          show ((¬ (0 : Int32) = 0) → K (67, [.ref 6, .int p0, .int p1, .int p2, .int p3, .int 1, .int 0], [.ref 6], σ86)) ∧ (¬ (¬ (0 : Int32) = 0) → K (63, [.ref 6, .int p0, .int p1, .int p2, .int p3, .int 1, .int 0], [.ref 6], σ86))
          refine ⟨fun q => absurd q (by decide), fun _ => ?_⟩
          obtain ⟨r89, σ90, e91, h⟩ := bnd_some h
          refine hw 3 _ ?_
          show ∃ r89 σ90, f_X6_isFine 2 σ86 = some (r89, σ90) ∧ K (84, [.ref 6, .int p0, .int p1, .int p2, .int p3, .int 1, .int 0], [.int r89], σ90)
          refine ⟨r89, σ90, e91, ?_⟩
          rcases ite_cases h with ⟨c92, h⟩ | ⟨c92, h⟩
          · refine hw 1 _ ?_
            show ((¬ r89 = 0) → K (89, [.ref 6, .int p0, .int p1, .int p2, .int p3, .int 1, .int 0], [], σ90)) ∧ (¬ (¬ r89 = 0) → K (87, [.ref 6, .int p0, .int p1, .int p2, .int p3, .int 1, .int 0], [], σ90))
            refine ⟨fun _ => ?_, fun q => absurd c92 q⟩
            obtain ⟨g93, h⟩ := ite_some h
            obtain ⟨g94, h⟩ := ite_some h
            obtain ⟨g95, h⟩ := ite_some h
            obtain ⟨g96, h⟩ := ite_some h
            obtain ⟨g97, h⟩ := ite_some h
            obtain ⟨g98, h⟩ := ite_some h
            refine hw 40 _ ?_
            show kd 38 = 1 ∧ (inb (σ90 6 19) 20 = true ∧ (kd 39 = 1 ∧ (inb (σ90 6 19) 20 = true ∧ (kd 40 = 1 ∧ (inb (σ90 6 19) 20 = true ∧ (kd 41 = 1 ∧ (inb (σ90 6 19) 20 = true ∧ (kd 42 = 1 ∧ (inb (σ90 6 19) 20 = true ∧ (kd 43 = 1 ∧ (inb (σ90 6 19) 20 = true ∧ (K (156, [.ref 6, .int p0, .int p1, .int p2, .int p3, .int 1, .int 0], [.int 1, .int (σ90 6 19), .ref 6], mput (mput (mput (mput (mput (mput σ90 38 (ix (σ90 6 19)) p0) 39 (ix (σ90 6 19)) p1) 40 (ix (σ90 6 19)) p0) 41 (ix (σ90 6 19)) p1) 42 (ix (σ90 6 19)) p2) 43 (ix (σ90 6 19)) p3)))))))))))))
            refine ⟨rfl, g93, rfl, g94, rfl, g95, rfl, g96, rfl, g97, rfl, g98, ?_⟩
            obtain rfl := Option.some.inj h
            refine hw 7 _ ?_
            show Qa (((σ90 6 19) + 1) - 1) (mput (mput (mput (mput (mput (mput (mput σ90 38 (ix (σ90 6 19)) p0) 39 (ix (σ90 6 19)) p1) 40 (ix (σ90 6 19)) p0) 41 (ix (σ90 6 19)) p1) 42 (ix (σ90 6 19)) p2) 43 (ix (σ90 6 19)) p3) 6 19 ((σ90 6 19) + 1))
            refine hQ
          · refine hw 1 _ ?_
            show ((¬ r89 = 0) → K (89, [.ref 6, .int p0, .int p1, .int p2, .int p3, .int 1, .int 0], [], σ90)) ∧ (¬ (¬ r89 = 0) → K (87, [.ref 6, .int p0, .int p1, .int p2, .int p3, .int 1, .int 0], [], σ90))
            refine ⟨fun q => absurd q c92, fun _ => ?_⟩
            obtain rfl := Option.some.inj h
            refine hw 2 _ ?_
            show Qa 0 σ90
            refine hQ
        · refine hw 1 _ ?_
          show ((r85 = 0) → K (45, [.ref 6, .int p0, .int p1, .int p2, .int p3, .int 1, .null], [], σ86)) ∧ (¬ (r85 = 0) → K (30, [.ref 6, .int p0, .int p1, .int p2, .int p3, .int 1, .null], [], σ86))
          refine ⟨fun q => absurd q c88, fun _ => ?_⟩
          obtain ⟨r99, σ100, e101, h⟩ := bnd_some h
          refine hw 4 _ ?_
          show ∃ r99 σ100, f_X6_isIn p3 1 100 σ86 = some (r99, σ100) ∧ K (38, [.ref 6, .int p0, .int p1, .int p2, .int p3, .int 1, .null], [.int r99], σ100)
          refine ⟨r99, σ100, e101, ?_⟩
          rcases ite_cases h with ⟨c102, h⟩ | ⟨c102, h⟩
          · refine hw 1 _ ?_
            show ((r99 = 0) → K (45, [.ref 6, .int p0, .int p1, .int p2, .int p3, .int 1, .null], [], σ100)) ∧ (¬ (r99 = 0) → K (41, [.ref 6, .int p0, .int p1, .int p2, .int p3, .int 1, .null], [], σ100))
            refine ⟨fun _ => ?_, fun q => absurd c102 q⟩
            refine hw 5 _ ?_
            show ((¬ (1 : Int32) = 0) → K (58, [.ref 6, .int p0, .int p1, .int p2, .int p3, .int 1, .int 0], [.ref 6], σ100)) ∧ (¬ (¬ (1 : Int32) = 0) → K (54, [.ref 6, .int p0, .int p1, .int p2, .int p3, .int 1, .int 0], [.ref 6], σ100))
            refine ⟨fun _ => ?_, fun q => absurd (by decide) q⟩
            refine hw 2 _ ?_
            show ((¬ (0 : Int32) = 0) → K (67, [.ref 6, .int p0, .int p1, .int p2, .int p3, .int 1, .int 0], [.ref 6], σ100)) ∧ (¬ (¬ (0 : Int32) = 0) → K (63, [.ref 6, .int p0, .int p1, .int p2, .int p3, .int 1, .int 0], [.ref 6], σ100))
            refine ⟨fun q => absurd q (by decide), fun _ => ?_⟩
            obtain ⟨r103, σ104, e105, h⟩ := bnd_some h
            refine hw 3 _ ?_
            show ∃ r103 σ104, f_X6_isFine 2 σ100 = some (r103, σ104) ∧ K (84, [.ref 6, .int p0, .int p1, .int p2, .int p3, .int 1, .int 0], [.int r103], σ104)
            refine ⟨r103, σ104, e105, ?_⟩
            rcases ite_cases h with ⟨c106, h⟩ | ⟨c106, h⟩
            · refine hw 1 _ ?_
              show ((¬ r103 = 0) → K (89, [.ref 6, .int p0, .int p1, .int p2, .int p3, .int 1, .int 0], [], σ104)) ∧ (¬ (¬ r103 = 0) → K (87, [.ref 6, .int p0, .int p1, .int p2, .int p3, .int 1, .int 0], [], σ104))
              refine ⟨fun _ => ?_, fun q => absurd c106 q⟩
              obtain ⟨g107, h⟩ := ite_some h
              obtain ⟨g108, h⟩ := ite_some h
              obtain ⟨g109, h⟩ := ite_some h
              obtain ⟨g110, h⟩ := ite_some h
              obtain ⟨g111, h⟩ := ite_some h
              obtain ⟨g112, h⟩ := ite_some h
              refine hw 40 _ ?_
              show kd 38 = 1 ∧ (inb (σ104 6 19) 20 = true ∧ (kd 39 = 1 ∧ (inb (σ104 6 19) 20 = true ∧ (kd 40 = 1 ∧ (inb (σ104 6 19) 20 = true ∧ (kd 41 = 1 ∧ (inb (σ104 6 19) 20 = true ∧ (kd 42 = 1 ∧ (inb (σ104 6 19) 20 = true ∧ (kd 43 = 1 ∧ (inb (σ104 6 19) 20 = true ∧ (K (156, [.ref 6, .int p0, .int p1, .int p2, .int p3, .int 1, .int 0], [.int 1, .int (σ104 6 19), .ref 6], mput (mput (mput (mput (mput (mput σ104 38 (ix (σ104 6 19)) p0) 39 (ix (σ104 6 19)) p1) 40 (ix (σ104 6 19)) p0) 41 (ix (σ104 6 19)) p1) 42 (ix (σ104 6 19)) p2) 43 (ix (σ104 6 19)) p3)))))))))))))
              refine ⟨rfl, g107, rfl, g108, rfl, g109, rfl, g110, rfl, g111, rfl, g112, ?_⟩
              obtain rfl := Option.some.inj h
              refine hw 7 _ ?_
              show Qa (((σ104 6 19) + 1) - 1) (mput (mput (mput (mput (mput (mput (mput σ104 38 (ix (σ104 6 19)) p0) 39 (ix (σ104 6 19)) p1) 40 (ix (σ104 6 19)) p0) 41 (ix (σ104 6 19)) p1) 42 (ix (σ104 6 19)) p2) 43 (ix (σ104 6 19)) p3) 6 19 ((σ104 6 19) + 1))
              refine hQ
            · refine hw 1 _ ?_
              show ((¬ r103 = 0) → K (89, [.ref 6, .int p0, .int p1, .int p2, .int p3, .int 1, .int 0], [], σ104)) ∧ (¬ (¬ r103 = 0) → K (87, [.ref 6, .int p0, .int p1, .int p2, .int p3, .int 1, .int 0], [], σ104))
              refine ⟨fun q => absurd q c106, fun _ => ?_⟩
              obtain rfl := Option.some.inj h
              refine hw 2 _ ?_
              show Qa 0 σ104
              refine hQ
          · refine hw 1 _ ?_
            show ((r99 = 0) → K (45, [.ref 6, .int p0, .int p1, .int p2, .int p3, .int 1, .null], [], σ100)) ∧ (¬ (r99 = 0) → K (41, [.ref 6, .int p0, .int p1, .int p2, .int p3, .int 1, .null], [], σ100))
            refine ⟨fun q => absurd q c102, fun _ => ?_⟩
            refine hw 6 _ ?_
            show ((¬ (1 : Int32) = 0) → K (58, [.ref 6, .int p0, .int p1, .int p2, .int p3, .int 1, .int 1], [.ref 6], σ100)) ∧ (¬ (¬ (1 : Int32) = 0) → K (54, [.ref 6, .int p0, .int p1, .int p2, .int p3, .int 1, .int 1], [.ref 6], σ100))
            refine ⟨fun _ => ?_, fun q => absurd (by decide) q⟩
            refine hw 2 _ ?_
            show ((¬ (1 : Int32) = 0) → K (67, [.ref 6, .int p0, .int p1, .int p2, .int p3, .int 1, .int 1], [.ref 6], σ100)) ∧ (¬ (¬ (1 : Int32) = 0) → K (63, [.ref 6, .int p0, .int p1, .int p2, .int p3, .int 1, .int 1], [.ref 6], σ100))
            refine ⟨fun _ => ?_, fun q => absurd (by decide) q⟩
            rcases ite_cases h with ⟨c113, h⟩ | ⟨c113, h⟩
            · refine hw 4 _ ?_
              show ((¬ (σ100 6 19) = 20) → K (80, [.ref 6, .int p0, .int p1, .int p2, .int p3, .int 1, .int 1], [.ref 6], σ100)) ∧ (¬ (¬ (σ100 6 19) = 20) → K (76, [.ref 6, .int p0, .int p1, .int p2, .int p3, .int 1, .int 1], [.ref 6], σ100))
              refine ⟨fun _ => ?_, fun q => absurd c113 q⟩
              obtain ⟨r114, σ115, e116, h⟩ := bnd_some h
              refine hw 2 _ ?_
              show ∃ r114 σ115, f_X6_isFine 0 σ100 = some (r114, σ115) ∧ K (84, [.ref 6, .int p0, .int p1, .int p2, .int p3, .int 1, .int 1], [.int r114], σ115)
              refine ⟨r114, σ115, e116, ?_⟩
              rcases ite_cases h with ⟨c117, h⟩ | ⟨c117, h⟩
              · refine hw 1 _ ?_
                show ((¬ r114 = 0) → K (89, [.ref 6, .int p0, .int p1, .int p2, .int p3, .int 1, .int 1], [], σ115)) ∧ (¬ (¬ r114 = 0) → K (87, [.ref 6, .int p0, .int p1, .int p2, .int p3, .int 1, .int 1], [], σ115))
                refine ⟨fun _ => ?_, fun q => absurd c117 q⟩
                obtain ⟨g118, h⟩ := ite_some h
                obtain ⟨g119, h⟩ := ite_some h
                obtain ⟨g120, h⟩ := ite_some h
                obtain ⟨g121, h⟩ := ite_some h
                obtain ⟨g122, h⟩ := ite_some h
                obtain ⟨g123, h⟩ := ite_some h
                refine hw 40 _ ?_
                show kd 38 = 1 ∧ (inb (σ115 6 19) 20 = true ∧ (kd 39 = 1 ∧ (inb (σ115 6 19) 20 = true ∧ (kd 40 = 1 ∧ (inb (σ115 6 19) 20 = true ∧ (kd 41 = 1 ∧ (inb (σ115 6 19) 20 = true ∧ (kd 42 = 1 ∧ (inb (σ115 6 19) 20 = true ∧ (kd 43 = 1 ∧ (inb (σ115 6 19) 20 = true ∧ (K (156, [.ref 6, .int p0, .int p1, .int p2, .int p3, .int 1, .int 1], [.int 1, .int (σ115 6 19), .ref 6], mput (mput (mput (mput (mput (mput σ115 38 (ix (σ115 6 19)) p0) 39 (ix (σ115 6 19)) p1) 40 (ix (σ115 6 19)) p0) 41 (ix (σ115 6 19)) p1) 42 (ix (σ115 6 19)) p2) 43 (ix (σ115 6 19)) p3)))))))))))))
                refine ⟨rfl, g118, rfl, g119, rfl, g120, rfl, g121, rfl, g122, rfl, g123, ?_⟩
                obtain rfl := Option.some.inj h
                refine hw 7 _ ?_
                show Qa (((σ115 6 19) + 1) - 1) (mput (mput (mput (mput (mput (mput (mput σ115 38 (ix (σ115 6 19)) p0) 39 (ix (σ115 6 19)) p1) 40 (ix (σ115 6 19)) p0) 41 (ix (σ115 6 19)) p1) 42 (ix (σ115 6 19)) p2) 43 (ix (σ115 6 19)) p3) 6 19 ((σ115 6 19) + 1))
                refine hQ
              · refine hw 1 _ ?_
                show ((¬ r114 = 0) → K (89, [.ref 6, .int p0, .int p1, .int p2, .int p3, .int 1, .int 1], [], σ115)) ∧ (¬ (¬ r114 = 0) → K (87, [.ref 6, .int p0, .int p1, .int p2, .int p3, .int 1, .int 1], [], σ115))
                refine ⟨fun q => absurd q c117, fun _ => ?_⟩
                obtain rfl := Option.some.inj h
                refine hw 2 _ ?_
                show Qa 0 σ115
                refine hQ
            · refine hw 4 _ ?_
              show ((¬ (σ100 6 19) = 20) → K (80, [.ref 6, .int p0, .int p1, .int p2, .int p3, .int 1, .int 1], [.ref 6], σ100)) ∧ (¬ (¬ (σ100 6 19) = 20) → K (76, [.ref 6, .int p0, .int p1, .int p2, .int p3, .int 1, .int 1], [.ref 6], σ100))
              refine ⟨fun q => absurd q c113, fun _ => ?_⟩
              obtain ⟨r124, σ125, e126, h⟩ := bnd_some h
              refine hw 3 _ ?_
              show ∃ r124 σ125, f_X6_isFine 3 σ100 = some (r124, σ125) ∧ K (84, [.ref 6, .int p0, .int p1, .int p2, .int p3, .int 1, .int 1], [.int r124], σ125)
              refine ⟨r124, σ125, e126, ?_⟩
              rcases ite_cases h with ⟨c127, h⟩ | ⟨c127, h⟩
              · refine hw 1 _ ?_
                show ((¬ r124 = 0) → K (89, [.ref 6, .int p0, .int p1, .int p2, .int p3, .int 1, .int 1], [], σ125)) ∧ (¬ (¬ r124 = 0) → K (87, [.ref 6, .int p0, .int p1, .int p2, .int p3, .int 1, .int 1], [], σ125))
                refine ⟨fun _ => ?_, fun q => absurd c127 q⟩
                obtain ⟨g128, h⟩ := ite_some h
                obtain ⟨g129, h⟩ := ite_some h
                obtain ⟨g130, h⟩ := ite_some h
                obtain ⟨g131, h⟩ := ite_some h
                obtain ⟨g132, h⟩ := ite_some h
                obtain ⟨g133, h⟩ := ite_some h
                refine hw 40 _ ?_
                show kd 38 = 1 ∧ (inb (σ125 6 19) 20 = true ∧ (kd 39 = 1 ∧ (inb (σ125 6 19) 20 = true ∧ (kd 40 = 1 ∧ (inb (σ125 6 19) 20 = true ∧ (kd 41 = 1 ∧ (inb (σ125 6 19) 20 = true ∧ (kd 42 = 1 ∧ (inb (σ125 6 19) 20 = true ∧ (kd 43 = 1 ∧ (inb (σ125 6 19) 20 = true ∧ (K (156, [.ref 6, .int p0, .int p1, .int p2, .int p3, .int 1, .int 1], [.int 1, .int (σ125 6 19), .ref 6], mput (mput (mput (mput (mput (mput σ125 38 (ix (σ125 6 19)) p0) 39 (ix (σ125 6 19)) p1) 40 (ix (σ125 6 19)) p0) 41 (ix (σ125 6 19)) p1) 42 (ix (σ125 6 19)) p2) 43 (ix (σ125 6 19)) p3)))))))))))))
                refine ⟨rfl, g128, rfl, g129, rfl, g130, rfl, g131, rfl, g132, rfl, g133, ?_⟩
                obtain rfl := Option.some.inj h
                refine hw 7 _ ?_
                show Qa (((σ125 6 19) + 1) - 1) (mput (mput (mput (mput (mput (mput (mput σ125 38 (ix (σ125 6 19)) p0) 39 (ix (σ125 6 19)) p1) 40 (ix (σ125 6 19)) p0) 41 (ix (σ125 6 19)) p1) 42 (ix (σ125 6 19)) p2) 43 (ix (σ125 6 19)) p3) 6 19 ((σ125 6 19) + 1))
                refine hQ
              · refine hw 1 _ ?_
                show ((¬ r124 = 0) → K (89, [.ref 6, .int p0, .int p1, .int p2, .int p3, .int 1, .int 1], [], σ125)) ∧ (¬ (¬ r124 = 0) → K (87, [.ref 6, .int p0, .int p1, .int p2, .int p3, .int 1, .int 1], [], σ125))
                refine ⟨fun q => absurd q c127, fun _ => ?_⟩
                obtain rfl := Option.some.inj h
                refine hw 2 _ ?_
                show Qa 0 σ125
                refine hQ
  · cases h
theorem h_X6_addLamp : shp [.ref 6] 7 F_X6_addLamp := by
  intro As σ r σ' h
  unfold F_X6_addLamp at h
  split at h
  · exact ⟨by simp [Value.category], Nat.le_of_ble_eq_true rfl⟩
  · cases h
set_option maxHeartbeats 4000000 in
set_option maxRecDepth 100000 in
theorem c_X6_addLamp (l : Launch) (D : va_G) (cI cZ cA cL : ClassId) (ad : Nat → Nat) (hi : adI ad) : CtI l yX6_addLamp wsX6_addLamp { frames := 2, cells := 0, slots := 0, locals := 42 } D cI cZ cA cL ad [.ref 6] F_X6_addLamp := by
  refine mk_I [.ref 6] F_X6_addLamp T_X6_addLamp (by decide +kernel) rfl ?_ h_X6_addLamp s_X6_addLamp
  intro p e s m args below meth c Qa ⟨hx, hb, hml, hown, hts, hr, hlocks, hK, hN⟩
  have hin6 : ∀ w ∈ u_ws RX6 TX6 30, w ∈ wsX6_addLamp := by decide +kernel
  have hl159 : (Cond.fieldLink RX6 159 RX6 (TX6 19).2.1 (TX6 19).2.2.1) ∈ wsX6_addLamp := by decide +kernel
  have hl38 : (Cond.fieldLink RX6 38 RX6 (TX6 12).2.1 (TX6 12).2.2.1) ∈ wsX6_addLamp := by decide +kernel
  have hl41 : (Cond.fieldLink RX6 41 RX6 (TX6 13).2.1 (TX6 13).2.2.1) ∈ wsX6_addLamp := by decide +kernel
  have hl44 : (Cond.fieldLink RX6 44 RX6 (TX6 14).2.1 (TX6 14).2.2.1) ∈ wsX6_addLamp := by decide +kernel
  have hl47 : (Cond.fieldLink RX6 47 RX6 (TX6 15).2.1 (TX6 15).2.2.1) ∈ wsX6_addLamp := by decide +kernel
  have hl50 : (Cond.fieldLink RX6 50 RX6 (TX6 16).2.1 (TX6 16).2.2.1) ∈ wsX6_addLamp := by decide +kernel
  have hl53 : (Cond.fieldLink RX6 53 RX6 (TX6 17).2.1 (TX6 17).2.2.1) ∈ wsX6_addLamp := by decide +kernel
  refine ruL_c (n := 0) (n2 := 1) rfl (ru_iload_n (k := 1) hx hb dX6_addLamp_0) ?_
  refine ruL_c (n := 1) (n2 := 2) rfl (ru_callS hx hb hml hown hts hK hN (c_X6_isStage l D cI cZ cA cL ad hi) (va_cwS 1 hts gX6_addLamp_X6_isStage rfl rfl rfl (by decide +kernel) ⟨Nat.le_of_ble_eq_true rfl, Nat.le_of_ble_eq_true rfl⟩) dX6_addLamp_1 ⟨Nat.zero_le _, Nat.zero_le _⟩) ?_
  refine ruL_c (n := 2) (n2 := 3) rfl (ru_bot) ?_
  refine ruL_c (n := 3) (n2 := 4) rfl (ru_bot) ?_
  refine ruL_c (n := 4) (n2 := 5) rfl (ru_ifeq hx hb dX6_addLamp_4 (by decide)) ?_
  refine ruL_c (n := 5) (n2 := 6) rfl (ru_bot) ?_
  refine ruL_c (n := 6) (n2 := 7) rfl (ru_bot) ?_
  refine ruL_c (n := 7) (n2 := 8) rfl (ru_iload_n (k := 2) hx hb dX6_addLamp_7) ?_
  refine ruL_c (n := 8) (n2 := 9) rfl (ru_callS hx hb hml hown hts hK hN (c_X6_isArea l D cI cZ cA cL ad hi) (va_cwS 1 hts gX6_addLamp_X6_isArea rfl rfl rfl (by decide +kernel) ⟨Nat.le_of_ble_eq_true rfl, Nat.le_of_ble_eq_true rfl⟩) dX6_addLamp_8 ⟨Nat.zero_le _, Nat.zero_le _⟩) ?_
  refine ruL_c (n := 9) (n2 := 10) rfl (ru_bot) ?_
  refine ruL_c (n := 10) (n2 := 11) rfl (ru_bot) ?_
  refine ruL_c (n := 11) (n2 := 12) rfl (ru_ifeq hx hb dX6_addLamp_11 (by decide)) ?_
  refine ruL_c (n := 12) (n2 := 13) rfl (ru_bot) ?_
  refine ruL_c (n := 13) (n2 := 14) rfl (ru_bot) ?_
  refine ruL_c (n := 14) (n2 := 15) rfl (ru_iconst hx hb dX6_addLamp_14 rfl) ?_
  refine ruL_c (n := 15) (n2 := 16) rfl (ru_goto hx hb dX6_addLamp_15 (by decide)) ?_
  refine ruL_c (n := 16) (n2 := 17) rfl (ru_bot) ?_
  refine ruL_c (n := 17) (n2 := 18) rfl (ru_bot) ?_
  refine ruL_c (n := 18) (n2 := 19) rfl (ru_iconst hx hb dX6_addLamp_18 rfl) ?_
  refine ruL_c (n := 19) (n2 := 20) rfl (ru_istore hx hb dX6_addLamp_19) ?_
  refine ruL_c (n := 20) (n2 := 21) rfl (ru_bot) ?_
  refine ruL_c (n := 21) (n2 := 22) rfl (ru_iload_n (k := 3) hx hb dX6_addLamp_21) ?_
  refine ruL_c (n := 22) (n2 := 23) rfl (ru_iconst hx hb dX6_addLamp_22 rfl) ?_
  refine ruL_c (n := 23) (n2 := 24) rfl (ru_iconst hx hb dX6_addLamp_23 rfl) ?_
  refine ruL_c (n := 24) (n2 := 25) rfl (ru_callS hx hb hml hown hts hK hN (c_X6_isIn l D cI cZ cA cL ad hi) (va_cwS 3 hts gX6_addLamp_X6_isIn rfl rfl rfl (by decide +kernel) ⟨Nat.le_of_ble_eq_true rfl, Nat.le_of_ble_eq_true rfl⟩) dX6_addLamp_24 ⟨Nat.zero_le _, Nat.zero_le _⟩) ?_
  refine ruL_c (n := 25) (n2 := 26) rfl (ru_bot) ?_
  refine ruL_c (n := 26) (n2 := 27) rfl (ru_bot) ?_
  refine ruL_c (n := 27) (n2 := 28) rfl (ru_ifeq hx hb dX6_addLamp_27 (by decide)) ?_
  refine ruL_c (n := 28) (n2 := 29) rfl (ru_bot) ?_
  refine ruL_c (n := 29) (n2 := 30) rfl (ru_bot) ?_
  refine ruL_c (n := 30) (n2 := 31) rfl (ru_iload hx hb dX6_addLamp_30) ?_
  refine ruL_c (n := 31) (n2 := 32) rfl (ru_bot) ?_
  refine ruL_c (n := 32) (n2 := 33) rfl (ru_iconst hx hb dX6_addLamp_32 rfl) ?_
  refine ruL_c (n := 33) (n2 := 34) rfl (ru_bipush hx hb dX6_addLamp_33 rfl) ?_
  refine ruL_c (n := 34) (n2 := 35) rfl (ru_bot) ?_
  refine ruL_c (n := 35) (n2 := 36) rfl (ru_callS hx hb hml hown hts hK hN (c_X6_isIn l D cI cZ cA cL ad hi) (va_cwS 3 hts gX6_addLamp_X6_isIn rfl rfl rfl (by decide +kernel) ⟨Nat.le_of_ble_eq_true rfl, Nat.le_of_ble_eq_true rfl⟩) dX6_addLamp_35 ⟨Nat.zero_le _, Nat.zero_le _⟩) ?_
  refine ruL_c (n := 36) (n2 := 37) rfl (ru_bot) ?_
  refine ruL_c (n := 37) (n2 := 38) rfl (ru_bot) ?_
  refine ruL_c (n := 38) (n2 := 39) rfl (ru_ifeq hx hb dX6_addLamp_38 (by decide)) ?_
  refine ruL_c (n := 39) (n2 := 40) rfl (ru_bot) ?_
  refine ruL_c (n := 40) (n2 := 41) rfl (ru_bot) ?_
  refine ruL_c (n := 41) (n2 := 42) rfl (ru_iconst hx hb dX6_addLamp_41 rfl) ?_
  refine ruL_c (n := 42) (n2 := 43) rfl (ru_goto hx hb dX6_addLamp_42 (by decide)) ?_
  refine ruL_c (n := 43) (n2 := 44) rfl (ru_bot) ?_
  refine ruL_c (n := 44) (n2 := 45) rfl (ru_bot) ?_
  refine ruL_c (n := 45) (n2 := 46) rfl (ru_iconst hx hb dX6_addLamp_45 rfl) ?_
  refine ruL_c (n := 46) (n2 := 47) rfl (ru_istore hx hb dX6_addLamp_46) ?_
  refine ruL_c (n := 47) (n2 := 48) rfl (ru_bot) ?_
  refine ruL_c (n := 48) (n2 := 49) rfl (ru_aload_n (k := 0) hx hb dX6_addLamp_48) ?_
  refine ruL_c (n := 49) (n2 := 50) rfl (ru_iload hx hb dX6_addLamp_49) ?_
  refine ruL_c (n := 50) (n2 := 51) rfl (ru_bot) ?_
  refine ruL_c (n := 51) (n2 := 52) rfl (ru_ifne hx hb dX6_addLamp_51 (by decide)) ?_
  refine ruL_c (n := 52) (n2 := 53) rfl (ru_bot) ?_
  refine ruL_c (n := 53) (n2 := 54) rfl (ru_bot) ?_
  refine ruL_c (n := 54) (n2 := 55) rfl (ru_iconst hx hb dX6_addLamp_54 rfl) ?_
  refine ruL_c (n := 55) (n2 := 56) rfl (ru_goto hx hb dX6_addLamp_55 (by decide)) ?_
  refine ruL_c (n := 56) (n2 := 57) rfl (ru_bot) ?_
  refine ruL_c (n := 57) (n2 := 58) rfl (ru_bot) ?_
  refine ruL_c (n := 58) (n2 := 59) rfl (ru_iload hx hb dX6_addLamp_58) ?_
  refine ruL_c (n := 59) (n2 := 60) rfl (ru_bot) ?_
  refine ruL_c (n := 60) (n2 := 61) rfl (ru_ifne hx hb dX6_addLamp_60 (by decide)) ?_
  refine ruL_c (n := 61) (n2 := 62) rfl (ru_bot) ?_
  refine ruL_c (n := 62) (n2 := 63) rfl (ru_bot) ?_
  refine ruL_c (n := 63) (n2 := 64) rfl (ru_iconst hx hb dX6_addLamp_63 rfl) ?_
  refine ruL_c (n := 64) (n2 := 65) rfl (ru_goto hx hb dX6_addLamp_64 (by decide)) ?_
  refine ruL_c (n := 65) (n2 := 66) rfl (ru_bot) ?_
  refine ruL_c (n := 66) (n2 := 67) rfl (ru_bot) ?_
  refine ruL_c (n := 67) (n2 := 68) rfl (ru_aload_n (k := 0) hx hb dX6_addLamp_67) ?_
  refine ruL_c (n := 68) (n2 := 69) rfl (ru_getI (own := RX6) (j := 19) (T := TX6) hx hb hown hK hts hin6 (by decide) rfl rfl (by decide) rfl hl159 dX6_addLamp_68) ?_
  refine ruL_c (n := 69) (n2 := 70) rfl (ru_bot) ?_
  refine ruL_c (n := 70) (n2 := 71) rfl (ru_bot) ?_
  refine ruL_c (n := 71) (n2 := 72) rfl (ru_bipush hx hb dX6_addLamp_71 rfl) ?_
  refine ruL_c (n := 72) (n2 := 73) rfl (ru_bot) ?_
  refine ruL_c (n := 73) (n2 := 74) rfl (ru_icmpne hx hb dX6_addLamp_73 (by decide)) ?_
  refine ruL_c (n := 74) (n2 := 75) rfl (ru_bot) ?_
  refine ruL_c (n := 75) (n2 := 76) rfl (ru_bot) ?_
  refine ruL_c (n := 76) (n2 := 77) rfl (ru_iconst hx hb dX6_addLamp_76 rfl) ?_
  refine ruL_c (n := 77) (n2 := 78) rfl (ru_goto hx hb dX6_addLamp_77 (by decide)) ?_
  refine ruL_c (n := 78) (n2 := 79) rfl (ru_bot) ?_
  refine ruL_c (n := 79) (n2 := 80) rfl (ru_bot) ?_
  refine ruL_c (n := 80) (n2 := 81) rfl (ru_iconst hx hb dX6_addLamp_80 rfl) ?_
  refine ruL_c (n := 81) (n2 := 82) rfl (ru_callV hx hb hml hown hts hK hN (by decide) rfl (c_X6_isFine l D cI cZ cA cL ad hi) (cwV 1 hts gX6_addLamp_X6_isFine rfl rfl rfl (by decide +kernel) ⟨Nat.le_of_ble_eq_true rfl, Nat.le_of_ble_eq_true rfl⟩) dX6_addLamp_81 ⟨Nat.zero_le _, Nat.zero_le _⟩) ?_
  refine ruL_c (n := 82) (n2 := 83) rfl (ru_bot) ?_
  refine ruL_c (n := 83) (n2 := 84) rfl (ru_bot) ?_
  refine ruL_c (n := 84) (n2 := 85) rfl (ru_ifne hx hb dX6_addLamp_84 (by decide)) ?_
  refine ruL_c (n := 85) (n2 := 86) rfl (ru_bot) ?_
  refine ruL_c (n := 86) (n2 := 87) rfl (ru_bot) ?_
  refine ruL_c (n := 87) (n2 := 88) rfl (ru_iconst hx hb dX6_addLamp_87 rfl) ?_
  refine ruL_c (n := 88) (n2 := 89) rfl (ru_iret hx hb hK hr hlocks dX6_addLamp_88) ?_
  refine ruL_c (n := 89) (n2 := 90) rfl (ru_aload_n (k := 0) hx hb dX6_addLamp_89) ?_
  refine ruL_c (n := 90) (n2 := 91) rfl (ru_getR (own := RX6) (j := 12) (T := TX6) hx hb hown hK hts hin6 (by decide) rfl rfl (by decide) rfl hl38 dX6_addLamp_90) ?_
  refine ruL_c (n := 91) (n2 := 92) rfl (ru_bot) ?_
  refine ruL_c (n := 92) (n2 := 93) rfl (ru_bot) ?_
  refine ruL_c (n := 93) (n2 := 94) rfl (ru_aload_n (k := 0) hx hb dX6_addLamp_93) ?_
  refine ruL_c (n := 94) (n2 := 95) rfl (ru_getI (own := RX6) (j := 19) (T := TX6) hx hb hown hK hts hin6 (by decide) rfl rfl (by decide) rfl hl159 dX6_addLamp_94) ?_
  refine ruL_c (n := 95) (n2 := 96) rfl (ru_bot) ?_
  refine ruL_c (n := 96) (n2 := 97) rfl (ru_bot) ?_
  refine ruL_c (n := 97) (n2 := 98) rfl (ru_iload_n (k := 1) hx hb dX6_addLamp_97) ?_
  refine ruL_c (n := 98) (n2 := 99) rfl (ru_iast hx hb hK hi dX6_addLamp_98) ?_
  refine ruL_c (n := 99) (n2 := 100) rfl (ru_aload_n (k := 0) hx hb dX6_addLamp_99) ?_
  refine ruL_c (n := 100) (n2 := 101) rfl (ru_getR (own := RX6) (j := 13) (T := TX6) hx hb hown hK hts hin6 (by decide) rfl rfl (by decide) rfl hl41 dX6_addLamp_100) ?_
  refine ruL_c (n := 101) (n2 := 102) rfl (ru_bot) ?_
  refine ruL_c (n := 102) (n2 := 103) rfl (ru_bot) ?_
  refine ruL_c (n := 103) (n2 := 104) rfl (ru_aload_n (k := 0) hx hb dX6_addLamp_103) ?_
  refine ruL_c (n := 104) (n2 := 105) rfl (ru_getI (own := RX6) (j := 19) (T := TX6) hx hb hown hK hts hin6 (by decide) rfl rfl (by decide) rfl hl159 dX6_addLamp_104) ?_
  refine ruL_c (n := 105) (n2 := 106) rfl (ru_bot) ?_
  refine ruL_c (n := 106) (n2 := 107) rfl (ru_bot) ?_
  refine ruL_c (n := 107) (n2 := 108) rfl (ru_iload_n (k := 2) hx hb dX6_addLamp_107) ?_
  refine ruL_c (n := 108) (n2 := 109) rfl (ru_iast hx hb hK hi dX6_addLamp_108) ?_
  refine ruL_c (n := 109) (n2 := 110) rfl (ru_aload_n (k := 0) hx hb dX6_addLamp_109) ?_
  refine ruL_c (n := 110) (n2 := 111) rfl (ru_getR (own := RX6) (j := 14) (T := TX6) hx hb hown hK hts hin6 (by decide) rfl rfl (by decide) rfl hl44 dX6_addLamp_110) ?_
  refine ruL_c (n := 111) (n2 := 112) rfl (ru_bot) ?_
  refine ruL_c (n := 112) (n2 := 113) rfl (ru_bot) ?_
  refine ruL_c (n := 113) (n2 := 114) rfl (ru_aload_n (k := 0) hx hb dX6_addLamp_113) ?_
  refine ruL_c (n := 114) (n2 := 115) rfl (ru_getI (own := RX6) (j := 19) (T := TX6) hx hb hown hK hts hin6 (by decide) rfl rfl (by decide) rfl hl159 dX6_addLamp_114) ?_
  refine ruL_c (n := 115) (n2 := 116) rfl (ru_bot) ?_
  refine ruL_c (n := 116) (n2 := 117) rfl (ru_bot) ?_
  refine ruL_c (n := 117) (n2 := 118) rfl (ru_iload_n (k := 1) hx hb dX6_addLamp_117) ?_
  refine ruL_c (n := 118) (n2 := 119) rfl (ru_iast hx hb hK hi dX6_addLamp_118) ?_
  refine ruL_c (n := 119) (n2 := 120) rfl (ru_aload_n (k := 0) hx hb dX6_addLamp_119) ?_
  refine ruL_c (n := 120) (n2 := 121) rfl (ru_getR (own := RX6) (j := 15) (T := TX6) hx hb hown hK hts hin6 (by decide) rfl rfl (by decide) rfl hl47 dX6_addLamp_120) ?_
  refine ruL_c (n := 121) (n2 := 122) rfl (ru_bot) ?_
  refine ruL_c (n := 122) (n2 := 123) rfl (ru_bot) ?_
  refine ruL_c (n := 123) (n2 := 124) rfl (ru_aload_n (k := 0) hx hb dX6_addLamp_123) ?_
  refine ruL_c (n := 124) (n2 := 125) rfl (ru_getI (own := RX6) (j := 19) (T := TX6) hx hb hown hK hts hin6 (by decide) rfl rfl (by decide) rfl hl159 dX6_addLamp_124) ?_
  refine ruL_c (n := 125) (n2 := 126) rfl (ru_bot) ?_
  refine ruL_c (n := 126) (n2 := 127) rfl (ru_bot) ?_
  refine ruL_c (n := 127) (n2 := 128) rfl (ru_iload_n (k := 2) hx hb dX6_addLamp_127) ?_
  refine ruL_c (n := 128) (n2 := 129) rfl (ru_iast hx hb hK hi dX6_addLamp_128) ?_
  refine ruL_c (n := 129) (n2 := 130) rfl (ru_aload_n (k := 0) hx hb dX6_addLamp_129) ?_
  refine ruL_c (n := 130) (n2 := 131) rfl (ru_getR (own := RX6) (j := 16) (T := TX6) hx hb hown hK hts hin6 (by decide) rfl rfl (by decide) rfl hl50 dX6_addLamp_130) ?_
  refine ruL_c (n := 131) (n2 := 132) rfl (ru_bot) ?_
  refine ruL_c (n := 132) (n2 := 133) rfl (ru_bot) ?_
  refine ruL_c (n := 133) (n2 := 134) rfl (ru_aload_n (k := 0) hx hb dX6_addLamp_133) ?_
  refine ruL_c (n := 134) (n2 := 135) rfl (ru_getI (own := RX6) (j := 19) (T := TX6) hx hb hown hK hts hin6 (by decide) rfl rfl (by decide) rfl hl159 dX6_addLamp_134) ?_
  refine ruL_c (n := 135) (n2 := 136) rfl (ru_bot) ?_
  refine ruL_c (n := 136) (n2 := 137) rfl (ru_bot) ?_
  refine ruL_c (n := 137) (n2 := 138) rfl (ru_iload_n (k := 3) hx hb dX6_addLamp_137) ?_
  refine ruL_c (n := 138) (n2 := 139) rfl (ru_iast hx hb hK hi dX6_addLamp_138) ?_
  refine ruL_c (n := 139) (n2 := 140) rfl (ru_aload_n (k := 0) hx hb dX6_addLamp_139) ?_
  refine ruL_c (n := 140) (n2 := 141) rfl (ru_getR (own := RX6) (j := 17) (T := TX6) hx hb hown hK hts hin6 (by decide) rfl rfl (by decide) rfl hl53 dX6_addLamp_140) ?_
  refine ruL_c (n := 141) (n2 := 142) rfl (ru_bot) ?_
  refine ruL_c (n := 142) (n2 := 143) rfl (ru_bot) ?_
  refine ruL_c (n := 143) (n2 := 144) rfl (ru_aload_n (k := 0) hx hb dX6_addLamp_143) ?_
  refine ruL_c (n := 144) (n2 := 145) rfl (ru_getI (own := RX6) (j := 19) (T := TX6) hx hb hown hK hts hin6 (by decide) rfl rfl (by decide) rfl hl159 dX6_addLamp_144) ?_
  refine ruL_c (n := 145) (n2 := 146) rfl (ru_bot) ?_
  refine ruL_c (n := 146) (n2 := 147) rfl (ru_bot) ?_
  refine ruL_c (n := 147) (n2 := 148) rfl (ru_iload hx hb dX6_addLamp_147) ?_
  refine ruL_c (n := 148) (n2 := 149) rfl (ru_bot) ?_
  refine ruL_c (n := 149) (n2 := 150) rfl (ru_iast hx hb hK hi dX6_addLamp_149) ?_
  refine ruL_c (n := 150) (n2 := 151) rfl (ru_aload_n (k := 0) hx hb dX6_addLamp_150) ?_
  refine ruL_c (n := 151) (n2 := 152) rfl (ru_dup hx hb dX6_addLamp_151) ?_
  refine ruL_c (n := 152) (n2 := 153) rfl (ru_getI (own := RX6) (j := 19) (T := TX6) hx hb hown hK hts hin6 (by decide) rfl rfl (by decide) rfl hl159 dX6_addLamp_152) ?_
  refine ruL_c (n := 153) (n2 := 154) rfl (ru_bot) ?_
  refine ruL_c (n := 154) (n2 := 155) rfl (ru_bot) ?_
  refine ruL_c (n := 155) (n2 := 156) rfl (ru_iconst hx hb dX6_addLamp_155 rfl) ?_
  refine ruL_c (n := 156) (n2 := 157) rfl (ru_iadd hx hb dX6_addLamp_156) ?_
  refine ruL_c (n := 157) (n2 := 158) rfl (ru_putI (own := RX6) (j := 19) (T := TX6) hx hb hown hK hi hts hin6 tyX6 tyX6_ok nmX6 (by decide) rfl rfl (by decide) rfl hl159 rfl (by decide +kernel) dX6_addLamp_157) ?_
  refine ruL_c (n := 158) (n2 := 159) rfl (ru_bot) ?_
  refine ruL_c (n := 159) (n2 := 160) rfl (ru_bot) ?_
  refine ruL_c (n := 160) (n2 := 161) rfl (ru_aload_n (k := 0) hx hb dX6_addLamp_160) ?_
  refine ruL_c (n := 161) (n2 := 162) rfl (ru_getI (own := RX6) (j := 19) (T := TX6) hx hb hown hK hts hin6 (by decide) rfl rfl (by decide) rfl hl159 dX6_addLamp_161) ?_
  refine ruL_c (n := 162) (n2 := 163) rfl (ru_bot) ?_
  refine ruL_c (n := 163) (n2 := 164) rfl (ru_bot) ?_
  refine ruL_c (n := 164) (n2 := 165) rfl (ru_iconst hx hb dX6_addLamp_164 rfl) ?_
  refine ruL_c (n := 165) (n2 := 166) rfl (ru_isub hx hb dX6_addLamp_165) ?_
  refine ruL_c (n := 166) (n2 := 167) rfl (ru_iret hx hb hK hr hlocks dX6_addLamp_166) ?_
  exact trivial

-- CueTourModel.isHome
def f_X6_isHome (p0 : Int32) (σ : aM) : Option (Int32 × aM) := if inb p0 20 = true then if inb p0 20 = true then if ¬ (σ 40 (ix p0)) = (σ 38 (ix p0)) then some (0, σ) else some (1, σ) else none else none
def F_X6_isHome : aF := fun As σ => match As with
  | [.int p0] => f_X6_isHome p0 σ
  | _ => none
def T_X6_isHome (Qa : Int32 → aM → Prop) : List aI := [I_aload 0 1, I_getR 6 40, I_bot, I_bot, I_iload 1 1, I_iald, I_aload 0 1, I_getR 6 38, I_bot, I_bot, I_iload 1 1, I_iald, I_icmp (fun x y => ¬ x = y) 19, I_bot, I_bot, I_const 1 1, I_goto 20, I_bot, I_bot, I_const 0 1, I_zret Qa]
set_option maxHeartbeats 4000000 in
set_option maxRecDepth 100000 in
theorem s_X6_isHome : runs T_X6_isHome [.ref 6] 2 F_X6_isHome := by
  intro Qa K hw hf As σ r σ' h hQ
  unfold F_X6_isHome at h
  split at h
  · rename_i p0
    unfold f_X6_isHome at h
    have hQ : Qa (r, σ').1 (r, σ').2 := hQ
    generalize (r, σ') = y at h hQ
    show K (0, [.ref 6, .int p0], [], σ)
    obtain ⟨g1, h⟩ := ite_some h
    obtain ⟨g2, h⟩ := ite_some h
    rcases ite_cases h with ⟨c3, h⟩ | ⟨c3, h⟩
    · refine hw 9 _ ?_
      show kd 40 = 1 ∧ (inb p0 20 = true ∧ (kd 38 = 1 ∧ (inb p0 20 = true ∧ (((¬ (σ 40 (ix p0)) = (σ 38 (ix p0))) → K (19, [.ref 6, .int p0], [], σ)) ∧ (¬ (¬ (σ 40 (ix p0)) = (σ 38 (ix p0))) → K (15, [.ref 6, .int p0], [], σ))))))
      refine ⟨rfl, g1, rfl, g2, ⟨fun _ => ?_, fun q => absurd c3 q⟩⟩
      obtain rfl := Option.some.inj h
      refine hw 2 _ ?_
      show (0 = (0:Int32) ∨ 0 = (1:Int32)) ∧ (Qa 0 σ)
      refine ⟨Or.inl rfl, hQ⟩
    · refine hw 9 _ ?_
      show kd 40 = 1 ∧ (inb p0 20 = true ∧ (kd 38 = 1 ∧ (inb p0 20 = true ∧ (((¬ (σ 40 (ix p0)) = (σ 38 (ix p0))) → K (19, [.ref 6, .int p0], [], σ)) ∧ (¬ (¬ (σ 40 (ix p0)) = (σ 38 (ix p0))) → K (15, [.ref 6, .int p0], [], σ))))))
      refine ⟨rfl, g1, rfl, g2, ⟨fun q => absurd q c3, fun _ => ?_⟩⟩
      obtain rfl := Option.some.inj h
      refine hw 3 _ ?_
      show (1 = (0:Int32) ∨ 1 = (1:Int32)) ∧ (Qa 1 σ)
      refine ⟨Or.inr rfl, hQ⟩
  · cases h
theorem h_X6_isHome : shp [.ref 6] 2 F_X6_isHome := by
  intro As σ r σ' h
  unfold F_X6_isHome at h
  split at h
  · exact ⟨by simp [Value.category], Nat.le_of_ble_eq_true rfl⟩
  · cases h
set_option maxHeartbeats 4000000 in
set_option maxRecDepth 100000 in
theorem c_X6_isHome (l : Launch) (D : va_G) (cI cZ cA cL : ClassId) (ad : Nat → Nat) (hi : adI ad) : CtI l yX6_isHome wsX6_isHome { frames := 0, cells := 0, slots := 0, locals := 0 } D cI cZ cA cL ad [.ref 6] F_X6_isHome := by
  refine mk_I [.ref 6] F_X6_isHome T_X6_isHome (by decide +kernel) rfl ?_ h_X6_isHome s_X6_isHome
  intro p e s m args below meth c Qa ⟨hx, hb, hml, hown, hts, hr, hlocks, hK, hN⟩
  have hin6 : ∀ w ∈ u_ws RX6 TX6 30, w ∈ wsX6_isHome := by decide +kernel
  have hl44 : (Cond.fieldLink RX6 44 RX6 (TX6 14).2.1 (TX6 14).2.2.1) ∈ wsX6_isHome := by decide +kernel
  have hl38 : (Cond.fieldLink RX6 38 RX6 (TX6 12).2.1 (TX6 12).2.2.1) ∈ wsX6_isHome := by decide +kernel
  refine ruL_c (n := 0) (n2 := 1) rfl (ru_aload_n (k := 0) hx hb dX6_isHome_0) ?_
  refine ruL_c (n := 1) (n2 := 2) rfl (ru_getR (own := RX6) (j := 14) (T := TX6) hx hb hown hK hts hin6 (by decide) rfl rfl (by decide) rfl hl44 dX6_isHome_1) ?_
  refine ruL_c (n := 2) (n2 := 3) rfl (ru_bot) ?_
  refine ruL_c (n := 3) (n2 := 4) rfl (ru_bot) ?_
  refine ruL_c (n := 4) (n2 := 5) rfl (ru_iload_n (k := 1) hx hb dX6_isHome_4) ?_
  refine ruL_c (n := 5) (n2 := 6) rfl (ru_iald hx hb hK dX6_isHome_5) ?_
  refine ruL_c (n := 6) (n2 := 7) rfl (ru_aload_n (k := 0) hx hb dX6_isHome_6) ?_
  refine ruL_c (n := 7) (n2 := 8) rfl (ru_getR (own := RX6) (j := 12) (T := TX6) hx hb hown hK hts hin6 (by decide) rfl rfl (by decide) rfl hl38 dX6_isHome_7) ?_
  refine ruL_c (n := 8) (n2 := 9) rfl (ru_bot) ?_
  refine ruL_c (n := 9) (n2 := 10) rfl (ru_bot) ?_
  refine ruL_c (n := 10) (n2 := 11) rfl (ru_iload_n (k := 1) hx hb dX6_isHome_10) ?_
  refine ruL_c (n := 11) (n2 := 12) rfl (ru_iald hx hb hK dX6_isHome_11) ?_
  refine ruL_c (n := 12) (n2 := 13) rfl (ru_icmpne hx hb dX6_isHome_12 (by decide)) ?_
  refine ruL_c (n := 13) (n2 := 14) rfl (ru_bot) ?_
  refine ruL_c (n := 14) (n2 := 15) rfl (ru_bot) ?_
  refine ruL_c (n := 15) (n2 := 16) rfl (ru_iconst hx hb dX6_isHome_15 rfl) ?_
  refine ruL_c (n := 16) (n2 := 17) rfl (ru_goto hx hb dX6_isHome_16 (by decide)) ?_
  refine ruL_c (n := 17) (n2 := 18) rfl (ru_bot) ?_
  refine ruL_c (n := 18) (n2 := 19) rfl (ru_bot) ?_
  refine ruL_c (n := 19) (n2 := 20) rfl (ru_iconst hx hb dX6_isHome_19 rfl) ?_
  refine ruL_c (n := 20) (n2 := 21) rfl (ru_zret hx hb hK hr hlocks dX6_isHome_20) ?_
  exact trivial

-- CueTourModel.borrow
def f_X6_borrow (p0 : Int32) (p1 : Int32) (p2 : Int32) (σ : aM) : Option (Int32 × aM) := bnd (f_X6_isLamp p0 σ) (fun r1 σ2 => if r1 = 0 then bnd (f_X6_isFine 1 σ2) (fun r5 σ6 => if ¬ r5 = 0 then if inb p0 20 = true then if inb p0 20 = true then if inb p0 20 = true then some (σ6 38 (ix p0), mput (mput σ6 40 (ix p0) p1) 41 (ix p0) p2) else none else none else none else some (0, σ6)) else bnd (f_X6_isStage p1 σ2) (fun r12 σ13 => if r12 = 0 then bnd (f_X6_isFine 1 σ13) (fun r16 σ17 => if ¬ r16 = 0 then if inb p0 20 = true then if inb p0 20 = true then if inb p0 20 = true then some (σ17 38 (ix p0), mput (mput σ17 40 (ix p0) p1) 41 (ix p0) p2) else none else none else none else some (0, σ17)) else bnd (f_X6_isArea p2 σ13) (fun r23 σ24 => if r23 = 0 then bnd (f_X6_isFine 1 σ24) (fun r27 σ28 => if ¬ r27 = 0 then if inb p0 20 = true then if inb p0 20 = true then if inb p0 20 = true then some (σ28 38 (ix p0), mput (mput σ28 40 (ix p0) p1) 41 (ix p0) p2) else none else none else none else some (0, σ28)) else bnd (f_X6_isHome p0 σ24) (fun r34 σ35 => if r34 = 0 then bnd (f_X6_isFine 2 σ35) (fun r38 σ39 => if ¬ r38 = 0 then if inb p0 20 = true then if inb p0 20 = true then if inb p0 20 = true then some (σ39 38 (ix p0), mput (mput σ39 40 (ix p0) p1) 41 (ix p0) p2) else none else none else none else some (0, σ39)) else if inb p0 20 = true then if ¬ p1 = (σ35 38 (ix p0)) then bnd (f_X6_isFine 0 σ35) (fun r47 σ48 => if ¬ r47 = 0 then if inb p0 20 = true then if inb p0 20 = true then if inb p0 20 = true then some (σ48 38 (ix p0), mput (mput σ48 40 (ix p0) p1) 41 (ix p0) p2) else none else none else none else some (0, σ48)) else bnd (f_X6_isFine 2 σ35) (fun r54 σ55 => if ¬ r54 = 0 then if inb p0 20 = true then if inb p0 20 = true then if inb p0 20 = true then some (σ55 38 (ix p0), mput (mput σ55 40 (ix p0) p1) 41 (ix p0) p2) else none else none else none else some (0, σ55)) else none))))
def F_X6_borrow : aF := fun As σ => match As with
  | [.int p0, .int p1, .int p2] => f_X6_borrow p0 p1 p2 σ
  | _ => none
def T_X6_borrow (Qa : Int32 → aM → Prop) : List aI := [I_aload 0 1, I_iload 1 1, I_callV 6 1 F_X6_isLamp, I_bot, I_bot, I_if (fun x => x = 0) 26, I_bot, I_bot, I_iload 2 1, I_callS 1 F_X6_isStage, I_bot, I_bot, I_if (fun x => x = 0) 26, I_bot, I_bot, I_iload 3 1, I_callS 1 F_X6_isArea, I_bot, I_bot, I_if (fun x => x = 0) 26, I_bot, I_bot, I_const 1 1, I_goto 27, I_bot, I_bot, I_const 0 1, I_istore 4 2, I_bot, I_aload 0 1, I_iload 4 2, I_bot, I_if (fun x => ¬ x = 0) 39, I_bot, I_bot, I_const 1 1, I_goto 62, I_bot, I_bot, I_aload 0 1, I_iload 1 1, I_callV 6 1 F_X6_isHome, I_bot, I_bot, I_if (fun x => x = 0) 57, I_bot, I_bot, I_iload 2 1, I_aload 0 1, I_getR 6 38, I_bot, I_bot, I_iload 1 1, I_iald, I_icmp (fun x y => ¬ x = y) 61, I_bot, I_bot, I_const 2 1, I_goto 62, I_bot, I_bot, I_const 0 1, I_callV 6 1 F_X6_isFine, I_bot, I_bot, I_if (fun x => ¬ x = 0) 70, I_bot, I_bot, I_const 0 1, I_iret Qa, I_aload 0 1, I_getR 6 40, I_bot, I_bot, I_iload 1 1, I_iload 2 1, I_iast, I_aload 0 1, I_getR 6 41, I_bot, I_bot, I_iload 1 1, I_iload 3 1, I_iast, I_aload 0 1, I_getR 6 38, I_bot, I_bot, I_iload 1 1, I_iald, I_iret Qa]
set_option maxHeartbeats 4000000 in
set_option maxRecDepth 100000 in
theorem s_X6_borrow : runs T_X6_borrow [.ref 6] 5 F_X6_borrow := by
  intro Qa K hw hf As σ r σ' h hQ
  unfold F_X6_borrow at h
  split at h
  · rename_i p0 p1 p2
    unfold f_X6_borrow at h
    have hQ : Qa (r, σ').1 (r, σ').2 := hQ
    generalize (r, σ') = y at h hQ
    show K (0, [.ref 6, .int p0, .int p1, .int p2, .null], [], σ)
    obtain ⟨r1, σ2, e3, h⟩ := bnd_some h
    refine hw 3 _ ?_
    show ∃ r1 σ2, f_X6_isLamp p0 σ = some (r1, σ2) ∧ K (5, [.ref 6, .int p0, .int p1, .int p2, .null], [.int r1], σ2)
    refine ⟨r1, σ2, e3, ?_⟩
    rcases ite_cases h with ⟨c4, h⟩ | ⟨c4, h⟩
    · refine hw 1 _ ?_
      show ((r1 = 0) → K (26, [.ref 6, .int p0, .int p1, .int p2, .null], [], σ2)) ∧ (¬ (r1 = 0) → K (8, [.ref 6, .int p0, .int p1, .int p2, .null], [], σ2))
      refine ⟨fun _ => ?_, fun q => absurd c4 q⟩
      refine hw 5 _ ?_
      show ((¬ (0 : Int32) = 0) → K (39, [.ref 6, .int p0, .int p1, .int p2, .int 0], [.ref 6], σ2)) ∧ (¬ (¬ (0 : Int32) = 0) → K (35, [.ref 6, .int p0, .int p1, .int p2, .int 0], [.ref 6], σ2))
      refine ⟨fun q => absurd q (by decide), fun _ => ?_⟩
      obtain ⟨r5, σ6, e7, h⟩ := bnd_some h
      refine hw 3 _ ?_
      show ∃ r5 σ6, f_X6_isFine 1 σ2 = some (r5, σ6) ∧ K (65, [.ref 6, .int p0, .int p1, .int p2, .int 0], [.int r5], σ6)
      refine ⟨r5, σ6, e7, ?_⟩
      rcases ite_cases h with ⟨c8, h⟩ | ⟨c8, h⟩
      · refine hw 1 _ ?_
        show ((¬ r5 = 0) → K (70, [.ref 6, .int p0, .int p1, .int p2, .int 0], [], σ6)) ∧ (¬ (¬ r5 = 0) → K (68, [.ref 6, .int p0, .int p1, .int p2, .int 0], [], σ6))
        refine ⟨fun _ => ?_, fun q => absurd c8 q⟩
        obtain ⟨g9, h⟩ := ite_some h
        obtain ⟨g10, h⟩ := ite_some h
        obtain ⟨g11, h⟩ := ite_some h
        obtain rfl := Option.some.inj h
        refine hw 15 _ ?_
        show kd 40 = 1 ∧ (inb p0 20 = true ∧ (kd 41 = 1 ∧ (inb p0 20 = true ∧ (kd 38 = 1 ∧ (inb p0 20 = true ∧ (Qa (σ6 38 (ix p0)) (mput (mput σ6 40 (ix p0) p1) 41 (ix p0) p2)))))))
        refine ⟨rfl, g9, rfl, g10, rfl, g11, hQ⟩
      · refine hw 1 _ ?_
        show ((¬ r5 = 0) → K (70, [.ref 6, .int p0, .int p1, .int p2, .int 0], [], σ6)) ∧ (¬ (¬ r5 = 0) → K (68, [.ref 6, .int p0, .int p1, .int p2, .int 0], [], σ6))
        refine ⟨fun q => absurd q c8, fun _ => ?_⟩
        obtain rfl := Option.some.inj h
        refine hw 2 _ ?_
        show Qa 0 σ6
        refine hQ
    · refine hw 1 _ ?_
      show ((r1 = 0) → K (26, [.ref 6, .int p0, .int p1, .int p2, .null], [], σ2)) ∧ (¬ (r1 = 0) → K (8, [.ref 6, .int p0, .int p1, .int p2, .null], [], σ2))
      refine ⟨fun q => absurd q c4, fun _ => ?_⟩
      obtain ⟨r12, σ13, e14, h⟩ := bnd_some h
      refine hw 2 _ ?_
      show ∃ r12 σ13, f_X6_isStage p1 σ2 = some (r12, σ13) ∧ K (12, [.ref 6, .int p0, .int p1, .int p2, .null], [.int r12], σ13)
      refine ⟨r12, σ13, e14, ?_⟩
      rcases ite_cases h with ⟨c15, h⟩ | ⟨c15, h⟩
      · refine hw 1 _ ?_
        show ((r12 = 0) → K (26, [.ref 6, .int p0, .int p1, .int p2, .null], [], σ13)) ∧ (¬ (r12 = 0) → K (15, [.ref 6, .int p0, .int p1, .int p2, .null], [], σ13))
        refine ⟨fun _ => ?_, fun q => absurd c15 q⟩
        refine hw 5 _ ?_
        show ((¬ (0 : Int32) = 0) → K (39, [.ref 6, .int p0, .int p1, .int p2, .int 0], [.ref 6], σ13)) ∧ (¬ (¬ (0 : Int32) = 0) → K (35, [.ref 6, .int p0, .int p1, .int p2, .int 0], [.ref 6], σ13))
        refine ⟨fun q => absurd q (by decide), fun _ => ?_⟩
        obtain ⟨r16, σ17, e18, h⟩ := bnd_some h
        refine hw 3 _ ?_
        show ∃ r16 σ17, f_X6_isFine 1 σ13 = some (r16, σ17) ∧ K (65, [.ref 6, .int p0, .int p1, .int p2, .int 0], [.int r16], σ17)
        refine ⟨r16, σ17, e18, ?_⟩
        rcases ite_cases h with ⟨c19, h⟩ | ⟨c19, h⟩
        · refine hw 1 _ ?_
          show ((¬ r16 = 0) → K (70, [.ref 6, .int p0, .int p1, .int p2, .int 0], [], σ17)) ∧ (¬ (¬ r16 = 0) → K (68, [.ref 6, .int p0, .int p1, .int p2, .int 0], [], σ17))
          refine ⟨fun _ => ?_, fun q => absurd c19 q⟩
          obtain ⟨g20, h⟩ := ite_some h
          obtain ⟨g21, h⟩ := ite_some h
          obtain ⟨g22, h⟩ := ite_some h
          obtain rfl := Option.some.inj h
          refine hw 15 _ ?_
          show kd 40 = 1 ∧ (inb p0 20 = true ∧ (kd 41 = 1 ∧ (inb p0 20 = true ∧ (kd 38 = 1 ∧ (inb p0 20 = true ∧ (Qa (σ17 38 (ix p0)) (mput (mput σ17 40 (ix p0) p1) 41 (ix p0) p2)))))))
          refine ⟨rfl, g20, rfl, g21, rfl, g22, hQ⟩
        · refine hw 1 _ ?_
          show ((¬ r16 = 0) → K (70, [.ref 6, .int p0, .int p1, .int p2, .int 0], [], σ17)) ∧ (¬ (¬ r16 = 0) → K (68, [.ref 6, .int p0, .int p1, .int p2, .int 0], [], σ17))
          refine ⟨fun q => absurd q c19, fun _ => ?_⟩
          obtain rfl := Option.some.inj h
          refine hw 2 _ ?_
          show Qa 0 σ17
          refine hQ
      · refine hw 1 _ ?_
        show ((r12 = 0) → K (26, [.ref 6, .int p0, .int p1, .int p2, .null], [], σ13)) ∧ (¬ (r12 = 0) → K (15, [.ref 6, .int p0, .int p1, .int p2, .null], [], σ13))
        refine ⟨fun q => absurd q c15, fun _ => ?_⟩
        obtain ⟨r23, σ24, e25, h⟩ := bnd_some h
        refine hw 2 _ ?_
        show ∃ r23 σ24, f_X6_isArea p2 σ13 = some (r23, σ24) ∧ K (19, [.ref 6, .int p0, .int p1, .int p2, .null], [.int r23], σ24)
        refine ⟨r23, σ24, e25, ?_⟩
        rcases ite_cases h with ⟨c26, h⟩ | ⟨c26, h⟩
        · refine hw 1 _ ?_
          show ((r23 = 0) → K (26, [.ref 6, .int p0, .int p1, .int p2, .null], [], σ24)) ∧ (¬ (r23 = 0) → K (22, [.ref 6, .int p0, .int p1, .int p2, .null], [], σ24))
          refine ⟨fun _ => ?_, fun q => absurd c26 q⟩
          refine hw 5 _ ?_
          show ((¬ (0 : Int32) = 0) → K (39, [.ref 6, .int p0, .int p1, .int p2, .int 0], [.ref 6], σ24)) ∧ (¬ (¬ (0 : Int32) = 0) → K (35, [.ref 6, .int p0, .int p1, .int p2, .int 0], [.ref 6], σ24))
          refine ⟨fun q => absurd q (by decide), fun _ => ?_⟩
          obtain ⟨r27, σ28, e29, h⟩ := bnd_some h
          refine hw 3 _ ?_
          show ∃ r27 σ28, f_X6_isFine 1 σ24 = some (r27, σ28) ∧ K (65, [.ref 6, .int p0, .int p1, .int p2, .int 0], [.int r27], σ28)
          refine ⟨r27, σ28, e29, ?_⟩
          rcases ite_cases h with ⟨c30, h⟩ | ⟨c30, h⟩
          · refine hw 1 _ ?_
            show ((¬ r27 = 0) → K (70, [.ref 6, .int p0, .int p1, .int p2, .int 0], [], σ28)) ∧ (¬ (¬ r27 = 0) → K (68, [.ref 6, .int p0, .int p1, .int p2, .int 0], [], σ28))
            refine ⟨fun _ => ?_, fun q => absurd c30 q⟩
            obtain ⟨g31, h⟩ := ite_some h
            obtain ⟨g32, h⟩ := ite_some h
            obtain ⟨g33, h⟩ := ite_some h
            obtain rfl := Option.some.inj h
            refine hw 15 _ ?_
            show kd 40 = 1 ∧ (inb p0 20 = true ∧ (kd 41 = 1 ∧ (inb p0 20 = true ∧ (kd 38 = 1 ∧ (inb p0 20 = true ∧ (Qa (σ28 38 (ix p0)) (mput (mput σ28 40 (ix p0) p1) 41 (ix p0) p2)))))))
            refine ⟨rfl, g31, rfl, g32, rfl, g33, hQ⟩
          · refine hw 1 _ ?_
            show ((¬ r27 = 0) → K (70, [.ref 6, .int p0, .int p1, .int p2, .int 0], [], σ28)) ∧ (¬ (¬ r27 = 0) → K (68, [.ref 6, .int p0, .int p1, .int p2, .int 0], [], σ28))
            refine ⟨fun q => absurd q c30, fun _ => ?_⟩
            obtain rfl := Option.some.inj h
            refine hw 2 _ ?_
            show Qa 0 σ28
            refine hQ
        · refine hw 1 _ ?_
          show ((r23 = 0) → K (26, [.ref 6, .int p0, .int p1, .int p2, .null], [], σ24)) ∧ (¬ (r23 = 0) → K (22, [.ref 6, .int p0, .int p1, .int p2, .null], [], σ24))
          refine ⟨fun q => absurd q c26, fun _ => ?_⟩
          refine hw 6 _ ?_
          show ((¬ (1 : Int32) = 0) → K (39, [.ref 6, .int p0, .int p1, .int p2, .int 1], [.ref 6], σ24)) ∧ (¬ (¬ (1 : Int32) = 0) → K (35, [.ref 6, .int p0, .int p1, .int p2, .int 1], [.ref 6], σ24))
          refine ⟨fun _ => ?_, fun q => absurd (by decide) q⟩
          obtain ⟨r34, σ35, e36, h⟩ := bnd_some h
          refine hw 3 _ ?_
          show ∃ r34 σ35, f_X6_isHome p0 σ24 = some (r34, σ35) ∧ K (44, [.ref 6, .int p0, .int p1, .int p2, .int 1], [.int r34, .ref 6], σ35)
          refine ⟨r34, σ35, e36, ?_⟩
          rcases ite_cases h with ⟨c37, h⟩ | ⟨c37, h⟩
          · refine hw 1 _ ?_
            show ((r34 = 0) → K (57, [.ref 6, .int p0, .int p1, .int p2, .int 1], [.ref 6], σ35)) ∧ (¬ (r34 = 0) → K (47, [.ref 6, .int p0, .int p1, .int p2, .int 1], [.ref 6], σ35))
            refine ⟨fun _ => ?_, fun q => absurd c37 q⟩
            obtain ⟨r38, σ39, e40, h⟩ := bnd_some h
            refine hw 3 _ ?_
            show ∃ r38 σ39, f_X6_isFine 2 σ35 = some (r38, σ39) ∧ K (65, [.ref 6, .int p0, .int p1, .int p2, .int 1], [.int r38], σ39)
            refine ⟨r38, σ39, e40, ?_⟩
            rcases ite_cases h with ⟨c41, h⟩ | ⟨c41, h⟩
            · refine hw 1 _ ?_
              show ((¬ r38 = 0) → K (70, [.ref 6, .int p0, .int p1, .int p2, .int 1], [], σ39)) ∧ (¬ (¬ r38 = 0) → K (68, [.ref 6, .int p0, .int p1, .int p2, .int 1], [], σ39))
              refine ⟨fun _ => ?_, fun q => absurd c41 q⟩
              obtain ⟨g42, h⟩ := ite_some h
              obtain ⟨g43, h⟩ := ite_some h
              obtain ⟨g44, h⟩ := ite_some h
              obtain rfl := Option.some.inj h
              refine hw 15 _ ?_
              show kd 40 = 1 ∧ (inb p0 20 = true ∧ (kd 41 = 1 ∧ (inb p0 20 = true ∧ (kd 38 = 1 ∧ (inb p0 20 = true ∧ (Qa (σ39 38 (ix p0)) (mput (mput σ39 40 (ix p0) p1) 41 (ix p0) p2)))))))
              refine ⟨rfl, g42, rfl, g43, rfl, g44, hQ⟩
            · refine hw 1 _ ?_
              show ((¬ r38 = 0) → K (70, [.ref 6, .int p0, .int p1, .int p2, .int 1], [], σ39)) ∧ (¬ (¬ r38 = 0) → K (68, [.ref 6, .int p0, .int p1, .int p2, .int 1], [], σ39))
              refine ⟨fun q => absurd q c41, fun _ => ?_⟩
              obtain rfl := Option.some.inj h
              refine hw 2 _ ?_
              show Qa 0 σ39
              refine hQ
          · refine hw 1 _ ?_
            show ((r34 = 0) → K (57, [.ref 6, .int p0, .int p1, .int p2, .int 1], [.ref 6], σ35)) ∧ (¬ (r34 = 0) → K (47, [.ref 6, .int p0, .int p1, .int p2, .int 1], [.ref 6], σ35))
            refine ⟨fun q => absurd q c37, fun _ => ?_⟩
            obtain ⟨g45, h⟩ := ite_some h
            rcases ite_cases h with ⟨c46, h⟩ | ⟨c46, h⟩
            · refine hw 6 _ ?_
              show kd 38 = 1 ∧ (inb p0 20 = true ∧ (((¬ p1 = (σ35 38 (ix p0))) → K (61, [.ref 6, .int p0, .int p1, .int p2, .int 1], [.ref 6], σ35)) ∧ (¬ (¬ p1 = (σ35 38 (ix p0))) → K (57, [.ref 6, .int p0, .int p1, .int p2, .int 1], [.ref 6], σ35))))
              refine ⟨rfl, g45, ⟨fun _ => ?_, fun q => absurd c46 q⟩⟩
              obtain ⟨r47, σ48, e49, h⟩ := bnd_some h
              refine hw 2 _ ?_
              show ∃ r47 σ48, f_X6_isFine 0 σ35 = some (r47, σ48) ∧ K (65, [.ref 6, .int p0, .int p1, .int p2, .int 1], [.int r47], σ48)
              refine ⟨r47, σ48, e49, ?_⟩
              rcases ite_cases h with ⟨c50, h⟩ | ⟨c50, h⟩
              · refine hw 1 _ ?_
                show ((¬ r47 = 0) → K (70, [.ref 6, .int p0, .int p1, .int p2, .int 1], [], σ48)) ∧ (¬ (¬ r47 = 0) → K (68, [.ref 6, .int p0, .int p1, .int p2, .int 1], [], σ48))
                refine ⟨fun _ => ?_, fun q => absurd c50 q⟩
                obtain ⟨g51, h⟩ := ite_some h
                obtain ⟨g52, h⟩ := ite_some h
                obtain ⟨g53, h⟩ := ite_some h
                obtain rfl := Option.some.inj h
                refine hw 15 _ ?_
                show kd 40 = 1 ∧ (inb p0 20 = true ∧ (kd 41 = 1 ∧ (inb p0 20 = true ∧ (kd 38 = 1 ∧ (inb p0 20 = true ∧ (Qa (σ48 38 (ix p0)) (mput (mput σ48 40 (ix p0) p1) 41 (ix p0) p2)))))))
                refine ⟨rfl, g51, rfl, g52, rfl, g53, hQ⟩
              · refine hw 1 _ ?_
                show ((¬ r47 = 0) → K (70, [.ref 6, .int p0, .int p1, .int p2, .int 1], [], σ48)) ∧ (¬ (¬ r47 = 0) → K (68, [.ref 6, .int p0, .int p1, .int p2, .int 1], [], σ48))
                refine ⟨fun q => absurd q c50, fun _ => ?_⟩
                obtain rfl := Option.some.inj h
                refine hw 2 _ ?_
                show Qa 0 σ48
                refine hQ
            · refine hw 6 _ ?_
              show kd 38 = 1 ∧ (inb p0 20 = true ∧ (((¬ p1 = (σ35 38 (ix p0))) → K (61, [.ref 6, .int p0, .int p1, .int p2, .int 1], [.ref 6], σ35)) ∧ (¬ (¬ p1 = (σ35 38 (ix p0))) → K (57, [.ref 6, .int p0, .int p1, .int p2, .int 1], [.ref 6], σ35))))
              refine ⟨rfl, g45, ⟨fun q => absurd q c46, fun _ => ?_⟩⟩
              obtain ⟨r54, σ55, e56, h⟩ := bnd_some h
              refine hw 3 _ ?_
              show ∃ r54 σ55, f_X6_isFine 2 σ35 = some (r54, σ55) ∧ K (65, [.ref 6, .int p0, .int p1, .int p2, .int 1], [.int r54], σ55)
              refine ⟨r54, σ55, e56, ?_⟩
              rcases ite_cases h with ⟨c57, h⟩ | ⟨c57, h⟩
              · refine hw 1 _ ?_
                show ((¬ r54 = 0) → K (70, [.ref 6, .int p0, .int p1, .int p2, .int 1], [], σ55)) ∧ (¬ (¬ r54 = 0) → K (68, [.ref 6, .int p0, .int p1, .int p2, .int 1], [], σ55))
                refine ⟨fun _ => ?_, fun q => absurd c57 q⟩
                obtain ⟨g58, h⟩ := ite_some h
                obtain ⟨g59, h⟩ := ite_some h
                obtain ⟨g60, h⟩ := ite_some h
                obtain rfl := Option.some.inj h
                refine hw 15 _ ?_
                show kd 40 = 1 ∧ (inb p0 20 = true ∧ (kd 41 = 1 ∧ (inb p0 20 = true ∧ (kd 38 = 1 ∧ (inb p0 20 = true ∧ (Qa (σ55 38 (ix p0)) (mput (mput σ55 40 (ix p0) p1) 41 (ix p0) p2)))))))
                refine ⟨rfl, g58, rfl, g59, rfl, g60, hQ⟩
              · refine hw 1 _ ?_
                show ((¬ r54 = 0) → K (70, [.ref 6, .int p0, .int p1, .int p2, .int 1], [], σ55)) ∧ (¬ (¬ r54 = 0) → K (68, [.ref 6, .int p0, .int p1, .int p2, .int 1], [], σ55))
                refine ⟨fun q => absurd q c57, fun _ => ?_⟩
                obtain rfl := Option.some.inj h
                refine hw 2 _ ?_
                show Qa 0 σ55
                refine hQ
  · cases h
theorem h_X6_borrow : shp [.ref 6] 5 F_X6_borrow := by
  intro As σ r σ' h
  unfold F_X6_borrow at h
  split at h
  · exact ⟨by simp [Value.category], Nat.le_of_ble_eq_true rfl⟩
  · cases h
set_option maxHeartbeats 4000000 in
set_option maxRecDepth 100000 in
theorem c_X6_borrow (l : Launch) (D : va_G) (cI cZ cA cL : ClassId) (ad : Nat → Nat) (hi : adI ad) : CtI l yX6_borrow wsX6_borrow { frames := 2, cells := 0, slots := 0, locals := 43 } D cI cZ cA cL ad [.ref 6] F_X6_borrow := by
  refine mk_I [.ref 6] F_X6_borrow T_X6_borrow (by decide +kernel) rfl ?_ h_X6_borrow s_X6_borrow
  intro p e s m args below meth c Qa ⟨hx, hb, hml, hown, hts, hr, hlocks, hK, hN⟩
  have hin6 : ∀ w ∈ u_ws RX6 TX6 30, w ∈ wsX6_borrow := by decide +kernel
  have hl38 : (Cond.fieldLink RX6 38 RX6 (TX6 12).2.1 (TX6 12).2.2.1) ∈ wsX6_borrow := by decide +kernel
  have hl44 : (Cond.fieldLink RX6 44 RX6 (TX6 14).2.1 (TX6 14).2.2.1) ∈ wsX6_borrow := by decide +kernel
  have hl47 : (Cond.fieldLink RX6 47 RX6 (TX6 15).2.1 (TX6 15).2.2.1) ∈ wsX6_borrow := by decide +kernel
  refine ruL_c (n := 0) (n2 := 1) rfl (ru_aload_n (k := 0) hx hb dX6_borrow_0) ?_
  refine ruL_c (n := 1) (n2 := 2) rfl (ru_iload_n (k := 1) hx hb dX6_borrow_1) ?_
  refine ruL_c (n := 2) (n2 := 3) rfl (ru_callV hx hb hml hown hts hK hN (by decide) rfl (c_X6_isLamp l D cI cZ cA cL ad hi) (cwV 1 hts gX6_borrow_X6_isLamp rfl rfl rfl (by decide +kernel) ⟨Nat.le_of_ble_eq_true rfl, Nat.le_of_ble_eq_true rfl⟩) dX6_borrow_2 ⟨Nat.zero_le _, Nat.zero_le _⟩) ?_
  refine ruL_c (n := 3) (n2 := 4) rfl (ru_bot) ?_
  refine ruL_c (n := 4) (n2 := 5) rfl (ru_bot) ?_
  refine ruL_c (n := 5) (n2 := 6) rfl (ru_ifeq hx hb dX6_borrow_5 (by decide)) ?_
  refine ruL_c (n := 6) (n2 := 7) rfl (ru_bot) ?_
  refine ruL_c (n := 7) (n2 := 8) rfl (ru_bot) ?_
  refine ruL_c (n := 8) (n2 := 9) rfl (ru_iload_n (k := 2) hx hb dX6_borrow_8) ?_
  refine ruL_c (n := 9) (n2 := 10) rfl (ru_callS hx hb hml hown hts hK hN (c_X6_isStage l D cI cZ cA cL ad hi) (va_cwS 1 hts gX6_borrow_X6_isStage rfl rfl rfl (by decide +kernel) ⟨Nat.le_of_ble_eq_true rfl, Nat.le_of_ble_eq_true rfl⟩) dX6_borrow_9 ⟨Nat.zero_le _, Nat.zero_le _⟩) ?_
  refine ruL_c (n := 10) (n2 := 11) rfl (ru_bot) ?_
  refine ruL_c (n := 11) (n2 := 12) rfl (ru_bot) ?_
  refine ruL_c (n := 12) (n2 := 13) rfl (ru_ifeq hx hb dX6_borrow_12 (by decide)) ?_
  refine ruL_c (n := 13) (n2 := 14) rfl (ru_bot) ?_
  refine ruL_c (n := 14) (n2 := 15) rfl (ru_bot) ?_
  refine ruL_c (n := 15) (n2 := 16) rfl (ru_iload_n (k := 3) hx hb dX6_borrow_15) ?_
  refine ruL_c (n := 16) (n2 := 17) rfl (ru_callS hx hb hml hown hts hK hN (c_X6_isArea l D cI cZ cA cL ad hi) (va_cwS 1 hts gX6_borrow_X6_isArea rfl rfl rfl (by decide +kernel) ⟨Nat.le_of_ble_eq_true rfl, Nat.le_of_ble_eq_true rfl⟩) dX6_borrow_16 ⟨Nat.zero_le _, Nat.zero_le _⟩) ?_
  refine ruL_c (n := 17) (n2 := 18) rfl (ru_bot) ?_
  refine ruL_c (n := 18) (n2 := 19) rfl (ru_bot) ?_
  refine ruL_c (n := 19) (n2 := 20) rfl (ru_ifeq hx hb dX6_borrow_19 (by decide)) ?_
  refine ruL_c (n := 20) (n2 := 21) rfl (ru_bot) ?_
  refine ruL_c (n := 21) (n2 := 22) rfl (ru_bot) ?_
  refine ruL_c (n := 22) (n2 := 23) rfl (ru_iconst hx hb dX6_borrow_22 rfl) ?_
  refine ruL_c (n := 23) (n2 := 24) rfl (ru_goto hx hb dX6_borrow_23 (by decide)) ?_
  refine ruL_c (n := 24) (n2 := 25) rfl (ru_bot) ?_
  refine ruL_c (n := 25) (n2 := 26) rfl (ru_bot) ?_
  refine ruL_c (n := 26) (n2 := 27) rfl (ru_iconst hx hb dX6_borrow_26 rfl) ?_
  refine ruL_c (n := 27) (n2 := 28) rfl (ru_istore hx hb dX6_borrow_27) ?_
  refine ruL_c (n := 28) (n2 := 29) rfl (ru_bot) ?_
  refine ruL_c (n := 29) (n2 := 30) rfl (ru_aload_n (k := 0) hx hb dX6_borrow_29) ?_
  refine ruL_c (n := 30) (n2 := 31) rfl (ru_iload hx hb dX6_borrow_30) ?_
  refine ruL_c (n := 31) (n2 := 32) rfl (ru_bot) ?_
  refine ruL_c (n := 32) (n2 := 33) rfl (ru_ifne hx hb dX6_borrow_32 (by decide)) ?_
  refine ruL_c (n := 33) (n2 := 34) rfl (ru_bot) ?_
  refine ruL_c (n := 34) (n2 := 35) rfl (ru_bot) ?_
  refine ruL_c (n := 35) (n2 := 36) rfl (ru_iconst hx hb dX6_borrow_35 rfl) ?_
  refine ruL_c (n := 36) (n2 := 37) rfl (ru_goto hx hb dX6_borrow_36 (by decide)) ?_
  refine ruL_c (n := 37) (n2 := 38) rfl (ru_bot) ?_
  refine ruL_c (n := 38) (n2 := 39) rfl (ru_bot) ?_
  refine ruL_c (n := 39) (n2 := 40) rfl (ru_aload_n (k := 0) hx hb dX6_borrow_39) ?_
  refine ruL_c (n := 40) (n2 := 41) rfl (ru_iload_n (k := 1) hx hb dX6_borrow_40) ?_
  refine ruL_c (n := 41) (n2 := 42) rfl (ru_callV hx hb hml hown hts hK hN (by decide) rfl (c_X6_isHome l D cI cZ cA cL ad hi) (cwV 1 hts gX6_borrow_X6_isHome rfl rfl rfl (by decide +kernel) ⟨Nat.le_of_ble_eq_true rfl, Nat.le_of_ble_eq_true rfl⟩) dX6_borrow_41 ⟨Nat.zero_le _, Nat.zero_le _⟩) ?_
  refine ruL_c (n := 42) (n2 := 43) rfl (ru_bot) ?_
  refine ruL_c (n := 43) (n2 := 44) rfl (ru_bot) ?_
  refine ruL_c (n := 44) (n2 := 45) rfl (ru_ifeq hx hb dX6_borrow_44 (by decide)) ?_
  refine ruL_c (n := 45) (n2 := 46) rfl (ru_bot) ?_
  refine ruL_c (n := 46) (n2 := 47) rfl (ru_bot) ?_
  refine ruL_c (n := 47) (n2 := 48) rfl (ru_iload_n (k := 2) hx hb dX6_borrow_47) ?_
  refine ruL_c (n := 48) (n2 := 49) rfl (ru_aload_n (k := 0) hx hb dX6_borrow_48) ?_
  refine ruL_c (n := 49) (n2 := 50) rfl (ru_getR (own := RX6) (j := 12) (T := TX6) hx hb hown hK hts hin6 (by decide) rfl rfl (by decide) rfl hl38 dX6_borrow_49) ?_
  refine ruL_c (n := 50) (n2 := 51) rfl (ru_bot) ?_
  refine ruL_c (n := 51) (n2 := 52) rfl (ru_bot) ?_
  refine ruL_c (n := 52) (n2 := 53) rfl (ru_iload_n (k := 1) hx hb dX6_borrow_52) ?_
  refine ruL_c (n := 53) (n2 := 54) rfl (ru_iald hx hb hK dX6_borrow_53) ?_
  refine ruL_c (n := 54) (n2 := 55) rfl (ru_icmpne hx hb dX6_borrow_54 (by decide)) ?_
  refine ruL_c (n := 55) (n2 := 56) rfl (ru_bot) ?_
  refine ruL_c (n := 56) (n2 := 57) rfl (ru_bot) ?_
  refine ruL_c (n := 57) (n2 := 58) rfl (ru_iconst hx hb dX6_borrow_57 rfl) ?_
  refine ruL_c (n := 58) (n2 := 59) rfl (ru_goto hx hb dX6_borrow_58 (by decide)) ?_
  refine ruL_c (n := 59) (n2 := 60) rfl (ru_bot) ?_
  refine ruL_c (n := 60) (n2 := 61) rfl (ru_bot) ?_
  refine ruL_c (n := 61) (n2 := 62) rfl (ru_iconst hx hb dX6_borrow_61 rfl) ?_
  refine ruL_c (n := 62) (n2 := 63) rfl (ru_callV hx hb hml hown hts hK hN (by decide) rfl (c_X6_isFine l D cI cZ cA cL ad hi) (cwV 1 hts gX6_borrow_X6_isFine rfl rfl rfl (by decide +kernel) ⟨Nat.le_of_ble_eq_true rfl, Nat.le_of_ble_eq_true rfl⟩) dX6_borrow_62 ⟨Nat.zero_le _, Nat.zero_le _⟩) ?_
  refine ruL_c (n := 63) (n2 := 64) rfl (ru_bot) ?_
  refine ruL_c (n := 64) (n2 := 65) rfl (ru_bot) ?_
  refine ruL_c (n := 65) (n2 := 66) rfl (ru_ifne hx hb dX6_borrow_65 (by decide)) ?_
  refine ruL_c (n := 66) (n2 := 67) rfl (ru_bot) ?_
  refine ruL_c (n := 67) (n2 := 68) rfl (ru_bot) ?_
  refine ruL_c (n := 68) (n2 := 69) rfl (ru_iconst hx hb dX6_borrow_68 rfl) ?_
  refine ruL_c (n := 69) (n2 := 70) rfl (ru_iret hx hb hK hr hlocks dX6_borrow_69) ?_
  refine ruL_c (n := 70) (n2 := 71) rfl (ru_aload_n (k := 0) hx hb dX6_borrow_70) ?_
  refine ruL_c (n := 71) (n2 := 72) rfl (ru_getR (own := RX6) (j := 14) (T := TX6) hx hb hown hK hts hin6 (by decide) rfl rfl (by decide) rfl hl44 dX6_borrow_71) ?_
  refine ruL_c (n := 72) (n2 := 73) rfl (ru_bot) ?_
  refine ruL_c (n := 73) (n2 := 74) rfl (ru_bot) ?_
  refine ruL_c (n := 74) (n2 := 75) rfl (ru_iload_n (k := 1) hx hb dX6_borrow_74) ?_
  refine ruL_c (n := 75) (n2 := 76) rfl (ru_iload_n (k := 2) hx hb dX6_borrow_75) ?_
  refine ruL_c (n := 76) (n2 := 77) rfl (ru_iast hx hb hK hi dX6_borrow_76) ?_
  refine ruL_c (n := 77) (n2 := 78) rfl (ru_aload_n (k := 0) hx hb dX6_borrow_77) ?_
  refine ruL_c (n := 78) (n2 := 79) rfl (ru_getR (own := RX6) (j := 15) (T := TX6) hx hb hown hK hts hin6 (by decide) rfl rfl (by decide) rfl hl47 dX6_borrow_78) ?_
  refine ruL_c (n := 79) (n2 := 80) rfl (ru_bot) ?_
  refine ruL_c (n := 80) (n2 := 81) rfl (ru_bot) ?_
  refine ruL_c (n := 81) (n2 := 82) rfl (ru_iload_n (k := 1) hx hb dX6_borrow_81) ?_
  refine ruL_c (n := 82) (n2 := 83) rfl (ru_iload_n (k := 3) hx hb dX6_borrow_82) ?_
  refine ruL_c (n := 83) (n2 := 84) rfl (ru_iast hx hb hK hi dX6_borrow_83) ?_
  refine ruL_c (n := 84) (n2 := 85) rfl (ru_aload_n (k := 0) hx hb dX6_borrow_84) ?_
  refine ruL_c (n := 85) (n2 := 86) rfl (ru_getR (own := RX6) (j := 12) (T := TX6) hx hb hown hK hts hin6 (by decide) rfl rfl (by decide) rfl hl38 dX6_borrow_85) ?_
  refine ruL_c (n := 86) (n2 := 87) rfl (ru_bot) ?_
  refine ruL_c (n := 87) (n2 := 88) rfl (ru_bot) ?_
  refine ruL_c (n := 88) (n2 := 89) rfl (ru_iload_n (k := 1) hx hb dX6_borrow_88) ?_
  refine ruL_c (n := 89) (n2 := 90) rfl (ru_iald hx hb hK dX6_borrow_89) ?_
  refine ruL_c (n := 90) (n2 := 91) rfl (ru_iret hx hb hK hr hlocks dX6_borrow_90) ?_
  exact trivial

-- CueTourModel.bringBack
def f_X6_bringBack (p0 : Int32) (σ : aM) : Option (Int32 × aM) := bnd (f_X6_isLamp p0 σ) (fun r1 σ2 => if ¬ r1 = 0 then bnd (f_X6_isHome p0 σ2) (fun r5 σ6 => if r5 = 0 then bnd (f_X6_isFine 0 σ6) (fun r9 σ10 => if ¬ r9 = 0 then if inb p0 20 = true then if inb p0 20 = true then if inb p0 20 = true then if inb p0 20 = true then if inb p0 20 = true then some (σ10 40 (ix p0), mput (mput σ10 40 (ix p0) (σ10 38 (ix p0))) 41 (ix p0) (σ10 39 (ix p0))) else none else none else none else none else none else some (0, σ10)) else bnd (f_X6_isFine 2 σ6) (fun r18 σ19 => if ¬ r18 = 0 then if inb p0 20 = true then if inb p0 20 = true then if inb p0 20 = true then if inb p0 20 = true then if inb p0 20 = true then some (σ19 40 (ix p0), mput (mput σ19 40 (ix p0) (σ19 38 (ix p0))) 41 (ix p0) (σ19 39 (ix p0))) else none else none else none else none else none else some (0, σ19))) else bnd (f_X6_isFine 1 σ2) (fun r27 σ28 => if ¬ r27 = 0 then if inb p0 20 = true then if inb p0 20 = true then if inb p0 20 = true then if inb p0 20 = true then if inb p0 20 = true then some (σ28 40 (ix p0), mput (mput σ28 40 (ix p0) (σ28 38 (ix p0))) 41 (ix p0) (σ28 39 (ix p0))) else none else none else none else none else none else some (0, σ28)))
def F_X6_bringBack : aF := fun As σ => match As with
  | [.int p0] => f_X6_bringBack p0 σ
  | _ => none
def T_X6_bringBack (Qa : Int32 → aM → Prop) : List aI := [I_aload 0 1, I_iload 1 1, I_callV 6 1 F_X6_isLamp, I_bot, I_bot, I_istore 2 1, I_aload 0 1, I_iload 2 1, I_if (fun x => ¬ x = 0) 15, I_bot, I_bot, I_const 1 1, I_goto 28, I_bot, I_bot, I_aload 0 1, I_iload 1 1, I_callV 6 1 F_X6_isHome, I_bot, I_bot, I_if (fun x => x = 0) 27, I_bot, I_bot, I_const 2 1, I_goto 28, I_bot, I_bot, I_const 0 1, I_callV 6 1 F_X6_isFine, I_bot, I_bot, I_if (fun x => ¬ x = 0) 36, I_bot, I_bot, I_const 0 1, I_iret Qa, I_aload 0 1, I_getR 6 40, I_bot, I_bot, I_iload 1 1, I_iald, I_istore 3 1, I_aload 0 1, I_getR 6 40, I_bot, I_bot, I_iload 1 1, I_aload 0 1, I_getR 6 38, I_bot, I_bot, I_iload 1 1, I_iald, I_iast, I_aload 0 1, I_getR 6 41, I_bot, I_bot, I_iload 1 1, I_aload 0 1, I_getR 6 39, I_bot, I_bot, I_iload 1 1, I_iald, I_iast, I_iload 3 1, I_iret Qa]
set_option maxHeartbeats 4000000 in
set_option maxRecDepth 100000 in
theorem s_X6_bringBack : runs T_X6_bringBack [.ref 6] 4 F_X6_bringBack := by
  intro Qa K hw hf As σ r σ' h hQ
  unfold F_X6_bringBack at h
  split at h
  · rename_i p0
    unfold f_X6_bringBack at h
    have hQ : Qa (r, σ').1 (r, σ').2 := hQ
    generalize (r, σ') = y at h hQ
    show K (0, [.ref 6, .int p0, .null, .null], [], σ)
    obtain ⟨r1, σ2, e3, h⟩ := bnd_some h
    refine hw 3 _ ?_
    show ∃ r1 σ2, f_X6_isLamp p0 σ = some (r1, σ2) ∧ K (5, [.ref 6, .int p0, .null, .null], [.int r1], σ2)
    refine ⟨r1, σ2, e3, ?_⟩
    rcases ite_cases h with ⟨c4, h⟩ | ⟨c4, h⟩
    · refine hw 4 _ ?_
      show ((¬ r1 = 0) → K (15, [.ref 6, .int p0, .int r1, .null], [.ref 6], σ2)) ∧ (¬ (¬ r1 = 0) → K (11, [.ref 6, .int p0, .int r1, .null], [.ref 6], σ2))
      refine ⟨fun _ => ?_, fun q => absurd c4 q⟩
      obtain ⟨r5, σ6, e7, h⟩ := bnd_some h
      refine hw 3 _ ?_
      show ∃ r5 σ6, f_X6_isHome p0 σ2 = some (r5, σ6) ∧ K (20, [.ref 6, .int p0, .int r1, .null], [.int r5, .ref 6], σ6)
      refine ⟨r5, σ6, e7, ?_⟩
      rcases ite_cases h with ⟨c8, h⟩ | ⟨c8, h⟩
      · refine hw 1 _ ?_
        show ((r5 = 0) → K (27, [.ref 6, .int p0, .int r1, .null], [.ref 6], σ6)) ∧ (¬ (r5 = 0) → K (23, [.ref 6, .int p0, .int r1, .null], [.ref 6], σ6))
        refine ⟨fun _ => ?_, fun q => absurd c8 q⟩
        obtain ⟨r9, σ10, e11, h⟩ := bnd_some h
        refine hw 2 _ ?_
        show ∃ r9 σ10, f_X6_isFine 0 σ6 = some (r9, σ10) ∧ K (31, [.ref 6, .int p0, .int r1, .null], [.int r9], σ10)
        refine ⟨r9, σ10, e11, ?_⟩
        rcases ite_cases h with ⟨c12, h⟩ | ⟨c12, h⟩
        · refine hw 1 _ ?_
          show ((¬ r9 = 0) → K (36, [.ref 6, .int p0, .int r1, .null], [], σ10)) ∧ (¬ (¬ r9 = 0) → K (34, [.ref 6, .int p0, .int r1, .null], [], σ10))
          refine ⟨fun _ => ?_, fun q => absurd c12 q⟩
          obtain ⟨g13, h⟩ := ite_some h
          obtain ⟨g14, h⟩ := ite_some h
          obtain ⟨g15, h⟩ := ite_some h
          obtain ⟨g16, h⟩ := ite_some h
          obtain ⟨g17, h⟩ := ite_some h
          obtain rfl := Option.some.inj h
          refine hw 23 _ ?_
          show kd 40 = 1 ∧ (inb p0 20 = true ∧ (kd 38 = 1 ∧ (inb p0 20 = true ∧ (kd 40 = 1 ∧ (inb p0 20 = true ∧ (kd 39 = 1 ∧ (inb p0 20 = true ∧ (kd 41 = 1 ∧ (inb p0 20 = true ∧ (Qa (σ10 40 (ix p0)) (mput (mput σ10 40 (ix p0) (σ10 38 (ix p0))) 41 (ix p0) (σ10 39 (ix p0)))))))))))))
          refine ⟨rfl, g13, rfl, g14, rfl, g15, rfl, g16, rfl, g17, hQ⟩
        · refine hw 1 _ ?_
          show ((¬ r9 = 0) → K (36, [.ref 6, .int p0, .int r1, .null], [], σ10)) ∧ (¬ (¬ r9 = 0) → K (34, [.ref 6, .int p0, .int r1, .null], [], σ10))
          refine ⟨fun q => absurd q c12, fun _ => ?_⟩
          obtain rfl := Option.some.inj h
          refine hw 2 _ ?_
          show Qa 0 σ10
          refine hQ
      · refine hw 1 _ ?_
        show ((r5 = 0) → K (27, [.ref 6, .int p0, .int r1, .null], [.ref 6], σ6)) ∧ (¬ (r5 = 0) → K (23, [.ref 6, .int p0, .int r1, .null], [.ref 6], σ6))
        refine ⟨fun q => absurd q c8, fun _ => ?_⟩
        obtain ⟨r18, σ19, e20, h⟩ := bnd_some h
        refine hw 3 _ ?_
        show ∃ r18 σ19, f_X6_isFine 2 σ6 = some (r18, σ19) ∧ K (31, [.ref 6, .int p0, .int r1, .null], [.int r18], σ19)
        refine ⟨r18, σ19, e20, ?_⟩
        rcases ite_cases h with ⟨c21, h⟩ | ⟨c21, h⟩
        · refine hw 1 _ ?_
          show ((¬ r18 = 0) → K (36, [.ref 6, .int p0, .int r1, .null], [], σ19)) ∧ (¬ (¬ r18 = 0) → K (34, [.ref 6, .int p0, .int r1, .null], [], σ19))
          refine ⟨fun _ => ?_, fun q => absurd c21 q⟩
          obtain ⟨g22, h⟩ := ite_some h
          obtain ⟨g23, h⟩ := ite_some h
          obtain ⟨g24, h⟩ := ite_some h
          obtain ⟨g25, h⟩ := ite_some h
          obtain ⟨g26, h⟩ := ite_some h
          obtain rfl := Option.some.inj h
          refine hw 23 _ ?_
          show kd 40 = 1 ∧ (inb p0 20 = true ∧ (kd 38 = 1 ∧ (inb p0 20 = true ∧ (kd 40 = 1 ∧ (inb p0 20 = true ∧ (kd 39 = 1 ∧ (inb p0 20 = true ∧ (kd 41 = 1 ∧ (inb p0 20 = true ∧ (Qa (σ19 40 (ix p0)) (mput (mput σ19 40 (ix p0) (σ19 38 (ix p0))) 41 (ix p0) (σ19 39 (ix p0)))))))))))))
          refine ⟨rfl, g22, rfl, g23, rfl, g24, rfl, g25, rfl, g26, hQ⟩
        · refine hw 1 _ ?_
          show ((¬ r18 = 0) → K (36, [.ref 6, .int p0, .int r1, .null], [], σ19)) ∧ (¬ (¬ r18 = 0) → K (34, [.ref 6, .int p0, .int r1, .null], [], σ19))
          refine ⟨fun q => absurd q c21, fun _ => ?_⟩
          obtain rfl := Option.some.inj h
          refine hw 2 _ ?_
          show Qa 0 σ19
          refine hQ
    · refine hw 4 _ ?_
      show ((¬ r1 = 0) → K (15, [.ref 6, .int p0, .int r1, .null], [.ref 6], σ2)) ∧ (¬ (¬ r1 = 0) → K (11, [.ref 6, .int p0, .int r1, .null], [.ref 6], σ2))
      refine ⟨fun q => absurd q c4, fun _ => ?_⟩
      obtain ⟨r27, σ28, e29, h⟩ := bnd_some h
      refine hw 3 _ ?_
      show ∃ r27 σ28, f_X6_isFine 1 σ2 = some (r27, σ28) ∧ K (31, [.ref 6, .int p0, .int r1, .null], [.int r27], σ28)
      refine ⟨r27, σ28, e29, ?_⟩
      rcases ite_cases h with ⟨c30, h⟩ | ⟨c30, h⟩
      · refine hw 1 _ ?_
        show ((¬ r27 = 0) → K (36, [.ref 6, .int p0, .int r1, .null], [], σ28)) ∧ (¬ (¬ r27 = 0) → K (34, [.ref 6, .int p0, .int r1, .null], [], σ28))
        refine ⟨fun _ => ?_, fun q => absurd c30 q⟩
        obtain ⟨g31, h⟩ := ite_some h
        obtain ⟨g32, h⟩ := ite_some h
        obtain ⟨g33, h⟩ := ite_some h
        obtain ⟨g34, h⟩ := ite_some h
        obtain ⟨g35, h⟩ := ite_some h
        obtain rfl := Option.some.inj h
        refine hw 23 _ ?_
        show kd 40 = 1 ∧ (inb p0 20 = true ∧ (kd 38 = 1 ∧ (inb p0 20 = true ∧ (kd 40 = 1 ∧ (inb p0 20 = true ∧ (kd 39 = 1 ∧ (inb p0 20 = true ∧ (kd 41 = 1 ∧ (inb p0 20 = true ∧ (Qa (σ28 40 (ix p0)) (mput (mput σ28 40 (ix p0) (σ28 38 (ix p0))) 41 (ix p0) (σ28 39 (ix p0)))))))))))))
        refine ⟨rfl, g31, rfl, g32, rfl, g33, rfl, g34, rfl, g35, hQ⟩
      · refine hw 1 _ ?_
        show ((¬ r27 = 0) → K (36, [.ref 6, .int p0, .int r1, .null], [], σ28)) ∧ (¬ (¬ r27 = 0) → K (34, [.ref 6, .int p0, .int r1, .null], [], σ28))
        refine ⟨fun q => absurd q c30, fun _ => ?_⟩
        obtain rfl := Option.some.inj h
        refine hw 2 _ ?_
        show Qa 0 σ28
        refine hQ
  · cases h
theorem h_X6_bringBack : shp [.ref 6] 4 F_X6_bringBack := by
  intro As σ r σ' h
  unfold F_X6_bringBack at h
  split at h
  · exact ⟨by simp [Value.category], Nat.le_of_ble_eq_true rfl⟩
  · cases h
set_option maxHeartbeats 4000000 in
set_option maxRecDepth 100000 in
theorem c_X6_bringBack (l : Launch) (D : va_G) (cI cZ cA cL : ClassId) (ad : Nat → Nat) (hi : adI ad) : CtI l yX6_bringBack wsX6_bringBack { frames := 2, cells := 0, slots := 0, locals := 43 } D cI cZ cA cL ad [.ref 6] F_X6_bringBack := by
  refine mk_I [.ref 6] F_X6_bringBack T_X6_bringBack (by decide +kernel) rfl ?_ h_X6_bringBack s_X6_bringBack
  intro p e s m args below meth c Qa ⟨hx, hb, hml, hown, hts, hr, hlocks, hK, hN⟩
  have hin6 : ∀ w ∈ u_ws RX6 TX6 30, w ∈ wsX6_bringBack := by decide +kernel
  have hl44 : (Cond.fieldLink RX6 44 RX6 (TX6 14).2.1 (TX6 14).2.2.1) ∈ wsX6_bringBack := by decide +kernel
  have hl38 : (Cond.fieldLink RX6 38 RX6 (TX6 12).2.1 (TX6 12).2.2.1) ∈ wsX6_bringBack := by decide +kernel
  have hl47 : (Cond.fieldLink RX6 47 RX6 (TX6 15).2.1 (TX6 15).2.2.1) ∈ wsX6_bringBack := by decide +kernel
  have hl41 : (Cond.fieldLink RX6 41 RX6 (TX6 13).2.1 (TX6 13).2.2.1) ∈ wsX6_bringBack := by decide +kernel
  refine ruL_c (n := 0) (n2 := 1) rfl (ru_aload_n (k := 0) hx hb dX6_bringBack_0) ?_
  refine ruL_c (n := 1) (n2 := 2) rfl (ru_iload_n (k := 1) hx hb dX6_bringBack_1) ?_
  refine ruL_c (n := 2) (n2 := 3) rfl (ru_callV hx hb hml hown hts hK hN (by decide) rfl (c_X6_isLamp l D cI cZ cA cL ad hi) (cwV 1 hts gX6_bringBack_X6_isLamp rfl rfl rfl (by decide +kernel) ⟨Nat.le_of_ble_eq_true rfl, Nat.le_of_ble_eq_true rfl⟩) dX6_bringBack_2 ⟨Nat.zero_le _, Nat.zero_le _⟩) ?_
  refine ruL_c (n := 3) (n2 := 4) rfl (ru_bot) ?_
  refine ruL_c (n := 4) (n2 := 5) rfl (ru_bot) ?_
  refine ruL_c (n := 5) (n2 := 6) rfl (ru_istore_n (k := 2) hx hb dX6_bringBack_5) ?_
  refine ruL_c (n := 6) (n2 := 7) rfl (ru_aload_n (k := 0) hx hb dX6_bringBack_6) ?_
  refine ruL_c (n := 7) (n2 := 8) rfl (ru_iload_n (k := 2) hx hb dX6_bringBack_7) ?_
  refine ruL_c (n := 8) (n2 := 9) rfl (ru_ifne hx hb dX6_bringBack_8 (by decide)) ?_
  refine ruL_c (n := 9) (n2 := 10) rfl (ru_bot) ?_
  refine ruL_c (n := 10) (n2 := 11) rfl (ru_bot) ?_
  refine ruL_c (n := 11) (n2 := 12) rfl (ru_iconst hx hb dX6_bringBack_11 rfl) ?_
  refine ruL_c (n := 12) (n2 := 13) rfl (ru_goto hx hb dX6_bringBack_12 (by decide)) ?_
  refine ruL_c (n := 13) (n2 := 14) rfl (ru_bot) ?_
  refine ruL_c (n := 14) (n2 := 15) rfl (ru_bot) ?_
  refine ruL_c (n := 15) (n2 := 16) rfl (ru_aload_n (k := 0) hx hb dX6_bringBack_15) ?_
  refine ruL_c (n := 16) (n2 := 17) rfl (ru_iload_n (k := 1) hx hb dX6_bringBack_16) ?_
  refine ruL_c (n := 17) (n2 := 18) rfl (ru_callV hx hb hml hown hts hK hN (by decide) rfl (c_X6_isHome l D cI cZ cA cL ad hi) (cwV 1 hts gX6_bringBack_X6_isHome rfl rfl rfl (by decide +kernel) ⟨Nat.le_of_ble_eq_true rfl, Nat.le_of_ble_eq_true rfl⟩) dX6_bringBack_17 ⟨Nat.zero_le _, Nat.zero_le _⟩) ?_
  refine ruL_c (n := 18) (n2 := 19) rfl (ru_bot) ?_
  refine ruL_c (n := 19) (n2 := 20) rfl (ru_bot) ?_
  refine ruL_c (n := 20) (n2 := 21) rfl (ru_ifeq hx hb dX6_bringBack_20 (by decide)) ?_
  refine ruL_c (n := 21) (n2 := 22) rfl (ru_bot) ?_
  refine ruL_c (n := 22) (n2 := 23) rfl (ru_bot) ?_
  refine ruL_c (n := 23) (n2 := 24) rfl (ru_iconst hx hb dX6_bringBack_23 rfl) ?_
  refine ruL_c (n := 24) (n2 := 25) rfl (ru_goto hx hb dX6_bringBack_24 (by decide)) ?_
  refine ruL_c (n := 25) (n2 := 26) rfl (ru_bot) ?_
  refine ruL_c (n := 26) (n2 := 27) rfl (ru_bot) ?_
  refine ruL_c (n := 27) (n2 := 28) rfl (ru_iconst hx hb dX6_bringBack_27 rfl) ?_
  refine ruL_c (n := 28) (n2 := 29) rfl (ru_callV hx hb hml hown hts hK hN (by decide) rfl (c_X6_isFine l D cI cZ cA cL ad hi) (cwV 1 hts gX6_bringBack_X6_isFine rfl rfl rfl (by decide +kernel) ⟨Nat.le_of_ble_eq_true rfl, Nat.le_of_ble_eq_true rfl⟩) dX6_bringBack_28 ⟨Nat.zero_le _, Nat.zero_le _⟩) ?_
  refine ruL_c (n := 29) (n2 := 30) rfl (ru_bot) ?_
  refine ruL_c (n := 30) (n2 := 31) rfl (ru_bot) ?_
  refine ruL_c (n := 31) (n2 := 32) rfl (ru_ifne hx hb dX6_bringBack_31 (by decide)) ?_
  refine ruL_c (n := 32) (n2 := 33) rfl (ru_bot) ?_
  refine ruL_c (n := 33) (n2 := 34) rfl (ru_bot) ?_
  refine ruL_c (n := 34) (n2 := 35) rfl (ru_iconst hx hb dX6_bringBack_34 rfl) ?_
  refine ruL_c (n := 35) (n2 := 36) rfl (ru_iret hx hb hK hr hlocks dX6_bringBack_35) ?_
  refine ruL_c (n := 36) (n2 := 37) rfl (ru_aload_n (k := 0) hx hb dX6_bringBack_36) ?_
  refine ruL_c (n := 37) (n2 := 38) rfl (ru_getR (own := RX6) (j := 14) (T := TX6) hx hb hown hK hts hin6 (by decide) rfl rfl (by decide) rfl hl44 dX6_bringBack_37) ?_
  refine ruL_c (n := 38) (n2 := 39) rfl (ru_bot) ?_
  refine ruL_c (n := 39) (n2 := 40) rfl (ru_bot) ?_
  refine ruL_c (n := 40) (n2 := 41) rfl (ru_iload_n (k := 1) hx hb dX6_bringBack_40) ?_
  refine ruL_c (n := 41) (n2 := 42) rfl (ru_iald hx hb hK dX6_bringBack_41) ?_
  refine ruL_c (n := 42) (n2 := 43) rfl (ru_istore_n (k := 3) hx hb dX6_bringBack_42) ?_
  refine ruL_c (n := 43) (n2 := 44) rfl (ru_aload_n (k := 0) hx hb dX6_bringBack_43) ?_
  refine ruL_c (n := 44) (n2 := 45) rfl (ru_getR (own := RX6) (j := 14) (T := TX6) hx hb hown hK hts hin6 (by decide) rfl rfl (by decide) rfl hl44 dX6_bringBack_44) ?_
  refine ruL_c (n := 45) (n2 := 46) rfl (ru_bot) ?_
  refine ruL_c (n := 46) (n2 := 47) rfl (ru_bot) ?_
  refine ruL_c (n := 47) (n2 := 48) rfl (ru_iload_n (k := 1) hx hb dX6_bringBack_47) ?_
  refine ruL_c (n := 48) (n2 := 49) rfl (ru_aload_n (k := 0) hx hb dX6_bringBack_48) ?_
  refine ruL_c (n := 49) (n2 := 50) rfl (ru_getR (own := RX6) (j := 12) (T := TX6) hx hb hown hK hts hin6 (by decide) rfl rfl (by decide) rfl hl38 dX6_bringBack_49) ?_
  refine ruL_c (n := 50) (n2 := 51) rfl (ru_bot) ?_
  refine ruL_c (n := 51) (n2 := 52) rfl (ru_bot) ?_
  refine ruL_c (n := 52) (n2 := 53) rfl (ru_iload_n (k := 1) hx hb dX6_bringBack_52) ?_
  refine ruL_c (n := 53) (n2 := 54) rfl (ru_iald hx hb hK dX6_bringBack_53) ?_
  refine ruL_c (n := 54) (n2 := 55) rfl (ru_iast hx hb hK hi dX6_bringBack_54) ?_
  refine ruL_c (n := 55) (n2 := 56) rfl (ru_aload_n (k := 0) hx hb dX6_bringBack_55) ?_
  refine ruL_c (n := 56) (n2 := 57) rfl (ru_getR (own := RX6) (j := 15) (T := TX6) hx hb hown hK hts hin6 (by decide) rfl rfl (by decide) rfl hl47 dX6_bringBack_56) ?_
  refine ruL_c (n := 57) (n2 := 58) rfl (ru_bot) ?_
  refine ruL_c (n := 58) (n2 := 59) rfl (ru_bot) ?_
  refine ruL_c (n := 59) (n2 := 60) rfl (ru_iload_n (k := 1) hx hb dX6_bringBack_59) ?_
  refine ruL_c (n := 60) (n2 := 61) rfl (ru_aload_n (k := 0) hx hb dX6_bringBack_60) ?_
  refine ruL_c (n := 61) (n2 := 62) rfl (ru_getR (own := RX6) (j := 13) (T := TX6) hx hb hown hK hts hin6 (by decide) rfl rfl (by decide) rfl hl41 dX6_bringBack_61) ?_
  refine ruL_c (n := 62) (n2 := 63) rfl (ru_bot) ?_
  refine ruL_c (n := 63) (n2 := 64) rfl (ru_bot) ?_
  refine ruL_c (n := 64) (n2 := 65) rfl (ru_iload_n (k := 1) hx hb dX6_bringBack_64) ?_
  refine ruL_c (n := 65) (n2 := 66) rfl (ru_iald hx hb hK dX6_bringBack_65) ?_
  refine ruL_c (n := 66) (n2 := 67) rfl (ru_iast hx hb hK hi dX6_bringBack_66) ?_
  refine ruL_c (n := 67) (n2 := 68) rfl (ru_iload_n (k := 3) hx hb dX6_bringBack_67) ?_
  refine ruL_c (n := 68) (n2 := 69) rfl (ru_iret hx hb hK hr hlocks dX6_bringBack_68) ?_
  exact trivial

-- CueTourModel.replace
def f_X6_replace (p0 : Int32) (σ : aM) : Option (Int32 × aM) := bnd (f_X6_isLamp p0 σ) (fun r1 σ2 => if r1 = 0 then bnd (f_X6_isFine 1 σ2) (fun r5 σ6 => if ¬ r5 = 0 then if inb p0 20 = true then if inb p0 20 = true then some (σ6 44 (ix p0), mput σ6 44 (ix p0) 0) else none else none else some (0, σ6)) else bnd (f_X6_isFine 0 σ2) (fun r11 σ12 => if ¬ r11 = 0 then if inb p0 20 = true then if inb p0 20 = true then some (σ12 44 (ix p0), mput σ12 44 (ix p0) 0) else none else none else some (0, σ12)))
def F_X6_replace : aF := fun As σ => match As with
  | [.int p0] => f_X6_replace p0 σ
  | _ => none
def T_X6_replace (Qa : Int32 → aM → Prop) : List aI := [I_aload 0 1, I_aload 0 1, I_iload 1 1, I_callV 6 1 F_X6_isLamp, I_bot, I_bot, I_if (fun x => x = 0) 13, I_bot, I_bot, I_const 0 1, I_goto 14, I_bot, I_bot, I_const 1 1, I_callV 6 1 F_X6_isFine, I_bot, I_bot, I_if (fun x => ¬ x = 0) 22, I_bot, I_bot, I_const 0 1, I_iret Qa, I_aload 0 1, I_getR 6 44, I_bot, I_bot, I_iload 1 1, I_iald, I_istore 2 1, I_aload 0 1, I_getR 6 44, I_bot, I_bot, I_iload 1 1, I_const 0 1, I_iast, I_iload 2 1, I_iret Qa]
set_option maxHeartbeats 4000000 in
set_option maxRecDepth 100000 in
theorem s_X6_replace : runs T_X6_replace [.ref 6] 3 F_X6_replace := by
  intro Qa K hw hf As σ r σ' h hQ
  unfold F_X6_replace at h
  split at h
  · rename_i p0
    unfold f_X6_replace at h
    have hQ : Qa (r, σ').1 (r, σ').2 := hQ
    generalize (r, σ') = y at h hQ
    show K (0, [.ref 6, .int p0, .null], [], σ)
    obtain ⟨r1, σ2, e3, h⟩ := bnd_some h
    refine hw 4 _ ?_
    show ∃ r1 σ2, f_X6_isLamp p0 σ = some (r1, σ2) ∧ K (6, [.ref 6, .int p0, .null], [.int r1, .ref 6], σ2)
    refine ⟨r1, σ2, e3, ?_⟩
    rcases ite_cases h with ⟨c4, h⟩ | ⟨c4, h⟩
    · refine hw 1 _ ?_
      show ((r1 = 0) → K (13, [.ref 6, .int p0, .null], [.ref 6], σ2)) ∧ (¬ (r1 = 0) → K (9, [.ref 6, .int p0, .null], [.ref 6], σ2))
      refine ⟨fun _ => ?_, fun q => absurd c4 q⟩
      obtain ⟨r5, σ6, e7, h⟩ := bnd_some h
      refine hw 2 _ ?_
      show ∃ r5 σ6, f_X6_isFine 1 σ2 = some (r5, σ6) ∧ K (17, [.ref 6, .int p0, .null], [.int r5], σ6)
      refine ⟨r5, σ6, e7, ?_⟩
      rcases ite_cases h with ⟨c8, h⟩ | ⟨c8, h⟩
      · refine hw 1 _ ?_
        show ((¬ r5 = 0) → K (22, [.ref 6, .int p0, .null], [], σ6)) ∧ (¬ (¬ r5 = 0) → K (20, [.ref 6, .int p0, .null], [], σ6))
        refine ⟨fun _ => ?_, fun q => absurd c8 q⟩
        obtain ⟨g9, h⟩ := ite_some h
        obtain ⟨g10, h⟩ := ite_some h
        obtain rfl := Option.some.inj h
        refine hw 12 _ ?_
        show kd 44 = 1 ∧ (inb p0 20 = true ∧ (kd 44 = 1 ∧ (inb p0 20 = true ∧ (Qa (σ6 44 (ix p0)) (mput σ6 44 (ix p0) 0)))))
        refine ⟨rfl, g9, rfl, g10, hQ⟩
      · refine hw 1 _ ?_
        show ((¬ r5 = 0) → K (22, [.ref 6, .int p0, .null], [], σ6)) ∧ (¬ (¬ r5 = 0) → K (20, [.ref 6, .int p0, .null], [], σ6))
        refine ⟨fun q => absurd q c8, fun _ => ?_⟩
        obtain rfl := Option.some.inj h
        refine hw 2 _ ?_
        show Qa 0 σ6
        refine hQ
    · refine hw 1 _ ?_
      show ((r1 = 0) → K (13, [.ref 6, .int p0, .null], [.ref 6], σ2)) ∧ (¬ (r1 = 0) → K (9, [.ref 6, .int p0, .null], [.ref 6], σ2))
      refine ⟨fun q => absurd q c4, fun _ => ?_⟩
      obtain ⟨r11, σ12, e13, h⟩ := bnd_some h
      refine hw 3 _ ?_
      show ∃ r11 σ12, f_X6_isFine 0 σ2 = some (r11, σ12) ∧ K (17, [.ref 6, .int p0, .null], [.int r11], σ12)
      refine ⟨r11, σ12, e13, ?_⟩
      rcases ite_cases h with ⟨c14, h⟩ | ⟨c14, h⟩
      · refine hw 1 _ ?_
        show ((¬ r11 = 0) → K (22, [.ref 6, .int p0, .null], [], σ12)) ∧ (¬ (¬ r11 = 0) → K (20, [.ref 6, .int p0, .null], [], σ12))
        refine ⟨fun _ => ?_, fun q => absurd c14 q⟩
        obtain ⟨g15, h⟩ := ite_some h
        obtain ⟨g16, h⟩ := ite_some h
        obtain rfl := Option.some.inj h
        refine hw 12 _ ?_
        show kd 44 = 1 ∧ (inb p0 20 = true ∧ (kd 44 = 1 ∧ (inb p0 20 = true ∧ (Qa (σ12 44 (ix p0)) (mput σ12 44 (ix p0) 0)))))
        refine ⟨rfl, g15, rfl, g16, hQ⟩
      · refine hw 1 _ ?_
        show ((¬ r11 = 0) → K (22, [.ref 6, .int p0, .null], [], σ12)) ∧ (¬ (¬ r11 = 0) → K (20, [.ref 6, .int p0, .null], [], σ12))
        refine ⟨fun q => absurd q c14, fun _ => ?_⟩
        obtain rfl := Option.some.inj h
        refine hw 2 _ ?_
        show Qa 0 σ12
        refine hQ
  · cases h
theorem h_X6_replace : shp [.ref 6] 3 F_X6_replace := by
  intro As σ r σ' h
  unfold F_X6_replace at h
  split at h
  · exact ⟨by simp [Value.category], Nat.le_of_ble_eq_true rfl⟩
  · cases h
set_option maxHeartbeats 4000000 in
set_option maxRecDepth 100000 in
theorem c_X6_replace (l : Launch) (D : va_G) (cI cZ cA cL : ClassId) (ad : Nat → Nat) (hi : adI ad) : CtI l yX6_replace wsX6_replace { frames := 2, cells := 0, slots := 0, locals := 43 } D cI cZ cA cL ad [.ref 6] F_X6_replace := by
  refine mk_I [.ref 6] F_X6_replace T_X6_replace (by decide +kernel) rfl ?_ h_X6_replace s_X6_replace
  intro p e s m args below meth c Qa ⟨hx, hb, hml, hown, hts, hr, hlocks, hK, hN⟩
  have hin6 : ∀ w ∈ u_ws RX6 TX6 30, w ∈ wsX6_replace := by decide +kernel
  have hl56 : (Cond.fieldLink RX6 56 RX6 (TX6 18).2.1 (TX6 18).2.2.1) ∈ wsX6_replace := by decide +kernel
  refine ruL_c (n := 0) (n2 := 1) rfl (ru_aload_n (k := 0) hx hb dX6_replace_0) ?_
  refine ruL_c (n := 1) (n2 := 2) rfl (ru_aload_n (k := 0) hx hb dX6_replace_1) ?_
  refine ruL_c (n := 2) (n2 := 3) rfl (ru_iload_n (k := 1) hx hb dX6_replace_2) ?_
  refine ruL_c (n := 3) (n2 := 4) rfl (ru_callV hx hb hml hown hts hK hN (by decide) rfl (c_X6_isLamp l D cI cZ cA cL ad hi) (cwV 1 hts gX6_replace_X6_isLamp rfl rfl rfl (by decide +kernel) ⟨Nat.le_of_ble_eq_true rfl, Nat.le_of_ble_eq_true rfl⟩) dX6_replace_3 ⟨Nat.zero_le _, Nat.zero_le _⟩) ?_
  refine ruL_c (n := 4) (n2 := 5) rfl (ru_bot) ?_
  refine ruL_c (n := 5) (n2 := 6) rfl (ru_bot) ?_
  refine ruL_c (n := 6) (n2 := 7) rfl (ru_ifeq hx hb dX6_replace_6 (by decide)) ?_
  refine ruL_c (n := 7) (n2 := 8) rfl (ru_bot) ?_
  refine ruL_c (n := 8) (n2 := 9) rfl (ru_bot) ?_
  refine ruL_c (n := 9) (n2 := 10) rfl (ru_iconst hx hb dX6_replace_9 rfl) ?_
  refine ruL_c (n := 10) (n2 := 11) rfl (ru_goto hx hb dX6_replace_10 (by decide)) ?_
  refine ruL_c (n := 11) (n2 := 12) rfl (ru_bot) ?_
  refine ruL_c (n := 12) (n2 := 13) rfl (ru_bot) ?_
  refine ruL_c (n := 13) (n2 := 14) rfl (ru_iconst hx hb dX6_replace_13 rfl) ?_
  refine ruL_c (n := 14) (n2 := 15) rfl (ru_callV hx hb hml hown hts hK hN (by decide) rfl (c_X6_isFine l D cI cZ cA cL ad hi) (cwV 1 hts gX6_replace_X6_isFine rfl rfl rfl (by decide +kernel) ⟨Nat.le_of_ble_eq_true rfl, Nat.le_of_ble_eq_true rfl⟩) dX6_replace_14 ⟨Nat.zero_le _, Nat.zero_le _⟩) ?_
  refine ruL_c (n := 15) (n2 := 16) rfl (ru_bot) ?_
  refine ruL_c (n := 16) (n2 := 17) rfl (ru_bot) ?_
  refine ruL_c (n := 17) (n2 := 18) rfl (ru_ifne hx hb dX6_replace_17 (by decide)) ?_
  refine ruL_c (n := 18) (n2 := 19) rfl (ru_bot) ?_
  refine ruL_c (n := 19) (n2 := 20) rfl (ru_bot) ?_
  refine ruL_c (n := 20) (n2 := 21) rfl (ru_iconst hx hb dX6_replace_20 rfl) ?_
  refine ruL_c (n := 21) (n2 := 22) rfl (ru_iret hx hb hK hr hlocks dX6_replace_21) ?_
  refine ruL_c (n := 22) (n2 := 23) rfl (ru_aload_n (k := 0) hx hb dX6_replace_22) ?_
  refine ruL_c (n := 23) (n2 := 24) rfl (ru_getR (own := RX6) (j := 18) (T := TX6) hx hb hown hK hts hin6 (by decide) rfl rfl (by decide) rfl hl56 dX6_replace_23) ?_
  refine ruL_c (n := 24) (n2 := 25) rfl (ru_bot) ?_
  refine ruL_c (n := 25) (n2 := 26) rfl (ru_bot) ?_
  refine ruL_c (n := 26) (n2 := 27) rfl (ru_iload_n (k := 1) hx hb dX6_replace_26) ?_
  refine ruL_c (n := 27) (n2 := 28) rfl (ru_iald hx hb hK dX6_replace_27) ?_
  refine ruL_c (n := 28) (n2 := 29) rfl (ru_istore_n (k := 2) hx hb dX6_replace_28) ?_
  refine ruL_c (n := 29) (n2 := 30) rfl (ru_aload_n (k := 0) hx hb dX6_replace_29) ?_
  refine ruL_c (n := 30) (n2 := 31) rfl (ru_getR (own := RX6) (j := 18) (T := TX6) hx hb hown hK hts hin6 (by decide) rfl rfl (by decide) rfl hl56 dX6_replace_30) ?_
  refine ruL_c (n := 31) (n2 := 32) rfl (ru_bot) ?_
  refine ruL_c (n := 32) (n2 := 33) rfl (ru_bot) ?_
  refine ruL_c (n := 33) (n2 := 34) rfl (ru_iload_n (k := 1) hx hb dX6_replace_33) ?_
  refine ruL_c (n := 34) (n2 := 35) rfl (ru_iconst hx hb dX6_replace_34 rfl) ?_
  refine ruL_c (n := 35) (n2 := 36) rfl (ru_iast hx hb hK hi dX6_replace_35) ?_
  refine ruL_c (n := 36) (n2 := 37) rfl (ru_iload_n (k := 2) hx hb dX6_replace_36) ?_
  refine ruL_c (n := 37) (n2 := 38) rfl (ru_iret hx hb hK hr hlocks dX6_replace_37) ?_
  exact trivial

-- CueTourModel.lamps
def f_X6_lamps (σ : aM) : Option (Int32 × aM) := some (σ 6 19, mput σ 6 0 0)
def F_X6_lamps : aF := fun As σ => match As with
  | [] => f_X6_lamps σ
  | _ => none
def T_X6_lamps (Qa : Int32 → aM → Prop) : List aI := [I_aload 0 1, I_const 0 1, I_putI 6 0, I_bot, I_bot, I_aload 0 1, I_getI 6 19, I_bot, I_bot, I_iret Qa]
set_option maxHeartbeats 4000000 in
set_option maxRecDepth 100000 in
theorem s_X6_lamps : runs T_X6_lamps [.ref 6] 1 F_X6_lamps := by
  intro Qa K hw hf As σ r σ' h hQ
  unfold F_X6_lamps at h
  split at h
  · unfold f_X6_lamps at h
    have hQ : Qa (r, σ').1 (r, σ').2 := hQ
    generalize (r, σ') = y at h hQ
    show K (0, [.ref 6], [], σ)
    obtain rfl := Option.some.inj h
    refine hw 6 _ ?_
    show Qa (σ 6 19) (mput σ 6 0 0)
    refine hQ
  · cases h
theorem h_X6_lamps : shp [.ref 6] 1 F_X6_lamps := by
  intro As σ r σ' h
  unfold F_X6_lamps at h
  split at h
  · exact ⟨by simp [Value.category], Nat.le_of_ble_eq_true rfl⟩
  · cases h
set_option maxHeartbeats 4000000 in
set_option maxRecDepth 100000 in
theorem c_X6_lamps (l : Launch) (D : va_G) (cI cZ cA cL : ClassId) (ad : Nat → Nat) (hi : adI ad) : CtI l yX6_lamps wsX6_lamps { frames := 0, cells := 0, slots := 0, locals := 0 } D cI cZ cA cL ad [.ref 6] F_X6_lamps := by
  refine mk_I [.ref 6] F_X6_lamps T_X6_lamps (by decide +kernel) rfl ?_ h_X6_lamps s_X6_lamps
  intro p e s m args below meth c Qa ⟨hx, hb, hml, hown, hts, hr, hlocks, hK, hN⟩
  have hin6 : ∀ w ∈ u_ws RX6 TX6 30, w ∈ wsX6_lamps := by decide +kernel
  have hl83 : (Cond.fieldLink RX6 83 RX6 (TX6 0).2.1 (TX6 0).2.2.1) ∈ wsX6_lamps := by decide +kernel
  have hl159 : (Cond.fieldLink RX6 159 RX6 (TX6 19).2.1 (TX6 19).2.2.1) ∈ wsX6_lamps := by decide +kernel
  refine ruL_c (n := 0) (n2 := 1) rfl (ru_aload_n (k := 0) hx hb dX6_lamps_0) ?_
  refine ruL_c (n := 1) (n2 := 2) rfl (ru_iconst hx hb dX6_lamps_1 rfl) ?_
  refine ruL_c (n := 2) (n2 := 3) rfl (ru_putI (own := RX6) (j := 0) (T := TX6) hx hb hown hK hi hts hin6 tyX6 tyX6_ok nmX6 (by decide) rfl rfl (by decide) rfl hl83 rfl (by decide +kernel) dX6_lamps_2) ?_
  refine ruL_c (n := 3) (n2 := 4) rfl (ru_bot) ?_
  refine ruL_c (n := 4) (n2 := 5) rfl (ru_bot) ?_
  refine ruL_c (n := 5) (n2 := 6) rfl (ru_aload_n (k := 0) hx hb dX6_lamps_5) ?_
  refine ruL_c (n := 6) (n2 := 7) rfl (ru_getI (own := RX6) (j := 19) (T := TX6) hx hb hown hK hts hin6 (by decide) rfl rfl (by decide) rfl hl159 dX6_lamps_6) ?_
  refine ruL_c (n := 7) (n2 := 8) rfl (ru_bot) ?_
  refine ruL_c (n := 8) (n2 := 9) rfl (ru_bot) ?_
  refine ruL_c (n := 9) (n2 := 10) rfl (ru_iret hx hb hK hr hlocks dX6_lamps_9) ?_
  exact trivial

-- CueTourModel.whereIs
def f_X6_whereIs (p0 : Int32) (σ : aM) : Option (Int32 × aM) := bnd (f_X6_isLamp p0 σ) (fun r1 σ2 => if r1 = 0 then bnd (f_X6_isFine 1 σ2) (fun r5 σ6 => if r5 = 0 then some (0, σ6) else if inb p0 20 = true then some (σ6 40 (ix p0), σ6) else none) else bnd (f_X6_isFine 0 σ2) (fun r10 σ11 => if r10 = 0 then some (0, σ11) else if inb p0 20 = true then some (σ11 40 (ix p0), σ11) else none))
def F_X6_whereIs : aF := fun As σ => match As with
  | [.int p0] => f_X6_whereIs p0 σ
  | _ => none
def T_X6_whereIs (Qa : Int32 → aM → Prop) : List aI := [I_aload 0 1, I_aload 0 1, I_iload 1 1, I_callV 6 1 F_X6_isLamp, I_bot, I_bot, I_if (fun x => x = 0) 13, I_bot, I_bot, I_const 0 1, I_goto 14, I_bot, I_bot, I_const 1 1, I_callV 6 1 F_X6_isFine, I_bot, I_bot, I_if (fun x => x = 0) 29, I_bot, I_bot, I_aload 0 1, I_getR 6 40, I_bot, I_bot, I_iload 1 1, I_iald, I_goto 30, I_bot, I_bot, I_const 0 1, I_iret Qa]
set_option maxHeartbeats 4000000 in
set_option maxRecDepth 100000 in
theorem s_X6_whereIs : runs T_X6_whereIs [.ref 6] 2 F_X6_whereIs := by
  intro Qa K hw hf As σ r σ' h hQ
  unfold F_X6_whereIs at h
  split at h
  · rename_i p0
    unfold f_X6_whereIs at h
    have hQ : Qa (r, σ').1 (r, σ').2 := hQ
    generalize (r, σ') = y at h hQ
    show K (0, [.ref 6, .int p0], [], σ)
    obtain ⟨r1, σ2, e3, h⟩ := bnd_some h
    refine hw 4 _ ?_
    show ∃ r1 σ2, f_X6_isLamp p0 σ = some (r1, σ2) ∧ K (6, [.ref 6, .int p0], [.int r1, .ref 6], σ2)
    refine ⟨r1, σ2, e3, ?_⟩
    rcases ite_cases h with ⟨c4, h⟩ | ⟨c4, h⟩
    · refine hw 1 _ ?_
      show ((r1 = 0) → K (13, [.ref 6, .int p0], [.ref 6], σ2)) ∧ (¬ (r1 = 0) → K (9, [.ref 6, .int p0], [.ref 6], σ2))
      refine ⟨fun _ => ?_, fun q => absurd c4 q⟩
      obtain ⟨r5, σ6, e7, h⟩ := bnd_some h
      refine hw 2 _ ?_
      show ∃ r5 σ6, f_X6_isFine 1 σ2 = some (r5, σ6) ∧ K (17, [.ref 6, .int p0], [.int r5], σ6)
      refine ⟨r5, σ6, e7, ?_⟩
      rcases ite_cases h with ⟨c8, h⟩ | ⟨c8, h⟩
      · refine hw 1 _ ?_
        show ((r5 = 0) → K (29, [.ref 6, .int p0], [], σ6)) ∧ (¬ (r5 = 0) → K (20, [.ref 6, .int p0], [], σ6))
        refine ⟨fun _ => ?_, fun q => absurd c8 q⟩
        obtain rfl := Option.some.inj h
        refine hw 2 _ ?_
        show Qa 0 σ6
        refine hQ
      · refine hw 1 _ ?_
        show ((r5 = 0) → K (29, [.ref 6, .int p0], [], σ6)) ∧ (¬ (r5 = 0) → K (20, [.ref 6, .int p0], [], σ6))
        refine ⟨fun q => absurd q c8, fun _ => ?_⟩
        obtain ⟨g9, h⟩ := ite_some h
        obtain rfl := Option.some.inj h
        refine hw 6 _ ?_
        show kd 40 = 1 ∧ (inb p0 20 = true ∧ (Qa (σ6 40 (ix p0)) σ6))
        refine ⟨rfl, g9, hQ⟩
    · refine hw 1 _ ?_
      show ((r1 = 0) → K (13, [.ref 6, .int p0], [.ref 6], σ2)) ∧ (¬ (r1 = 0) → K (9, [.ref 6, .int p0], [.ref 6], σ2))
      refine ⟨fun q => absurd q c4, fun _ => ?_⟩
      obtain ⟨r10, σ11, e12, h⟩ := bnd_some h
      refine hw 3 _ ?_
      show ∃ r10 σ11, f_X6_isFine 0 σ2 = some (r10, σ11) ∧ K (17, [.ref 6, .int p0], [.int r10], σ11)
      refine ⟨r10, σ11, e12, ?_⟩
      rcases ite_cases h with ⟨c13, h⟩ | ⟨c13, h⟩
      · refine hw 1 _ ?_
        show ((r10 = 0) → K (29, [.ref 6, .int p0], [], σ11)) ∧ (¬ (r10 = 0) → K (20, [.ref 6, .int p0], [], σ11))
        refine ⟨fun _ => ?_, fun q => absurd c13 q⟩
        obtain rfl := Option.some.inj h
        refine hw 2 _ ?_
        show Qa 0 σ11
        refine hQ
      · refine hw 1 _ ?_
        show ((r10 = 0) → K (29, [.ref 6, .int p0], [], σ11)) ∧ (¬ (r10 = 0) → K (20, [.ref 6, .int p0], [], σ11))
        refine ⟨fun q => absurd q c13, fun _ => ?_⟩
        obtain ⟨g14, h⟩ := ite_some h
        obtain rfl := Option.some.inj h
        refine hw 6 _ ?_
        show kd 40 = 1 ∧ (inb p0 20 = true ∧ (Qa (σ11 40 (ix p0)) σ11))
        refine ⟨rfl, g14, hQ⟩
  · cases h
theorem h_X6_whereIs : shp [.ref 6] 2 F_X6_whereIs := by
  intro As σ r σ' h
  unfold F_X6_whereIs at h
  split at h
  · exact ⟨by simp [Value.category], Nat.le_of_ble_eq_true rfl⟩
  · cases h
set_option maxHeartbeats 4000000 in
set_option maxRecDepth 100000 in
theorem c_X6_whereIs (l : Launch) (D : va_G) (cI cZ cA cL : ClassId) (ad : Nat → Nat) (hi : adI ad) : CtI l yX6_whereIs wsX6_whereIs { frames := 2, cells := 0, slots := 0, locals := 43 } D cI cZ cA cL ad [.ref 6] F_X6_whereIs := by
  refine mk_I [.ref 6] F_X6_whereIs T_X6_whereIs (by decide +kernel) rfl ?_ h_X6_whereIs s_X6_whereIs
  intro p e s m args below meth c Qa ⟨hx, hb, hml, hown, hts, hr, hlocks, hK, hN⟩
  have hin6 : ∀ w ∈ u_ws RX6 TX6 30, w ∈ wsX6_whereIs := by decide +kernel
  have hl44 : (Cond.fieldLink RX6 44 RX6 (TX6 14).2.1 (TX6 14).2.2.1) ∈ wsX6_whereIs := by decide +kernel
  refine ruL_c (n := 0) (n2 := 1) rfl (ru_aload_n (k := 0) hx hb dX6_whereIs_0) ?_
  refine ruL_c (n := 1) (n2 := 2) rfl (ru_aload_n (k := 0) hx hb dX6_whereIs_1) ?_
  refine ruL_c (n := 2) (n2 := 3) rfl (ru_iload_n (k := 1) hx hb dX6_whereIs_2) ?_
  refine ruL_c (n := 3) (n2 := 4) rfl (ru_callV hx hb hml hown hts hK hN (by decide) rfl (c_X6_isLamp l D cI cZ cA cL ad hi) (cwV 1 hts gX6_whereIs_X6_isLamp rfl rfl rfl (by decide +kernel) ⟨Nat.le_of_ble_eq_true rfl, Nat.le_of_ble_eq_true rfl⟩) dX6_whereIs_3 ⟨Nat.zero_le _, Nat.zero_le _⟩) ?_
  refine ruL_c (n := 4) (n2 := 5) rfl (ru_bot) ?_
  refine ruL_c (n := 5) (n2 := 6) rfl (ru_bot) ?_
  refine ruL_c (n := 6) (n2 := 7) rfl (ru_ifeq hx hb dX6_whereIs_6 (by decide)) ?_
  refine ruL_c (n := 7) (n2 := 8) rfl (ru_bot) ?_
  refine ruL_c (n := 8) (n2 := 9) rfl (ru_bot) ?_
  refine ruL_c (n := 9) (n2 := 10) rfl (ru_iconst hx hb dX6_whereIs_9 rfl) ?_
  refine ruL_c (n := 10) (n2 := 11) rfl (ru_goto hx hb dX6_whereIs_10 (by decide)) ?_
  refine ruL_c (n := 11) (n2 := 12) rfl (ru_bot) ?_
  refine ruL_c (n := 12) (n2 := 13) rfl (ru_bot) ?_
  refine ruL_c (n := 13) (n2 := 14) rfl (ru_iconst hx hb dX6_whereIs_13 rfl) ?_
  refine ruL_c (n := 14) (n2 := 15) rfl (ru_callV hx hb hml hown hts hK hN (by decide) rfl (c_X6_isFine l D cI cZ cA cL ad hi) (cwV 1 hts gX6_whereIs_X6_isFine rfl rfl rfl (by decide +kernel) ⟨Nat.le_of_ble_eq_true rfl, Nat.le_of_ble_eq_true rfl⟩) dX6_whereIs_14 ⟨Nat.zero_le _, Nat.zero_le _⟩) ?_
  refine ruL_c (n := 15) (n2 := 16) rfl (ru_bot) ?_
  refine ruL_c (n := 16) (n2 := 17) rfl (ru_bot) ?_
  refine ruL_c (n := 17) (n2 := 18) rfl (ru_ifeq hx hb dX6_whereIs_17 (by decide)) ?_
  refine ruL_c (n := 18) (n2 := 19) rfl (ru_bot) ?_
  refine ruL_c (n := 19) (n2 := 20) rfl (ru_bot) ?_
  refine ruL_c (n := 20) (n2 := 21) rfl (ru_aload_n (k := 0) hx hb dX6_whereIs_20) ?_
  refine ruL_c (n := 21) (n2 := 22) rfl (ru_getR (own := RX6) (j := 14) (T := TX6) hx hb hown hK hts hin6 (by decide) rfl rfl (by decide) rfl hl44 dX6_whereIs_21) ?_
  refine ruL_c (n := 22) (n2 := 23) rfl (ru_bot) ?_
  refine ruL_c (n := 23) (n2 := 24) rfl (ru_bot) ?_
  refine ruL_c (n := 24) (n2 := 25) rfl (ru_iload_n (k := 1) hx hb dX6_whereIs_24) ?_
  refine ruL_c (n := 25) (n2 := 26) rfl (ru_iald hx hb hK dX6_whereIs_25) ?_
  refine ruL_c (n := 26) (n2 := 27) rfl (ru_goto hx hb dX6_whereIs_26 (by decide)) ?_
  refine ruL_c (n := 27) (n2 := 28) rfl (ru_bot) ?_
  refine ruL_c (n := 28) (n2 := 29) rfl (ru_bot) ?_
  refine ruL_c (n := 29) (n2 := 30) rfl (ru_iconst hx hb dX6_whereIs_29 rfl) ?_
  refine ruL_c (n := 30) (n2 := 31) rfl (ru_iret hx hb hK hr hlocks dX6_whereIs_30) ?_
  exact trivial

-- CueTourModel.wear
def f_X6_wear (p0 : Int32) (σ : aM) : Option (Int32 × aM) := bnd (f_X6_isLamp p0 σ) (fun r1 σ2 => if r1 = 0 then bnd (f_X6_isFine 1 σ2) (fun r5 σ6 => if r5 = 0 then some (0, σ6) else if inb p0 20 = true then some (σ6 44 (ix p0), σ6) else none) else bnd (f_X6_isFine 0 σ2) (fun r10 σ11 => if r10 = 0 then some (0, σ11) else if inb p0 20 = true then some (σ11 44 (ix p0), σ11) else none))
def F_X6_wear : aF := fun As σ => match As with
  | [.int p0] => f_X6_wear p0 σ
  | _ => none
def T_X6_wear (Qa : Int32 → aM → Prop) : List aI := [I_aload 0 1, I_aload 0 1, I_iload 1 1, I_callV 6 1 F_X6_isLamp, I_bot, I_bot, I_if (fun x => x = 0) 13, I_bot, I_bot, I_const 0 1, I_goto 14, I_bot, I_bot, I_const 1 1, I_callV 6 1 F_X6_isFine, I_bot, I_bot, I_if (fun x => x = 0) 29, I_bot, I_bot, I_aload 0 1, I_getR 6 44, I_bot, I_bot, I_iload 1 1, I_iald, I_goto 30, I_bot, I_bot, I_const 0 1, I_iret Qa]
set_option maxHeartbeats 4000000 in
set_option maxRecDepth 100000 in
theorem s_X6_wear : runs T_X6_wear [.ref 6] 2 F_X6_wear := by
  intro Qa K hw hf As σ r σ' h hQ
  unfold F_X6_wear at h
  split at h
  · rename_i p0
    unfold f_X6_wear at h
    have hQ : Qa (r, σ').1 (r, σ').2 := hQ
    generalize (r, σ') = y at h hQ
    show K (0, [.ref 6, .int p0], [], σ)
    obtain ⟨r1, σ2, e3, h⟩ := bnd_some h
    refine hw 4 _ ?_
    show ∃ r1 σ2, f_X6_isLamp p0 σ = some (r1, σ2) ∧ K (6, [.ref 6, .int p0], [.int r1, .ref 6], σ2)
    refine ⟨r1, σ2, e3, ?_⟩
    rcases ite_cases h with ⟨c4, h⟩ | ⟨c4, h⟩
    · refine hw 1 _ ?_
      show ((r1 = 0) → K (13, [.ref 6, .int p0], [.ref 6], σ2)) ∧ (¬ (r1 = 0) → K (9, [.ref 6, .int p0], [.ref 6], σ2))
      refine ⟨fun _ => ?_, fun q => absurd c4 q⟩
      obtain ⟨r5, σ6, e7, h⟩ := bnd_some h
      refine hw 2 _ ?_
      show ∃ r5 σ6, f_X6_isFine 1 σ2 = some (r5, σ6) ∧ K (17, [.ref 6, .int p0], [.int r5], σ6)
      refine ⟨r5, σ6, e7, ?_⟩
      rcases ite_cases h with ⟨c8, h⟩ | ⟨c8, h⟩
      · refine hw 1 _ ?_
        show ((r5 = 0) → K (29, [.ref 6, .int p0], [], σ6)) ∧ (¬ (r5 = 0) → K (20, [.ref 6, .int p0], [], σ6))
        refine ⟨fun _ => ?_, fun q => absurd c8 q⟩
        obtain rfl := Option.some.inj h
        refine hw 2 _ ?_
        show Qa 0 σ6
        refine hQ
      · refine hw 1 _ ?_
        show ((r5 = 0) → K (29, [.ref 6, .int p0], [], σ6)) ∧ (¬ (r5 = 0) → K (20, [.ref 6, .int p0], [], σ6))
        refine ⟨fun q => absurd q c8, fun _ => ?_⟩
        obtain ⟨g9, h⟩ := ite_some h
        obtain rfl := Option.some.inj h
        refine hw 6 _ ?_
        show kd 44 = 1 ∧ (inb p0 20 = true ∧ (Qa (σ6 44 (ix p0)) σ6))
        refine ⟨rfl, g9, hQ⟩
    · refine hw 1 _ ?_
      show ((r1 = 0) → K (13, [.ref 6, .int p0], [.ref 6], σ2)) ∧ (¬ (r1 = 0) → K (9, [.ref 6, .int p0], [.ref 6], σ2))
      refine ⟨fun q => absurd q c4, fun _ => ?_⟩
      obtain ⟨r10, σ11, e12, h⟩ := bnd_some h
      refine hw 3 _ ?_
      show ∃ r10 σ11, f_X6_isFine 0 σ2 = some (r10, σ11) ∧ K (17, [.ref 6, .int p0], [.int r10], σ11)
      refine ⟨r10, σ11, e12, ?_⟩
      rcases ite_cases h with ⟨c13, h⟩ | ⟨c13, h⟩
      · refine hw 1 _ ?_
        show ((r10 = 0) → K (29, [.ref 6, .int p0], [], σ11)) ∧ (¬ (r10 = 0) → K (20, [.ref 6, .int p0], [], σ11))
        refine ⟨fun _ => ?_, fun q => absurd c13 q⟩
        obtain rfl := Option.some.inj h
        refine hw 2 _ ?_
        show Qa 0 σ11
        refine hQ
      · refine hw 1 _ ?_
        show ((r10 = 0) → K (29, [.ref 6, .int p0], [], σ11)) ∧ (¬ (r10 = 0) → K (20, [.ref 6, .int p0], [], σ11))
        refine ⟨fun q => absurd q c13, fun _ => ?_⟩
        obtain ⟨g14, h⟩ := ite_some h
        obtain rfl := Option.some.inj h
        refine hw 6 _ ?_
        show kd 44 = 1 ∧ (inb p0 20 = true ∧ (Qa (σ11 44 (ix p0)) σ11))
        refine ⟨rfl, g14, hQ⟩
  · cases h
theorem h_X6_wear : shp [.ref 6] 2 F_X6_wear := by
  intro As σ r σ' h
  unfold F_X6_wear at h
  split at h
  · exact ⟨by simp [Value.category], Nat.le_of_ble_eq_true rfl⟩
  · cases h
set_option maxHeartbeats 4000000 in
set_option maxRecDepth 100000 in
theorem c_X6_wear (l : Launch) (D : va_G) (cI cZ cA cL : ClassId) (ad : Nat → Nat) (hi : adI ad) : CtI l yX6_wear wsX6_wear { frames := 2, cells := 0, slots := 0, locals := 43 } D cI cZ cA cL ad [.ref 6] F_X6_wear := by
  refine mk_I [.ref 6] F_X6_wear T_X6_wear (by decide +kernel) rfl ?_ h_X6_wear s_X6_wear
  intro p e s m args below meth c Qa ⟨hx, hb, hml, hown, hts, hr, hlocks, hK, hN⟩
  have hin6 : ∀ w ∈ u_ws RX6 TX6 30, w ∈ wsX6_wear := by decide +kernel
  have hl56 : (Cond.fieldLink RX6 56 RX6 (TX6 18).2.1 (TX6 18).2.2.1) ∈ wsX6_wear := by decide +kernel
  refine ruL_c (n := 0) (n2 := 1) rfl (ru_aload_n (k := 0) hx hb dX6_wear_0) ?_
  refine ruL_c (n := 1) (n2 := 2) rfl (ru_aload_n (k := 0) hx hb dX6_wear_1) ?_
  refine ruL_c (n := 2) (n2 := 3) rfl (ru_iload_n (k := 1) hx hb dX6_wear_2) ?_
  refine ruL_c (n := 3) (n2 := 4) rfl (ru_callV hx hb hml hown hts hK hN (by decide) rfl (c_X6_isLamp l D cI cZ cA cL ad hi) (cwV 1 hts gX6_wear_X6_isLamp rfl rfl rfl (by decide +kernel) ⟨Nat.le_of_ble_eq_true rfl, Nat.le_of_ble_eq_true rfl⟩) dX6_wear_3 ⟨Nat.zero_le _, Nat.zero_le _⟩) ?_
  refine ruL_c (n := 4) (n2 := 5) rfl (ru_bot) ?_
  refine ruL_c (n := 5) (n2 := 6) rfl (ru_bot) ?_
  refine ruL_c (n := 6) (n2 := 7) rfl (ru_ifeq hx hb dX6_wear_6 (by decide)) ?_
  refine ruL_c (n := 7) (n2 := 8) rfl (ru_bot) ?_
  refine ruL_c (n := 8) (n2 := 9) rfl (ru_bot) ?_
  refine ruL_c (n := 9) (n2 := 10) rfl (ru_iconst hx hb dX6_wear_9 rfl) ?_
  refine ruL_c (n := 10) (n2 := 11) rfl (ru_goto hx hb dX6_wear_10 (by decide)) ?_
  refine ruL_c (n := 11) (n2 := 12) rfl (ru_bot) ?_
  refine ruL_c (n := 12) (n2 := 13) rfl (ru_bot) ?_
  refine ruL_c (n := 13) (n2 := 14) rfl (ru_iconst hx hb dX6_wear_13 rfl) ?_
  refine ruL_c (n := 14) (n2 := 15) rfl (ru_callV hx hb hml hown hts hK hN (by decide) rfl (c_X6_isFine l D cI cZ cA cL ad hi) (cwV 1 hts gX6_wear_X6_isFine rfl rfl rfl (by decide +kernel) ⟨Nat.le_of_ble_eq_true rfl, Nat.le_of_ble_eq_true rfl⟩) dX6_wear_14 ⟨Nat.zero_le _, Nat.zero_le _⟩) ?_
  refine ruL_c (n := 15) (n2 := 16) rfl (ru_bot) ?_
  refine ruL_c (n := 16) (n2 := 17) rfl (ru_bot) ?_
  refine ruL_c (n := 17) (n2 := 18) rfl (ru_ifeq hx hb dX6_wear_17 (by decide)) ?_
  refine ruL_c (n := 18) (n2 := 19) rfl (ru_bot) ?_
  refine ruL_c (n := 19) (n2 := 20) rfl (ru_bot) ?_
  refine ruL_c (n := 20) (n2 := 21) rfl (ru_aload_n (k := 0) hx hb dX6_wear_20) ?_
  refine ruL_c (n := 21) (n2 := 22) rfl (ru_getR (own := RX6) (j := 18) (T := TX6) hx hb hown hK hts hin6 (by decide) rfl rfl (by decide) rfl hl56 dX6_wear_21) ?_
  refine ruL_c (n := 22) (n2 := 23) rfl (ru_bot) ?_
  refine ruL_c (n := 23) (n2 := 24) rfl (ru_bot) ?_
  refine ruL_c (n := 24) (n2 := 25) rfl (ru_iload_n (k := 1) hx hb dX6_wear_24) ?_
  refine ruL_c (n := 25) (n2 := 26) rfl (ru_iald hx hb hK dX6_wear_25) ?_
  refine ruL_c (n := 26) (n2 := 27) rfl (ru_goto hx hb dX6_wear_26 (by decide)) ?_
  refine ruL_c (n := 27) (n2 := 28) rfl (ru_bot) ?_
  refine ruL_c (n := 28) (n2 := 29) rfl (ru_bot) ?_
  refine ruL_c (n := 29) (n2 := 30) rfl (ru_iconst hx hb dX6_wear_29 rfl) ?_
  refine ruL_c (n := 30) (n2 := 31) rfl (ru_iret hx hb hK hr hlocks dX6_wear_30) ?_
  exact trivial

-- CueTourModel.lays
def l_X6_lays_8 (x1 : Int32) (x2 : Int32) : Nat → Int32 → Int32 → Int32 → aM → (Int32 → Int32 → Int32 → aM → Option (Int32 × aM)) → Option (Int32 × aM)
  | 0, _, _, _, _, _ => none
  | n + 1, v3, v4, v5, σ6, k => if (σ6 6 19) ≤ v5 then k v3 v4 v5 σ6 else if inb v5 20 = true then if ¬ (σ6 40 (ix v5)) = x1 then l_X6_lays_8 x1 x2 n (v3 ||| 0) (v4 ||| 0) (v5 + 1) σ6 k else if inb v5 20 = true then if inb x2 10 = true then if ¬ (σ6 41 (ix v5)) = (σ6 32 (ix x2)) then l_X6_lays_8 x1 x2 n (v3 ||| 0) (v4 ||| 0) (v5 + 1) σ6 k else if inb v5 20 = true then if inb x2 10 = true then if ¬ (σ6 42 (ix v5)) = (σ6 33 (ix x2)) then l_X6_lays_8 x1 x2 n (v3 ||| (1 <<< (v5 &&& 31))) (v4 ||| 0) (v5 + 1) σ6 k else l_X6_lays_8 x1 x2 n (v3 ||| (1 <<< (v5 &&& 31))) (v4 ||| (1 <<< (v5 &&& 31))) (v5 + 1) σ6 k else none else none else none else none else none
def f_X6_lays (p0 : Int32) (p1 : Int32) (σ : aM) : Option (Int32 × aM) := l_X6_lays_8 p0 p1 lf 0 0 0 σ (fun v16 v17 v18 σ19 => if ¬ v17 = 0 then some (v17, σ19) else some (v16, σ19))
def F_X6_lays : aF := fun As σ => match As with
  | [.int p0, .int p1] => f_X6_lays p0 p1 σ
  | _ => none
def T_X6_lays (Qa : Int32 → aM → Prop) : List aI := [I_const 0 1, I_istore 3 1, I_const 0 1, I_istore 4 2, I_bot, I_const 0 1, I_istore 5 2, I_bot, I_iload 5 2, I_bot, I_aload 0 1, I_getI 6 19, I_bot, I_bot, I_icmp (fun x y => y ≤ x) 107, I_bot, I_bot, I_aload 0 1, I_getR 6 40, I_bot, I_bot, I_iload 5 2, I_bot, I_iald, I_iload 1 1, I_icmp (fun x y => ¬ x = y) 48, I_bot, I_bot, I_aload 0 1, I_getR 6 41, I_bot, I_bot, I_iload 5 2, I_bot, I_iald, I_aload 0 1, I_getR 6 32, I_bot, I_bot, I_iload 2 1, I_iald, I_icmp (fun x y => ¬ x = y) 48, I_bot, I_bot, I_const 1 1, I_goto 49, I_bot, I_bot, I_const 0 1, I_istore 6 2, I_bot, I_iload 3 1, I_iload 6 2, I_bot, I_if (fun x => x = 0) 64, I_bot, I_bot, I_const 1 1, I_iload 5 2, I_bot, I_bin fun x y => x <<< (y &&& 31), I_goto 65, I_bot, I_bot, I_const 0 1, I_bin fun x y => x ||| y, I_istore 3 1, I_iload 4 2, I_bot, I_iload 6 2, I_bot, I_if (fun x => x = 0) 97, I_bot, I_bot, I_aload 0 1, I_getR 6 42, I_bot, I_bot, I_iload 5 2, I_bot, I_iald, I_aload 0 1, I_getR 6 33, I_bot, I_bot, I_iload 2 1, I_iald, I_icmp (fun x y => ¬ x = y) 97, I_bot, I_bot, I_const 1 1, I_iload 5 2, I_bot, I_bin fun x y => x <<< (y &&& 31), I_goto 98, I_bot, I_bot, I_const 0 1, I_bin fun x y => x ||| y, I_istore 4 2, I_bot, I_iinc 5 (1), I_bot, I_bot, I_goto 8, I_bot, I_bot, I_iload 4 2, I_bot, I_if (fun x => ¬ x = 0) 116, I_bot, I_bot, I_iload 3 1, I_goto 118, I_bot, I_bot, I_iload 4 2, I_bot, I_iret Qa]
set_option maxHeartbeats 4000000 in
set_option maxRecDepth 100000 in
theorem t_X6_lays_8 {Qa : Int32 → aM → Prop} {K : aS → Prop} (hw : ∀ k x, wp (T_X6_lays Qa) k K x → K x) (hf : ∀ pc L i st σ, K (pc, L.set i .null, st, σ) → K (pc, L, st, σ)) (x1 : Int32) (x2 : Int32) (y : Int32 × aM) (k : Int32 → Int32 → Int32 → aM → Option (Int32 × aM)) :
    ∀ (n : Nat) (v3 : Int32) (v4 : Int32) (v5 : Int32) (σ6 : aM), l_X6_lays_8 x1 x2 n v3 v4 v5 σ6 k = some y → (∀ (w0 : Int32) (w1 : Int32) (w2 : Int32) (τ : aM), k w0 w1 w2 τ = some y → K (107, [.ref 6, .int x1, .int x2, .int w0, .int w1, .int w2, .null], [], τ)) → K (8, [.ref 6, .int x1, .int x2, .int v3, .int v4, .int v5, .null], [], σ6) := by
  intro n
  induction n with
  | zero =>
    intro v3 v4 v5 σ6 h hk
    exact absurd h (by simp [l_X6_lays_8])
  | succ n ih =>
    intro v3 v4 v5 σ6 h hk
    unfold l_X6_lays_8 at h
    rcases ite_cases h with ⟨c7, h⟩ | ⟨c7, h⟩
    · refine hw 4 _ ?_
      show (((σ6 6 19) ≤ v5) → K (107, [.ref 6, .int x1, .int x2, .int v3, .int v4, .int v5, .null], [], σ6)) ∧ (¬ ((σ6 6 19) ≤ v5) → K (17, [.ref 6, .int x1, .int x2, .int v3, .int v4, .int v5, .null], [], σ6))
      refine ⟨fun _ => ?_, fun q => absurd c7 q⟩
      exact hk v3 v4 v5 σ6 h
    · refine hw 4 _ ?_
      show (((σ6 6 19) ≤ v5) → K (107, [.ref 6, .int x1, .int x2, .int v3, .int v4, .int v5, .null], [], σ6)) ∧ (¬ ((σ6 6 19) ≤ v5) → K (17, [.ref 6, .int x1, .int x2, .int v3, .int v4, .int v5, .null], [], σ6))
      refine ⟨fun q => absurd q c7, fun _ => ?_⟩
      obtain ⟨g8, h⟩ := ite_some h
      rcases ite_cases h with ⟨c9, h⟩ | ⟨c9, h⟩
      · refine hw 6 _ ?_
        show kd 40 = 1 ∧ (inb v5 20 = true ∧ (((¬ (σ6 40 (ix v5)) = x1) → K (48, [.ref 6, .int x1, .int x2, .int v3, .int v4, .int v5, .null], [], σ6)) ∧ (¬ (¬ (σ6 40 (ix v5)) = x1) → K (28, [.ref 6, .int x1, .int x2, .int v3, .int v4, .int v5, .null], [], σ6))))
        refine ⟨rfl, g8, ⟨fun _ => ?_, fun q => absurd c9 q⟩⟩
        refine hw 5 _ ?_
        show (((0 : Int32) = 0) → K (64, [.ref 6, .int x1, .int x2, .int v3, .int v4, .int v5, .int 0], [.int v3], σ6)) ∧ (¬ ((0 : Int32) = 0) → K (57, [.ref 6, .int x1, .int x2, .int v3, .int v4, .int v5, .int 0], [.int v3], σ6))
        refine ⟨fun _ => ?_, fun q => absurd (by decide) q⟩
        refine hw 6 _ ?_
        show (((0 : Int32) = 0) → K (97, [.ref 6, .int x1, .int x2, .int (v3 ||| 0), .int v4, .int v5, .int 0], [.int v4], σ6)) ∧ (¬ ((0 : Int32) = 0) → K (74, [.ref 6, .int x1, .int x2, .int (v3 ||| 0), .int v4, .int v5, .int 0], [.int v4], σ6))
        refine ⟨fun _ => ?_, fun q => absurd (by decide) q⟩
        refine hw 5 _ ?_
        show K (8, [.ref 6, .int x1, .int x2, .int (v3 ||| 0), .int (v4 ||| 0), .int (v5 + 1), .int 0], [], σ6)
        refine hf _ _ 6 _ _ ?_
        show K (8, [.ref 6, .int x1, .int x2, .int (v3 ||| 0), .int (v4 ||| 0), .int (v5 + 1), .null], [], σ6)
        exact ih (v3 ||| 0) (v4 ||| 0) (v5 + 1) σ6 h hk
      · refine hw 6 _ ?_
        show kd 40 = 1 ∧ (inb v5 20 = true ∧ (((¬ (σ6 40 (ix v5)) = x1) → K (48, [.ref 6, .int x1, .int x2, .int v3, .int v4, .int v5, .null], [], σ6)) ∧ (¬ (¬ (σ6 40 (ix v5)) = x1) → K (28, [.ref 6, .int x1, .int x2, .int v3, .int v4, .int v5, .null], [], σ6))))
        refine ⟨rfl, g8, ⟨fun q => absurd q c9, fun _ => ?_⟩⟩
        obtain ⟨g10, h⟩ := ite_some h
        obtain ⟨g11, h⟩ := ite_some h
        rcases ite_cases h with ⟨c12, h⟩ | ⟨c12, h⟩
        · refine hw 9 _ ?_
          show kd 41 = 1 ∧ (inb v5 20 = true ∧ (kd 32 = 1 ∧ (inb x2 10 = true ∧ (((¬ (σ6 41 (ix v5)) = (σ6 32 (ix x2))) → K (48, [.ref 6, .int x1, .int x2, .int v3, .int v4, .int v5, .null], [], σ6)) ∧ (¬ (¬ (σ6 41 (ix v5)) = (σ6 32 (ix x2))) → K (44, [.ref 6, .int x1, .int x2, .int v3, .int v4, .int v5, .null], [], σ6))))))
          refine ⟨rfl, g10, rfl, g11, ⟨fun _ => ?_, fun q => absurd c12 q⟩⟩
          refine hw 5 _ ?_
          show (((0 : Int32) = 0) → K (64, [.ref 6, .int x1, .int x2, .int v3, .int v4, .int v5, .int 0], [.int v3], σ6)) ∧ (¬ ((0 : Int32) = 0) → K (57, [.ref 6, .int x1, .int x2, .int v3, .int v4, .int v5, .int 0], [.int v3], σ6))
          refine ⟨fun _ => ?_, fun q => absurd (by decide) q⟩
          refine hw 6 _ ?_
          show (((0 : Int32) = 0) → K (97, [.ref 6, .int x1, .int x2, .int (v3 ||| 0), .int v4, .int v5, .int 0], [.int v4], σ6)) ∧ (¬ ((0 : Int32) = 0) → K (74, [.ref 6, .int x1, .int x2, .int (v3 ||| 0), .int v4, .int v5, .int 0], [.int v4], σ6))
          refine ⟨fun _ => ?_, fun q => absurd (by decide) q⟩
          refine hw 5 _ ?_
          show K (8, [.ref 6, .int x1, .int x2, .int (v3 ||| 0), .int (v4 ||| 0), .int (v5 + 1), .int 0], [], σ6)
          refine hf _ _ 6 _ _ ?_
          show K (8, [.ref 6, .int x1, .int x2, .int (v3 ||| 0), .int (v4 ||| 0), .int (v5 + 1), .null], [], σ6)
          exact ih (v3 ||| 0) (v4 ||| 0) (v5 + 1) σ6 h hk
        · refine hw 9 _ ?_
          show kd 41 = 1 ∧ (inb v5 20 = true ∧ (kd 32 = 1 ∧ (inb x2 10 = true ∧ (((¬ (σ6 41 (ix v5)) = (σ6 32 (ix x2))) → K (48, [.ref 6, .int x1, .int x2, .int v3, .int v4, .int v5, .null], [], σ6)) ∧ (¬ (¬ (σ6 41 (ix v5)) = (σ6 32 (ix x2))) → K (44, [.ref 6, .int x1, .int x2, .int v3, .int v4, .int v5, .null], [], σ6))))))
          refine ⟨rfl, g10, rfl, g11, ⟨fun q => absurd q c12, fun _ => ?_⟩⟩
          refine hw 6 _ ?_
          show (((1 : Int32) = 0) → K (64, [.ref 6, .int x1, .int x2, .int v3, .int v4, .int v5, .int 1], [.int v3], σ6)) ∧ (¬ ((1 : Int32) = 0) → K (57, [.ref 6, .int x1, .int x2, .int v3, .int v4, .int v5, .int 1], [.int v3], σ6))
          refine ⟨fun q => absurd q (by decide), fun _ => ?_⟩
          refine hw 9 _ ?_
          show (((1 : Int32) = 0) → K (97, [.ref 6, .int x1, .int x2, .int (v3 ||| (1 <<< (v5 &&& 31))), .int v4, .int v5, .int 1], [.int v4], σ6)) ∧ (¬ ((1 : Int32) = 0) → K (74, [.ref 6, .int x1, .int x2, .int (v3 ||| (1 <<< (v5 &&& 31))), .int v4, .int v5, .int 1], [.int v4], σ6))
          refine ⟨fun q => absurd q (by decide), fun _ => ?_⟩
          obtain ⟨g13, h⟩ := ite_some h
          obtain ⟨g14, h⟩ := ite_some h
          rcases ite_cases h with ⟨c15, h⟩ | ⟨c15, h⟩
          · refine hw 9 _ ?_
            show kd 42 = 1 ∧ (inb v5 20 = true ∧ (kd 33 = 1 ∧ (inb x2 10 = true ∧ (((¬ (σ6 42 (ix v5)) = (σ6 33 (ix x2))) → K (97, [.ref 6, .int x1, .int x2, .int (v3 ||| (1 <<< (v5 &&& 31))), .int v4, .int v5, .int 1], [.int v4], σ6)) ∧ (¬ (¬ (σ6 42 (ix v5)) = (σ6 33 (ix x2))) → K (90, [.ref 6, .int x1, .int x2, .int (v3 ||| (1 <<< (v5 &&& 31))), .int v4, .int v5, .int 1], [.int v4], σ6))))))
            refine ⟨rfl, g13, rfl, g14, ⟨fun _ => ?_, fun q => absurd c15 q⟩⟩
            refine hw 5 _ ?_
            show K (8, [.ref 6, .int x1, .int x2, .int (v3 ||| (1 <<< (v5 &&& 31))), .int (v4 ||| 0), .int (v5 + 1), .int 1], [], σ6)
            refine hf _ _ 6 _ _ ?_
            show K (8, [.ref 6, .int x1, .int x2, .int (v3 ||| (1 <<< (v5 &&& 31))), .int (v4 ||| 0), .int (v5 + 1), .null], [], σ6)
            exact ih (v3 ||| (1 <<< (v5 &&& 31))) (v4 ||| 0) (v5 + 1) σ6 h hk
          · refine hw 9 _ ?_
            show kd 42 = 1 ∧ (inb v5 20 = true ∧ (kd 33 = 1 ∧ (inb x2 10 = true ∧ (((¬ (σ6 42 (ix v5)) = (σ6 33 (ix x2))) → K (97, [.ref 6, .int x1, .int x2, .int (v3 ||| (1 <<< (v5 &&& 31))), .int v4, .int v5, .int 1], [.int v4], σ6)) ∧ (¬ (¬ (σ6 42 (ix v5)) = (σ6 33 (ix x2))) → K (90, [.ref 6, .int x1, .int x2, .int (v3 ||| (1 <<< (v5 &&& 31))), .int v4, .int v5, .int 1], [.int v4], σ6))))))
            refine ⟨rfl, g13, rfl, g14, ⟨fun q => absurd q c15, fun _ => ?_⟩⟩
            refine hw 8 _ ?_
            show K (8, [.ref 6, .int x1, .int x2, .int (v3 ||| (1 <<< (v5 &&& 31))), .int (v4 ||| (1 <<< (v5 &&& 31))), .int (v5 + 1), .int 1], [], σ6)
            refine hf _ _ 6 _ _ ?_
            show K (8, [.ref 6, .int x1, .int x2, .int (v3 ||| (1 <<< (v5 &&& 31))), .int (v4 ||| (1 <<< (v5 &&& 31))), .int (v5 + 1), .null], [], σ6)
            exact ih (v3 ||| (1 <<< (v5 &&& 31))) (v4 ||| (1 <<< (v5 &&& 31))) (v5 + 1) σ6 h hk

set_option maxHeartbeats 4000000 in
set_option maxRecDepth 100000 in
theorem s_X6_lays : runs T_X6_lays [.ref 6] 7 F_X6_lays := by
  intro Qa K hw hf As σ r σ' h hQ
  unfold F_X6_lays at h
  split at h
  · rename_i p0 p1
    unfold f_X6_lays at h
    have hQ : Qa (r, σ').1 (r, σ').2 := hQ
    generalize (r, σ') = y at h hQ
    show K (0, [.ref 6, .int p0, .int p1, .null, .null, .null, .null], [], σ)
    refine hw 6 _ ?_
    show K (8, [.ref 6, .int p0, .int p1, .int 0, .int 0, .int 0, .null], [], σ)
    refine t_X6_lays_8 hw hf p0 p1 _ _ lf 0 0 0 σ h (fun v16 v17 v18 σ19 h => ?_)
    show K (107, [.ref 6, .int p0, .int p1, .int v16, .int v17, .int v18, .null], [], σ19)
    rcases ite_cases h with ⟨c20, h⟩ | ⟨c20, h⟩
    · refine hw 2 _ ?_
      show ((¬ v17 = 0) → K (116, [.ref 6, .int p0, .int p1, .int v16, .int v17, .int v18, .null], [], σ19)) ∧ (¬ (¬ v17 = 0) → K (112, [.ref 6, .int p0, .int p1, .int v16, .int v17, .int v18, .null], [], σ19))
      refine ⟨fun _ => ?_, fun q => absurd c20 q⟩
      obtain rfl := Option.some.inj h
      refine hw 2 _ ?_
      show Qa v17 σ19
      refine hQ
    · refine hw 2 _ ?_
      show ((¬ v17 = 0) → K (116, [.ref 6, .int p0, .int p1, .int v16, .int v17, .int v18, .null], [], σ19)) ∧ (¬ (¬ v17 = 0) → K (112, [.ref 6, .int p0, .int p1, .int v16, .int v17, .int v18, .null], [], σ19))
      refine ⟨fun q => absurd q c20, fun _ => ?_⟩
      obtain rfl := Option.some.inj h
      refine hw 3 _ ?_
      show Qa v16 σ19
      refine hQ
  · cases h
theorem h_X6_lays : shp [.ref 6] 7 F_X6_lays := by
  intro As σ r σ' h
  unfold F_X6_lays at h
  split at h
  · exact ⟨by simp [Value.category], Nat.le_of_ble_eq_true rfl⟩
  · cases h
set_option maxHeartbeats 4000000 in
set_option maxRecDepth 100000 in
theorem c_X6_lays (l : Launch) (D : va_G) (cI cZ cA cL : ClassId) (ad : Nat → Nat) (hi : adI ad) : CtI l yX6_lays wsX6_lays { frames := 0, cells := 0, slots := 0, locals := 0 } D cI cZ cA cL ad [.ref 6] F_X6_lays := by
  refine mk_I [.ref 6] F_X6_lays T_X6_lays (by decide +kernel) rfl ?_ h_X6_lays s_X6_lays
  intro p e s m args below meth c Qa ⟨hx, hb, hml, hown, hts, hr, hlocks, hK, hN⟩
  have hin6 : ∀ w ∈ u_ws RX6 TX6 30, w ∈ wsX6_lays := by decide +kernel
  have hl159 : (Cond.fieldLink RX6 159 RX6 (TX6 19).2.1 (TX6 19).2.2.1) ∈ wsX6_lays := by decide +kernel
  have hl44 : (Cond.fieldLink RX6 44 RX6 (TX6 14).2.1 (TX6 14).2.2.1) ∈ wsX6_lays := by decide +kernel
  have hl47 : (Cond.fieldLink RX6 47 RX6 (TX6 15).2.1 (TX6 15).2.2.1) ∈ wsX6_lays := by decide +kernel
  have hl20 : (Cond.fieldLink RX6 20 RX6 (TX6 5).2.1 (TX6 5).2.2.1) ∈ wsX6_lays := by decide +kernel
  have hl50 : (Cond.fieldLink RX6 50 RX6 (TX6 16).2.1 (TX6 16).2.2.1) ∈ wsX6_lays := by decide +kernel
  have hl23 : (Cond.fieldLink RX6 23 RX6 (TX6 6).2.1 (TX6 6).2.2.1) ∈ wsX6_lays := by decide +kernel
  refine ruL_c (n := 0) (n2 := 1) rfl (ru_iconst hx hb dX6_lays_0 rfl) ?_
  refine ruL_c (n := 1) (n2 := 2) rfl (ru_istore_n (k := 3) hx hb dX6_lays_1) ?_
  refine ruL_c (n := 2) (n2 := 3) rfl (ru_iconst hx hb dX6_lays_2 rfl) ?_
  refine ruL_c (n := 3) (n2 := 4) rfl (ru_istore hx hb dX6_lays_3) ?_
  refine ruL_c (n := 4) (n2 := 5) rfl (ru_bot) ?_
  refine ruL_c (n := 5) (n2 := 6) rfl (ru_iconst hx hb dX6_lays_5 rfl) ?_
  refine ruL_c (n := 6) (n2 := 7) rfl (ru_istore hx hb dX6_lays_6) ?_
  refine ruL_c (n := 7) (n2 := 8) rfl (ru_bot) ?_
  refine ruL_c (n := 8) (n2 := 9) rfl (ru_iload hx hb dX6_lays_8) ?_
  refine ruL_c (n := 9) (n2 := 10) rfl (ru_bot) ?_
  refine ruL_c (n := 10) (n2 := 11) rfl (ru_aload_n (k := 0) hx hb dX6_lays_10) ?_
  refine ruL_c (n := 11) (n2 := 12) rfl (ru_getI (own := RX6) (j := 19) (T := TX6) hx hb hown hK hts hin6 (by decide) rfl rfl (by decide) rfl hl159 dX6_lays_11) ?_
  refine ruL_c (n := 12) (n2 := 13) rfl (ru_bot) ?_
  refine ruL_c (n := 13) (n2 := 14) rfl (ru_bot) ?_
  refine ruL_c (n := 14) (n2 := 15) rfl (ru_icmpge hx hb dX6_lays_14 (by decide)) ?_
  refine ruL_c (n := 15) (n2 := 16) rfl (ru_bot) ?_
  refine ruL_c (n := 16) (n2 := 17) rfl (ru_bot) ?_
  refine ruL_c (n := 17) (n2 := 18) rfl (ru_aload_n (k := 0) hx hb dX6_lays_17) ?_
  refine ruL_c (n := 18) (n2 := 19) rfl (ru_getR (own := RX6) (j := 14) (T := TX6) hx hb hown hK hts hin6 (by decide) rfl rfl (by decide) rfl hl44 dX6_lays_18) ?_
  refine ruL_c (n := 19) (n2 := 20) rfl (ru_bot) ?_
  refine ruL_c (n := 20) (n2 := 21) rfl (ru_bot) ?_
  refine ruL_c (n := 21) (n2 := 22) rfl (ru_iload hx hb dX6_lays_21) ?_
  refine ruL_c (n := 22) (n2 := 23) rfl (ru_bot) ?_
  refine ruL_c (n := 23) (n2 := 24) rfl (ru_iald hx hb hK dX6_lays_23) ?_
  refine ruL_c (n := 24) (n2 := 25) rfl (ru_iload_n (k := 1) hx hb dX6_lays_24) ?_
  refine ruL_c (n := 25) (n2 := 26) rfl (ru_icmpne hx hb dX6_lays_25 (by decide)) ?_
  refine ruL_c (n := 26) (n2 := 27) rfl (ru_bot) ?_
  refine ruL_c (n := 27) (n2 := 28) rfl (ru_bot) ?_
  refine ruL_c (n := 28) (n2 := 29) rfl (ru_aload_n (k := 0) hx hb dX6_lays_28) ?_
  refine ruL_c (n := 29) (n2 := 30) rfl (ru_getR (own := RX6) (j := 15) (T := TX6) hx hb hown hK hts hin6 (by decide) rfl rfl (by decide) rfl hl47 dX6_lays_29) ?_
  refine ruL_c (n := 30) (n2 := 31) rfl (ru_bot) ?_
  refine ruL_c (n := 31) (n2 := 32) rfl (ru_bot) ?_
  refine ruL_c (n := 32) (n2 := 33) rfl (ru_iload hx hb dX6_lays_32) ?_
  refine ruL_c (n := 33) (n2 := 34) rfl (ru_bot) ?_
  refine ruL_c (n := 34) (n2 := 35) rfl (ru_iald hx hb hK dX6_lays_34) ?_
  refine ruL_c (n := 35) (n2 := 36) rfl (ru_aload_n (k := 0) hx hb dX6_lays_35) ?_
  refine ruL_c (n := 36) (n2 := 37) rfl (ru_getR (own := RX6) (j := 5) (T := TX6) hx hb hown hK hts hin6 (by decide) rfl rfl (by decide) rfl hl20 dX6_lays_36) ?_
  refine ruL_c (n := 37) (n2 := 38) rfl (ru_bot) ?_
  refine ruL_c (n := 38) (n2 := 39) rfl (ru_bot) ?_
  refine ruL_c (n := 39) (n2 := 40) rfl (ru_iload_n (k := 2) hx hb dX6_lays_39) ?_
  refine ruL_c (n := 40) (n2 := 41) rfl (ru_iald hx hb hK dX6_lays_40) ?_
  refine ruL_c (n := 41) (n2 := 42) rfl (ru_icmpne hx hb dX6_lays_41 (by decide)) ?_
  refine ruL_c (n := 42) (n2 := 43) rfl (ru_bot) ?_
  refine ruL_c (n := 43) (n2 := 44) rfl (ru_bot) ?_
  refine ruL_c (n := 44) (n2 := 45) rfl (ru_iconst hx hb dX6_lays_44 rfl) ?_
  refine ruL_c (n := 45) (n2 := 46) rfl (ru_goto hx hb dX6_lays_45 (by decide)) ?_
  refine ruL_c (n := 46) (n2 := 47) rfl (ru_bot) ?_
  refine ruL_c (n := 47) (n2 := 48) rfl (ru_bot) ?_
  refine ruL_c (n := 48) (n2 := 49) rfl (ru_iconst hx hb dX6_lays_48 rfl) ?_
  refine ruL_c (n := 49) (n2 := 50) rfl (ru_istore hx hb dX6_lays_49) ?_
  refine ruL_c (n := 50) (n2 := 51) rfl (ru_bot) ?_
  refine ruL_c (n := 51) (n2 := 52) rfl (ru_iload_n (k := 3) hx hb dX6_lays_51) ?_
  refine ruL_c (n := 52) (n2 := 53) rfl (ru_iload hx hb dX6_lays_52) ?_
  refine ruL_c (n := 53) (n2 := 54) rfl (ru_bot) ?_
  refine ruL_c (n := 54) (n2 := 55) rfl (ru_ifeq hx hb dX6_lays_54 (by decide)) ?_
  refine ruL_c (n := 55) (n2 := 56) rfl (ru_bot) ?_
  refine ruL_c (n := 56) (n2 := 57) rfl (ru_bot) ?_
  refine ruL_c (n := 57) (n2 := 58) rfl (ru_iconst hx hb dX6_lays_57 rfl) ?_
  refine ruL_c (n := 58) (n2 := 59) rfl (ru_iload hx hb dX6_lays_58) ?_
  refine ruL_c (n := 59) (n2 := 60) rfl (ru_bot) ?_
  refine ruL_c (n := 60) (n2 := 61) rfl (ru_ishl hx hb dX6_lays_60) ?_
  refine ruL_c (n := 61) (n2 := 62) rfl (ru_goto hx hb dX6_lays_61 (by decide)) ?_
  refine ruL_c (n := 62) (n2 := 63) rfl (ru_bot) ?_
  refine ruL_c (n := 63) (n2 := 64) rfl (ru_bot) ?_
  refine ruL_c (n := 64) (n2 := 65) rfl (ru_iconst hx hb dX6_lays_64 rfl) ?_
  refine ruL_c (n := 65) (n2 := 66) rfl (ru_ior hx hb dX6_lays_65) ?_
  refine ruL_c (n := 66) (n2 := 67) rfl (ru_istore_n (k := 3) hx hb dX6_lays_66) ?_
  refine ruL_c (n := 67) (n2 := 68) rfl (ru_iload hx hb dX6_lays_67) ?_
  refine ruL_c (n := 68) (n2 := 69) rfl (ru_bot) ?_
  refine ruL_c (n := 69) (n2 := 70) rfl (ru_iload hx hb dX6_lays_69) ?_
  refine ruL_c (n := 70) (n2 := 71) rfl (ru_bot) ?_
  refine ruL_c (n := 71) (n2 := 72) rfl (ru_ifeq hx hb dX6_lays_71 (by decide)) ?_
  refine ruL_c (n := 72) (n2 := 73) rfl (ru_bot) ?_
  refine ruL_c (n := 73) (n2 := 74) rfl (ru_bot) ?_
  refine ruL_c (n := 74) (n2 := 75) rfl (ru_aload_n (k := 0) hx hb dX6_lays_74) ?_
  refine ruL_c (n := 75) (n2 := 76) rfl (ru_getR (own := RX6) (j := 16) (T := TX6) hx hb hown hK hts hin6 (by decide) rfl rfl (by decide) rfl hl50 dX6_lays_75) ?_
  refine ruL_c (n := 76) (n2 := 77) rfl (ru_bot) ?_
  refine ruL_c (n := 77) (n2 := 78) rfl (ru_bot) ?_
  refine ruL_c (n := 78) (n2 := 79) rfl (ru_iload hx hb dX6_lays_78) ?_
  refine ruL_c (n := 79) (n2 := 80) rfl (ru_bot) ?_
  refine ruL_c (n := 80) (n2 := 81) rfl (ru_iald hx hb hK dX6_lays_80) ?_
  refine ruL_c (n := 81) (n2 := 82) rfl (ru_aload_n (k := 0) hx hb dX6_lays_81) ?_
  refine ruL_c (n := 82) (n2 := 83) rfl (ru_getR (own := RX6) (j := 6) (T := TX6) hx hb hown hK hts hin6 (by decide) rfl rfl (by decide) rfl hl23 dX6_lays_82) ?_
  refine ruL_c (n := 83) (n2 := 84) rfl (ru_bot) ?_
  refine ruL_c (n := 84) (n2 := 85) rfl (ru_bot) ?_
  refine ruL_c (n := 85) (n2 := 86) rfl (ru_iload_n (k := 2) hx hb dX6_lays_85) ?_
  refine ruL_c (n := 86) (n2 := 87) rfl (ru_iald hx hb hK dX6_lays_86) ?_
  refine ruL_c (n := 87) (n2 := 88) rfl (ru_icmpne hx hb dX6_lays_87 (by decide)) ?_
  refine ruL_c (n := 88) (n2 := 89) rfl (ru_bot) ?_
  refine ruL_c (n := 89) (n2 := 90) rfl (ru_bot) ?_
  refine ruL_c (n := 90) (n2 := 91) rfl (ru_iconst hx hb dX6_lays_90 rfl) ?_
  refine ruL_c (n := 91) (n2 := 92) rfl (ru_iload hx hb dX6_lays_91) ?_
  refine ruL_c (n := 92) (n2 := 93) rfl (ru_bot) ?_
  refine ruL_c (n := 93) (n2 := 94) rfl (ru_ishl hx hb dX6_lays_93) ?_
  refine ruL_c (n := 94) (n2 := 95) rfl (ru_goto hx hb dX6_lays_94 (by decide)) ?_
  refine ruL_c (n := 95) (n2 := 96) rfl (ru_bot) ?_
  refine ruL_c (n := 96) (n2 := 97) rfl (ru_bot) ?_
  refine ruL_c (n := 97) (n2 := 98) rfl (ru_iconst hx hb dX6_lays_97 rfl) ?_
  refine ruL_c (n := 98) (n2 := 99) rfl (ru_ior hx hb dX6_lays_98) ?_
  refine ruL_c (n := 99) (n2 := 100) rfl (ru_istore hx hb dX6_lays_99) ?_
  refine ruL_c (n := 100) (n2 := 101) rfl (ru_bot) ?_
  refine ruL_c (n := 101) (n2 := 102) rfl (ru_iinc hx hb dX6_lays_101 rfl) ?_
  refine ruL_c (n := 102) (n2 := 103) rfl (ru_bot) ?_
  refine ruL_c (n := 103) (n2 := 104) rfl (ru_bot) ?_
  refine ruL_c (n := 104) (n2 := 105) rfl (ru_goto hx hb dX6_lays_104 (by decide)) ?_
  refine ruL_c (n := 105) (n2 := 106) rfl (ru_bot) ?_
  refine ruL_c (n := 106) (n2 := 107) rfl (ru_bot) ?_
  refine ruL_c (n := 107) (n2 := 108) rfl (ru_iload hx hb dX6_lays_107) ?_
  refine ruL_c (n := 108) (n2 := 109) rfl (ru_bot) ?_
  refine ruL_c (n := 109) (n2 := 110) rfl (ru_ifne hx hb dX6_lays_109 (by decide)) ?_
  refine ruL_c (n := 110) (n2 := 111) rfl (ru_bot) ?_
  refine ruL_c (n := 111) (n2 := 112) rfl (ru_bot) ?_
  refine ruL_c (n := 112) (n2 := 113) rfl (ru_iload_n (k := 3) hx hb dX6_lays_112) ?_
  refine ruL_c (n := 113) (n2 := 114) rfl (ru_goto hx hb dX6_lays_113 (by decide)) ?_
  refine ruL_c (n := 114) (n2 := 115) rfl (ru_bot) ?_
  refine ruL_c (n := 115) (n2 := 116) rfl (ru_bot) ?_
  refine ruL_c (n := 116) (n2 := 117) rfl (ru_iload hx hb dX6_lays_116) ?_
  refine ruL_c (n := 117) (n2 := 118) rfl (ru_bot) ?_
  refine ruL_c (n := 118) (n2 := 119) rfl (ru_iret hx hb hK hr hlocks dX6_lays_118) ?_
  exact trivial

-- CueTourModel.laidOn
def f_X6_laidOn (p0 : Int32) (p1 : Int32) (σ : aM) : Option (Int32 × aM) := bnd (f_X6_isStage p0 σ) (fun r1 σ2 => if r1 = 0 then bnd (f_X6_isFine 1 σ2) (fun r5 σ6 => if r5 = 0 then some (0, σ6) else bnd (f_X6_lays p0 p1 σ6) (fun r9 σ10 => some (r9, σ10))) else bnd (f_X6_isChannel p1 σ2) (fun r12 σ13 => if r12 = 0 then bnd (f_X6_isFine 1 σ13) (fun r16 σ17 => if r16 = 0 then some (0, σ17) else bnd (f_X6_lays p0 p1 σ17) (fun r20 σ21 => some (r20, σ21))) else bnd (f_X6_isFine 0 σ13) (fun r23 σ24 => if r23 = 0 then some (0, σ24) else bnd (f_X6_lays p0 p1 σ24) (fun r27 σ28 => some (r27, σ28)))))
def F_X6_laidOn : aF := fun As σ => match As with
  | [.int p0, .int p1] => f_X6_laidOn p0 p1 σ
  | _ => none
def T_X6_laidOn (Qa : Int32 → aM → Prop) : List aI := [I_aload 0 1, I_iload 1 1, I_callS 1 F_X6_isStage, I_bot, I_bot, I_if (fun x => x = 0) 19, I_bot, I_bot, I_iload 2 1, I_callS 1 F_X6_isChannel, I_bot, I_bot, I_if (fun x => x = 0) 19, I_bot, I_bot, I_const 0 1, I_goto 20, I_bot, I_bot, I_const 1 1, I_callV 6 1 F_X6_isFine, I_bot, I_bot, I_if (fun x => x = 0) 35, I_bot, I_bot, I_aload 0 1, I_iload 1 1, I_iload 2 1, I_callV 6 2 F_X6_lays, I_bot, I_bot, I_goto 36, I_bot, I_bot, I_const 0 1, I_iret Qa]
set_option maxHeartbeats 4000000 in
set_option maxRecDepth 100000 in
theorem s_X6_laidOn : runs T_X6_laidOn [.ref 6] 3 F_X6_laidOn := by
  intro Qa K hw hf As σ r σ' h hQ
  unfold F_X6_laidOn at h
  split at h
  · rename_i p0 p1
    unfold f_X6_laidOn at h
    have hQ : Qa (r, σ').1 (r, σ').2 := hQ
    generalize (r, σ') = y at h hQ
    show K (0, [.ref 6, .int p0, .int p1], [], σ)
    obtain ⟨r1, σ2, e3, h⟩ := bnd_some h
    refine hw 3 _ ?_
    show ∃ r1 σ2, f_X6_isStage p0 σ = some (r1, σ2) ∧ K (5, [.ref 6, .int p0, .int p1], [.int r1, .ref 6], σ2)
    refine ⟨r1, σ2, e3, ?_⟩
    rcases ite_cases h with ⟨c4, h⟩ | ⟨c4, h⟩
    · refine hw 1 _ ?_
      show ((r1 = 0) → K (19, [.ref 6, .int p0, .int p1], [.ref 6], σ2)) ∧ (¬ (r1 = 0) → K (8, [.ref 6, .int p0, .int p1], [.ref 6], σ2))
      refine ⟨fun _ => ?_, fun q => absurd c4 q⟩
      obtain ⟨r5, σ6, e7, h⟩ := bnd_some h
      refine hw 2 _ ?_
      show ∃ r5 σ6, f_X6_isFine 1 σ2 = some (r5, σ6) ∧ K (23, [.ref 6, .int p0, .int p1], [.int r5], σ6)
      refine ⟨r5, σ6, e7, ?_⟩
      rcases ite_cases h with ⟨c8, h⟩ | ⟨c8, h⟩
      · refine hw 1 _ ?_
        show ((r5 = 0) → K (35, [.ref 6, .int p0, .int p1], [], σ6)) ∧ (¬ (r5 = 0) → K (26, [.ref 6, .int p0, .int p1], [], σ6))
        refine ⟨fun _ => ?_, fun q => absurd c8 q⟩
        obtain rfl := Option.some.inj h
        refine hw 2 _ ?_
        show Qa 0 σ6
        refine hQ
      · refine hw 1 _ ?_
        show ((r5 = 0) → K (35, [.ref 6, .int p0, .int p1], [], σ6)) ∧ (¬ (r5 = 0) → K (26, [.ref 6, .int p0, .int p1], [], σ6))
        refine ⟨fun q => absurd q c8, fun _ => ?_⟩
        obtain ⟨r9, σ10, e11, h⟩ := bnd_some h
        refine hw 4 _ ?_
        show ∃ r9 σ10, f_X6_lays p0 p1 σ6 = some (r9, σ10) ∧ K (32, [.ref 6, .int p0, .int p1], [.int r9], σ10)
        refine ⟨r9, σ10, e11, ?_⟩
        obtain rfl := Option.some.inj h
        refine hw 2 _ ?_
        show Qa r9 σ10
        refine hQ
    · refine hw 1 _ ?_
      show ((r1 = 0) → K (19, [.ref 6, .int p0, .int p1], [.ref 6], σ2)) ∧ (¬ (r1 = 0) → K (8, [.ref 6, .int p0, .int p1], [.ref 6], σ2))
      refine ⟨fun q => absurd q c4, fun _ => ?_⟩
      obtain ⟨r12, σ13, e14, h⟩ := bnd_some h
      refine hw 2 _ ?_
      show ∃ r12 σ13, f_X6_isChannel p1 σ2 = some (r12, σ13) ∧ K (12, [.ref 6, .int p0, .int p1], [.int r12, .ref 6], σ13)
      refine ⟨r12, σ13, e14, ?_⟩
      rcases ite_cases h with ⟨c15, h⟩ | ⟨c15, h⟩
      · refine hw 1 _ ?_
        show ((r12 = 0) → K (19, [.ref 6, .int p0, .int p1], [.ref 6], σ13)) ∧ (¬ (r12 = 0) → K (15, [.ref 6, .int p0, .int p1], [.ref 6], σ13))
        refine ⟨fun _ => ?_, fun q => absurd c15 q⟩
        obtain ⟨r16, σ17, e18, h⟩ := bnd_some h
        refine hw 2 _ ?_
        show ∃ r16 σ17, f_X6_isFine 1 σ13 = some (r16, σ17) ∧ K (23, [.ref 6, .int p0, .int p1], [.int r16], σ17)
        refine ⟨r16, σ17, e18, ?_⟩
        rcases ite_cases h with ⟨c19, h⟩ | ⟨c19, h⟩
        · refine hw 1 _ ?_
          show ((r16 = 0) → K (35, [.ref 6, .int p0, .int p1], [], σ17)) ∧ (¬ (r16 = 0) → K (26, [.ref 6, .int p0, .int p1], [], σ17))
          refine ⟨fun _ => ?_, fun q => absurd c19 q⟩
          obtain rfl := Option.some.inj h
          refine hw 2 _ ?_
          show Qa 0 σ17
          refine hQ
        · refine hw 1 _ ?_
          show ((r16 = 0) → K (35, [.ref 6, .int p0, .int p1], [], σ17)) ∧ (¬ (r16 = 0) → K (26, [.ref 6, .int p0, .int p1], [], σ17))
          refine ⟨fun q => absurd q c19, fun _ => ?_⟩
          obtain ⟨r20, σ21, e22, h⟩ := bnd_some h
          refine hw 4 _ ?_
          show ∃ r20 σ21, f_X6_lays p0 p1 σ17 = some (r20, σ21) ∧ K (32, [.ref 6, .int p0, .int p1], [.int r20], σ21)
          refine ⟨r20, σ21, e22, ?_⟩
          obtain rfl := Option.some.inj h
          refine hw 2 _ ?_
          show Qa r20 σ21
          refine hQ
      · refine hw 1 _ ?_
        show ((r12 = 0) → K (19, [.ref 6, .int p0, .int p1], [.ref 6], σ13)) ∧ (¬ (r12 = 0) → K (15, [.ref 6, .int p0, .int p1], [.ref 6], σ13))
        refine ⟨fun q => absurd q c15, fun _ => ?_⟩
        obtain ⟨r23, σ24, e25, h⟩ := bnd_some h
        refine hw 3 _ ?_
        show ∃ r23 σ24, f_X6_isFine 0 σ13 = some (r23, σ24) ∧ K (23, [.ref 6, .int p0, .int p1], [.int r23], σ24)
        refine ⟨r23, σ24, e25, ?_⟩
        rcases ite_cases h with ⟨c26, h⟩ | ⟨c26, h⟩
        · refine hw 1 _ ?_
          show ((r23 = 0) → K (35, [.ref 6, .int p0, .int p1], [], σ24)) ∧ (¬ (r23 = 0) → K (26, [.ref 6, .int p0, .int p1], [], σ24))
          refine ⟨fun _ => ?_, fun q => absurd c26 q⟩
          obtain rfl := Option.some.inj h
          refine hw 2 _ ?_
          show Qa 0 σ24
          refine hQ
        · refine hw 1 _ ?_
          show ((r23 = 0) → K (35, [.ref 6, .int p0, .int p1], [], σ24)) ∧ (¬ (r23 = 0) → K (26, [.ref 6, .int p0, .int p1], [], σ24))
          refine ⟨fun q => absurd q c26, fun _ => ?_⟩
          obtain ⟨r27, σ28, e29, h⟩ := bnd_some h
          refine hw 4 _ ?_
          show ∃ r27 σ28, f_X6_lays p0 p1 σ24 = some (r27, σ28) ∧ K (32, [.ref 6, .int p0, .int p1], [.int r27], σ28)
          refine ⟨r27, σ28, e29, ?_⟩
          obtain rfl := Option.some.inj h
          refine hw 2 _ ?_
          show Qa r27 σ28
          refine hQ
  · cases h
theorem h_X6_laidOn : shp [.ref 6] 3 F_X6_laidOn := by
  intro As σ r σ' h
  unfold F_X6_laidOn at h
  split at h
  · exact ⟨by simp [Value.category], Nat.le_of_ble_eq_true rfl⟩
  · cases h
set_option maxHeartbeats 4000000 in
set_option maxRecDepth 100000 in
theorem c_X6_laidOn (l : Launch) (D : va_G) (cI cZ cA cL : ClassId) (ad : Nat → Nat) (hi : adI ad) : CtI l yX6_laidOn wsX6_laidOn { frames := 2, cells := 0, slots := 0, locals := 42 } D cI cZ cA cL ad [.ref 6] F_X6_laidOn := by
  refine mk_I [.ref 6] F_X6_laidOn T_X6_laidOn (by decide +kernel) rfl ?_ h_X6_laidOn s_X6_laidOn
  intro p e s m args below meth c Qa ⟨hx, hb, hml, hown, hts, hr, hlocks, hK, hN⟩
  refine ruL_c (n := 0) (n2 := 1) rfl (ru_aload_n (k := 0) hx hb dX6_laidOn_0) ?_
  refine ruL_c (n := 1) (n2 := 2) rfl (ru_iload_n (k := 1) hx hb dX6_laidOn_1) ?_
  refine ruL_c (n := 2) (n2 := 3) rfl (ru_callS hx hb hml hown hts hK hN (c_X6_isStage l D cI cZ cA cL ad hi) (va_cwS 1 hts gX6_laidOn_X6_isStage rfl rfl rfl (by decide +kernel) ⟨Nat.le_of_ble_eq_true rfl, Nat.le_of_ble_eq_true rfl⟩) dX6_laidOn_2 ⟨Nat.zero_le _, Nat.zero_le _⟩) ?_
  refine ruL_c (n := 3) (n2 := 4) rfl (ru_bot) ?_
  refine ruL_c (n := 4) (n2 := 5) rfl (ru_bot) ?_
  refine ruL_c (n := 5) (n2 := 6) rfl (ru_ifeq hx hb dX6_laidOn_5 (by decide)) ?_
  refine ruL_c (n := 6) (n2 := 7) rfl (ru_bot) ?_
  refine ruL_c (n := 7) (n2 := 8) rfl (ru_bot) ?_
  refine ruL_c (n := 8) (n2 := 9) rfl (ru_iload_n (k := 2) hx hb dX6_laidOn_8) ?_
  refine ruL_c (n := 9) (n2 := 10) rfl (ru_callS hx hb hml hown hts hK hN (c_X6_isChannel l D cI cZ cA cL ad hi) (va_cwS 1 hts gX6_laidOn_X6_isChannel rfl rfl rfl (by decide +kernel) ⟨Nat.le_of_ble_eq_true rfl, Nat.le_of_ble_eq_true rfl⟩) dX6_laidOn_9 ⟨Nat.zero_le _, Nat.zero_le _⟩) ?_
  refine ruL_c (n := 10) (n2 := 11) rfl (ru_bot) ?_
  refine ruL_c (n := 11) (n2 := 12) rfl (ru_bot) ?_
  refine ruL_c (n := 12) (n2 := 13) rfl (ru_ifeq hx hb dX6_laidOn_12 (by decide)) ?_
  refine ruL_c (n := 13) (n2 := 14) rfl (ru_bot) ?_
  refine ruL_c (n := 14) (n2 := 15) rfl (ru_bot) ?_
  refine ruL_c (n := 15) (n2 := 16) rfl (ru_iconst hx hb dX6_laidOn_15 rfl) ?_
  refine ruL_c (n := 16) (n2 := 17) rfl (ru_goto hx hb dX6_laidOn_16 (by decide)) ?_
  refine ruL_c (n := 17) (n2 := 18) rfl (ru_bot) ?_
  refine ruL_c (n := 18) (n2 := 19) rfl (ru_bot) ?_
  refine ruL_c (n := 19) (n2 := 20) rfl (ru_iconst hx hb dX6_laidOn_19 rfl) ?_
  refine ruL_c (n := 20) (n2 := 21) rfl (ru_callV hx hb hml hown hts hK hN (by decide) rfl (c_X6_isFine l D cI cZ cA cL ad hi) (cwV 1 hts gX6_laidOn_X6_isFine rfl rfl rfl (by decide +kernel) ⟨Nat.le_of_ble_eq_true rfl, Nat.le_of_ble_eq_true rfl⟩) dX6_laidOn_20 ⟨Nat.zero_le _, Nat.zero_le _⟩) ?_
  refine ruL_c (n := 21) (n2 := 22) rfl (ru_bot) ?_
  refine ruL_c (n := 22) (n2 := 23) rfl (ru_bot) ?_
  refine ruL_c (n := 23) (n2 := 24) rfl (ru_ifeq hx hb dX6_laidOn_23 (by decide)) ?_
  refine ruL_c (n := 24) (n2 := 25) rfl (ru_bot) ?_
  refine ruL_c (n := 25) (n2 := 26) rfl (ru_bot) ?_
  refine ruL_c (n := 26) (n2 := 27) rfl (ru_aload_n (k := 0) hx hb dX6_laidOn_26) ?_
  refine ruL_c (n := 27) (n2 := 28) rfl (ru_iload_n (k := 1) hx hb dX6_laidOn_27) ?_
  refine ruL_c (n := 28) (n2 := 29) rfl (ru_iload_n (k := 2) hx hb dX6_laidOn_28) ?_
  refine ruL_c (n := 29) (n2 := 30) rfl (ru_callV hx hb hml hown hts hK hN (by decide) rfl (c_X6_lays l D cI cZ cA cL ad hi) (cwV 2 hts gX6_laidOn_X6_lays rfl rfl rfl (by decide +kernel) ⟨Nat.le_of_ble_eq_true rfl, Nat.le_of_ble_eq_true rfl⟩) dX6_laidOn_29 ⟨Nat.zero_le _, Nat.zero_le _⟩) ?_
  refine ruL_c (n := 30) (n2 := 31) rfl (ru_bot) ?_
  refine ruL_c (n := 31) (n2 := 32) rfl (ru_bot) ?_
  refine ruL_c (n := 32) (n2 := 33) rfl (ru_goto hx hb dX6_laidOn_32 (by decide)) ?_
  refine ruL_c (n := 33) (n2 := 34) rfl (ru_bot) ?_
  refine ruL_c (n := 34) (n2 := 35) rfl (ru_bot) ?_
  refine ruL_c (n := 35) (n2 := 36) rfl (ru_iconst hx hb dX6_laidOn_35 rfl) ?_
  refine ruL_c (n := 36) (n2 := 37) rfl (ru_iret hx hb hK hr hlocks dX6_laidOn_36) ?_
  exact trivial

-- CueTourModel.lights
def l_X6_lights_2 (x1 : Int32) : Nat → Int32 → aM → (Int32 → aM → Option (Int32 × aM)) → Option (Int32 × aM)
  | 0, _, _, _ => none
  | n + 1, v2, σ3, k => if 10 ≤ v2 then k v2 σ3 else bnd (f_X6_level v2 x1 σ3) (fun r5 σ6 => if inb v2 10 = true then l_X6_lights_2 x1 n (v2 + 1) (mput σ6 51 (ix v2) r5) k else none)
def f_X6_lights (p0 : Int32) (σ : aM) : Option (Int32 × aM) := l_X6_lights_2 p0 lf 0 σ (fun v9 σ10 => some (0, σ10))
def F_X6_lights : aF := fun As σ => match As with
  | [.int p0] => f_X6_lights p0 σ
  | _ => none
def T_X6_lights (Qa : Int32 → aM → Prop) : List aI := [I_const 0 1, I_istore 2 1, I_iload 2 1, I_const (10) 2, I_bot, I_icmp (fun x y => y ≤ x) 26, I_bot, I_bot, I_aload 0 1, I_getR 6 51, I_bot, I_bot, I_iload 2 1, I_aload 0 1, I_iload 2 1, I_iload 1 1, I_callV 6 2 F_X6_level, I_bot, I_bot, I_iast, I_iinc 2 (1), I_bot, I_bot, I_goto 2, I_bot, I_bot, I_vret Qa]
set_option maxHeartbeats 4000000 in
set_option maxRecDepth 100000 in
theorem t_X6_lights_2 {Qa : Int32 → aM → Prop} {K : aS → Prop} (hw : ∀ k x, wp (T_X6_lights Qa) k K x → K x) (hf : ∀ pc L i st σ, K (pc, L.set i .null, st, σ) → K (pc, L, st, σ)) (x1 : Int32) (y : Int32 × aM) (k : Int32 → aM → Option (Int32 × aM)) :
    ∀ (n : Nat) (v2 : Int32) (σ3 : aM), l_X6_lights_2 x1 n v2 σ3 k = some y → (∀ (w0 : Int32) (τ : aM), k w0 τ = some y → K (26, [.ref 6, .int x1, .int w0], [], τ)) → K (2, [.ref 6, .int x1, .int v2], [], σ3) := by
  intro n
  induction n with
  | zero =>
    intro v2 σ3 h hk
    exact absurd h (by simp [l_X6_lights_2])
  | succ n ih =>
    intro v2 σ3 h hk
    unfold l_X6_lights_2 at h
    rcases ite_cases h with ⟨c4, h⟩ | ⟨c4, h⟩
    · refine hw 3 _ ?_
      show ((10 ≤ v2) → K (26, [.ref 6, .int x1, .int v2], [], σ3)) ∧ (¬ (10 ≤ v2) → K (8, [.ref 6, .int x1, .int v2], [], σ3))
      refine ⟨fun _ => ?_, fun q => absurd c4 q⟩
      exact hk v2 σ3 h
    · refine hw 3 _ ?_
      show ((10 ≤ v2) → K (26, [.ref 6, .int x1, .int v2], [], σ3)) ∧ (¬ (10 ≤ v2) → K (8, [.ref 6, .int x1, .int v2], [], σ3))
      refine ⟨fun q => absurd q c4, fun _ => ?_⟩
      obtain ⟨r5, σ6, e7, h⟩ := bnd_some h
      refine hw 7 _ ?_
      show ∃ r5 σ6, f_X6_level v2 x1 σ3 = some (r5, σ6) ∧ K (19, [.ref 6, .int x1, .int v2], [.int r5, .int v2, .ref 51], σ6)
      refine ⟨r5, σ6, e7, ?_⟩
      obtain ⟨g8, h⟩ := ite_some h
      refine hw 3 _ ?_
      show kd 51 = 1 ∧ (inb v2 10 = true ∧ (K (2, [.ref 6, .int x1, .int (v2 + 1)], [], mput σ6 51 (ix v2) r5)))
      refine ⟨rfl, g8, ?_⟩
      exact ih (v2 + 1) (mput σ6 51 (ix v2) r5) h hk

set_option maxHeartbeats 4000000 in
set_option maxRecDepth 100000 in
theorem s_X6_lights : runs T_X6_lights [.ref 6] 3 F_X6_lights := by
  intro Qa K hw hf As σ r σ' h hQ
  unfold F_X6_lights at h
  split at h
  · rename_i p0
    unfold f_X6_lights at h
    have hQ : Qa (r, σ').1 (r, σ').2 := hQ
    generalize (r, σ') = y at h hQ
    show K (0, [.ref 6, .int p0, .null], [], σ)
    refine hw 2 _ ?_
    show K (2, [.ref 6, .int p0, .int 0], [], σ)
    refine t_X6_lights_2 hw hf p0 _ _ lf 0 σ h (fun v9 σ10 h => ?_)
    show K (26, [.ref 6, .int p0, .int v9], [], σ10)
    obtain rfl := Option.some.inj h
    refine hw 1 _ ?_
    show Qa 0 σ10
    refine hQ
  · cases h
theorem h_X6_lights : shp [.ref 6] 3 F_X6_lights := by
  intro As σ r σ' h
  unfold F_X6_lights at h
  split at h
  · exact ⟨by simp [Value.category], Nat.le_of_ble_eq_true rfl⟩
  · cases h
set_option maxHeartbeats 4000000 in
set_option maxRecDepth 100000 in
theorem c_X6_lights (l : Launch) (D : va_G) (cI cZ cA cL : ClassId) (ad : Nat → Nat) (hi : adI ad) : CtV l yX6_lights wsX6_lights { frames := 3, cells := 0, slots := 0, locals := 75 } D cI cZ cA cL ad [.ref 6] F_X6_lights := by
  refine mk_V [.ref 6] F_X6_lights T_X6_lights (by decide +kernel) rfl ?_ h_X6_lights s_X6_lights
  intro p e s m args below meth c Qa ⟨hx, hb, hml, hown, hts, hr, hlocks, hK, hN⟩
  have hin6 : ∀ w ∈ u_ws RX6 TX6 30, w ∈ wsX6_lights := by decide +kernel
  have hl77 : (Cond.fieldLink RX6 77 RX6 (TX6 28).2.1 (TX6 28).2.2.1) ∈ wsX6_lights := by decide +kernel
  refine ruL_c (n := 0) (n2 := 1) rfl (ru_iconst hx hb dX6_lights_0 rfl) ?_
  refine ruL_c (n := 1) (n2 := 2) rfl (ru_istore_n (k := 2) hx hb dX6_lights_1) ?_
  refine ruL_c (n := 2) (n2 := 3) rfl (ru_iload_n (k := 2) hx hb dX6_lights_2) ?_
  refine ruL_c (n := 3) (n2 := 4) rfl (ru_bipush hx hb dX6_lights_3 rfl) ?_
  refine ruL_c (n := 4) (n2 := 5) rfl (ru_bot) ?_
  refine ruL_c (n := 5) (n2 := 6) rfl (ru_icmpge hx hb dX6_lights_5 (by decide)) ?_
  refine ruL_c (n := 6) (n2 := 7) rfl (ru_bot) ?_
  refine ruL_c (n := 7) (n2 := 8) rfl (ru_bot) ?_
  refine ruL_c (n := 8) (n2 := 9) rfl (ru_aload_n (k := 0) hx hb dX6_lights_8) ?_
  refine ruL_c (n := 9) (n2 := 10) rfl (ru_getR (own := RX6) (j := 28) (T := TX6) hx hb hown hK hts hin6 (by decide) rfl rfl (by decide) rfl hl77 dX6_lights_9) ?_
  refine ruL_c (n := 10) (n2 := 11) rfl (ru_bot) ?_
  refine ruL_c (n := 11) (n2 := 12) rfl (ru_bot) ?_
  refine ruL_c (n := 12) (n2 := 13) rfl (ru_iload_n (k := 2) hx hb dX6_lights_12) ?_
  refine ruL_c (n := 13) (n2 := 14) rfl (ru_aload_n (k := 0) hx hb dX6_lights_13) ?_
  refine ruL_c (n := 14) (n2 := 15) rfl (ru_iload_n (k := 2) hx hb dX6_lights_14) ?_
  refine ruL_c (n := 15) (n2 := 16) rfl (ru_iload_n (k := 1) hx hb dX6_lights_15) ?_
  refine ruL_c (n := 16) (n2 := 17) rfl (ru_callV hx hb hml hown hts hK hN (by decide) rfl (c_X6_level l D cI cZ cA cL ad hi) (cwV 2 hts gX6_lights_X6_level rfl rfl rfl (by decide +kernel) ⟨Nat.le_of_ble_eq_true rfl, Nat.le_of_ble_eq_true rfl⟩) dX6_lights_16 ⟨Nat.zero_le _, Nat.zero_le _⟩) ?_
  refine ruL_c (n := 17) (n2 := 18) rfl (ru_bot) ?_
  refine ruL_c (n := 18) (n2 := 19) rfl (ru_bot) ?_
  refine ruL_c (n := 19) (n2 := 20) rfl (ru_iast hx hb hK hi dX6_lights_19) ?_
  refine ruL_c (n := 20) (n2 := 21) rfl (ru_iinc hx hb dX6_lights_20 rfl) ?_
  refine ruL_c (n := 21) (n2 := 22) rfl (ru_bot) ?_
  refine ruL_c (n := 22) (n2 := 23) rfl (ru_bot) ?_
  refine ruL_c (n := 23) (n2 := 24) rfl (ru_goto hx hb dX6_lights_23 (by decide)) ?_
  refine ruL_c (n := 24) (n2 := 25) rfl (ru_bot) ?_
  refine ruL_c (n := 25) (n2 := 26) rfl (ru_bot) ?_
  refine ruL_c (n := 26) (n2 := 27) rfl (ru_vret hx hb hK hr hlocks dX6_lights_26) ?_
  exact trivial

-- CueTourModel.laysAll
def l_X6_laysAll_2 (x1 : Int32) : Nat → Int32 → aM → (Int32 → aM → Option (Int32 × aM)) → Option (Int32 × aM)
  | 0, _, _, _ => none
  | n + 1, v2, σ3, k => if 10 ≤ v2 then k v2 σ3 else bnd (f_X6_lays x1 v2 σ3) (fun r5 σ6 => if inb v2 10 = true then l_X6_laysAll_2 x1 n (v2 + 1) (mput σ6 50 (ix v2) r5) k else none)
def f_X6_laysAll (p0 : Int32) (σ : aM) : Option (Int32 × aM) := l_X6_laysAll_2 p0 lf 0 σ (fun v9 σ10 => some (0, σ10))
def F_X6_laysAll : aF := fun As σ => match As with
  | [.int p0] => f_X6_laysAll p0 σ
  | _ => none
def T_X6_laysAll (Qa : Int32 → aM → Prop) : List aI := [I_const 0 1, I_istore 2 1, I_iload 2 1, I_const (10) 2, I_bot, I_icmp (fun x y => y ≤ x) 26, I_bot, I_bot, I_aload 0 1, I_getR 6 50, I_bot, I_bot, I_iload 2 1, I_aload 0 1, I_iload 1 1, I_iload 2 1, I_callV 6 2 F_X6_lays, I_bot, I_bot, I_iast, I_iinc 2 (1), I_bot, I_bot, I_goto 2, I_bot, I_bot, I_vret Qa]
set_option maxHeartbeats 4000000 in
set_option maxRecDepth 100000 in
theorem t_X6_laysAll_2 {Qa : Int32 → aM → Prop} {K : aS → Prop} (hw : ∀ k x, wp (T_X6_laysAll Qa) k K x → K x) (hf : ∀ pc L i st σ, K (pc, L.set i .null, st, σ) → K (pc, L, st, σ)) (x1 : Int32) (y : Int32 × aM) (k : Int32 → aM → Option (Int32 × aM)) :
    ∀ (n : Nat) (v2 : Int32) (σ3 : aM), l_X6_laysAll_2 x1 n v2 σ3 k = some y → (∀ (w0 : Int32) (τ : aM), k w0 τ = some y → K (26, [.ref 6, .int x1, .int w0], [], τ)) → K (2, [.ref 6, .int x1, .int v2], [], σ3) := by
  intro n
  induction n with
  | zero =>
    intro v2 σ3 h hk
    exact absurd h (by simp [l_X6_laysAll_2])
  | succ n ih =>
    intro v2 σ3 h hk
    unfold l_X6_laysAll_2 at h
    rcases ite_cases h with ⟨c4, h⟩ | ⟨c4, h⟩
    · refine hw 3 _ ?_
      show ((10 ≤ v2) → K (26, [.ref 6, .int x1, .int v2], [], σ3)) ∧ (¬ (10 ≤ v2) → K (8, [.ref 6, .int x1, .int v2], [], σ3))
      refine ⟨fun _ => ?_, fun q => absurd c4 q⟩
      exact hk v2 σ3 h
    · refine hw 3 _ ?_
      show ((10 ≤ v2) → K (26, [.ref 6, .int x1, .int v2], [], σ3)) ∧ (¬ (10 ≤ v2) → K (8, [.ref 6, .int x1, .int v2], [], σ3))
      refine ⟨fun q => absurd q c4, fun _ => ?_⟩
      obtain ⟨r5, σ6, e7, h⟩ := bnd_some h
      refine hw 7 _ ?_
      show ∃ r5 σ6, f_X6_lays x1 v2 σ3 = some (r5, σ6) ∧ K (19, [.ref 6, .int x1, .int v2], [.int r5, .int v2, .ref 50], σ6)
      refine ⟨r5, σ6, e7, ?_⟩
      obtain ⟨g8, h⟩ := ite_some h
      refine hw 3 _ ?_
      show kd 50 = 1 ∧ (inb v2 10 = true ∧ (K (2, [.ref 6, .int x1, .int (v2 + 1)], [], mput σ6 50 (ix v2) r5)))
      refine ⟨rfl, g8, ?_⟩
      exact ih (v2 + 1) (mput σ6 50 (ix v2) r5) h hk

set_option maxHeartbeats 4000000 in
set_option maxRecDepth 100000 in
theorem s_X6_laysAll : runs T_X6_laysAll [.ref 6] 3 F_X6_laysAll := by
  intro Qa K hw hf As σ r σ' h hQ
  unfold F_X6_laysAll at h
  split at h
  · rename_i p0
    unfold f_X6_laysAll at h
    have hQ : Qa (r, σ').1 (r, σ').2 := hQ
    generalize (r, σ') = y at h hQ
    show K (0, [.ref 6, .int p0, .null], [], σ)
    refine hw 2 _ ?_
    show K (2, [.ref 6, .int p0, .int 0], [], σ)
    refine t_X6_laysAll_2 hw hf p0 _ _ lf 0 σ h (fun v9 σ10 h => ?_)
    show K (26, [.ref 6, .int p0, .int v9], [], σ10)
    obtain rfl := Option.some.inj h
    refine hw 1 _ ?_
    show Qa 0 σ10
    refine hQ
  · cases h
theorem h_X6_laysAll : shp [.ref 6] 3 F_X6_laysAll := by
  intro As σ r σ' h
  unfold F_X6_laysAll at h
  split at h
  · exact ⟨by simp [Value.category], Nat.le_of_ble_eq_true rfl⟩
  · cases h
set_option maxHeartbeats 4000000 in
set_option maxRecDepth 100000 in
theorem c_X6_laysAll (l : Launch) (D : va_G) (cI cZ cA cL : ClassId) (ad : Nat → Nat) (hi : adI ad) : CtV l yX6_laysAll wsX6_laysAll { frames := 1, cells := 0, slots := 0, locals := 26 } D cI cZ cA cL ad [.ref 6] F_X6_laysAll := by
  refine mk_V [.ref 6] F_X6_laysAll T_X6_laysAll (by decide +kernel) rfl ?_ h_X6_laysAll s_X6_laysAll
  intro p e s m args below meth c Qa ⟨hx, hb, hml, hown, hts, hr, hlocks, hK, hN⟩
  have hin6 : ∀ w ∈ u_ws RX6 TX6 30, w ∈ wsX6_laysAll := by decide +kernel
  have hl74 : (Cond.fieldLink RX6 74 RX6 (TX6 27).2.1 (TX6 27).2.2.1) ∈ wsX6_laysAll := by decide +kernel
  refine ruL_c (n := 0) (n2 := 1) rfl (ru_iconst hx hb dX6_laysAll_0 rfl) ?_
  refine ruL_c (n := 1) (n2 := 2) rfl (ru_istore_n (k := 2) hx hb dX6_laysAll_1) ?_
  refine ruL_c (n := 2) (n2 := 3) rfl (ru_iload_n (k := 2) hx hb dX6_laysAll_2) ?_
  refine ruL_c (n := 3) (n2 := 4) rfl (ru_bipush hx hb dX6_laysAll_3 rfl) ?_
  refine ruL_c (n := 4) (n2 := 5) rfl (ru_bot) ?_
  refine ruL_c (n := 5) (n2 := 6) rfl (ru_icmpge hx hb dX6_laysAll_5 (by decide)) ?_
  refine ruL_c (n := 6) (n2 := 7) rfl (ru_bot) ?_
  refine ruL_c (n := 7) (n2 := 8) rfl (ru_bot) ?_
  refine ruL_c (n := 8) (n2 := 9) rfl (ru_aload_n (k := 0) hx hb dX6_laysAll_8) ?_
  refine ruL_c (n := 9) (n2 := 10) rfl (ru_getR (own := RX6) (j := 27) (T := TX6) hx hb hown hK hts hin6 (by decide) rfl rfl (by decide) rfl hl74 dX6_laysAll_9) ?_
  refine ruL_c (n := 10) (n2 := 11) rfl (ru_bot) ?_
  refine ruL_c (n := 11) (n2 := 12) rfl (ru_bot) ?_
  refine ruL_c (n := 12) (n2 := 13) rfl (ru_iload_n (k := 2) hx hb dX6_laysAll_12) ?_
  refine ruL_c (n := 13) (n2 := 14) rfl (ru_aload_n (k := 0) hx hb dX6_laysAll_13) ?_
  refine ruL_c (n := 14) (n2 := 15) rfl (ru_iload_n (k := 1) hx hb dX6_laysAll_14) ?_
  refine ruL_c (n := 15) (n2 := 16) rfl (ru_iload_n (k := 2) hx hb dX6_laysAll_15) ?_
  refine ruL_c (n := 16) (n2 := 17) rfl (ru_callV hx hb hml hown hts hK hN (by decide) rfl (c_X6_lays l D cI cZ cA cL ad hi) (cwV 2 hts gX6_laysAll_X6_lays rfl rfl rfl (by decide +kernel) ⟨Nat.le_of_ble_eq_true rfl, Nat.le_of_ble_eq_true rfl⟩) dX6_laysAll_16 ⟨Nat.zero_le _, Nat.zero_le _⟩) ?_
  refine ruL_c (n := 17) (n2 := 18) rfl (ru_bot) ?_
  refine ruL_c (n := 18) (n2 := 19) rfl (ru_bot) ?_
  refine ruL_c (n := 19) (n2 := 20) rfl (ru_iast hx hb hK hi dX6_laysAll_19) ?_
  refine ruL_c (n := 20) (n2 := 21) rfl (ru_iinc hx hb dX6_laysAll_20 rfl) ?_
  refine ruL_c (n := 21) (n2 := 22) rfl (ru_bot) ?_
  refine ruL_c (n := 22) (n2 := 23) rfl (ru_bot) ?_
  refine ruL_c (n := 23) (n2 := 24) rfl (ru_goto hx hb dX6_laysAll_23 (by decide)) ?_
  refine ruL_c (n := 24) (n2 := 25) rfl (ru_bot) ?_
  refine ruL_c (n := 25) (n2 := 26) rfl (ru_bot) ?_
  refine ruL_c (n := 26) (n2 := 27) rfl (ru_vret hx hb hK hr hlocks dX6_laysAll_26) ?_
  exact trivial

-- CueTourModel.lampNow
def l_X6_lampNow_4 (x1 : Int32) : Nat → Int32 → Int32 → aM → (Int32 → Int32 → aM → Option (Int32 × aM)) → Option (Int32 × aM)
  | 0, _, _, _, _ => none
  | n + 1, v2, v3, σ4, k => if 10 ≤ v3 then k v2 v3 σ4 else if inb x1 20 = true then if 300 ≤ (σ4 44 (ix x1)) then k v2 v3 σ4 else if inb v3 10 = true then if (σ4 51 (ix v3)) ≤ v2 then l_X6_lampNow_4 x1 n v2 (v3 + 1) σ4 k else if inb v3 10 = true then if ¬ (((σ4 50 (ix v3)) >>> (x1 &&& 31)) &&& 1) = 1 then l_X6_lampNow_4 x1 n v2 (v3 + 1) σ4 k else if inb v3 10 = true then l_X6_lampNow_4 x1 n (σ4 51 (ix v3)) (v3 + 1) σ4 k else none else none else none else none
def f_X6_lampNow (p0 : Int32) (σ : aM) : Option (Int32 × aM) := l_X6_lampNow_4 p0 lf 0 0 σ (fun v13 v14 σ15 => some (v13, σ15))
def F_X6_lampNow : aF := fun As σ => match As with
  | [.int p0] => f_X6_lampNow p0 σ
  | _ => none
def T_X6_lampNow (Qa : Int32 → aM → Prop) : List aI := [I_const 0 1, I_istore 2 1, I_const 0 1, I_istore 3 1, I_iload 3 1, I_const (10) 2, I_bot, I_icmp (fun x y => y ≤ x) 75, I_bot, I_bot, I_aload 0 1, I_getR 6 44, I_bot, I_bot, I_iload 1 1, I_iald, I_const (300) 3, I_bot, I_bot, I_icmp (fun x y => y ≤ x) 75, I_bot, I_bot, I_aload 0 1, I_getR 6 51, I_bot, I_bot, I_iload 3 1, I_iald, I_iload 2 1, I_icmp (fun x y => x ≤ y) 50, I_bot, I_bot, I_aload 0 1, I_getR 6 50, I_bot, I_bot, I_iload 3 1, I_iald, I_iload 1 1, I_bin fun x y => x >>> (y &&& 31), I_const 1 1, I_bin fun x y => x &&& y, I_const 1 1, I_icmp (fun x y => ¬ x = y) 50, I_bot, I_bot, I_const 1 1, I_goto 51, I_bot, I_bot, I_const 0 1, I_istore 4 2, I_bot, I_iload 4 2, I_bot, I_if (fun x => x = 0) 67, I_bot, I_bot, I_aload 0 1, I_getR 6 51, I_bot, I_bot, I_iload 3 1, I_iald, I_goto 68, I_bot, I_bot, I_iload 2 1, I_istore 2 1, I_iinc 3 (1), I_bot, I_bot, I_goto 4, I_bot, I_bot, I_iload 2 1, I_iret Qa]
set_option maxHeartbeats 4000000 in
set_option maxRecDepth 100000 in
theorem t_X6_lampNow_4 {Qa : Int32 → aM → Prop} {K : aS → Prop} (hw : ∀ k x, wp (T_X6_lampNow Qa) k K x → K x) (hf : ∀ pc L i st σ, K (pc, L.set i .null, st, σ) → K (pc, L, st, σ)) (x1 : Int32) (y : Int32 × aM) (k : Int32 → Int32 → aM → Option (Int32 × aM)) :
    ∀ (n : Nat) (v2 : Int32) (v3 : Int32) (σ4 : aM), l_X6_lampNow_4 x1 n v2 v3 σ4 k = some y → (∀ (w0 : Int32) (w1 : Int32) (τ : aM), k w0 w1 τ = some y → K (75, [.ref 6, .int x1, .int w0, .int w1, .null], [], τ)) → K (4, [.ref 6, .int x1, .int v2, .int v3, .null], [], σ4) := by
  intro n
  induction n with
  | zero =>
    intro v2 v3 σ4 h hk
    exact absurd h (by simp [l_X6_lampNow_4])
  | succ n ih =>
    intro v2 v3 σ4 h hk
    unfold l_X6_lampNow_4 at h
    rcases ite_cases h with ⟨c5, h⟩ | ⟨c5, h⟩
    · refine hw 3 _ ?_
      show ((10 ≤ v3) → K (75, [.ref 6, .int x1, .int v2, .int v3, .null], [], σ4)) ∧ (¬ (10 ≤ v3) → K (10, [.ref 6, .int x1, .int v2, .int v3, .null], [], σ4))
      refine ⟨fun _ => ?_, fun q => absurd c5 q⟩
      exact hk v2 v3 σ4 h
    · refine hw 3 _ ?_
      show ((10 ≤ v3) → K (75, [.ref 6, .int x1, .int v2, .int v3, .null], [], σ4)) ∧ (¬ (10 ≤ v3) → K (10, [.ref 6, .int x1, .int v2, .int v3, .null], [], σ4))
      refine ⟨fun q => absurd q c5, fun _ => ?_⟩
      obtain ⟨g6, h⟩ := ite_some h
      rcases ite_cases h with ⟨c7, h⟩ | ⟨c7, h⟩
      · refine hw 6 _ ?_
        show kd 44 = 1 ∧ (inb x1 20 = true ∧ (((300 ≤ (σ4 44 (ix x1))) → K (75, [.ref 6, .int x1, .int v2, .int v3, .null], [], σ4)) ∧ (¬ (300 ≤ (σ4 44 (ix x1))) → K (22, [.ref 6, .int x1, .int v2, .int v3, .null], [], σ4))))
        refine ⟨rfl, g6, ⟨fun _ => ?_, fun q => absurd c7 q⟩⟩
        exact hk v2 v3 σ4 h
      · refine hw 6 _ ?_
        show kd 44 = 1 ∧ (inb x1 20 = true ∧ (((300 ≤ (σ4 44 (ix x1))) → K (75, [.ref 6, .int x1, .int v2, .int v3, .null], [], σ4)) ∧ (¬ (300 ≤ (σ4 44 (ix x1))) → K (22, [.ref 6, .int x1, .int v2, .int v3, .null], [], σ4))))
        refine ⟨rfl, g6, ⟨fun q => absurd q c7, fun _ => ?_⟩⟩
        obtain ⟨g8, h⟩ := ite_some h
        rcases ite_cases h with ⟨c9, h⟩ | ⟨c9, h⟩
        · refine hw 6 _ ?_
          show kd 51 = 1 ∧ (inb v3 10 = true ∧ ((((σ4 51 (ix v3)) ≤ v2) → K (50, [.ref 6, .int x1, .int v2, .int v3, .null], [], σ4)) ∧ (¬ ((σ4 51 (ix v3)) ≤ v2) → K (32, [.ref 6, .int x1, .int v2, .int v3, .null], [], σ4))))
          refine ⟨rfl, g8, ⟨fun _ => ?_, fun q => absurd c9 q⟩⟩
          refine hw 4 _ ?_
          show (((0 : Int32) = 0) → K (67, [.ref 6, .int x1, .int v2, .int v3, .int 0], [], σ4)) ∧ (¬ ((0 : Int32) = 0) → K (58, [.ref 6, .int x1, .int v2, .int v3, .int 0], [], σ4))
          refine ⟨fun _ => ?_, fun q => absurd (by decide) q⟩
          refine hw 4 _ ?_
          show K (4, [.ref 6, .int x1, .int v2, .int (v3 + 1), .int 0], [], σ4)
          refine hf _ _ 4 _ _ ?_
          show K (4, [.ref 6, .int x1, .int v2, .int (v3 + 1), .null], [], σ4)
          exact ih v2 (v3 + 1) σ4 h hk
        · refine hw 6 _ ?_
          show kd 51 = 1 ∧ (inb v3 10 = true ∧ ((((σ4 51 (ix v3)) ≤ v2) → K (50, [.ref 6, .int x1, .int v2, .int v3, .null], [], σ4)) ∧ (¬ ((σ4 51 (ix v3)) ≤ v2) → K (32, [.ref 6, .int x1, .int v2, .int v3, .null], [], σ4))))
          refine ⟨rfl, g8, ⟨fun q => absurd q c9, fun _ => ?_⟩⟩
          obtain ⟨g10, h⟩ := ite_some h
          rcases ite_cases h with ⟨c11, h⟩ | ⟨c11, h⟩
          · refine hw 10 _ ?_
            show kd 50 = 1 ∧ (inb v3 10 = true ∧ (((¬ (((σ4 50 (ix v3)) >>> (x1 &&& 31)) &&& 1) = 1) → K (50, [.ref 6, .int x1, .int v2, .int v3, .null], [], σ4)) ∧ (¬ (¬ (((σ4 50 (ix v3)) >>> (x1 &&& 31)) &&& 1) = 1) → K (46, [.ref 6, .int x1, .int v2, .int v3, .null], [], σ4))))
            refine ⟨rfl, g10, ⟨fun _ => ?_, fun q => absurd c11 q⟩⟩
            refine hw 4 _ ?_
            show (((0 : Int32) = 0) → K (67, [.ref 6, .int x1, .int v2, .int v3, .int 0], [], σ4)) ∧ (¬ ((0 : Int32) = 0) → K (58, [.ref 6, .int x1, .int v2, .int v3, .int 0], [], σ4))
            refine ⟨fun _ => ?_, fun q => absurd (by decide) q⟩
            refine hw 4 _ ?_
            show K (4, [.ref 6, .int x1, .int v2, .int (v3 + 1), .int 0], [], σ4)
            refine hf _ _ 4 _ _ ?_
            show K (4, [.ref 6, .int x1, .int v2, .int (v3 + 1), .null], [], σ4)
            exact ih v2 (v3 + 1) σ4 h hk
          · refine hw 10 _ ?_
            show kd 50 = 1 ∧ (inb v3 10 = true ∧ (((¬ (((σ4 50 (ix v3)) >>> (x1 &&& 31)) &&& 1) = 1) → K (50, [.ref 6, .int x1, .int v2, .int v3, .null], [], σ4)) ∧ (¬ (¬ (((σ4 50 (ix v3)) >>> (x1 &&& 31)) &&& 1) = 1) → K (46, [.ref 6, .int x1, .int v2, .int v3, .null], [], σ4))))
            refine ⟨rfl, g10, ⟨fun q => absurd q c11, fun _ => ?_⟩⟩
            refine hw 5 _ ?_
            show (((1 : Int32) = 0) → K (67, [.ref 6, .int x1, .int v2, .int v3, .int 1], [], σ4)) ∧ (¬ ((1 : Int32) = 0) → K (58, [.ref 6, .int x1, .int v2, .int v3, .int 1], [], σ4))
            refine ⟨fun q => absurd q (by decide), fun _ => ?_⟩
            obtain ⟨g12, h⟩ := ite_some h
            refine hw 8 _ ?_
            show kd 51 = 1 ∧ (inb v3 10 = true ∧ (K (4, [.ref 6, .int x1, .int (σ4 51 (ix v3)), .int (v3 + 1), .int 1], [], σ4)))
            refine ⟨rfl, g12, ?_⟩
            refine hf _ _ 4 _ _ ?_
            show K (4, [.ref 6, .int x1, .int (σ4 51 (ix v3)), .int (v3 + 1), .null], [], σ4)
            exact ih (σ4 51 (ix v3)) (v3 + 1) σ4 h hk

set_option maxHeartbeats 4000000 in
set_option maxRecDepth 100000 in
theorem s_X6_lampNow : runs T_X6_lampNow [.ref 6] 5 F_X6_lampNow := by
  intro Qa K hw hf As σ r σ' h hQ
  unfold F_X6_lampNow at h
  split at h
  · rename_i p0
    unfold f_X6_lampNow at h
    have hQ : Qa (r, σ').1 (r, σ').2 := hQ
    generalize (r, σ') = y at h hQ
    show K (0, [.ref 6, .int p0, .null, .null, .null], [], σ)
    refine hw 4 _ ?_
    show K (4, [.ref 6, .int p0, .int 0, .int 0, .null], [], σ)
    refine t_X6_lampNow_4 hw hf p0 _ _ lf 0 0 σ h (fun v13 v14 σ15 h => ?_)
    show K (75, [.ref 6, .int p0, .int v13, .int v14, .null], [], σ15)
    obtain rfl := Option.some.inj h
    refine hw 2 _ ?_
    show Qa v13 σ15
    refine hQ
  · cases h
theorem h_X6_lampNow : shp [.ref 6] 5 F_X6_lampNow := by
  intro As σ r σ' h
  unfold F_X6_lampNow at h
  split at h
  · exact ⟨by simp [Value.category], Nat.le_of_ble_eq_true rfl⟩
  · cases h
set_option maxHeartbeats 4000000 in
set_option maxRecDepth 100000 in
theorem c_X6_lampNow (l : Launch) (D : va_G) (cI cZ cA cL : ClassId) (ad : Nat → Nat) (hi : adI ad) : CtI l yX6_lampNow wsX6_lampNow { frames := 0, cells := 0, slots := 0, locals := 0 } D cI cZ cA cL ad [.ref 6] F_X6_lampNow := by
  refine mk_I [.ref 6] F_X6_lampNow T_X6_lampNow (by decide +kernel) rfl ?_ h_X6_lampNow s_X6_lampNow
  intro p e s m args below meth c Qa ⟨hx, hb, hml, hown, hts, hr, hlocks, hK, hN⟩
  have hin6 : ∀ w ∈ u_ws RX6 TX6 30, w ∈ wsX6_lampNow := by decide +kernel
  have hl56 : (Cond.fieldLink RX6 56 RX6 (TX6 18).2.1 (TX6 18).2.2.1) ∈ wsX6_lampNow := by decide +kernel
  have hl77 : (Cond.fieldLink RX6 77 RX6 (TX6 28).2.1 (TX6 28).2.2.1) ∈ wsX6_lampNow := by decide +kernel
  have hl74 : (Cond.fieldLink RX6 74 RX6 (TX6 27).2.1 (TX6 27).2.2.1) ∈ wsX6_lampNow := by decide +kernel
  refine ruL_c (n := 0) (n2 := 1) rfl (ru_iconst hx hb dX6_lampNow_0 rfl) ?_
  refine ruL_c (n := 1) (n2 := 2) rfl (ru_istore_n (k := 2) hx hb dX6_lampNow_1) ?_
  refine ruL_c (n := 2) (n2 := 3) rfl (ru_iconst hx hb dX6_lampNow_2 rfl) ?_
  refine ruL_c (n := 3) (n2 := 4) rfl (ru_istore_n (k := 3) hx hb dX6_lampNow_3) ?_
  refine ruL_c (n := 4) (n2 := 5) rfl (ru_iload_n (k := 3) hx hb dX6_lampNow_4) ?_
  refine ruL_c (n := 5) (n2 := 6) rfl (ru_bipush hx hb dX6_lampNow_5 rfl) ?_
  refine ruL_c (n := 6) (n2 := 7) rfl (ru_bot) ?_
  refine ruL_c (n := 7) (n2 := 8) rfl (ru_icmpge hx hb dX6_lampNow_7 (by decide)) ?_
  refine ruL_c (n := 8) (n2 := 9) rfl (ru_bot) ?_
  refine ruL_c (n := 9) (n2 := 10) rfl (ru_bot) ?_
  refine ruL_c (n := 10) (n2 := 11) rfl (ru_aload_n (k := 0) hx hb dX6_lampNow_10) ?_
  refine ruL_c (n := 11) (n2 := 12) rfl (ru_getR (own := RX6) (j := 18) (T := TX6) hx hb hown hK hts hin6 (by decide) rfl rfl (by decide) rfl hl56 dX6_lampNow_11) ?_
  refine ruL_c (n := 12) (n2 := 13) rfl (ru_bot) ?_
  refine ruL_c (n := 13) (n2 := 14) rfl (ru_bot) ?_
  refine ruL_c (n := 14) (n2 := 15) rfl (ru_iload_n (k := 1) hx hb dX6_lampNow_14) ?_
  refine ruL_c (n := 15) (n2 := 16) rfl (ru_iald hx hb hK dX6_lampNow_15) ?_
  refine ruL_c (n := 16) (n2 := 17) rfl (ru_sipush hx hb dX6_lampNow_16 rfl) ?_
  refine ruL_c (n := 17) (n2 := 18) rfl (ru_bot) ?_
  refine ruL_c (n := 18) (n2 := 19) rfl (ru_bot) ?_
  refine ruL_c (n := 19) (n2 := 20) rfl (ru_icmpge hx hb dX6_lampNow_19 (by decide)) ?_
  refine ruL_c (n := 20) (n2 := 21) rfl (ru_bot) ?_
  refine ruL_c (n := 21) (n2 := 22) rfl (ru_bot) ?_
  refine ruL_c (n := 22) (n2 := 23) rfl (ru_aload_n (k := 0) hx hb dX6_lampNow_22) ?_
  refine ruL_c (n := 23) (n2 := 24) rfl (ru_getR (own := RX6) (j := 28) (T := TX6) hx hb hown hK hts hin6 (by decide) rfl rfl (by decide) rfl hl77 dX6_lampNow_23) ?_
  refine ruL_c (n := 24) (n2 := 25) rfl (ru_bot) ?_
  refine ruL_c (n := 25) (n2 := 26) rfl (ru_bot) ?_
  refine ruL_c (n := 26) (n2 := 27) rfl (ru_iload_n (k := 3) hx hb dX6_lampNow_26) ?_
  refine ruL_c (n := 27) (n2 := 28) rfl (ru_iald hx hb hK dX6_lampNow_27) ?_
  refine ruL_c (n := 28) (n2 := 29) rfl (ru_iload_n (k := 2) hx hb dX6_lampNow_28) ?_
  refine ruL_c (n := 29) (n2 := 30) rfl (ru_icmple hx hb dX6_lampNow_29 (by decide)) ?_
  refine ruL_c (n := 30) (n2 := 31) rfl (ru_bot) ?_
  refine ruL_c (n := 31) (n2 := 32) rfl (ru_bot) ?_
  refine ruL_c (n := 32) (n2 := 33) rfl (ru_aload_n (k := 0) hx hb dX6_lampNow_32) ?_
  refine ruL_c (n := 33) (n2 := 34) rfl (ru_getR (own := RX6) (j := 27) (T := TX6) hx hb hown hK hts hin6 (by decide) rfl rfl (by decide) rfl hl74 dX6_lampNow_33) ?_
  refine ruL_c (n := 34) (n2 := 35) rfl (ru_bot) ?_
  refine ruL_c (n := 35) (n2 := 36) rfl (ru_bot) ?_
  refine ruL_c (n := 36) (n2 := 37) rfl (ru_iload_n (k := 3) hx hb dX6_lampNow_36) ?_
  refine ruL_c (n := 37) (n2 := 38) rfl (ru_iald hx hb hK dX6_lampNow_37) ?_
  refine ruL_c (n := 38) (n2 := 39) rfl (ru_iload_n (k := 1) hx hb dX6_lampNow_38) ?_
  refine ruL_c (n := 39) (n2 := 40) rfl (ru_ishr hx hb dX6_lampNow_39) ?_
  refine ruL_c (n := 40) (n2 := 41) rfl (ru_iconst hx hb dX6_lampNow_40 rfl) ?_
  refine ruL_c (n := 41) (n2 := 42) rfl (ru_iand hx hb dX6_lampNow_41) ?_
  refine ruL_c (n := 42) (n2 := 43) rfl (ru_iconst hx hb dX6_lampNow_42 rfl) ?_
  refine ruL_c (n := 43) (n2 := 44) rfl (ru_icmpne hx hb dX6_lampNow_43 (by decide)) ?_
  refine ruL_c (n := 44) (n2 := 45) rfl (ru_bot) ?_
  refine ruL_c (n := 45) (n2 := 46) rfl (ru_bot) ?_
  refine ruL_c (n := 46) (n2 := 47) rfl (ru_iconst hx hb dX6_lampNow_46 rfl) ?_
  refine ruL_c (n := 47) (n2 := 48) rfl (ru_goto hx hb dX6_lampNow_47 (by decide)) ?_
  refine ruL_c (n := 48) (n2 := 49) rfl (ru_bot) ?_
  refine ruL_c (n := 49) (n2 := 50) rfl (ru_bot) ?_
  refine ruL_c (n := 50) (n2 := 51) rfl (ru_iconst hx hb dX6_lampNow_50 rfl) ?_
  refine ruL_c (n := 51) (n2 := 52) rfl (ru_istore hx hb dX6_lampNow_51) ?_
  refine ruL_c (n := 52) (n2 := 53) rfl (ru_bot) ?_
  refine ruL_c (n := 53) (n2 := 54) rfl (ru_iload hx hb dX6_lampNow_53) ?_
  refine ruL_c (n := 54) (n2 := 55) rfl (ru_bot) ?_
  refine ruL_c (n := 55) (n2 := 56) rfl (ru_ifeq hx hb dX6_lampNow_55 (by decide)) ?_
  refine ruL_c (n := 56) (n2 := 57) rfl (ru_bot) ?_
  refine ruL_c (n := 57) (n2 := 58) rfl (ru_bot) ?_
  refine ruL_c (n := 58) (n2 := 59) rfl (ru_aload_n (k := 0) hx hb dX6_lampNow_58) ?_
  refine ruL_c (n := 59) (n2 := 60) rfl (ru_getR (own := RX6) (j := 28) (T := TX6) hx hb hown hK hts hin6 (by decide) rfl rfl (by decide) rfl hl77 dX6_lampNow_59) ?_
  refine ruL_c (n := 60) (n2 := 61) rfl (ru_bot) ?_
  refine ruL_c (n := 61) (n2 := 62) rfl (ru_bot) ?_
  refine ruL_c (n := 62) (n2 := 63) rfl (ru_iload_n (k := 3) hx hb dX6_lampNow_62) ?_
  refine ruL_c (n := 63) (n2 := 64) rfl (ru_iald hx hb hK dX6_lampNow_63) ?_
  refine ruL_c (n := 64) (n2 := 65) rfl (ru_goto hx hb dX6_lampNow_64 (by decide)) ?_
  refine ruL_c (n := 65) (n2 := 66) rfl (ru_bot) ?_
  refine ruL_c (n := 66) (n2 := 67) rfl (ru_bot) ?_
  refine ruL_c (n := 67) (n2 := 68) rfl (ru_iload_n (k := 2) hx hb dX6_lampNow_67) ?_
  refine ruL_c (n := 68) (n2 := 69) rfl (ru_istore_n (k := 2) hx hb dX6_lampNow_68) ?_
  refine ruL_c (n := 69) (n2 := 70) rfl (ru_iinc hx hb dX6_lampNow_69 rfl) ?_
  refine ruL_c (n := 70) (n2 := 71) rfl (ru_bot) ?_
  refine ruL_c (n := 71) (n2 := 72) rfl (ru_bot) ?_
  refine ruL_c (n := 72) (n2 := 73) rfl (ru_goto hx hb dX6_lampNow_72 (by decide)) ?_
  refine ruL_c (n := 73) (n2 := 74) rfl (ru_bot) ?_
  refine ruL_c (n := 74) (n2 := 75) rfl (ru_bot) ?_
  refine ruL_c (n := 75) (n2 := 76) rfl (ru_iload_n (k := 2) hx hb dX6_lampNow_75) ?_
  refine ruL_c (n := 76) (n2 := 77) rfl (ru_iret hx hb hK hr hlocks dX6_lampNow_76) ?_
  exact trivial

-- CueTourModel.lightNow
def l_X6_lightNow_5 (x1 : Int32) (x2 : Int32) : Nat → Int32 → Int32 → aM → (Int32 → Int32 → aM → Option (Int32 × aM)) → Option (Int32 × aM)
  | 0, _, _, _, _ => none
  | n + 1, v3, v4, σ5, k => if (σ5 6 19) ≤ v4 then k v3 v4 σ5 else if inb v4 20 = true then if ¬ (σ5 40 (ix v4)) = x1 then l_X6_lightNow_5 x1 x2 n (v3 + 0) (v4 + 1) σ5 k else if inb v4 20 = true then if ¬ (σ5 41 (ix v4)) = x2 then l_X6_lightNow_5 x1 x2 n (v3 + 0) (v4 + 1) σ5 k else bnd (f_X6_lampNow v4 σ5) (fun r11 σ12 => if inb v4 20 = true then l_X6_lightNow_5 x1 x2 n (v3 + ((r11 * (σ12 43 (ix v4))) / 100)) (v4 + 1) σ12 k else none) else none else none
def f_X6_lightNow (p0 : Int32) (p1 : Int32) (σ : aM) : Option (Int32 × aM) := l_X6_lightNow_5 p0 p1 lf 0 0 σ (fun v15 v16 σ17 => if v15 ≤ 100 then some (v15, σ17) else some (100, σ17))
def F_X6_lightNow : aF := fun As σ => match As with
  | [.int p0, .int p1] => f_X6_lightNow p0 p1 σ
  | _ => none
def T_X6_lightNow (Qa : Int32 → aM → Prop) : List aI := [I_const 0 1, I_istore 3 1, I_const 0 1, I_istore 4 2, I_bot, I_iload 4 2, I_bot, I_aload 0 1, I_getI 6 19, I_bot, I_bot, I_icmp (fun x y => y ≤ x) 66, I_bot, I_bot, I_iload 3 1, I_aload 0 1, I_getR 6 40, I_bot, I_bot, I_iload 4 2, I_bot, I_iald, I_iload 1 1, I_icmp (fun x y => ¬ x = y) 57, I_bot, I_bot, I_aload 0 1, I_getR 6 41, I_bot, I_bot, I_iload 4 2, I_bot, I_iald, I_iload 2 1, I_icmp (fun x y => ¬ x = y) 57, I_bot, I_bot, I_aload 0 1, I_iload 4 2, I_bot, I_callV 6 1 F_X6_lampNow, I_bot, I_bot, I_aload 0 1, I_getR 6 43, I_bot, I_bot, I_iload 4 2, I_bot, I_iald, I_bin fun x y => x * y, I_const (100) 2, I_bot, I_div fun x y => x / y, I_goto 58, I_bot, I_bot, I_const 0 1, I_bin fun x y => x + y, I_istore 3 1, I_iinc 4 (1), I_bot, I_bot, I_goto 5, I_bot, I_bot, I_iload 3 1, I_const (100) 2, I_bot, I_icmp (fun x y => x ≤ y) 77, I_bot, I_bot, I_const (100) 2, I_bot, I_goto 78, I_bot, I_bot, I_iload 3 1, I_iret Qa]
set_option maxHeartbeats 4000000 in
set_option maxRecDepth 100000 in
theorem t_X6_lightNow_5 {Qa : Int32 → aM → Prop} {K : aS → Prop} (hw : ∀ k x, wp (T_X6_lightNow Qa) k K x → K x) (hf : ∀ pc L i st σ, K (pc, L.set i .null, st, σ) → K (pc, L, st, σ)) (x1 : Int32) (x2 : Int32) (y : Int32 × aM) (k : Int32 → Int32 → aM → Option (Int32 × aM)) :
    ∀ (n : Nat) (v3 : Int32) (v4 : Int32) (σ5 : aM), l_X6_lightNow_5 x1 x2 n v3 v4 σ5 k = some y → (∀ (w0 : Int32) (w1 : Int32) (τ : aM), k w0 w1 τ = some y → K (66, [.ref 6, .int x1, .int x2, .int w0, .int w1], [], τ)) → K (5, [.ref 6, .int x1, .int x2, .int v3, .int v4], [], σ5) := by
  intro n
  induction n with
  | zero =>
    intro v3 v4 σ5 h hk
    exact absurd h (by simp [l_X6_lightNow_5])
  | succ n ih =>
    intro v3 v4 σ5 h hk
    unfold l_X6_lightNow_5 at h
    rcases ite_cases h with ⟨c6, h⟩ | ⟨c6, h⟩
    · refine hw 4 _ ?_
      show (((σ5 6 19) ≤ v4) → K (66, [.ref 6, .int x1, .int x2, .int v3, .int v4], [], σ5)) ∧ (¬ ((σ5 6 19) ≤ v4) → K (14, [.ref 6, .int x1, .int x2, .int v3, .int v4], [], σ5))
      refine ⟨fun _ => ?_, fun q => absurd c6 q⟩
      exact hk v3 v4 σ5 h
    · refine hw 4 _ ?_
      show (((σ5 6 19) ≤ v4) → K (66, [.ref 6, .int x1, .int x2, .int v3, .int v4], [], σ5)) ∧ (¬ ((σ5 6 19) ≤ v4) → K (14, [.ref 6, .int x1, .int x2, .int v3, .int v4], [], σ5))
      refine ⟨fun q => absurd q c6, fun _ => ?_⟩
      obtain ⟨g7, h⟩ := ite_some h
      rcases ite_cases h with ⟨c8, h⟩ | ⟨c8, h⟩
      · refine hw 7 _ ?_
        show kd 40 = 1 ∧ (inb v4 20 = true ∧ (((¬ (σ5 40 (ix v4)) = x1) → K (57, [.ref 6, .int x1, .int x2, .int v3, .int v4], [.int v3], σ5)) ∧ (¬ (¬ (σ5 40 (ix v4)) = x1) → K (26, [.ref 6, .int x1, .int x2, .int v3, .int v4], [.int v3], σ5))))
        refine ⟨rfl, g7, ⟨fun _ => ?_, fun q => absurd c8 q⟩⟩
        refine hw 5 _ ?_
        show K (5, [.ref 6, .int x1, .int x2, .int (v3 + 0), .int (v4 + 1)], [], σ5)
        exact ih (v3 + 0) (v4 + 1) σ5 h hk
      · refine hw 7 _ ?_
        show kd 40 = 1 ∧ (inb v4 20 = true ∧ (((¬ (σ5 40 (ix v4)) = x1) → K (57, [.ref 6, .int x1, .int x2, .int v3, .int v4], [.int v3], σ5)) ∧ (¬ (¬ (σ5 40 (ix v4)) = x1) → K (26, [.ref 6, .int x1, .int x2, .int v3, .int v4], [.int v3], σ5))))
        refine ⟨rfl, g7, ⟨fun q => absurd q c8, fun _ => ?_⟩⟩
        obtain ⟨g9, h⟩ := ite_some h
        rcases ite_cases h with ⟨c10, h⟩ | ⟨c10, h⟩
        · refine hw 6 _ ?_
          show kd 41 = 1 ∧ (inb v4 20 = true ∧ (((¬ (σ5 41 (ix v4)) = x2) → K (57, [.ref 6, .int x1, .int x2, .int v3, .int v4], [.int v3], σ5)) ∧ (¬ (¬ (σ5 41 (ix v4)) = x2) → K (37, [.ref 6, .int x1, .int x2, .int v3, .int v4], [.int v3], σ5))))
          refine ⟨rfl, g9, ⟨fun _ => ?_, fun q => absurd c10 q⟩⟩
          refine hw 5 _ ?_
          show K (5, [.ref 6, .int x1, .int x2, .int (v3 + 0), .int (v4 + 1)], [], σ5)
          exact ih (v3 + 0) (v4 + 1) σ5 h hk
        · refine hw 6 _ ?_
          show kd 41 = 1 ∧ (inb v4 20 = true ∧ (((¬ (σ5 41 (ix v4)) = x2) → K (57, [.ref 6, .int x1, .int x2, .int v3, .int v4], [.int v3], σ5)) ∧ (¬ (¬ (σ5 41 (ix v4)) = x2) → K (37, [.ref 6, .int x1, .int x2, .int v3, .int v4], [.int v3], σ5))))
          refine ⟨rfl, g9, ⟨fun q => absurd q c10, fun _ => ?_⟩⟩
          obtain ⟨r11, σ12, e13, h⟩ := bnd_some h
          refine hw 3 _ ?_
          show ∃ r11 σ12, f_X6_lampNow v4 σ5 = some (r11, σ12) ∧ K (43, [.ref 6, .int x1, .int x2, .int v3, .int v4], [.int r11, .int v3], σ12)
          refine ⟨r11, σ12, e13, ?_⟩
          obtain ⟨g14, h⟩ := ite_some h
          refine hw 12 _ ?_
          show kd 43 = 1 ∧ (inb v4 20 = true ∧ (¬ 100 = (0 : Int32) ∧ (K (5, [.ref 6, .int x1, .int x2, .int (v3 + ((r11 * (σ12 43 (ix v4))) / 100)), .int (v4 + 1)], [], σ12))))
          refine ⟨rfl, g14, by decide, ?_⟩
          exact ih (v3 + ((r11 * (σ12 43 (ix v4))) / 100)) (v4 + 1) σ12 h hk

set_option maxHeartbeats 4000000 in
set_option maxRecDepth 100000 in
theorem s_X6_lightNow : runs T_X6_lightNow [.ref 6] 5 F_X6_lightNow := by
  intro Qa K hw hf As σ r σ' h hQ
  unfold F_X6_lightNow at h
  split at h
  · rename_i p0 p1
    unfold f_X6_lightNow at h
    have hQ : Qa (r, σ').1 (r, σ').2 := hQ
    generalize (r, σ') = y at h hQ
    show K (0, [.ref 6, .int p0, .int p1, .null, .null], [], σ)
    refine hw 4 _ ?_
    show K (5, [.ref 6, .int p0, .int p1, .int 0, .int 0], [], σ)
    refine t_X6_lightNow_5 hw hf p0 p1 _ _ lf 0 0 σ h (fun v15 v16 σ17 h => ?_)
    show K (66, [.ref 6, .int p0, .int p1, .int v15, .int v16], [], σ17)
    rcases ite_cases h with ⟨c18, h⟩ | ⟨c18, h⟩
    · refine hw 3 _ ?_
      show ((v15 ≤ 100) → K (77, [.ref 6, .int p0, .int p1, .int v15, .int v16], [], σ17)) ∧ (¬ (v15 ≤ 100) → K (72, [.ref 6, .int p0, .int p1, .int v15, .int v16], [], σ17))
      refine ⟨fun _ => ?_, fun q => absurd c18 q⟩
      obtain rfl := Option.some.inj h
      refine hw 2 _ ?_
      show Qa v15 σ17
      refine hQ
    · refine hw 3 _ ?_
      show ((v15 ≤ 100) → K (77, [.ref 6, .int p0, .int p1, .int v15, .int v16], [], σ17)) ∧ (¬ (v15 ≤ 100) → K (72, [.ref 6, .int p0, .int p1, .int v15, .int v16], [], σ17))
      refine ⟨fun q => absurd q c18, fun _ => ?_⟩
      obtain rfl := Option.some.inj h
      refine hw 3 _ ?_
      show Qa 100 σ17
      refine hQ
  · cases h
theorem h_X6_lightNow : shp [.ref 6] 5 F_X6_lightNow := by
  intro As σ r σ' h
  unfold F_X6_lightNow at h
  split at h
  · exact ⟨by simp [Value.category], Nat.le_of_ble_eq_true rfl⟩
  · cases h
set_option maxHeartbeats 4000000 in
set_option maxRecDepth 100000 in
theorem c_X6_lightNow (l : Launch) (D : va_G) (cI cZ cA cL : ClassId) (ad : Nat → Nat) (hi : adI ad) : CtI l yX6_lightNow wsX6_lightNow { frames := 1, cells := 0, slots := 0, locals := 24 } D cI cZ cA cL ad [.ref 6] F_X6_lightNow := by
  refine mk_I [.ref 6] F_X6_lightNow T_X6_lightNow (by decide +kernel) rfl ?_ h_X6_lightNow s_X6_lightNow
  intro p e s m args below meth c Qa ⟨hx, hb, hml, hown, hts, hr, hlocks, hK, hN⟩
  have hin6 : ∀ w ∈ u_ws RX6 TX6 30, w ∈ wsX6_lightNow := by decide +kernel
  have hl159 : (Cond.fieldLink RX6 159 RX6 (TX6 19).2.1 (TX6 19).2.2.1) ∈ wsX6_lightNow := by decide +kernel
  have hl44 : (Cond.fieldLink RX6 44 RX6 (TX6 14).2.1 (TX6 14).2.2.1) ∈ wsX6_lightNow := by decide +kernel
  have hl47 : (Cond.fieldLink RX6 47 RX6 (TX6 15).2.1 (TX6 15).2.2.1) ∈ wsX6_lightNow := by decide +kernel
  have hl53 : (Cond.fieldLink RX6 53 RX6 (TX6 17).2.1 (TX6 17).2.2.1) ∈ wsX6_lightNow := by decide +kernel
  refine ruL_c (n := 0) (n2 := 1) rfl (ru_iconst hx hb dX6_lightNow_0 rfl) ?_
  refine ruL_c (n := 1) (n2 := 2) rfl (ru_istore_n (k := 3) hx hb dX6_lightNow_1) ?_
  refine ruL_c (n := 2) (n2 := 3) rfl (ru_iconst hx hb dX6_lightNow_2 rfl) ?_
  refine ruL_c (n := 3) (n2 := 4) rfl (ru_istore hx hb dX6_lightNow_3) ?_
  refine ruL_c (n := 4) (n2 := 5) rfl (ru_bot) ?_
  refine ruL_c (n := 5) (n2 := 6) rfl (ru_iload hx hb dX6_lightNow_5) ?_
  refine ruL_c (n := 6) (n2 := 7) rfl (ru_bot) ?_
  refine ruL_c (n := 7) (n2 := 8) rfl (ru_aload_n (k := 0) hx hb dX6_lightNow_7) ?_
  refine ruL_c (n := 8) (n2 := 9) rfl (ru_getI (own := RX6) (j := 19) (T := TX6) hx hb hown hK hts hin6 (by decide) rfl rfl (by decide) rfl hl159 dX6_lightNow_8) ?_
  refine ruL_c (n := 9) (n2 := 10) rfl (ru_bot) ?_
  refine ruL_c (n := 10) (n2 := 11) rfl (ru_bot) ?_
  refine ruL_c (n := 11) (n2 := 12) rfl (ru_icmpge hx hb dX6_lightNow_11 (by decide)) ?_
  refine ruL_c (n := 12) (n2 := 13) rfl (ru_bot) ?_
  refine ruL_c (n := 13) (n2 := 14) rfl (ru_bot) ?_
  refine ruL_c (n := 14) (n2 := 15) rfl (ru_iload_n (k := 3) hx hb dX6_lightNow_14) ?_
  refine ruL_c (n := 15) (n2 := 16) rfl (ru_aload_n (k := 0) hx hb dX6_lightNow_15) ?_
  refine ruL_c (n := 16) (n2 := 17) rfl (ru_getR (own := RX6) (j := 14) (T := TX6) hx hb hown hK hts hin6 (by decide) rfl rfl (by decide) rfl hl44 dX6_lightNow_16) ?_
  refine ruL_c (n := 17) (n2 := 18) rfl (ru_bot) ?_
  refine ruL_c (n := 18) (n2 := 19) rfl (ru_bot) ?_
  refine ruL_c (n := 19) (n2 := 20) rfl (ru_iload hx hb dX6_lightNow_19) ?_
  refine ruL_c (n := 20) (n2 := 21) rfl (ru_bot) ?_
  refine ruL_c (n := 21) (n2 := 22) rfl (ru_iald hx hb hK dX6_lightNow_21) ?_
  refine ruL_c (n := 22) (n2 := 23) rfl (ru_iload_n (k := 1) hx hb dX6_lightNow_22) ?_
  refine ruL_c (n := 23) (n2 := 24) rfl (ru_icmpne hx hb dX6_lightNow_23 (by decide)) ?_
  refine ruL_c (n := 24) (n2 := 25) rfl (ru_bot) ?_
  refine ruL_c (n := 25) (n2 := 26) rfl (ru_bot) ?_
  refine ruL_c (n := 26) (n2 := 27) rfl (ru_aload_n (k := 0) hx hb dX6_lightNow_26) ?_
  refine ruL_c (n := 27) (n2 := 28) rfl (ru_getR (own := RX6) (j := 15) (T := TX6) hx hb hown hK hts hin6 (by decide) rfl rfl (by decide) rfl hl47 dX6_lightNow_27) ?_
  refine ruL_c (n := 28) (n2 := 29) rfl (ru_bot) ?_
  refine ruL_c (n := 29) (n2 := 30) rfl (ru_bot) ?_
  refine ruL_c (n := 30) (n2 := 31) rfl (ru_iload hx hb dX6_lightNow_30) ?_
  refine ruL_c (n := 31) (n2 := 32) rfl (ru_bot) ?_
  refine ruL_c (n := 32) (n2 := 33) rfl (ru_iald hx hb hK dX6_lightNow_32) ?_
  refine ruL_c (n := 33) (n2 := 34) rfl (ru_iload_n (k := 2) hx hb dX6_lightNow_33) ?_
  refine ruL_c (n := 34) (n2 := 35) rfl (ru_icmpne hx hb dX6_lightNow_34 (by decide)) ?_
  refine ruL_c (n := 35) (n2 := 36) rfl (ru_bot) ?_
  refine ruL_c (n := 36) (n2 := 37) rfl (ru_bot) ?_
  refine ruL_c (n := 37) (n2 := 38) rfl (ru_aload_n (k := 0) hx hb dX6_lightNow_37) ?_
  refine ruL_c (n := 38) (n2 := 39) rfl (ru_iload hx hb dX6_lightNow_38) ?_
  refine ruL_c (n := 39) (n2 := 40) rfl (ru_bot) ?_
  refine ruL_c (n := 40) (n2 := 41) rfl (ru_callV hx hb hml hown hts hK hN (by decide) rfl (c_X6_lampNow l D cI cZ cA cL ad hi) (cwV 1 hts gX6_lightNow_X6_lampNow rfl rfl rfl (by decide +kernel) ⟨Nat.le_of_ble_eq_true rfl, Nat.le_of_ble_eq_true rfl⟩) dX6_lightNow_40 ⟨Nat.zero_le _, Nat.zero_le _⟩) ?_
  refine ruL_c (n := 41) (n2 := 42) rfl (ru_bot) ?_
  refine ruL_c (n := 42) (n2 := 43) rfl (ru_bot) ?_
  refine ruL_c (n := 43) (n2 := 44) rfl (ru_aload_n (k := 0) hx hb dX6_lightNow_43) ?_
  refine ruL_c (n := 44) (n2 := 45) rfl (ru_getR (own := RX6) (j := 17) (T := TX6) hx hb hown hK hts hin6 (by decide) rfl rfl (by decide) rfl hl53 dX6_lightNow_44) ?_
  refine ruL_c (n := 45) (n2 := 46) rfl (ru_bot) ?_
  refine ruL_c (n := 46) (n2 := 47) rfl (ru_bot) ?_
  refine ruL_c (n := 47) (n2 := 48) rfl (ru_iload hx hb dX6_lightNow_47) ?_
  refine ruL_c (n := 48) (n2 := 49) rfl (ru_bot) ?_
  refine ruL_c (n := 49) (n2 := 50) rfl (ru_iald hx hb hK dX6_lightNow_49) ?_
  refine ruL_c (n := 50) (n2 := 51) rfl (ru_imul hx hb dX6_lightNow_50) ?_
  refine ruL_c (n := 51) (n2 := 52) rfl (ru_bipush hx hb dX6_lightNow_51 rfl) ?_
  refine ruL_c (n := 52) (n2 := 53) rfl (ru_bot) ?_
  refine ruL_c (n := 53) (n2 := 54) rfl (ru_idiv hx hb dX6_lightNow_53) ?_
  refine ruL_c (n := 54) (n2 := 55) rfl (ru_goto hx hb dX6_lightNow_54 (by decide)) ?_
  refine ruL_c (n := 55) (n2 := 56) rfl (ru_bot) ?_
  refine ruL_c (n := 56) (n2 := 57) rfl (ru_bot) ?_
  refine ruL_c (n := 57) (n2 := 58) rfl (ru_iconst hx hb dX6_lightNow_57 rfl) ?_
  refine ruL_c (n := 58) (n2 := 59) rfl (ru_iadd hx hb dX6_lightNow_58) ?_
  refine ruL_c (n := 59) (n2 := 60) rfl (ru_istore_n (k := 3) hx hb dX6_lightNow_59) ?_
  refine ruL_c (n := 60) (n2 := 61) rfl (ru_iinc hx hb dX6_lightNow_60 rfl) ?_
  refine ruL_c (n := 61) (n2 := 62) rfl (ru_bot) ?_
  refine ruL_c (n := 62) (n2 := 63) rfl (ru_bot) ?_
  refine ruL_c (n := 63) (n2 := 64) rfl (ru_goto hx hb dX6_lightNow_63 (by decide)) ?_
  refine ruL_c (n := 64) (n2 := 65) rfl (ru_bot) ?_
  refine ruL_c (n := 65) (n2 := 66) rfl (ru_bot) ?_
  refine ruL_c (n := 66) (n2 := 67) rfl (ru_iload_n (k := 3) hx hb dX6_lightNow_66) ?_
  refine ruL_c (n := 67) (n2 := 68) rfl (ru_bipush hx hb dX6_lightNow_67 rfl) ?_
  refine ruL_c (n := 68) (n2 := 69) rfl (ru_bot) ?_
  refine ruL_c (n := 69) (n2 := 70) rfl (ru_icmple hx hb dX6_lightNow_69 (by decide)) ?_
  refine ruL_c (n := 70) (n2 := 71) rfl (ru_bot) ?_
  refine ruL_c (n := 71) (n2 := 72) rfl (ru_bot) ?_
  refine ruL_c (n := 72) (n2 := 73) rfl (ru_bipush hx hb dX6_lightNow_72 rfl) ?_
  refine ruL_c (n := 73) (n2 := 74) rfl (ru_bot) ?_
  refine ruL_c (n := 74) (n2 := 75) rfl (ru_goto hx hb dX6_lightNow_74 (by decide)) ?_
  refine ruL_c (n := 75) (n2 := 76) rfl (ru_bot) ?_
  refine ruL_c (n := 76) (n2 := 77) rfl (ru_bot) ?_
  refine ruL_c (n := 77) (n2 := 78) rfl (ru_iload_n (k := 3) hx hb dX6_lightNow_77) ?_
  refine ruL_c (n := 78) (n2 := 79) rfl (ru_iret hx hb hK hr hlocks dX6_lightNow_78) ?_
  exact trivial

-- CueTourModel.lampLevel
def f_X6_lampLevel (p0 : Int32) (p1 : Int32) (σ : aM) : Option (Int32 × aM) := bnd (f_X6_isLamp p0 σ) (fun r1 σ2 => if ¬ r1 = 0 then bnd (f_X6_isTime p1 σ2) (fun r5 σ6 => if ¬ r5 = 0 then bnd (f_X6_isFine 0 σ6) (fun r9 σ10 => if ¬ r9 = 0 then bnd (f_X6_plays σ10) (fun r13 σ14 => if inb p0 20 = true then bnd (f_X6_laysAll (σ14 40 (ix p0)) σ14) (fun r17 σ18 => bnd (f_X6_lights p1 σ18) (fun r20 σ21 => bnd (f_X6_lampNow p0 σ21) (fun r23 σ24 => some (r23, σ24)))) else none) else some (0, σ10)) else bnd (f_X6_isFine 2 σ6) (fun r26 σ27 => if ¬ r26 = 0 then bnd (f_X6_plays σ27) (fun r30 σ31 => if inb p0 20 = true then bnd (f_X6_laysAll (σ31 40 (ix p0)) σ31) (fun r34 σ35 => bnd (f_X6_lights p1 σ35) (fun r37 σ38 => bnd (f_X6_lampNow p0 σ38) (fun r40 σ41 => some (r40, σ41)))) else none) else some (0, σ27))) else bnd (f_X6_isFine 1 σ2) (fun r43 σ44 => if ¬ r43 = 0 then bnd (f_X6_plays σ44) (fun r47 σ48 => if inb p0 20 = true then bnd (f_X6_laysAll (σ48 40 (ix p0)) σ48) (fun r51 σ52 => bnd (f_X6_lights p1 σ52) (fun r54 σ55 => bnd (f_X6_lampNow p0 σ55) (fun r57 σ58 => some (r57, σ58)))) else none) else some (0, σ44)))
def F_X6_lampLevel : aF := fun As σ => match As with
  | [.int p0, .int p1] => f_X6_lampLevel p0 p1 σ
  | _ => none
def T_X6_lampLevel (Qa : Int32 → aM → Prop) : List aI := [I_aload 0 1, I_iload 1 1, I_callV 6 1 F_X6_isLamp, I_bot, I_bot, I_istore 3 1, I_aload 0 1, I_iload 3 1, I_if (fun x => ¬ x = 0) 15, I_bot, I_bot, I_const 1 1, I_goto 27, I_bot, I_bot, I_iload 2 1, I_callS 1 F_X6_isTime, I_bot, I_bot, I_if (fun x => ¬ x = 0) 26, I_bot, I_bot, I_const 2 1, I_goto 27, I_bot, I_bot, I_const 0 1, I_callV 6 1 F_X6_isFine, I_bot, I_bot, I_if (fun x => ¬ x = 0) 35, I_bot, I_bot, I_const 0 1, I_iret Qa, I_aload 0 1, I_callVv 6 0 F_X6_plays, I_bot, I_bot, I_aload 0 1, I_aload 0 1, I_getR 6 40, I_bot, I_bot, I_iload 1 1, I_iald, I_callVv 6 1 F_X6_laysAll, I_bot, I_bot, I_aload 0 1, I_iload 2 1, I_callVv 6 1 F_X6_lights, I_bot, I_bot, I_aload 0 1, I_iload 1 1, I_callV 6 1 F_X6_lampNow, I_bot, I_bot, I_iret Qa]
set_option maxHeartbeats 4000000 in
set_option maxRecDepth 100000 in
theorem s_X6_lampLevel : runs T_X6_lampLevel [.ref 6] 4 F_X6_lampLevel := by
  intro Qa K hw hf As σ r σ' h hQ
  unfold F_X6_lampLevel at h
  split at h
  · rename_i p0 p1
    unfold f_X6_lampLevel at h
    have hQ : Qa (r, σ').1 (r, σ').2 := hQ
    generalize (r, σ') = y at h hQ
    show K (0, [.ref 6, .int p0, .int p1, .null], [], σ)
    obtain ⟨r1, σ2, e3, h⟩ := bnd_some h
    refine hw 3 _ ?_
    show ∃ r1 σ2, f_X6_isLamp p0 σ = some (r1, σ2) ∧ K (5, [.ref 6, .int p0, .int p1, .null], [.int r1], σ2)
    refine ⟨r1, σ2, e3, ?_⟩
    rcases ite_cases h with ⟨c4, h⟩ | ⟨c4, h⟩
    · refine hw 4 _ ?_
      show ((¬ r1 = 0) → K (15, [.ref 6, .int p0, .int p1, .int r1], [.ref 6], σ2)) ∧ (¬ (¬ r1 = 0) → K (11, [.ref 6, .int p0, .int p1, .int r1], [.ref 6], σ2))
      refine ⟨fun _ => ?_, fun q => absurd c4 q⟩
      obtain ⟨r5, σ6, e7, h⟩ := bnd_some h
      refine hw 2 _ ?_
      show ∃ r5 σ6, f_X6_isTime p1 σ2 = some (r5, σ6) ∧ K (19, [.ref 6, .int p0, .int p1, .int r1], [.int r5, .ref 6], σ6)
      refine ⟨r5, σ6, e7, ?_⟩
      rcases ite_cases h with ⟨c8, h⟩ | ⟨c8, h⟩
      · refine hw 1 _ ?_
        show ((¬ r5 = 0) → K (26, [.ref 6, .int p0, .int p1, .int r1], [.ref 6], σ6)) ∧ (¬ (¬ r5 = 0) → K (22, [.ref 6, .int p0, .int p1, .int r1], [.ref 6], σ6))
        refine ⟨fun _ => ?_, fun q => absurd c8 q⟩
        obtain ⟨r9, σ10, e11, h⟩ := bnd_some h
        refine hw 2 _ ?_
        show ∃ r9 σ10, f_X6_isFine 0 σ6 = some (r9, σ10) ∧ K (30, [.ref 6, .int p0, .int p1, .int r1], [.int r9], σ10)
        refine ⟨r9, σ10, e11, ?_⟩
        rcases ite_cases h with ⟨c12, h⟩ | ⟨c12, h⟩
        · refine hw 1 _ ?_
          show ((¬ r9 = 0) → K (35, [.ref 6, .int p0, .int p1, .int r1], [], σ10)) ∧ (¬ (¬ r9 = 0) → K (33, [.ref 6, .int p0, .int p1, .int r1], [], σ10))
          refine ⟨fun _ => ?_, fun q => absurd c12 q⟩
          obtain ⟨r13, σ14, e15, h⟩ := bnd_some h
          refine hw 2 _ ?_
          show ∃ r13 σ14, f_X6_plays σ10 = some (r13, σ14) ∧ K (39, [.ref 6, .int p0, .int p1, .int r1], [], σ14)
          refine ⟨r13, σ14, e15, ?_⟩
          obtain ⟨g16, h⟩ := ite_some h
          obtain ⟨r17, σ18, e19, h⟩ := bnd_some h
          refine hw 6 _ ?_
          show kd 40 = 1 ∧ (inb p0 20 = true ∧ (∃ r17 σ18, f_X6_laysAll (σ14 40 (ix p0)) σ14 = some (r17, σ18) ∧ K (49, [.ref 6, .int p0, .int p1, .int r1], [], σ18)))
          refine ⟨rfl, g16, ⟨r17, σ18, e19, ?_⟩⟩
          obtain ⟨r20, σ21, e22, h⟩ := bnd_some h
          refine hw 3 _ ?_
          show ∃ r20 σ21, f_X6_lights p1 σ18 = some (r20, σ21) ∧ K (54, [.ref 6, .int p0, .int p1, .int r1], [], σ21)
          refine ⟨r20, σ21, e22, ?_⟩
          obtain ⟨r23, σ24, e25, h⟩ := bnd_some h
          refine hw 3 _ ?_
          show ∃ r23 σ24, f_X6_lampNow p0 σ21 = some (r23, σ24) ∧ K (59, [.ref 6, .int p0, .int p1, .int r1], [.int r23], σ24)
          refine ⟨r23, σ24, e25, ?_⟩
          obtain rfl := Option.some.inj h
          refine hw 1 _ ?_
          show Qa r23 σ24
          refine hQ
        · refine hw 1 _ ?_
          show ((¬ r9 = 0) → K (35, [.ref 6, .int p0, .int p1, .int r1], [], σ10)) ∧ (¬ (¬ r9 = 0) → K (33, [.ref 6, .int p0, .int p1, .int r1], [], σ10))
          refine ⟨fun q => absurd q c12, fun _ => ?_⟩
          obtain rfl := Option.some.inj h
          refine hw 2 _ ?_
          show Qa 0 σ10
          refine hQ
      · refine hw 1 _ ?_
        show ((¬ r5 = 0) → K (26, [.ref 6, .int p0, .int p1, .int r1], [.ref 6], σ6)) ∧ (¬ (¬ r5 = 0) → K (22, [.ref 6, .int p0, .int p1, .int r1], [.ref 6], σ6))
        refine ⟨fun q => absurd q c8, fun _ => ?_⟩
        obtain ⟨r26, σ27, e28, h⟩ := bnd_some h
        refine hw 3 _ ?_
        show ∃ r26 σ27, f_X6_isFine 2 σ6 = some (r26, σ27) ∧ K (30, [.ref 6, .int p0, .int p1, .int r1], [.int r26], σ27)
        refine ⟨r26, σ27, e28, ?_⟩
        rcases ite_cases h with ⟨c29, h⟩ | ⟨c29, h⟩
        · refine hw 1 _ ?_
          show ((¬ r26 = 0) → K (35, [.ref 6, .int p0, .int p1, .int r1], [], σ27)) ∧ (¬ (¬ r26 = 0) → K (33, [.ref 6, .int p0, .int p1, .int r1], [], σ27))
          refine ⟨fun _ => ?_, fun q => absurd c29 q⟩
          obtain ⟨r30, σ31, e32, h⟩ := bnd_some h
          refine hw 2 _ ?_
          show ∃ r30 σ31, f_X6_plays σ27 = some (r30, σ31) ∧ K (39, [.ref 6, .int p0, .int p1, .int r1], [], σ31)
          refine ⟨r30, σ31, e32, ?_⟩
          obtain ⟨g33, h⟩ := ite_some h
          obtain ⟨r34, σ35, e36, h⟩ := bnd_some h
          refine hw 6 _ ?_
          show kd 40 = 1 ∧ (inb p0 20 = true ∧ (∃ r34 σ35, f_X6_laysAll (σ31 40 (ix p0)) σ31 = some (r34, σ35) ∧ K (49, [.ref 6, .int p0, .int p1, .int r1], [], σ35)))
          refine ⟨rfl, g33, ⟨r34, σ35, e36, ?_⟩⟩
          obtain ⟨r37, σ38, e39, h⟩ := bnd_some h
          refine hw 3 _ ?_
          show ∃ r37 σ38, f_X6_lights p1 σ35 = some (r37, σ38) ∧ K (54, [.ref 6, .int p0, .int p1, .int r1], [], σ38)
          refine ⟨r37, σ38, e39, ?_⟩
          obtain ⟨r40, σ41, e42, h⟩ := bnd_some h
          refine hw 3 _ ?_
          show ∃ r40 σ41, f_X6_lampNow p0 σ38 = some (r40, σ41) ∧ K (59, [.ref 6, .int p0, .int p1, .int r1], [.int r40], σ41)
          refine ⟨r40, σ41, e42, ?_⟩
          obtain rfl := Option.some.inj h
          refine hw 1 _ ?_
          show Qa r40 σ41
          refine hQ
        · refine hw 1 _ ?_
          show ((¬ r26 = 0) → K (35, [.ref 6, .int p0, .int p1, .int r1], [], σ27)) ∧ (¬ (¬ r26 = 0) → K (33, [.ref 6, .int p0, .int p1, .int r1], [], σ27))
          refine ⟨fun q => absurd q c29, fun _ => ?_⟩
          obtain rfl := Option.some.inj h
          refine hw 2 _ ?_
          show Qa 0 σ27
          refine hQ
    · refine hw 4 _ ?_
      show ((¬ r1 = 0) → K (15, [.ref 6, .int p0, .int p1, .int r1], [.ref 6], σ2)) ∧ (¬ (¬ r1 = 0) → K (11, [.ref 6, .int p0, .int p1, .int r1], [.ref 6], σ2))
      refine ⟨fun q => absurd q c4, fun _ => ?_⟩
      obtain ⟨r43, σ44, e45, h⟩ := bnd_some h
      refine hw 3 _ ?_
      show ∃ r43 σ44, f_X6_isFine 1 σ2 = some (r43, σ44) ∧ K (30, [.ref 6, .int p0, .int p1, .int r1], [.int r43], σ44)
      refine ⟨r43, σ44, e45, ?_⟩
      rcases ite_cases h with ⟨c46, h⟩ | ⟨c46, h⟩
      · refine hw 1 _ ?_
        show ((¬ r43 = 0) → K (35, [.ref 6, .int p0, .int p1, .int r1], [], σ44)) ∧ (¬ (¬ r43 = 0) → K (33, [.ref 6, .int p0, .int p1, .int r1], [], σ44))
        refine ⟨fun _ => ?_, fun q => absurd c46 q⟩
        obtain ⟨r47, σ48, e49, h⟩ := bnd_some h
        refine hw 2 _ ?_
        show ∃ r47 σ48, f_X6_plays σ44 = some (r47, σ48) ∧ K (39, [.ref 6, .int p0, .int p1, .int r1], [], σ48)
        refine ⟨r47, σ48, e49, ?_⟩
        obtain ⟨g50, h⟩ := ite_some h
        obtain ⟨r51, σ52, e53, h⟩ := bnd_some h
        refine hw 6 _ ?_
        show kd 40 = 1 ∧ (inb p0 20 = true ∧ (∃ r51 σ52, f_X6_laysAll (σ48 40 (ix p0)) σ48 = some (r51, σ52) ∧ K (49, [.ref 6, .int p0, .int p1, .int r1], [], σ52)))
        refine ⟨rfl, g50, ⟨r51, σ52, e53, ?_⟩⟩
        obtain ⟨r54, σ55, e56, h⟩ := bnd_some h
        refine hw 3 _ ?_
        show ∃ r54 σ55, f_X6_lights p1 σ52 = some (r54, σ55) ∧ K (54, [.ref 6, .int p0, .int p1, .int r1], [], σ55)
        refine ⟨r54, σ55, e56, ?_⟩
        obtain ⟨r57, σ58, e59, h⟩ := bnd_some h
        refine hw 3 _ ?_
        show ∃ r57 σ58, f_X6_lampNow p0 σ55 = some (r57, σ58) ∧ K (59, [.ref 6, .int p0, .int p1, .int r1], [.int r57], σ58)
        refine ⟨r57, σ58, e59, ?_⟩
        obtain rfl := Option.some.inj h
        refine hw 1 _ ?_
        show Qa r57 σ58
        refine hQ
      · refine hw 1 _ ?_
        show ((¬ r43 = 0) → K (35, [.ref 6, .int p0, .int p1, .int r1], [], σ44)) ∧ (¬ (¬ r43 = 0) → K (33, [.ref 6, .int p0, .int p1, .int r1], [], σ44))
        refine ⟨fun q => absurd q c46, fun _ => ?_⟩
        obtain rfl := Option.some.inj h
        refine hw 2 _ ?_
        show Qa 0 σ44
        refine hQ
  · cases h
theorem h_X6_lampLevel : shp [.ref 6] 4 F_X6_lampLevel := by
  intro As σ r σ' h
  unfold F_X6_lampLevel at h
  split at h
  · exact ⟨by simp [Value.category], Nat.le_of_ble_eq_true rfl⟩
  · cases h
set_option maxHeartbeats 4000000 in
set_option maxRecDepth 100000 in
theorem c_X6_lampLevel (l : Launch) (D : va_G) (cI cZ cA cL : ClassId) (ad : Nat → Nat) (hi : adI ad) : CtI l yX6_lampLevel wsX6_lampLevel { frames := 4, cells := 0, slots := 0, locals := 97 } D cI cZ cA cL ad [.ref 6] F_X6_lampLevel := by
  refine mk_I [.ref 6] F_X6_lampLevel T_X6_lampLevel (by decide +kernel) rfl ?_ h_X6_lampLevel s_X6_lampLevel
  intro p e s m args below meth c Qa ⟨hx, hb, hml, hown, hts, hr, hlocks, hK, hN⟩
  have hin6 : ∀ w ∈ u_ws RX6 TX6 30, w ∈ wsX6_lampLevel := by decide +kernel
  have hl44 : (Cond.fieldLink RX6 44 RX6 (TX6 14).2.1 (TX6 14).2.2.1) ∈ wsX6_lampLevel := by decide +kernel
  refine ruL_c (n := 0) (n2 := 1) rfl (ru_aload_n (k := 0) hx hb dX6_lampLevel_0) ?_
  refine ruL_c (n := 1) (n2 := 2) rfl (ru_iload_n (k := 1) hx hb dX6_lampLevel_1) ?_
  refine ruL_c (n := 2) (n2 := 3) rfl (ru_callV hx hb hml hown hts hK hN (by decide) rfl (c_X6_isLamp l D cI cZ cA cL ad hi) (cwV 1 hts gX6_lampLevel_X6_isLamp rfl rfl rfl (by decide +kernel) ⟨Nat.le_of_ble_eq_true rfl, Nat.le_of_ble_eq_true rfl⟩) dX6_lampLevel_2 ⟨Nat.zero_le _, Nat.zero_le _⟩) ?_
  refine ruL_c (n := 3) (n2 := 4) rfl (ru_bot) ?_
  refine ruL_c (n := 4) (n2 := 5) rfl (ru_bot) ?_
  refine ruL_c (n := 5) (n2 := 6) rfl (ru_istore_n (k := 3) hx hb dX6_lampLevel_5) ?_
  refine ruL_c (n := 6) (n2 := 7) rfl (ru_aload_n (k := 0) hx hb dX6_lampLevel_6) ?_
  refine ruL_c (n := 7) (n2 := 8) rfl (ru_iload_n (k := 3) hx hb dX6_lampLevel_7) ?_
  refine ruL_c (n := 8) (n2 := 9) rfl (ru_ifne hx hb dX6_lampLevel_8 (by decide)) ?_
  refine ruL_c (n := 9) (n2 := 10) rfl (ru_bot) ?_
  refine ruL_c (n := 10) (n2 := 11) rfl (ru_bot) ?_
  refine ruL_c (n := 11) (n2 := 12) rfl (ru_iconst hx hb dX6_lampLevel_11 rfl) ?_
  refine ruL_c (n := 12) (n2 := 13) rfl (ru_goto hx hb dX6_lampLevel_12 (by decide)) ?_
  refine ruL_c (n := 13) (n2 := 14) rfl (ru_bot) ?_
  refine ruL_c (n := 14) (n2 := 15) rfl (ru_bot) ?_
  refine ruL_c (n := 15) (n2 := 16) rfl (ru_iload_n (k := 2) hx hb dX6_lampLevel_15) ?_
  refine ruL_c (n := 16) (n2 := 17) rfl (ru_callS hx hb hml hown hts hK hN (c_X6_isTime l D cI cZ cA cL ad hi) (va_cwS 1 hts gX6_lampLevel_X6_isTime rfl rfl rfl (by decide +kernel) ⟨Nat.le_of_ble_eq_true rfl, Nat.le_of_ble_eq_true rfl⟩) dX6_lampLevel_16 ⟨Nat.zero_le _, Nat.zero_le _⟩) ?_
  refine ruL_c (n := 17) (n2 := 18) rfl (ru_bot) ?_
  refine ruL_c (n := 18) (n2 := 19) rfl (ru_bot) ?_
  refine ruL_c (n := 19) (n2 := 20) rfl (ru_ifne hx hb dX6_lampLevel_19 (by decide)) ?_
  refine ruL_c (n := 20) (n2 := 21) rfl (ru_bot) ?_
  refine ruL_c (n := 21) (n2 := 22) rfl (ru_bot) ?_
  refine ruL_c (n := 22) (n2 := 23) rfl (ru_iconst hx hb dX6_lampLevel_22 rfl) ?_
  refine ruL_c (n := 23) (n2 := 24) rfl (ru_goto hx hb dX6_lampLevel_23 (by decide)) ?_
  refine ruL_c (n := 24) (n2 := 25) rfl (ru_bot) ?_
  refine ruL_c (n := 25) (n2 := 26) rfl (ru_bot) ?_
  refine ruL_c (n := 26) (n2 := 27) rfl (ru_iconst hx hb dX6_lampLevel_26 rfl) ?_
  refine ruL_c (n := 27) (n2 := 28) rfl (ru_callV hx hb hml hown hts hK hN (by decide) rfl (c_X6_isFine l D cI cZ cA cL ad hi) (cwV 1 hts gX6_lampLevel_X6_isFine rfl rfl rfl (by decide +kernel) ⟨Nat.le_of_ble_eq_true rfl, Nat.le_of_ble_eq_true rfl⟩) dX6_lampLevel_27 ⟨Nat.zero_le _, Nat.zero_le _⟩) ?_
  refine ruL_c (n := 28) (n2 := 29) rfl (ru_bot) ?_
  refine ruL_c (n := 29) (n2 := 30) rfl (ru_bot) ?_
  refine ruL_c (n := 30) (n2 := 31) rfl (ru_ifne hx hb dX6_lampLevel_30 (by decide)) ?_
  refine ruL_c (n := 31) (n2 := 32) rfl (ru_bot) ?_
  refine ruL_c (n := 32) (n2 := 33) rfl (ru_bot) ?_
  refine ruL_c (n := 33) (n2 := 34) rfl (ru_iconst hx hb dX6_lampLevel_33 rfl) ?_
  refine ruL_c (n := 34) (n2 := 35) rfl (ru_iret hx hb hK hr hlocks dX6_lampLevel_34) ?_
  refine ruL_c (n := 35) (n2 := 36) rfl (ru_aload_n (k := 0) hx hb dX6_lampLevel_35) ?_
  refine ruL_c (n := 36) (n2 := 37) rfl (ru_callVv hx hb hml hown hts hK hN (by decide) rfl (c_X6_plays l D cI cZ cA cL ad hi) (cwV 0 hts gX6_lampLevel_X6_plays rfl rfl rfl (by decide +kernel) ⟨Nat.le_of_ble_eq_true rfl, Nat.le_of_ble_eq_true rfl⟩) dX6_lampLevel_36 ⟨Nat.zero_le _, Nat.zero_le _⟩) ?_
  refine ruL_c (n := 37) (n2 := 38) rfl (ru_bot) ?_
  refine ruL_c (n := 38) (n2 := 39) rfl (ru_bot) ?_
  refine ruL_c (n := 39) (n2 := 40) rfl (ru_aload_n (k := 0) hx hb dX6_lampLevel_39) ?_
  refine ruL_c (n := 40) (n2 := 41) rfl (ru_aload_n (k := 0) hx hb dX6_lampLevel_40) ?_
  refine ruL_c (n := 41) (n2 := 42) rfl (ru_getR (own := RX6) (j := 14) (T := TX6) hx hb hown hK hts hin6 (by decide) rfl rfl (by decide) rfl hl44 dX6_lampLevel_41) ?_
  refine ruL_c (n := 42) (n2 := 43) rfl (ru_bot) ?_
  refine ruL_c (n := 43) (n2 := 44) rfl (ru_bot) ?_
  refine ruL_c (n := 44) (n2 := 45) rfl (ru_iload_n (k := 1) hx hb dX6_lampLevel_44) ?_
  refine ruL_c (n := 45) (n2 := 46) rfl (ru_iald hx hb hK dX6_lampLevel_45) ?_
  refine ruL_c (n := 46) (n2 := 47) rfl (ru_callVv hx hb hml hown hts hK hN (by decide) rfl (c_X6_laysAll l D cI cZ cA cL ad hi) (cwV 1 hts gX6_lampLevel_X6_laysAll rfl rfl rfl (by decide +kernel) ⟨Nat.le_of_ble_eq_true rfl, Nat.le_of_ble_eq_true rfl⟩) dX6_lampLevel_46 ⟨Nat.zero_le _, Nat.zero_le _⟩) ?_
  refine ruL_c (n := 47) (n2 := 48) rfl (ru_bot) ?_
  refine ruL_c (n := 48) (n2 := 49) rfl (ru_bot) ?_
  refine ruL_c (n := 49) (n2 := 50) rfl (ru_aload_n (k := 0) hx hb dX6_lampLevel_49) ?_
  refine ruL_c (n := 50) (n2 := 51) rfl (ru_iload_n (k := 2) hx hb dX6_lampLevel_50) ?_
  refine ruL_c (n := 51) (n2 := 52) rfl (ru_callVv hx hb hml hown hts hK hN (by decide) rfl (c_X6_lights l D cI cZ cA cL ad hi) (cwV 1 hts gX6_lampLevel_X6_lights rfl rfl rfl (by decide +kernel) ⟨Nat.le_of_ble_eq_true rfl, Nat.le_of_ble_eq_true rfl⟩) dX6_lampLevel_51 ⟨Nat.zero_le _, Nat.zero_le _⟩) ?_
  refine ruL_c (n := 52) (n2 := 53) rfl (ru_bot) ?_
  refine ruL_c (n := 53) (n2 := 54) rfl (ru_bot) ?_
  refine ruL_c (n := 54) (n2 := 55) rfl (ru_aload_n (k := 0) hx hb dX6_lampLevel_54) ?_
  refine ruL_c (n := 55) (n2 := 56) rfl (ru_iload_n (k := 1) hx hb dX6_lampLevel_55) ?_
  refine ruL_c (n := 56) (n2 := 57) rfl (ru_callV hx hb hml hown hts hK hN (by decide) rfl (c_X6_lampNow l D cI cZ cA cL ad hi) (cwV 1 hts gX6_lampLevel_X6_lampNow rfl rfl rfl (by decide +kernel) ⟨Nat.le_of_ble_eq_true rfl, Nat.le_of_ble_eq_true rfl⟩) dX6_lampLevel_56 ⟨Nat.zero_le _, Nat.zero_le _⟩) ?_
  refine ruL_c (n := 57) (n2 := 58) rfl (ru_bot) ?_
  refine ruL_c (n := 58) (n2 := 59) rfl (ru_bot) ?_
  refine ruL_c (n := 59) (n2 := 60) rfl (ru_iret hx hb hK hr hlocks dX6_lampLevel_59) ?_
  exact trivial

-- CueTourModel.light
def f_X6_light (p0 : Int32) (p1 : Int32) (p2 : Int32) (σ : aM) : Option (Int32 × aM) := bnd (f_X6_isStage p0 σ) (fun r1 σ2 => if r1 = 0 then bnd (f_X6_isFine 1 σ2) (fun r5 σ6 => if ¬ r5 = 0 then bnd (f_X6_plays σ6) (fun r9 σ10 => bnd (f_X6_laysAll p0 σ10) (fun r12 σ13 => bnd (f_X6_lights p2 σ13) (fun r15 σ16 => bnd (f_X6_lightNow p0 p1 σ16) (fun r18 σ19 => some (r18, σ19))))) else some (0, σ6)) else bnd (f_X6_isArea p1 σ2) (fun r21 σ22 => if r21 = 0 then bnd (f_X6_isFine 1 σ22) (fun r25 σ26 => if ¬ r25 = 0 then bnd (f_X6_plays σ26) (fun r29 σ30 => bnd (f_X6_laysAll p0 σ30) (fun r32 σ33 => bnd (f_X6_lights p2 σ33) (fun r35 σ36 => bnd (f_X6_lightNow p0 p1 σ36) (fun r38 σ39 => some (r38, σ39))))) else some (0, σ26)) else bnd (f_X6_isTime p2 σ22) (fun r41 σ42 => if ¬ r41 = 0 then bnd (f_X6_isFine 0 σ42) (fun r45 σ46 => if ¬ r45 = 0 then bnd (f_X6_plays σ46) (fun r49 σ50 => bnd (f_X6_laysAll p0 σ50) (fun r52 σ53 => bnd (f_X6_lights p2 σ53) (fun r55 σ56 => bnd (f_X6_lightNow p0 p1 σ56) (fun r58 σ59 => some (r58, σ59))))) else some (0, σ46)) else bnd (f_X6_isFine 2 σ42) (fun r61 σ62 => if ¬ r61 = 0 then bnd (f_X6_plays σ62) (fun r65 σ66 => bnd (f_X6_laysAll p0 σ66) (fun r68 σ69 => bnd (f_X6_lights p2 σ69) (fun r71 σ72 => bnd (f_X6_lightNow p0 p1 σ72) (fun r74 σ75 => some (r74, σ75))))) else some (0, σ62)))))
def F_X6_light : aF := fun As σ => match As with
  | [.int p0, .int p1, .int p2] => f_X6_light p0 p1 p2 σ
  | _ => none
def T_X6_light (Qa : Int32 → aM → Prop) : List aI := [I_iload 1 1, I_callS 1 F_X6_isStage, I_bot, I_bot, I_if (fun x => x = 0) 18, I_bot, I_bot, I_iload 2 1, I_callS 1 F_X6_isArea, I_bot, I_bot, I_if (fun x => x = 0) 18, I_bot, I_bot, I_const 1 1, I_goto 19, I_bot, I_bot, I_const 0 1, I_istore 4 2, I_bot, I_aload 0 1, I_iload 4 2, I_bot, I_if (fun x => ¬ x = 0) 31, I_bot, I_bot, I_const 1 1, I_goto 43, I_bot, I_bot, I_iload 3 1, I_callS 1 F_X6_isTime, I_bot, I_bot, I_if (fun x => ¬ x = 0) 42, I_bot, I_bot, I_const 2 1, I_goto 43, I_bot, I_bot, I_const 0 1, I_callV 6 1 F_X6_isFine, I_bot, I_bot, I_if (fun x => ¬ x = 0) 51, I_bot, I_bot, I_const 0 1, I_iret Qa, I_aload 0 1, I_callVv 6 0 F_X6_plays, I_bot, I_bot, I_aload 0 1, I_iload 1 1, I_callVv 6 1 F_X6_laysAll, I_bot, I_bot, I_aload 0 1, I_iload 3 1, I_callVv 6 1 F_X6_lights, I_bot, I_bot, I_aload 0 1, I_iload 1 1, I_iload 2 1, I_callV 6 2 F_X6_lightNow, I_bot, I_bot, I_iret Qa]
set_option maxHeartbeats 4000000 in
set_option maxRecDepth 100000 in
theorem s_X6_light : runs T_X6_light [.ref 6] 5 F_X6_light := by
  intro Qa K hw hf As σ r σ' h hQ
  unfold F_X6_light at h
  split at h
  · rename_i p0 p1 p2
    unfold f_X6_light at h
    have hQ : Qa (r, σ').1 (r, σ').2 := hQ
    generalize (r, σ') = y at h hQ
    show K (0, [.ref 6, .int p0, .int p1, .int p2, .null], [], σ)
    obtain ⟨r1, σ2, e3, h⟩ := bnd_some h
    refine hw 2 _ ?_
    show ∃ r1 σ2, f_X6_isStage p0 σ = some (r1, σ2) ∧ K (4, [.ref 6, .int p0, .int p1, .int p2, .null], [.int r1], σ2)
    refine ⟨r1, σ2, e3, ?_⟩
    rcases ite_cases h with ⟨c4, h⟩ | ⟨c4, h⟩
    · refine hw 1 _ ?_
      show ((r1 = 0) → K (18, [.ref 6, .int p0, .int p1, .int p2, .null], [], σ2)) ∧ (¬ (r1 = 0) → K (7, [.ref 6, .int p0, .int p1, .int p2, .null], [], σ2))
      refine ⟨fun _ => ?_, fun q => absurd c4 q⟩
      refine hw 5 _ ?_
      show ((¬ (0 : Int32) = 0) → K (31, [.ref 6, .int p0, .int p1, .int p2, .int 0], [.ref 6], σ2)) ∧ (¬ (¬ (0 : Int32) = 0) → K (27, [.ref 6, .int p0, .int p1, .int p2, .int 0], [.ref 6], σ2))
      refine ⟨fun q => absurd q (by decide), fun _ => ?_⟩
      obtain ⟨r5, σ6, e7, h⟩ := bnd_some h
      refine hw 3 _ ?_
      show ∃ r5 σ6, f_X6_isFine 1 σ2 = some (r5, σ6) ∧ K (46, [.ref 6, .int p0, .int p1, .int p2, .int 0], [.int r5], σ6)
      refine ⟨r5, σ6, e7, ?_⟩
      rcases ite_cases h with ⟨c8, h⟩ | ⟨c8, h⟩
      · refine hw 1 _ ?_
        show ((¬ r5 = 0) → K (51, [.ref 6, .int p0, .int p1, .int p2, .int 0], [], σ6)) ∧ (¬ (¬ r5 = 0) → K (49, [.ref 6, .int p0, .int p1, .int p2, .int 0], [], σ6))
        refine ⟨fun _ => ?_, fun q => absurd c8 q⟩
        obtain ⟨r9, σ10, e11, h⟩ := bnd_some h
        refine hw 2 _ ?_
        show ∃ r9 σ10, f_X6_plays σ6 = some (r9, σ10) ∧ K (55, [.ref 6, .int p0, .int p1, .int p2, .int 0], [], σ10)
        refine ⟨r9, σ10, e11, ?_⟩
        obtain ⟨r12, σ13, e14, h⟩ := bnd_some h
        refine hw 3 _ ?_
        show ∃ r12 σ13, f_X6_laysAll p0 σ10 = some (r12, σ13) ∧ K (60, [.ref 6, .int p0, .int p1, .int p2, .int 0], [], σ13)
        refine ⟨r12, σ13, e14, ?_⟩
        obtain ⟨r15, σ16, e17, h⟩ := bnd_some h
        refine hw 3 _ ?_
        show ∃ r15 σ16, f_X6_lights p2 σ13 = some (r15, σ16) ∧ K (65, [.ref 6, .int p0, .int p1, .int p2, .int 0], [], σ16)
        refine ⟨r15, σ16, e17, ?_⟩
        obtain ⟨r18, σ19, e20, h⟩ := bnd_some h
        refine hw 4 _ ?_
        show ∃ r18 σ19, f_X6_lightNow p0 p1 σ16 = some (r18, σ19) ∧ K (71, [.ref 6, .int p0, .int p1, .int p2, .int 0], [.int r18], σ19)
        refine ⟨r18, σ19, e20, ?_⟩
        obtain rfl := Option.some.inj h
        refine hw 1 _ ?_
        show Qa r18 σ19
        refine hQ
      · refine hw 1 _ ?_
        show ((¬ r5 = 0) → K (51, [.ref 6, .int p0, .int p1, .int p2, .int 0], [], σ6)) ∧ (¬ (¬ r5 = 0) → K (49, [.ref 6, .int p0, .int p1, .int p2, .int 0], [], σ6))
        refine ⟨fun q => absurd q c8, fun _ => ?_⟩
        obtain rfl := Option.some.inj h
        refine hw 2 _ ?_
        show Qa 0 σ6
        refine hQ
    · refine hw 1 _ ?_
      show ((r1 = 0) → K (18, [.ref 6, .int p0, .int p1, .int p2, .null], [], σ2)) ∧ (¬ (r1 = 0) → K (7, [.ref 6, .int p0, .int p1, .int p2, .null], [], σ2))
      refine ⟨fun q => absurd q c4, fun _ => ?_⟩
      obtain ⟨r21, σ22, e23, h⟩ := bnd_some h
      refine hw 2 _ ?_
      show ∃ r21 σ22, f_X6_isArea p1 σ2 = some (r21, σ22) ∧ K (11, [.ref 6, .int p0, .int p1, .int p2, .null], [.int r21], σ22)
      refine ⟨r21, σ22, e23, ?_⟩
      rcases ite_cases h with ⟨c24, h⟩ | ⟨c24, h⟩
      · refine hw 1 _ ?_
        show ((r21 = 0) → K (18, [.ref 6, .int p0, .int p1, .int p2, .null], [], σ22)) ∧ (¬ (r21 = 0) → K (14, [.ref 6, .int p0, .int p1, .int p2, .null], [], σ22))
        refine ⟨fun _ => ?_, fun q => absurd c24 q⟩
        refine hw 5 _ ?_
        show ((¬ (0 : Int32) = 0) → K (31, [.ref 6, .int p0, .int p1, .int p2, .int 0], [.ref 6], σ22)) ∧ (¬ (¬ (0 : Int32) = 0) → K (27, [.ref 6, .int p0, .int p1, .int p2, .int 0], [.ref 6], σ22))
        refine ⟨fun q => absurd q (by decide), fun _ => ?_⟩
        obtain ⟨r25, σ26, e27, h⟩ := bnd_some h
        refine hw 3 _ ?_
        show ∃ r25 σ26, f_X6_isFine 1 σ22 = some (r25, σ26) ∧ K (46, [.ref 6, .int p0, .int p1, .int p2, .int 0], [.int r25], σ26)
        refine ⟨r25, σ26, e27, ?_⟩
        rcases ite_cases h with ⟨c28, h⟩ | ⟨c28, h⟩
        · refine hw 1 _ ?_
          show ((¬ r25 = 0) → K (51, [.ref 6, .int p0, .int p1, .int p2, .int 0], [], σ26)) ∧ (¬ (¬ r25 = 0) → K (49, [.ref 6, .int p0, .int p1, .int p2, .int 0], [], σ26))
          refine ⟨fun _ => ?_, fun q => absurd c28 q⟩
          obtain ⟨r29, σ30, e31, h⟩ := bnd_some h
          refine hw 2 _ ?_
          show ∃ r29 σ30, f_X6_plays σ26 = some (r29, σ30) ∧ K (55, [.ref 6, .int p0, .int p1, .int p2, .int 0], [], σ30)
          refine ⟨r29, σ30, e31, ?_⟩
          obtain ⟨r32, σ33, e34, h⟩ := bnd_some h
          refine hw 3 _ ?_
          show ∃ r32 σ33, f_X6_laysAll p0 σ30 = some (r32, σ33) ∧ K (60, [.ref 6, .int p0, .int p1, .int p2, .int 0], [], σ33)
          refine ⟨r32, σ33, e34, ?_⟩
          obtain ⟨r35, σ36, e37, h⟩ := bnd_some h
          refine hw 3 _ ?_
          show ∃ r35 σ36, f_X6_lights p2 σ33 = some (r35, σ36) ∧ K (65, [.ref 6, .int p0, .int p1, .int p2, .int 0], [], σ36)
          refine ⟨r35, σ36, e37, ?_⟩
          obtain ⟨r38, σ39, e40, h⟩ := bnd_some h
          refine hw 4 _ ?_
          show ∃ r38 σ39, f_X6_lightNow p0 p1 σ36 = some (r38, σ39) ∧ K (71, [.ref 6, .int p0, .int p1, .int p2, .int 0], [.int r38], σ39)
          refine ⟨r38, σ39, e40, ?_⟩
          obtain rfl := Option.some.inj h
          refine hw 1 _ ?_
          show Qa r38 σ39
          refine hQ
        · refine hw 1 _ ?_
          show ((¬ r25 = 0) → K (51, [.ref 6, .int p0, .int p1, .int p2, .int 0], [], σ26)) ∧ (¬ (¬ r25 = 0) → K (49, [.ref 6, .int p0, .int p1, .int p2, .int 0], [], σ26))
          refine ⟨fun q => absurd q c28, fun _ => ?_⟩
          obtain rfl := Option.some.inj h
          refine hw 2 _ ?_
          show Qa 0 σ26
          refine hQ
      · refine hw 1 _ ?_
        show ((r21 = 0) → K (18, [.ref 6, .int p0, .int p1, .int p2, .null], [], σ22)) ∧ (¬ (r21 = 0) → K (14, [.ref 6, .int p0, .int p1, .int p2, .null], [], σ22))
        refine ⟨fun q => absurd q c24, fun _ => ?_⟩
        refine hw 6 _ ?_
        show ((¬ (1 : Int32) = 0) → K (31, [.ref 6, .int p0, .int p1, .int p2, .int 1], [.ref 6], σ22)) ∧ (¬ (¬ (1 : Int32) = 0) → K (27, [.ref 6, .int p0, .int p1, .int p2, .int 1], [.ref 6], σ22))
        refine ⟨fun _ => ?_, fun q => absurd (by decide) q⟩
        obtain ⟨r41, σ42, e43, h⟩ := bnd_some h
        refine hw 2 _ ?_
        show ∃ r41 σ42, f_X6_isTime p2 σ22 = some (r41, σ42) ∧ K (35, [.ref 6, .int p0, .int p1, .int p2, .int 1], [.int r41, .ref 6], σ42)
        refine ⟨r41, σ42, e43, ?_⟩
        rcases ite_cases h with ⟨c44, h⟩ | ⟨c44, h⟩
        · refine hw 1 _ ?_
          show ((¬ r41 = 0) → K (42, [.ref 6, .int p0, .int p1, .int p2, .int 1], [.ref 6], σ42)) ∧ (¬ (¬ r41 = 0) → K (38, [.ref 6, .int p0, .int p1, .int p2, .int 1], [.ref 6], σ42))
          refine ⟨fun _ => ?_, fun q => absurd c44 q⟩
          obtain ⟨r45, σ46, e47, h⟩ := bnd_some h
          refine hw 2 _ ?_
          show ∃ r45 σ46, f_X6_isFine 0 σ42 = some (r45, σ46) ∧ K (46, [.ref 6, .int p0, .int p1, .int p2, .int 1], [.int r45], σ46)
          refine ⟨r45, σ46, e47, ?_⟩
          rcases ite_cases h with ⟨c48, h⟩ | ⟨c48, h⟩
          · refine hw 1 _ ?_
            show ((¬ r45 = 0) → K (51, [.ref 6, .int p0, .int p1, .int p2, .int 1], [], σ46)) ∧ (¬ (¬ r45 = 0) → K (49, [.ref 6, .int p0, .int p1, .int p2, .int 1], [], σ46))
            refine ⟨fun _ => ?_, fun q => absurd c48 q⟩
            obtain ⟨r49, σ50, e51, h⟩ := bnd_some h
            refine hw 2 _ ?_
            show ∃ r49 σ50, f_X6_plays σ46 = some (r49, σ50) ∧ K (55, [.ref 6, .int p0, .int p1, .int p2, .int 1], [], σ50)
            refine ⟨r49, σ50, e51, ?_⟩
            obtain ⟨r52, σ53, e54, h⟩ := bnd_some h
            refine hw 3 _ ?_
            show ∃ r52 σ53, f_X6_laysAll p0 σ50 = some (r52, σ53) ∧ K (60, [.ref 6, .int p0, .int p1, .int p2, .int 1], [], σ53)
            refine ⟨r52, σ53, e54, ?_⟩
            obtain ⟨r55, σ56, e57, h⟩ := bnd_some h
            refine hw 3 _ ?_
            show ∃ r55 σ56, f_X6_lights p2 σ53 = some (r55, σ56) ∧ K (65, [.ref 6, .int p0, .int p1, .int p2, .int 1], [], σ56)
            refine ⟨r55, σ56, e57, ?_⟩
            obtain ⟨r58, σ59, e60, h⟩ := bnd_some h
            refine hw 4 _ ?_
            show ∃ r58 σ59, f_X6_lightNow p0 p1 σ56 = some (r58, σ59) ∧ K (71, [.ref 6, .int p0, .int p1, .int p2, .int 1], [.int r58], σ59)
            refine ⟨r58, σ59, e60, ?_⟩
            obtain rfl := Option.some.inj h
            refine hw 1 _ ?_
            show Qa r58 σ59
            refine hQ
          · refine hw 1 _ ?_
            show ((¬ r45 = 0) → K (51, [.ref 6, .int p0, .int p1, .int p2, .int 1], [], σ46)) ∧ (¬ (¬ r45 = 0) → K (49, [.ref 6, .int p0, .int p1, .int p2, .int 1], [], σ46))
            refine ⟨fun q => absurd q c48, fun _ => ?_⟩
            obtain rfl := Option.some.inj h
            refine hw 2 _ ?_
            show Qa 0 σ46
            refine hQ
        · refine hw 1 _ ?_
          show ((¬ r41 = 0) → K (42, [.ref 6, .int p0, .int p1, .int p2, .int 1], [.ref 6], σ42)) ∧ (¬ (¬ r41 = 0) → K (38, [.ref 6, .int p0, .int p1, .int p2, .int 1], [.ref 6], σ42))
          refine ⟨fun q => absurd q c44, fun _ => ?_⟩
          obtain ⟨r61, σ62, e63, h⟩ := bnd_some h
          refine hw 3 _ ?_
          show ∃ r61 σ62, f_X6_isFine 2 σ42 = some (r61, σ62) ∧ K (46, [.ref 6, .int p0, .int p1, .int p2, .int 1], [.int r61], σ62)
          refine ⟨r61, σ62, e63, ?_⟩
          rcases ite_cases h with ⟨c64, h⟩ | ⟨c64, h⟩
          · refine hw 1 _ ?_
            show ((¬ r61 = 0) → K (51, [.ref 6, .int p0, .int p1, .int p2, .int 1], [], σ62)) ∧ (¬ (¬ r61 = 0) → K (49, [.ref 6, .int p0, .int p1, .int p2, .int 1], [], σ62))
            refine ⟨fun _ => ?_, fun q => absurd c64 q⟩
            obtain ⟨r65, σ66, e67, h⟩ := bnd_some h
            refine hw 2 _ ?_
            show ∃ r65 σ66, f_X6_plays σ62 = some (r65, σ66) ∧ K (55, [.ref 6, .int p0, .int p1, .int p2, .int 1], [], σ66)
            refine ⟨r65, σ66, e67, ?_⟩
            obtain ⟨r68, σ69, e70, h⟩ := bnd_some h
            refine hw 3 _ ?_
            show ∃ r68 σ69, f_X6_laysAll p0 σ66 = some (r68, σ69) ∧ K (60, [.ref 6, .int p0, .int p1, .int p2, .int 1], [], σ69)
            refine ⟨r68, σ69, e70, ?_⟩
            obtain ⟨r71, σ72, e73, h⟩ := bnd_some h
            refine hw 3 _ ?_
            show ∃ r71 σ72, f_X6_lights p2 σ69 = some (r71, σ72) ∧ K (65, [.ref 6, .int p0, .int p1, .int p2, .int 1], [], σ72)
            refine ⟨r71, σ72, e73, ?_⟩
            obtain ⟨r74, σ75, e76, h⟩ := bnd_some h
            refine hw 4 _ ?_
            show ∃ r74 σ75, f_X6_lightNow p0 p1 σ72 = some (r74, σ75) ∧ K (71, [.ref 6, .int p0, .int p1, .int p2, .int 1], [.int r74], σ75)
            refine ⟨r74, σ75, e76, ?_⟩
            obtain rfl := Option.some.inj h
            refine hw 1 _ ?_
            show Qa r74 σ75
            refine hQ
          · refine hw 1 _ ?_
            show ((¬ r61 = 0) → K (51, [.ref 6, .int p0, .int p1, .int p2, .int 1], [], σ62)) ∧ (¬ (¬ r61 = 0) → K (49, [.ref 6, .int p0, .int p1, .int p2, .int 1], [], σ62))
            refine ⟨fun q => absurd q c64, fun _ => ?_⟩
            obtain rfl := Option.some.inj h
            refine hw 2 _ ?_
            show Qa 0 σ62
            refine hQ
  · cases h
theorem h_X6_light : shp [.ref 6] 5 F_X6_light := by
  intro As σ r σ' h
  unfold F_X6_light at h
  split at h
  · exact ⟨by simp [Value.category], Nat.le_of_ble_eq_true rfl⟩
  · cases h
set_option maxHeartbeats 4000000 in
set_option maxRecDepth 100000 in
theorem c_X6_light (l : Launch) (D : va_G) (cI cZ cA cL : ClassId) (ad : Nat → Nat) (hi : adI ad) : CtI l yX6_light wsX6_light { frames := 4, cells := 0, slots := 0, locals := 97 } D cI cZ cA cL ad [.ref 6] F_X6_light := by
  refine mk_I [.ref 6] F_X6_light T_X6_light (by decide +kernel) rfl ?_ h_X6_light s_X6_light
  intro p e s m args below meth c Qa ⟨hx, hb, hml, hown, hts, hr, hlocks, hK, hN⟩
  refine ruL_c (n := 0) (n2 := 1) rfl (ru_iload_n (k := 1) hx hb dX6_light_0) ?_
  refine ruL_c (n := 1) (n2 := 2) rfl (ru_callS hx hb hml hown hts hK hN (c_X6_isStage l D cI cZ cA cL ad hi) (va_cwS 1 hts gX6_light_X6_isStage rfl rfl rfl (by decide +kernel) ⟨Nat.le_of_ble_eq_true rfl, Nat.le_of_ble_eq_true rfl⟩) dX6_light_1 ⟨Nat.zero_le _, Nat.zero_le _⟩) ?_
  refine ruL_c (n := 2) (n2 := 3) rfl (ru_bot) ?_
  refine ruL_c (n := 3) (n2 := 4) rfl (ru_bot) ?_
  refine ruL_c (n := 4) (n2 := 5) rfl (ru_ifeq hx hb dX6_light_4 (by decide)) ?_
  refine ruL_c (n := 5) (n2 := 6) rfl (ru_bot) ?_
  refine ruL_c (n := 6) (n2 := 7) rfl (ru_bot) ?_
  refine ruL_c (n := 7) (n2 := 8) rfl (ru_iload_n (k := 2) hx hb dX6_light_7) ?_
  refine ruL_c (n := 8) (n2 := 9) rfl (ru_callS hx hb hml hown hts hK hN (c_X6_isArea l D cI cZ cA cL ad hi) (va_cwS 1 hts gX6_light_X6_isArea rfl rfl rfl (by decide +kernel) ⟨Nat.le_of_ble_eq_true rfl, Nat.le_of_ble_eq_true rfl⟩) dX6_light_8 ⟨Nat.zero_le _, Nat.zero_le _⟩) ?_
  refine ruL_c (n := 9) (n2 := 10) rfl (ru_bot) ?_
  refine ruL_c (n := 10) (n2 := 11) rfl (ru_bot) ?_
  refine ruL_c (n := 11) (n2 := 12) rfl (ru_ifeq hx hb dX6_light_11 (by decide)) ?_
  refine ruL_c (n := 12) (n2 := 13) rfl (ru_bot) ?_
  refine ruL_c (n := 13) (n2 := 14) rfl (ru_bot) ?_
  refine ruL_c (n := 14) (n2 := 15) rfl (ru_iconst hx hb dX6_light_14 rfl) ?_
  refine ruL_c (n := 15) (n2 := 16) rfl (ru_goto hx hb dX6_light_15 (by decide)) ?_
  refine ruL_c (n := 16) (n2 := 17) rfl (ru_bot) ?_
  refine ruL_c (n := 17) (n2 := 18) rfl (ru_bot) ?_
  refine ruL_c (n := 18) (n2 := 19) rfl (ru_iconst hx hb dX6_light_18 rfl) ?_
  refine ruL_c (n := 19) (n2 := 20) rfl (ru_istore hx hb dX6_light_19) ?_
  refine ruL_c (n := 20) (n2 := 21) rfl (ru_bot) ?_
  refine ruL_c (n := 21) (n2 := 22) rfl (ru_aload_n (k := 0) hx hb dX6_light_21) ?_
  refine ruL_c (n := 22) (n2 := 23) rfl (ru_iload hx hb dX6_light_22) ?_
  refine ruL_c (n := 23) (n2 := 24) rfl (ru_bot) ?_
  refine ruL_c (n := 24) (n2 := 25) rfl (ru_ifne hx hb dX6_light_24 (by decide)) ?_
  refine ruL_c (n := 25) (n2 := 26) rfl (ru_bot) ?_
  refine ruL_c (n := 26) (n2 := 27) rfl (ru_bot) ?_
  refine ruL_c (n := 27) (n2 := 28) rfl (ru_iconst hx hb dX6_light_27 rfl) ?_
  refine ruL_c (n := 28) (n2 := 29) rfl (ru_goto hx hb dX6_light_28 (by decide)) ?_
  refine ruL_c (n := 29) (n2 := 30) rfl (ru_bot) ?_
  refine ruL_c (n := 30) (n2 := 31) rfl (ru_bot) ?_
  refine ruL_c (n := 31) (n2 := 32) rfl (ru_iload_n (k := 3) hx hb dX6_light_31) ?_
  refine ruL_c (n := 32) (n2 := 33) rfl (ru_callS hx hb hml hown hts hK hN (c_X6_isTime l D cI cZ cA cL ad hi) (va_cwS 1 hts gX6_light_X6_isTime rfl rfl rfl (by decide +kernel) ⟨Nat.le_of_ble_eq_true rfl, Nat.le_of_ble_eq_true rfl⟩) dX6_light_32 ⟨Nat.zero_le _, Nat.zero_le _⟩) ?_
  refine ruL_c (n := 33) (n2 := 34) rfl (ru_bot) ?_
  refine ruL_c (n := 34) (n2 := 35) rfl (ru_bot) ?_
  refine ruL_c (n := 35) (n2 := 36) rfl (ru_ifne hx hb dX6_light_35 (by decide)) ?_
  refine ruL_c (n := 36) (n2 := 37) rfl (ru_bot) ?_
  refine ruL_c (n := 37) (n2 := 38) rfl (ru_bot) ?_
  refine ruL_c (n := 38) (n2 := 39) rfl (ru_iconst hx hb dX6_light_38 rfl) ?_
  refine ruL_c (n := 39) (n2 := 40) rfl (ru_goto hx hb dX6_light_39 (by decide)) ?_
  refine ruL_c (n := 40) (n2 := 41) rfl (ru_bot) ?_
  refine ruL_c (n := 41) (n2 := 42) rfl (ru_bot) ?_
  refine ruL_c (n := 42) (n2 := 43) rfl (ru_iconst hx hb dX6_light_42 rfl) ?_
  refine ruL_c (n := 43) (n2 := 44) rfl (ru_callV hx hb hml hown hts hK hN (by decide) rfl (c_X6_isFine l D cI cZ cA cL ad hi) (cwV 1 hts gX6_light_X6_isFine rfl rfl rfl (by decide +kernel) ⟨Nat.le_of_ble_eq_true rfl, Nat.le_of_ble_eq_true rfl⟩) dX6_light_43 ⟨Nat.zero_le _, Nat.zero_le _⟩) ?_
  refine ruL_c (n := 44) (n2 := 45) rfl (ru_bot) ?_
  refine ruL_c (n := 45) (n2 := 46) rfl (ru_bot) ?_
  refine ruL_c (n := 46) (n2 := 47) rfl (ru_ifne hx hb dX6_light_46 (by decide)) ?_
  refine ruL_c (n := 47) (n2 := 48) rfl (ru_bot) ?_
  refine ruL_c (n := 48) (n2 := 49) rfl (ru_bot) ?_
  refine ruL_c (n := 49) (n2 := 50) rfl (ru_iconst hx hb dX6_light_49 rfl) ?_
  refine ruL_c (n := 50) (n2 := 51) rfl (ru_iret hx hb hK hr hlocks dX6_light_50) ?_
  refine ruL_c (n := 51) (n2 := 52) rfl (ru_aload_n (k := 0) hx hb dX6_light_51) ?_
  refine ruL_c (n := 52) (n2 := 53) rfl (ru_callVv hx hb hml hown hts hK hN (by decide) rfl (c_X6_plays l D cI cZ cA cL ad hi) (cwV 0 hts gX6_light_X6_plays rfl rfl rfl (by decide +kernel) ⟨Nat.le_of_ble_eq_true rfl, Nat.le_of_ble_eq_true rfl⟩) dX6_light_52 ⟨Nat.zero_le _, Nat.zero_le _⟩) ?_
  refine ruL_c (n := 53) (n2 := 54) rfl (ru_bot) ?_
  refine ruL_c (n := 54) (n2 := 55) rfl (ru_bot) ?_
  refine ruL_c (n := 55) (n2 := 56) rfl (ru_aload_n (k := 0) hx hb dX6_light_55) ?_
  refine ruL_c (n := 56) (n2 := 57) rfl (ru_iload_n (k := 1) hx hb dX6_light_56) ?_
  refine ruL_c (n := 57) (n2 := 58) rfl (ru_callVv hx hb hml hown hts hK hN (by decide) rfl (c_X6_laysAll l D cI cZ cA cL ad hi) (cwV 1 hts gX6_light_X6_laysAll rfl rfl rfl (by decide +kernel) ⟨Nat.le_of_ble_eq_true rfl, Nat.le_of_ble_eq_true rfl⟩) dX6_light_57 ⟨Nat.zero_le _, Nat.zero_le _⟩) ?_
  refine ruL_c (n := 58) (n2 := 59) rfl (ru_bot) ?_
  refine ruL_c (n := 59) (n2 := 60) rfl (ru_bot) ?_
  refine ruL_c (n := 60) (n2 := 61) rfl (ru_aload_n (k := 0) hx hb dX6_light_60) ?_
  refine ruL_c (n := 61) (n2 := 62) rfl (ru_iload_n (k := 3) hx hb dX6_light_61) ?_
  refine ruL_c (n := 62) (n2 := 63) rfl (ru_callVv hx hb hml hown hts hK hN (by decide) rfl (c_X6_lights l D cI cZ cA cL ad hi) (cwV 1 hts gX6_light_X6_lights rfl rfl rfl (by decide +kernel) ⟨Nat.le_of_ble_eq_true rfl, Nat.le_of_ble_eq_true rfl⟩) dX6_light_62 ⟨Nat.zero_le _, Nat.zero_le _⟩) ?_
  refine ruL_c (n := 63) (n2 := 64) rfl (ru_bot) ?_
  refine ruL_c (n := 64) (n2 := 65) rfl (ru_bot) ?_
  refine ruL_c (n := 65) (n2 := 66) rfl (ru_aload_n (k := 0) hx hb dX6_light_65) ?_
  refine ruL_c (n := 66) (n2 := 67) rfl (ru_iload_n (k := 1) hx hb dX6_light_66) ?_
  refine ruL_c (n := 67) (n2 := 68) rfl (ru_iload_n (k := 2) hx hb dX6_light_67) ?_
  refine ruL_c (n := 68) (n2 := 69) rfl (ru_callV hx hb hml hown hts hK hN (by decide) rfl (c_X6_lightNow l D cI cZ cA cL ad hi) (cwV 2 hts gX6_light_X6_lightNow rfl rfl rfl (by decide +kernel) ⟨Nat.le_of_ble_eq_true rfl, Nat.le_of_ble_eq_true rfl⟩) dX6_light_68 ⟨Nat.zero_le _, Nat.zero_le _⟩) ?_
  refine ruL_c (n := 69) (n2 := 70) rfl (ru_bot) ?_
  refine ruL_c (n := 70) (n2 := 71) rfl (ru_bot) ?_
  refine ruL_c (n := 71) (n2 := 72) rfl (ru_iret hx hb hK hr hlocks dX6_light_71) ?_
  exact trivial

