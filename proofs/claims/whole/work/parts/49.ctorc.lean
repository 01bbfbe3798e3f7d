def N_X2 (cI _cZ _cA : ClassId) (h0 : Nat) (u : va_W) : Prop := ∃ (q0 : Nat) (q1 : Nat), u = ((h0, .inr (2, [.ref q0, .ref q1])) :: ([] ++ [(q0, .inl (cI, 10, .inl (ai 10)))] ++ [(q1, .inl (cI, 10, .inl (fun _ => 0)))]) : va_W)
set_option maxHeartbeats 4000000 in
set_option maxRecDepth 100000 in
theorem n_X2 (l : Launch) (D : va_G) (cI cZ cA cL : ClassId) (h0 sz : Nat) : Met l yX2_init wsX2_init { frames := 1, cells := 2, slots := 20, locals := 12 } (va_Pc [.ref h0] (fun U => U.heap.size = sz ∧ va_P D vwCl [(h0, .inr (2, [.null, .null]))] U.heap ∧ va_K D vwCl (TY cI cZ cA cL) U ∧ va_AOA .int U ∧ va_D (fun _ => True) [(h0, .inr (2, [.null, .null]))])) (va_Qv (fun u : va_W => N_X2 cI cZ cA h0 u) (fun u t => va_P D vwCl u t.heap ∧ va_D (va_A [(h0, .inr (2, [.null, .null]))] sz) u) (va_A [(h0, .inr (2, [.null, .null]))] sz)) 2 20 (va_A [(h0, .inr (2, [.null, .null]))] sz) := by
  refine Met.ofW (cc := cX2_init) (maxL := 2) (ret := none) (by decide +kernel) rfl ?_
  intro p e s m args below meth c s₁ B hml hv
  obtain ⟨rfl, hsz, hP, hK, hO, hD0⟩ := hv
  have hx := B.exec
  have hb := B.bytes
  have hr := B.returns
  have hts := atoms_spec (ws := wsX2_init) B.pre
  have hown : s.vm.findClass RX2 = some m.cls := findClass_of_methodNamed B.named
  have hlocks := B.notSynchronized
  have hinit : meth.name = "<init>" := (name_of_methodNamed B.named B.method).1
  subst hsz
  have hD := hD0.self (sz := s.heap.size)
  generalize hAe : va_A [(h0, .inr (2, [.null, .null]))] s.heap.size = A at hD ⊢
  have hA : ∀ q : Nat, s.heap.size ≤ q → A q := fun q h => by rw [← hAe]; exact Or.inr h
  have hS : va_S A s.heap s.heap [] := va_S.rf
  have hl := lv_entry ([.ref h0]) (n := 2) (Nat.le_of_ble_eq_true rfl)
  rw [lg_entry_eq]
  generalize (lg_sl ([.ref h0]) ++ List.replicate (2 - (lg_sl ([.ref h0])).length) Slot.unset).toArray = ls at hl ⊢
  have hl : lv_has ls 2 [(0, .ref h0)] := hl
  have hin : ∀ w ∈ u_ws RX2 TX2 2, w ∈ wsX2_init := by decide +kernel
  have hai : (Cond.arrayClass .int) ∈ wsX2_init := by decide +kernel
  have hl9 : (Cond.fieldLink RX2 9 RX2 (TX2 0).2.1 (TX2 0).2.2.1) ∈ wsX2_init := by decide +kernel
  have hl15 : (Cond.fieldLink RX2 15 RX2 (TX2 1).2.1 (TX2 1).2.2.1) ∈ wsX2_init := by decide +kernel
  have hlg : (Cond.fieldLink RX2 9 RX2 (TX2 0).2.1 (TX2 0).2.2.1) ∈ wsX2_init := by decide +kernel
  refine lv_aload_n hx hb dX2_init_0 rfl (lv_at hl 0 rfl) ?_
  refine W.objInit hx hb hown (hts (.methodLink RX2 3 objectInit) (by decide +kernel)) (hts (.instanceMethod objectInit) (by decide +kernel)) (hts (.code objectInit ⟨#[0xb1]⟩ 1 none) (by decide +kernel)) rfl (by rw [hml]; exact hl.1) rfl dX2_init_1 (Nat.le_of_ble_eq_true rfl) (Nat.le_of_ble_eq_true rfl) ?_
  refine W.eq (g2 := F0 m 4 ls []) rfl ?_
  have key : WC p l e { frames := 1, cells := 2, slots := 20, locals := 12 } s m #[Value.ref h0] below meth c 0 0 (MQ below (va_Qv (fun u : va_W => N_X2 cI cZ cA h0 u) (fun u t => va_P D vwCl u t.heap ∧ va_D A u) A) #[Value.ref h0] s 2 20 A) 2 D A s.heap 2 h0 4 [.null, .null] [] := by
    refine wc_newi (own := RX2) (j := 0) (n := 10) (T := TX2) hx hb hown hK hA hts hin tyX2 tyX2_ok nmX2 rfl (by decide) rfl (Nat.le_of_ble_eq_true rfl) hl9 rfl hinit rfl (by decide +kernel) hai dX2_init_4 (fun _ _ _ _ h => lv_bipush hx hb dX2_init_5 rfl h) rfl (by decide) dX2_init_7 dX2_init_9 (Nat.le_of_ble_eq_true rfl) (Nat.le_of_ble_eq_true rfl) (fun q0 => ?_)
    show WC p l e _ s m _ below meth c 1 10 _ 2 D A s.heap 2 h0 12 [.ref q0, .null] ([] ++ [(q0, .inl (cI, 10, .inl (fun _ => 0)))])
    refine wc_newi (own := RX2) (j := 1) (n := 10) (T := TX2) hx hb hown hK hA hts hin tyX2 tyX2_ok nmX2 rfl (by decide) rfl (Nat.le_of_ble_eq_true rfl) hl15 rfl hinit rfl (by decide +kernel) hai dX2_init_12 (fun _ _ _ _ h => lv_bipush hx hb dX2_init_13 rfl h) rfl (by decide) dX2_init_15 dX2_init_17 (Nat.le_of_ble_eq_true rfl) (Nat.le_of_ble_eq_true rfl) (fun q1 => ?_)
    show WC p l e _ s m _ below meth c 2 20 _ 2 D A s.heap 2 h0 20 [.ref q0, .ref q1] ([] ++ [(q0, .inl (cI, 10, .inl (fun _ => 0)))] ++ [(q1, .inl (cI, 10, .inl (fun _ => 0)))])
    intro H locs ls hl hP hD hS
    refine lv_iconst (v := 0) hx hb dX2_init_20 rfl ?_
    refine lv_istore_n (k := 1) (lv' := [(1, .int 0), (0, .ref h0)]) hx hb dX2_init_21 rfl hl (by decide) rfl (fun ls hl => ?_)
    have lp : ∀ (d i : Nat) (H : Heap) (locs : List Loc) (ls : Array Slot), i + d = 10 → lv_has ls 2 [(1, .int (nI i)), (0, .ref h0)] → va_P D vwCl ((h0, .inr (2, [.ref q0, .ref q1])) :: ([] ++ [(q0, .inl (cI, 10, .inl (ai i)))] ++ [(q1, .inl (cI, 10, .inl (fun _ => 0)))]) : va_W) H → va_D A ((h0, .inr (2, [.ref q0, .ref q1])) :: ([] ++ [(q0, .inl (cI, 10, .inl (ai i)))] ++ [(q1, .inl (cI, 10, .inl (fun _ => 0)))]) : va_W) → va_S A s.heap H locs → W p l e { frames := 1, cells := 2, slots := 20, locals := 12 } s m #[Value.ref h0] below meth c H locs 2 20 (MQ below (va_Qv (fun u : va_W => N_X2 cI cZ cA h0 u) (fun u t => va_P D vwCl u t.heap ∧ va_D A u) A) #[Value.ref h0] s 2 20 A) (F0 m 22 ls []) := by
      intro d
      induction d with
      | zero =>
        intro i H locs ls hi hl hP hD hS
        obtain rfl : i = 10 := by omega
        refine lv_iload_n hx hb dX2_init_22 rfl (lv_at hl 0 rfl) ?_
        refine lv_bipush hx hb dX2_init_23 rfl ?_
        refine lv_icmp_ge (tgt := 43) hx hb dX2_init_25 (by decide) (fun _ => ?_) (fun c9 => absurd (nI_le (a := 10) (b := 10) (Nat.le_refl 10) (by decide)) c9)
        exact W.vret hx hb hr (fun t ht hW => ⟨⟨_, rfl, ⟨q0, q1, rfl⟩, by rw [ht]; exact hP, hD⟩, hS.F ht⟩) hS.2.2 dX2_init_43
      | succ d ih =>
        intro i H locs ls hi hl hP hD hS
        refine lv_iload_n hx hb dX2_init_22 rfl (lv_at hl 0 rfl) ?_
        refine lv_bipush hx hb dX2_init_23 rfl ?_
        refine lv_icmp_ge (tgt := 43) hx hb dX2_init_25 (by decide) (fun c9 => absurd c9 (nI_ge (a := i) (b := 10) (by omega) (by decide))) (fun _ => ?_)
        refine lv_aload_n hx hb dX2_init_28 rfl (lv_at hl 1 rfl) ?_
        refine va_get (D := D) (ci := 2) (v := .ref q0) (C := RX2) (T := TX2) (N := 2) hx hb hts hin hown hK hP 0 rfl rfl 0 (by decide) (hts _ hlg) (fun _ h9 => h9) rfl dX2_init_29 ?_
        refine lv_iload_n hx hb dX2_init_32 rfl (lv_at hl 0 rfl) ?_
        refine lv_iload_n hx hb dX2_init_33 rfl (lv_at hl 0 rfl) ?_
        refine lv_iconst (v := 4) hx hb dX2_init_34 rfl ?_
        refine lv_irem hx hb dX2_init_35 (by decide) ?_
        refine va_iast hx hb hK hP hD hS 1 0 rfl rfl (vp_in_nI (by omega) (by decide)) dX2_init_36 (fun H2 locs2 hP2 hD2 hS2 => ?_)
        rw [ai_s (by omega)] at hP2 hD2
        refine lv_iinc (v := nI (i + 1)) (lv' := [(1, .int (nI (i + 1))), (0, .ref h0)]) hx hb dX2_init_37 hl (k := 0) rfl (nI_1 i) (by decide) rfl (fun ls hl => ?_)
        refine lv_goto (tgt := 22) hx hb dX2_init_40 (by decide) ?_
        exact ih (i + 1) H2 locs2 ls (by omega) hl hP2 hD2 hS2
    exact lp 10 0 H locs ls (by decide) hl (by rw [ai_0]; exact hP) (by rw [ai_0]; exact hD) hS
  exact key s.heap [] ls hl hP hD hS
def N_X6 (cI cZ _cA : ClassId) (h0 : Nat) (u : va_W) : Prop := ∃ (q1 : Nat) (q2 : Nat) (q3 : Nat) (q5 : Nat) (q6 : Nat) (q7 : Nat) (q8 : Nat) (q9 : Nat) (q10 : Nat) (q12 : Nat) (q13 : Nat) (q14 : Nat) (q15 : Nat) (q16 : Nat) (q17 : Nat) (q18 : Nat) (q20 : Nat) (q21 : Nat) (q23 : Nat) (q24 : Nat) (q26 : Nat) (q27 : Nat) (q28 : Nat) (q29 : Nat), u = ((h0, .inr (6, [.int 0, .ref q1, .ref q2, .ref q3, .int 0, .ref q5, .ref q6, .ref q7, .ref q8, .ref q9, .ref q10, .int 0, .ref q12, .ref q13, .ref q14, .ref q15, .ref q16, .ref q17, .ref q18, .int 0, .ref q20, .ref q21, .int 0, .ref q23, .ref q24, .int 0, .ref q26, .ref q27, .ref q28, .ref q29])) :: ([] ++ [(q1, .inl (cI, 30, .inl (fun _ => 0)))] ++ [(q2, .inl (cZ, 30, .inl (fun _ => 0)))] ++ [(q3, .inl (cI, 120, .inl (fun _ => 0)))] ++ [(q5, .inl (cI, 10, .inl (ai 10)))] ++ [(q6, .inl (cI, 10, .inl (fun _ => 0)))] ++ [(q7, .inl (cI, 20, .inl (fun _ => 0)))] ++ [(q8, .inl (cI, 20, .inl (fun _ => 0)))] ++ [(q9, .inl (cI, 20, .inl (fun _ => 0)))] ++ [(q10, .inl (cI, 200, .inl (fun _ => 0)))] ++ [(q12, .inl (cI, 20, .inl (fun _ => 0)))] ++ [(q13, .inl (cI, 20, .inl (fun _ => 0)))] ++ [(q14, .inl (cI, 20, .inl (fun _ => 0)))] ++ [(q15, .inl (cI, 20, .inl (fun _ => 0)))] ++ [(q16, .inl (cI, 20, .inl (fun _ => 0)))] ++ [(q17, .inl (cI, 20, .inl (fun _ => 0)))] ++ [(q18, .inl (cI, 20, .inl (fun _ => 0)))] ++ [(q20, .inl (cI, 20, .inl (fun _ => 0)))] ++ [(q21, .inl (cI, 600, .inl (fun _ => 0)))] ++ [(q23, .inl (cI, 20, .inl (fun _ => 0)))] ++ [(q24, .inl (cI, 20, .inl (fun _ => 0)))] ++ [(q26, .inl (cI, 30, .inl (fun _ => 0)))] ++ [(q27, .inl (cI, 10, .inl (fun _ => 0)))] ++ [(q28, .inl (cI, 10, .inl (fun _ => 0)))] ++ [(q29, .inl (cI, 20, .inl (fun _ => 0)))]) : va_W)
def N_X5 (cI cZ cA : ClassId) (h0 : Nat) (u : va_W) : Prop := ∃ (q0 : Nat) (u0 : va_W) (q1 : Nat) (u1 : va_W) (q2 : Nat) (u2 : va_W) (q3 : Nat) (u3 : va_W) (q4 : Nat) (u4 : va_W) (q5 : Nat) (q6 : Nat) (q7 : Nat) (r7 : Nat → Nat), u = ((h0, .inr (5, [.ref q0, .ref q1, .ref q2, .ref q3, .ref q4, .ref q5, .ref q6, .ref q7])) :: ([] ++ u0 ++ u1 ++ u2 ++ u3 ++ u4 ++ [(q5, .inl (cI, 10, .inl (fun _ => 0)))] ++ [(q6, .inl (cI, 10, .inl (fun _ => 0)))] ++ ((q7, .inl (cA, 30, .inr (.inr (.inr (.inr (fun i => if i < 30 then some (r7 i) else none)))))) :: (List.range 30).map (fun i => (r7 i, .inl (cI, 10, .inl (fun _ => 0)))))) : va_W) ∧ N_X4 cI cZ cA q0 u0 ∧ N_X2 cI cZ cA q1 u1 ∧ N_X1 cI cZ cA q2 u2 ∧ N_X3 cI cZ cA q3 u3 ∧ N_X0 cI cZ cA q4 u4
set_option maxHeartbeats 4000000 in
set_option maxRecDepth 100000 in
theorem n_X5 (l : Launch) (D : va_G) (cI cZ cA cL : ClassId) (h0 sz : Nat) : Met l yX5_init wsX5_init { frames := 2, cells := 152, slots := 1989, locals := 45 } (va_Pc [.ref h0] (fun U => U.heap.size = sz ∧ va_P D vwCl [(h0, .inr (5, [.null, .null, .null, .null, .null, .null, .null, .null]))] U.heap ∧ va_K D vwCl (TY cI cZ cA cL) U ∧ va_AOA .int U ∧ va_D (fun _ => True) [(h0, .inr (5, [.null, .null, .null, .null, .null, .null, .null, .null]))] ∧ NM U)) (va_Qv (fun u : va_W => N_X5 cI cZ cA h0 u) (fun u t => va_P D vwCl u t.heap ∧ va_D (va_A [(h0, .inr (5, [.null, .null, .null, .null, .null, .null, .null, .null]))] sz) u) (va_A [(h0, .inr (5, [.null, .null, .null, .null, .null, .null, .null, .null]))] sz)) 152 1989 (va_A [(h0, .inr (5, [.null, .null, .null, .null, .null, .null, .null, .null]))] sz) := by
  refine Met.ofW (cc := cX5_init) (maxL := 1) (ret := none) (by decide +kernel) rfl ?_
  intro p e s m args below meth c s₁ B hml hv
  obtain ⟨rfl, hsz, hP, hK, hO, hD0, hM⟩ := hv
  have hx := B.exec
  have hb := B.bytes
  have hr := B.returns
  have hts := atoms_spec (ws := wsX5_init) B.pre
  have hown : s.vm.findClass RX5 = some m.cls := findClass_of_methodNamed B.named
  have hlocks := B.notSynchronized
  have hinit : meth.name = "<init>" := (name_of_methodNamed B.named B.method).1
  subst hsz
  have hD := hD0.self (sz := s.heap.size)
  generalize hAe : va_A [(h0, .inr (5, [.null, .null, .null, .null, .null, .null, .null, .null]))] s.heap.size = A at hD ⊢
  have hA : ∀ q : Nat, s.heap.size ≤ q → A q := fun q h => by rw [← hAe]; exact Or.inr h
  have hS : va_S A s.heap s.heap [] := va_S.rf
  have hl := lv_entry ([.ref h0]) (n := 1) (Nat.le_of_ble_eq_true rfl)
  rw [lg_entry_eq]
  generalize (lg_sl ([.ref h0]) ++ List.replicate (1 - (lg_sl ([.ref h0])).length) Slot.unset).toArray = ls at hl ⊢
  have hl : lv_has ls 1 [(0, .ref h0)] := hl
  have hin : ∀ w ∈ u_ws RX5 TX5 8, w ∈ wsX5_init := by decide +kernel
  have hin4 : ∀ w ∈ u_ws RX4 TX4 4, w ∈ wsX5_init := by decide +kernel
  have hc4 : (Cond.classLink RX5 7 RX4) ∈ wsX5_init ∧ (Cond.instantiable RX4 4) ∈ wsX5_init ∧ (Cond.initialized RX4) ∈ wsX5_init := by decide +kernel
  have hl10 : (Cond.fieldLink RX5 10 RX5 (TX5 0).2.1 (TX5 0).2.2.1) ∈ wsX5_init := by decide +kernel
  have hin2 : ∀ w ∈ u_ws RX2 TX2 2, w ∈ wsX5_init := by decide +kernel
  have hc2 : (Cond.classLink RX5 16 RX2) ∈ wsX5_init ∧ (Cond.instantiable RX2 2) ∈ wsX5_init ∧ (Cond.initialized RX2) ∈ wsX5_init := by decide +kernel
  have hl19 : (Cond.fieldLink RX5 19 RX5 (TX5 1).2.1 (TX5 1).2.2.1) ∈ wsX5_init := by decide +kernel
  have hin1 : ∀ w ∈ u_ws RX1 TX1 11, w ∈ wsX5_init := by decide +kernel
  have hc1 : (Cond.classLink RX5 23 RX1) ∈ wsX5_init ∧ (Cond.instantiable RX1 11) ∈ wsX5_init ∧ (Cond.initialized RX1) ∈ wsX5_init := by decide +kernel
  have hl26 : (Cond.fieldLink RX5 26 RX5 (TX5 2).2.1 (TX5 2).2.2.1) ∈ wsX5_init := by decide +kernel
  have hin3 : ∀ w ∈ u_ws RX3 TX3 9, w ∈ wsX5_init := by decide +kernel
  have hc3 : (Cond.classLink RX5 30 RX3) ∈ wsX5_init ∧ (Cond.instantiable RX3 9) ∈ wsX5_init ∧ (Cond.initialized RX3) ∈ wsX5_init := by decide +kernel
  have hl33 : (Cond.fieldLink RX5 33 RX5 (TX5 3).2.1 (TX5 3).2.2.1) ∈ wsX5_init := by decide +kernel
  have hin0 : ∀ w ∈ u_ws RX0 TX0 3, w ∈ wsX5_init := by decide +kernel
  have hc0 : (Cond.classLink RX5 37 RX0) ∈ wsX5_init ∧ (Cond.instantiable RX0 3) ∈ wsX5_init ∧ (Cond.initialized RX0) ∈ wsX5_init := by decide +kernel
  have hl40 : (Cond.fieldLink RX5 40 RX5 (TX5 4).2.1 (TX5 4).2.2.1) ∈ wsX5_init := by decide +kernel
  have hai : (Cond.arrayClass .int) ∈ wsX5_init := by decide +kernel
  have hl44 : (Cond.fieldLink RX5 44 RX5 (TX5 5).2.1 (TX5 5).2.2.1) ∈ wsX5_init := by decide +kernel
  have hl48 : (Cond.fieldLink RX5 48 RX5 (TX5 6).2.1 (TX5 6).2.2.1) ∈ wsX5_init := by decide +kernel
  have hai2 : (Cond.arrayClass .int).before #[Value.ref h0] s = true := hts (.arrayClass .int) (by decide +kernel)
  have hcl7 : (Cond.classLink RX5 51 ("[" ++ (FieldType.array .int).toString)) ∈ wsX5_init := by decide +kernel
  have hl53 : (Cond.fieldLink RX5 53 RX5 (TX5 7).2.1 (TX5 7).2.2.1) ∈ wsX5_init := by decide +kernel
  refine lv_aload_n hx hb dX5_init_0 rfl (lv_at hl 0 rfl) ?_
  refine W.objInit hx hb hown (hts (.methodLink RX5 1 objectInit) (by decide +kernel)) (hts (.instanceMethod objectInit) (by decide +kernel)) (hts (.code objectInit ⟨#[0xb1]⟩ 1 none) (by decide +kernel)) rfl (by rw [hml]; exact hl.1) rfl dX5_init_1 (Nat.le_of_ble_eq_true rfl) (Nat.le_of_ble_eq_true rfl) ?_
  refine W.eq (g2 := F0 m 4 ls []) rfl ?_
  have key : WC p l e { frames := 2, cells := 152, slots := 1989, locals := 45 } s m #[Value.ref h0] below meth c 0 0 (MQ below (va_Qv (fun u : va_W => N_X5 cI cZ cA h0 u) (fun u t => va_P D vwCl u t.heap ∧ va_D A u) A) #[Value.ref h0] s 152 1989 A) 1 D A s.heap 5 h0 4 [.null, .null, .null, .null, .null, .null, .null, .null] [] := by
    refine wc_sub (own := RX5) (j := 0) (T := TX5) (T2 := TX4) (ci2 := 4) (nl2 := [.null, .null, .null, .int 0]) (mc2 := 33) (ms2 := 210) (NX := fun q u => N_X4 cI cZ cA q u) hx hb hown hK hA hts hin tyX5 tyX5_ok nmX5 rfl (by decide) rfl (Nat.le_of_ble_eq_true rfl) hl10 rfl hinit rfl (by decide +kernel) hin4 tyX4 tyX4_ok hc4.1 hc4.2.1 hc4.2.2 rfl (fun j hj => by rcases (show j = 0 ∨ j = 1 ∨ j = 2 ∨ j = 3 by omega) with rfl | rfl | rfl | rfl <;> rfl) dX5_init_4 dX5_init_5 dX5_init_8 dX5_init_12 (Nat.le_of_ble_eq_true rfl) (Nat.le_of_ble_eq_true rfl) (fun q H locs ls hls hq => va_runIN (host := "CueTour") (As := []) (rest := [.ref q, .ref h0]) ⟨hx, hb, hml, hown, hts⟩ (n_X4 l D cI cZ cA cL q H.size) ⟨va_cnB (own := RX5) (host := "CueTour") (index := 9) 0 hts gX5_init_X4_init_n9 rfl rfl rfl (hM _ (List.mem_of_getElem? (i := 0) rfl)) (hts _ hc4.2.2) (by decide +kernel) ⟨Nat.le_of_ble_eq_true rfl, Nat.le_of_ble_eq_true rfl⟩, rfl, hts (.instanceMethod yX4_init) (by decide +kernel)⟩ ⟨pc_blind, fun U hU hW => ⟨rfl, by rw [hU], by rw [hU]; exact hq, va_K.moved hW.alike hK, va_AOA.moved hW.alike hO, one_D⟩⟩ rfl rfl hls rfl (lv_room (Nat.le_of_ble_eq_true rfl)) dX5_init_9 ⟨Nat.le_of_ble_eq_true rfl, Nat.le_of_ble_eq_true rfl⟩) (fun q0 u0 hu0 => ?_)
    show WC p l e _ s m _ below meth c 34 214 _ 1 D A s.heap 5 h0 15 [.ref q0, .null, .null, .null, .null, .null, .null, .null] ([] ++ u0)
    refine wc_sub (own := RX5) (j := 1) (T := TX5) (T2 := TX2) (ci2 := 2) (nl2 := [.null, .null]) (mc2 := 2) (ms2 := 20) (NX := fun q u => N_X2 cI cZ cA q u) hx hb hown hK hA hts hin tyX5 tyX5_ok nmX5 rfl (by decide) rfl (Nat.le_of_ble_eq_true rfl) hl19 rfl hinit rfl (by decide +kernel) hin2 tyX2 tyX2_ok hc2.1 hc2.2.1 hc2.2.2 rfl (fun j hj => by rcases (show j = 0 ∨ j = 1 by omega) with rfl | rfl <;> rfl) dX5_init_15 dX5_init_16 dX5_init_19 dX5_init_23 (Nat.le_of_ble_eq_true rfl) (Nat.le_of_ble_eq_true rfl) (fun q H locs ls hls hq => va_runI (As := []) (rest := [.ref q, .ref h0]) ⟨hx, hb, hml, hown, hts⟩ (n_X2 l D cI cZ cA cL q H.size) (cwI 0 hts gX5_init_X2_init rfl rfl rfl (hts _ hc2.2.2) (hts (.methodLink RX5 18 yX2_init) (by decide +kernel)) (hts (.instanceMethod yX2_init) (by decide +kernel)) rfl (by decide +kernel) ⟨Nat.le_of_ble_eq_true rfl, Nat.le_of_ble_eq_true rfl⟩) ⟨pc_blind, fun U hU hW => ⟨rfl, by rw [hU], by rw [hU]; exact hq, va_K.moved hW.alike hK, va_AOA.moved hW.alike hO, one_D⟩⟩ rfl rfl hls rfl (lv_room (Nat.le_of_ble_eq_true rfl)) dX5_init_20 ⟨Nat.le_of_ble_eq_true rfl, Nat.le_of_ble_eq_true rfl⟩) (fun q1 u1 hu1 => ?_)
    show WC p l e _ s m _ below meth c 37 236 _ 1 D A s.heap 5 h0 26 [.ref q0, .ref q1, .null, .null, .null, .null, .null, .null] ([] ++ u0 ++ u1)
    refine wc_sub (own := RX5) (j := 2) (T := TX5) (T2 := TX1) (ci2 := 1) (nl2 := [.null, .null, .null, .null, .int 0, .null, .null, .null, .null, .null, .int 0]) (mc2 := 49) (ms2 := 580) (NX := fun q u => N_X1 cI cZ cA q u) hx hb hown hK hA hts hin tyX5 tyX5_ok nmX5 rfl (by decide) rfl (Nat.le_of_ble_eq_true rfl) hl26 rfl hinit rfl (by decide +kernel) hin1 tyX1 tyX1_ok hc1.1 hc1.2.1 hc1.2.2 rfl (fun j hj => by rcases (show j = 0 ∨ j = 1 ∨ j = 2 ∨ j = 3 ∨ j = 4 ∨ j = 5 ∨ j = 6 ∨ j = 7 ∨ j = 8 ∨ j = 9 ∨ j = 10 by omega) with rfl | rfl | rfl | rfl | rfl | rfl | rfl | rfl | rfl | rfl | rfl <;> rfl) dX5_init_26 dX5_init_27 dX5_init_30 dX5_init_34 (Nat.le_of_ble_eq_true rfl) (Nat.le_of_ble_eq_true rfl) (fun q H locs ls hls hq => va_runIN (host := "CueTour") (As := []) (rest := [.ref q, .ref h0]) ⟨hx, hb, hml, hown, hts⟩ (n_X1 l D cI cZ cA cL q H.size) ⟨va_cnB (own := RX5) (host := "CueTour") (index := 25) 0 hts gX5_init_X1_init_n25 rfl rfl rfl (hM _ (List.mem_of_getElem? (i := 1) rfl)) (hts _ hc1.2.2) (by decide +kernel) ⟨Nat.le_of_ble_eq_true rfl, Nat.le_of_ble_eq_true rfl⟩, rfl, hts (.instanceMethod yX1_init) (by decide +kernel)⟩ ⟨pc_blind, fun U hU hW => ⟨rfl, by rw [hU], by rw [hU]; exact hq, va_K.moved hW.alike hK, va_AOA.moved hW.alike hO, one_D⟩⟩ rfl rfl hls rfl (lv_room (Nat.le_of_ble_eq_true rfl)) dX5_init_31 ⟨Nat.le_of_ble_eq_true rfl, Nat.le_of_ble_eq_true rfl⟩) (fun q2 u2 hu2 => ?_)
    show WC p l e _ s m _ below meth c 87 827 _ 1 D A s.heap 5 h0 37 [.ref q0, .ref q1, .ref q2, .null, .null, .null, .null, .null] ([] ++ u0 ++ u1 ++ u2)
    refine wc_sub (own := RX5) (j := 3) (T := TX5) (T2 := TX3) (ci2 := 3) (nl2 := [.null, .null, .null, .null, .null, .null, .null, .null, .int 0]) (mc2 := 8) (ms2 := 160) (NX := fun q u => N_X3 cI cZ cA q u) hx hb hown hK hA hts hin tyX5 tyX5_ok nmX5 rfl (by decide) rfl (Nat.le_of_ble_eq_true rfl) hl33 rfl hinit rfl (by decide +kernel) hin3 tyX3 tyX3_ok hc3.1 hc3.2.1 hc3.2.2 rfl (fun j hj => by rcases (show j = 0 ∨ j = 1 ∨ j = 2 ∨ j = 3 ∨ j = 4 ∨ j = 5 ∨ j = 6 ∨ j = 7 ∨ j = 8 by omega) with rfl | rfl | rfl | rfl | rfl | rfl | rfl | rfl | rfl <;> rfl) dX5_init_37 dX5_init_38 dX5_init_41 dX5_init_45 (Nat.le_of_ble_eq_true rfl) (Nat.le_of_ble_eq_true rfl) (fun q H locs ls hls hq => va_runIN (host := "CueTour") (As := []) (rest := [.ref q, .ref h0]) ⟨hx, hb, hml, hown, hts⟩ (n_X3 l D cI cZ cA cL q H.size) ⟨va_cnB (own := RX5) (host := "CueTour") (index := 32) 0 hts gX5_init_X3_init_n32 rfl rfl rfl (hM _ (List.mem_of_getElem? (i := 2) rfl)) (hts _ hc3.2.2) (by decide +kernel) ⟨Nat.le_of_ble_eq_true rfl, Nat.le_of_ble_eq_true rfl⟩, rfl, hts (.instanceMethod yX3_init) (by decide +kernel)⟩ ⟨pc_blind, fun U hU hW => ⟨rfl, by rw [hU], by rw [hU]; exact hq, va_K.moved hW.alike hK, va_AOA.moved hW.alike hO, one_D⟩⟩ rfl rfl hls rfl (lv_room (Nat.le_of_ble_eq_true rfl)) dX5_init_42 ⟨Nat.le_of_ble_eq_true rfl, Nat.le_of_ble_eq_true rfl⟩) (fun q3 u3 hu3 => ?_)
    show WC p l e _ s m _ below meth c 96 996 _ 1 D A s.heap 5 h0 48 [.ref q0, .ref q1, .ref q2, .ref q3, .null, .null, .null, .null] ([] ++ u0 ++ u1 ++ u2 ++ u3)
    refine wc_sub (own := RX5) (j := 4) (T := TX5) (T2 := TX0) (ci2 := 0) (nl2 := [.null, .null, .int 0]) (mc2 := 22) (ms2 := 640) (NX := fun q u => N_X0 cI cZ cA q u) hx hb hown hK hA hts hin tyX5 tyX5_ok nmX5 rfl (by decide) rfl (Nat.le_of_ble_eq_true rfl) hl40 rfl hinit rfl (by decide +kernel) hin0 tyX0 tyX0_ok hc0.1 hc0.2.1 hc0.2.2 rfl (fun j hj => by rcases (show j = 0 ∨ j = 1 ∨ j = 2 by omega) with rfl | rfl | rfl <;> rfl) dX5_init_48 dX5_init_49 dX5_init_52 dX5_init_56 (Nat.le_of_ble_eq_true rfl) (Nat.le_of_ble_eq_true rfl) (fun q H locs ls hls hq => va_runIN (host := "CueTour") (As := []) (rest := [.ref q, .ref h0]) ⟨hx, hb, hml, hown, hts⟩ (n_X0 l D cI cZ cA cL q H.size) ⟨va_cnB (own := RX5) (host := "CueTour") (index := 39) 0 hts gX5_init_X0_init_n39 rfl rfl rfl (hM _ (List.mem_of_getElem? (i := 3) rfl)) (hts _ hc0.2.2) (by decide +kernel) ⟨Nat.le_of_ble_eq_true rfl, Nat.le_of_ble_eq_true rfl⟩, rfl, hts (.instanceMethod yX0_init) (by decide +kernel)⟩ ⟨pc_blind, fun U hU hW => ⟨rfl, by rw [hU], by rw [hU]; exact hq, va_K.moved hW.alike hK, va_AOA.moved hW.alike hO, one_D⟩⟩ rfl rfl hls rfl (lv_room (Nat.le_of_ble_eq_true rfl)) dX5_init_53 ⟨Nat.le_of_ble_eq_true rfl, Nat.le_of_ble_eq_true rfl⟩) (fun q4 u4 hu4 => ?_)
    show WC p l e _ s m _ below meth c 119 1639 _ 1 D A s.heap 5 h0 59 [.ref q0, .ref q1, .ref q2, .ref q3, .ref q4, .null, .null, .null] ([] ++ u0 ++ u1 ++ u2 ++ u3 ++ u4)
    refine wc_newi (own := RX5) (j := 5) (n := 10) (T := TX5) hx hb hown hK hA hts hin tyX5 tyX5_ok nmX5 rfl (by decide) rfl (Nat.le_of_ble_eq_true rfl) hl44 rfl hinit rfl (by decide +kernel) hai dX5_init_59 (fun _ _ _ _ h => lv_bipush hx hb dX5_init_60 rfl h) rfl (by decide) dX5_init_62 dX5_init_64 (Nat.le_of_ble_eq_true rfl) (Nat.le_of_ble_eq_true rfl) (fun q5 => ?_)
    show WC p l e _ s m _ below meth c 120 1649 _ 1 D A s.heap 5 h0 67 [.ref q0, .ref q1, .ref q2, .ref q3, .ref q4, .ref q5, .null, .null] ([] ++ u0 ++ u1 ++ u2 ++ u3 ++ u4 ++ [(q5, .inl (cI, 10, .inl (fun _ => 0)))])
    refine wc_newi (own := RX5) (j := 6) (n := 10) (T := TX5) hx hb hown hK hA hts hin tyX5 tyX5_ok nmX5 rfl (by decide) rfl (Nat.le_of_ble_eq_true rfl) hl48 rfl hinit rfl (by decide +kernel) hai dX5_init_67 (fun _ _ _ _ h => lv_bipush hx hb dX5_init_68 rfl h) rfl (by decide) dX5_init_70 dX5_init_72 (Nat.le_of_ble_eq_true rfl) (Nat.le_of_ble_eq_true rfl) (fun q6 => ?_)
    show WC p l e _ s m _ below meth c 121 1659 _ 1 D A s.heap 5 h0 75 [.ref q0, .ref q1, .ref q2, .ref q3, .ref q4, .ref q5, .ref q6, .null] ([] ++ u0 ++ u1 ++ u2 ++ u3 ++ u4 ++ [(q5, .inl (cI, 10, .inl (fun _ => 0)))] ++ [(q6, .inl (cI, 10, .inl (fun _ => 0)))])
    refine wc_mna (own := RX5) (j := 7) (n := 30) (k := 10) (T := TX5) hx hb hown hK hA hts hin tyX5 tyX5_ok nmX5 rfl (by decide) rfl (Nat.le_of_ble_eq_true rfl) hl53 rfl hinit rfl (by decide +kernel) hcl7 hO hai2 dX5_init_75 (fun _ _ _ _ h => lv_bipush hx hb dX5_init_76 rfl h) (fun _ _ _ _ h => lv_bipush hx hb dX5_init_78 rfl h) rfl rfl (by decide) (by decide) dX5_init_80 dX5_init_84 (Nat.le_of_ble_eq_true rfl) (Nat.le_of_ble_eq_true rfl) (fun q7 r7 => ?_)
    show WC p l e _ s m _ below meth c 152 1989 _ 1 D A s.heap 5 h0 87 [.ref q0, .ref q1, .ref q2, .ref q3, .ref q4, .ref q5, .ref q6, .ref q7] ([] ++ u0 ++ u1 ++ u2 ++ u3 ++ u4 ++ [(q5, .inl (cI, 10, .inl (fun _ => 0)))] ++ [(q6, .inl (cI, 10, .inl (fun _ => 0)))] ++ ((q7, .inl (cA, 30, .inr (.inr (.inr (.inr (fun i => if i < 30 then some (r7 i) else none)))))) :: (List.range 30).map (fun i => (r7 i, .inl (cI, 10, .inl (fun _ => 0))))))
    intro H locs ls hl hP hD hS
    exact W.vret hx hb hr (fun t ht hW => ⟨⟨_, rfl, ⟨q0, u0, q1, u1, q2, u2, q3, u3, q4, u4, q5, q6, q7, r7, rfl, hu0, hu1, hu2, hu3, hu4⟩, by rw [ht]; exact hP, hD⟩, hS.F ht⟩) hS.2.2 dX5_init_87
  exact key s.heap [] ls hl hP hD hS
