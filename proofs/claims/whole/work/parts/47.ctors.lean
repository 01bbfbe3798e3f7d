def N_X4 (cI cZ cA : ClassId) (h0 : Nat) (u : va_W) : Prop := ∃ (q0 : Nat) (q1 : Nat) (q2 : Nat) (r2 : Nat → Nat), u = (h0, .inr (4, [.ref q0, .ref q1, .ref q2, .int 0])) :: ([] ++ [(q0, .inl (cI, 30, .inl (fun _ => 0)))] ++ [(q1, .inl (cZ, 30, .inl (fun _ => 0)))] ++ ((q2, .inl (cA, 30, .inr (.inr (.inr (.inr (fun i => if i < 30 then some (r2 i) else none)))))) :: (List.range 30).map (fun i => (r2 i, .inl (cI, 4, .inl (fun _ => 0))))))
set_option maxHeartbeats 4000000 in
set_option maxRecDepth 100000 in
theorem n_X4 (l : Launch) (D : va_G) (cI cZ cA cL : ClassId) (h0 sz : Nat) : Met l yX4_init wsX4_init { frames := 1, cells := 33, slots := 210, locals := 12 } (va_Pc [.ref h0] (fun U => U.heap.size = sz ∧ va_P D vwCl [(h0, .inr (4, [.null, .null, .null, .int 0]))] U.heap ∧ va_K D vwCl (TY cI cZ cA cL) U ∧ va_AOA .int U ∧ va_D (fun _ => True) [(h0, .inr (4, [.null, .null, .null, .int 0]))])) (va_Qv (fun u : va_W => N_X4 cI cZ cA h0 u) (fun u t => va_P D vwCl u t.heap ∧ va_D (va_A [(h0, .inr (4, [.null, .null, .null, .int 0]))] sz) u) (va_A [(h0, .inr (4, [.null, .null, .null, .int 0]))] sz)) 33 210 (va_A [(h0, .inr (4, [.null, .null, .null, .int 0]))] sz) := by
  refine Met.ofW (cc := cX4_init) (maxL := 1) (ret := none) (by decide +kernel) rfl ?_
  intro p e s m args below meth c s₁ B hml hv
  obtain ⟨rfl, hsz, hP, hK, hO, hD0⟩ := hv
  have hx := B.exec
  have hb := B.bytes
  have hr := B.returns
  have hts := atoms_spec (ws := wsX4_init) B.pre
  have hown : s.vm.findClass RX4 = some m.cls := findClass_of_methodNamed B.named
  have hlocks := B.notSynchronized
  have hinit : meth.name = "<init>" := (name_of_methodNamed B.named B.method).1
  subst hsz
  have hD := hD0.self (sz := s.heap.size)
  generalize hAe : va_A [(h0, .inr (4, [.null, .null, .null, .int 0]))] s.heap.size = A at hD ⊢
  have hA : ∀ q : Nat, s.heap.size ≤ q → A q := fun q h => by rw [← hAe]; exact Or.inr h
  have hS : va_S A s.heap s.heap [] := va_S.rf
  have hl := lv_entry ([.ref h0]) (n := 1) (Nat.le_of_ble_eq_true rfl)
  rw [lg_entry_eq]
  generalize (lg_sl ([.ref h0]) ++ List.replicate (1 - (lg_sl ([.ref h0])).length) Slot.unset).toArray = ls at hl ⊢
  have hl : lv_has ls 1 [(0, .ref h0)] := hl
  have hin : ∀ w ∈ u_ws RX4 TX4 4, w ∈ wsX4_init := by decide +kernel
  have hai : (Cond.arrayClass .int) ∈ wsX4_init := by decide +kernel
  have hl9 : (Cond.fieldLink RX4 9 RX4 (TX4 0).2.1 (TX4 0).2.2.1) ∈ wsX4_init := by decide +kernel
  have haz : (Cond.arrayClass .boolean) ∈ wsX4_init := by decide +kernel
  have hl15 : (Cond.fieldLink RX4 15 RX4 (TX4 1).2.1 (TX4 1).2.2.1) ∈ wsX4_init := by decide +kernel
  have hai2 : (Cond.arrayClass .int).before #[Value.ref h0] s = true := hts (.arrayClass .int) (by decide +kernel)
  have hcl2 : (Cond.classLink RX4 19 ("[" ++ (FieldType.array .int).toString)) ∈ wsX4_init := by decide +kernel
  have hl21 : (Cond.fieldLink RX4 21 RX4 (TX4 2).2.1 (TX4 2).2.2.1) ∈ wsX4_init := by decide +kernel
  have hl24 : (Cond.fieldLink RX4 24 RX4 (TX4 3).2.1 (TX4 3).2.2.1) ∈ wsX4_init := by decide +kernel
  refine lv_aload_n hx hb dX4_init_0 rfl (lv_at hl 0 rfl) ?_
  refine W.objInit hx hb hown (hts (.methodLink RX4 3 objectInit) (by decide +kernel)) (hts (.instanceMethod objectInit) (by decide +kernel)) (hts (.code objectInit ⟨#[0xb1]⟩ 1 none) (by decide +kernel)) rfl (by rw [hml]; exact hl.1) rfl dX4_init_1 (Nat.le_of_ble_eq_true rfl) (Nat.le_of_ble_eq_true rfl) ?_
  refine W.eq (g2 := F0 m 4 ls []) rfl ?_
  have key : WC p l e { frames := 1, cells := 33, slots := 210, locals := 12 } s m #[Value.ref h0] below meth c 0 0 (MQ below (va_Qv (fun u : va_W => N_X4 cI cZ cA h0 u) (fun u t => va_P D vwCl u t.heap ∧ va_D A u) A) #[Value.ref h0] s 33 210 A) 1 D A s.heap 4 h0 4 [.null, .null, .null, .int 0] [] := by
    refine wc_newi (own := RX4) (j := 0) (n := 30) (T := TX4) hx hb hown hK hA hts hin tyX4 tyX4_ok nmX4 rfl (by decide) rfl (Nat.le_of_ble_eq_true rfl) hl9 rfl hinit rfl (by decide +kernel) hai dX4_init_4 (fun _ _ _ _ h => lv_bipush hx hb dX4_init_5 rfl h) rfl (by decide) dX4_init_7 dX4_init_9 (Nat.le_of_ble_eq_true rfl) (Nat.le_of_ble_eq_true rfl) (fun q0 => ?_)
    refine wc_newz (own := RX4) (j := 1) (n := 30) (T := TX4) hx hb hown hK hA hts hin tyX4 tyX4_ok nmX4 rfl (by decide) rfl (Nat.le_of_ble_eq_true rfl) hl15 rfl hinit rfl (by decide +kernel) haz dX4_init_12 (fun _ _ _ _ h => lv_bipush hx hb dX4_init_13 rfl h) rfl (by decide) dX4_init_15 dX4_init_17 (Nat.le_of_ble_eq_true rfl) (Nat.le_of_ble_eq_true rfl) (fun q1 => ?_)
    refine wc_mna (own := RX4) (j := 2) (n := 30) (k := 4) (T := TX4) hx hb hown hK hA hts hin tyX4 tyX4_ok nmX4 rfl (by decide) rfl (Nat.le_of_ble_eq_true rfl) hl21 rfl hinit rfl (by decide +kernel) hcl2 hO hai2 dX4_init_20 (fun _ _ _ _ h => lv_bipush hx hb dX4_init_21 rfl h) (fun _ _ _ _ h => lv_iconst hx hb dX4_init_23 rfl h) rfl rfl (by decide) (by decide) dX4_init_24 dX4_init_28 (Nat.le_of_ble_eq_true rfl) (Nat.le_of_ble_eq_true rfl) (fun q2 r2 => ?_)
    refine wc_put0 (own := RX4) (j := 3) (T := TX4) hx hb hown hK hts hin tyX4 tyX4_ok nmX4 rfl (by decide) rfl (Nat.le_of_ble_eq_true rfl) hl24 rfl (by decide +kernel) dX4_init_31 dX4_init_32 dX4_init_33 ?_
    intro H locs ls hl hP hD hS
    exact W.vret hx hb hr (fun t ht hW => ⟨⟨_, rfl, ⟨q0, q1, q2, r2, rfl⟩, by rw [ht]; exact hP, hD⟩, hS.F ht⟩) hS.2.2 dX4_init_36
  exact key s.heap [] ls hl hP hD hS
def N_X3 (cI cZ cA : ClassId) (h0 : Nat) (u : va_W) : Prop := ∃ (q0 : Nat) (q1 : Nat) (q2 : Nat) (q3 : Nat) (q4 : Nat) (q5 : Nat) (q6 : Nat) (q7 : Nat), u = (h0, .inr (3, [.ref q0, .ref q1, .ref q2, .ref q3, .ref q4, .ref q5, .ref q6, .ref q7, .int 0])) :: ([] ++ [(q0, .inl (cI, 20, .inl (fun _ => 0)))] ++ [(q1, .inl (cI, 20, .inl (fun _ => 0)))] ++ [(q2, .inl (cI, 20, .inl (fun _ => 0)))] ++ [(q3, .inl (cI, 20, .inl (fun _ => 0)))] ++ [(q4, .inl (cI, 20, .inl (fun _ => 0)))] ++ [(q5, .inl (cI, 20, .inl (fun _ => 0)))] ++ [(q6, .inl (cI, 20, .inl (fun _ => 0)))] ++ [(q7, .inl (cI, 20, .inl (fun _ => 0)))])
set_option maxHeartbeats 4000000 in
set_option maxRecDepth 100000 in
theorem n_X3 (l : Launch) (D : va_G) (cI cZ cA cL : ClassId) (h0 sz : Nat) : Met l yX3_init wsX3_init { frames := 1, cells := 8, slots := 160, locals := 12 } (va_Pc [.ref h0] (fun U => U.heap.size = sz ∧ va_P D vwCl [(h0, .inr (3, [.null, .null, .null, .null, .null, .null, .null, .null, .int 0]))] U.heap ∧ va_K D vwCl (TY cI cZ cA cL) U ∧ va_AOA .int U ∧ va_D (fun _ => True) [(h0, .inr (3, [.null, .null, .null, .null, .null, .null, .null, .null, .int 0]))])) (va_Qv (fun u : va_W => N_X3 cI cZ cA h0 u) (fun u t => va_P D vwCl u t.heap ∧ va_D (va_A [(h0, .inr (3, [.null, .null, .null, .null, .null, .null, .null, .null, .int 0]))] sz) u) (va_A [(h0, .inr (3, [.null, .null, .null, .null, .null, .null, .null, .null, .int 0]))] sz)) 8 160 (va_A [(h0, .inr (3, [.null, .null, .null, .null, .null, .null, .null, .null, .int 0]))] sz) := by
  refine Met.ofW (cc := cX3_init) (maxL := 1) (ret := none) (by decide +kernel) rfl ?_
  intro p e s m args below meth c s₁ B hml hv
  obtain ⟨rfl, hsz, hP, hK, hO, hD0⟩ := hv
  have hx := B.exec
  have hb := B.bytes
  have hr := B.returns
  have hts := atoms_spec (ws := wsX3_init) B.pre
  have hown : s.vm.findClass RX3 = some m.cls := findClass_of_methodNamed B.named
  have hlocks := B.notSynchronized
  have hinit : meth.name = "<init>" := (name_of_methodNamed B.named B.method).1
  subst hsz
  have hD := hD0.self (sz := s.heap.size)
  generalize hAe : va_A [(h0, .inr (3, [.null, .null, .null, .null, .null, .null, .null, .null, .int 0]))] s.heap.size = A at hD ⊢
  have hA : ∀ q : Nat, s.heap.size ≤ q → A q := fun q h => by rw [← hAe]; exact Or.inr h
  have hS : va_S A s.heap s.heap [] := va_S.rf
  have hl := lv_entry ([.ref h0]) (n := 1) (Nat.le_of_ble_eq_true rfl)
  rw [lg_entry_eq]
  generalize (lg_sl ([.ref h0]) ++ List.replicate (1 - (lg_sl ([.ref h0])).length) Slot.unset).toArray = ls at hl ⊢
  have hl : lv_has ls 1 [(0, .ref h0)] := hl
  have hin : ∀ w ∈ u_ws RX3 TX3 9, w ∈ wsX3_init := by decide +kernel
  have hai : (Cond.arrayClass .int) ∈ wsX3_init := by decide +kernel
  have hl9 : (Cond.fieldLink RX3 9 RX3 (TX3 0).2.1 (TX3 0).2.2.1) ∈ wsX3_init := by decide +kernel
  have hl15 : (Cond.fieldLink RX3 15 RX3 (TX3 1).2.1 (TX3 1).2.2.1) ∈ wsX3_init := by decide +kernel
  have hl18 : (Cond.fieldLink RX3 18 RX3 (TX3 2).2.1 (TX3 2).2.2.1) ∈ wsX3_init := by decide +kernel
  have hl21 : (Cond.fieldLink RX3 21 RX3 (TX3 3).2.1 (TX3 3).2.2.1) ∈ wsX3_init := by decide +kernel
  have hl24 : (Cond.fieldLink RX3 24 RX3 (TX3 4).2.1 (TX3 4).2.2.1) ∈ wsX3_init := by decide +kernel
  have hl27 : (Cond.fieldLink RX3 27 RX3 (TX3 5).2.1 (TX3 5).2.2.1) ∈ wsX3_init := by decide +kernel
  have hl30 : (Cond.fieldLink RX3 30 RX3 (TX3 6).2.1 (TX3 6).2.2.1) ∈ wsX3_init := by decide +kernel
  have hl33 : (Cond.fieldLink RX3 33 RX3 (TX3 7).2.1 (TX3 7).2.2.1) ∈ wsX3_init := by decide +kernel
  have hl36 : (Cond.fieldLink RX3 36 RX3 (TX3 8).2.1 (TX3 8).2.2.1) ∈ wsX3_init := by decide +kernel
  refine lv_aload_n hx hb dX3_init_0 rfl (lv_at hl 0 rfl) ?_
  refine W.objInit hx hb hown (hts (.methodLink RX3 3 objectInit) (by decide +kernel)) (hts (.instanceMethod objectInit) (by decide +kernel)) (hts (.code objectInit ⟨#[0xb1]⟩ 1 none) (by decide +kernel)) rfl (by rw [hml]; exact hl.1) rfl dX3_init_1 (Nat.le_of_ble_eq_true rfl) (Nat.le_of_ble_eq_true rfl) ?_
  refine W.eq (g2 := F0 m 4 ls []) rfl ?_
  have key : WC p l e { frames := 1, cells := 8, slots := 160, locals := 12 } s m #[Value.ref h0] below meth c 0 0 (MQ below (va_Qv (fun u : va_W => N_X3 cI cZ cA h0 u) (fun u t => va_P D vwCl u t.heap ∧ va_D A u) A) #[Value.ref h0] s 8 160 A) 1 D A s.heap 3 h0 4 [.null, .null, .null, .null, .null, .null, .null, .null, .int 0] [] := by
    refine wc_newi (own := RX3) (j := 0) (n := 20) (T := TX3) hx hb hown hK hA hts hin tyX3 tyX3_ok nmX3 rfl (by decide) rfl (Nat.le_of_ble_eq_true rfl) hl9 rfl hinit rfl (by decide +kernel) hai dX3_init_4 (fun _ _ _ _ h => lv_bipush hx hb dX3_init_5 rfl h) rfl (by decide) dX3_init_7 dX3_init_9 (Nat.le_of_ble_eq_true rfl) (Nat.le_of_ble_eq_true rfl) (fun q0 => ?_)
    refine wc_newi (own := RX3) (j := 1) (n := 20) (T := TX3) hx hb hown hK hA hts hin tyX3 tyX3_ok nmX3 rfl (by decide) rfl (Nat.le_of_ble_eq_true rfl) hl15 rfl hinit rfl (by decide +kernel) hai dX3_init_12 (fun _ _ _ _ h => lv_bipush hx hb dX3_init_13 rfl h) rfl (by decide) dX3_init_15 dX3_init_17 (Nat.le_of_ble_eq_true rfl) (Nat.le_of_ble_eq_true rfl) (fun q1 => ?_)
    refine wc_newi (own := RX3) (j := 2) (n := 20) (T := TX3) hx hb hown hK hA hts hin tyX3 tyX3_ok nmX3 rfl (by decide) rfl (Nat.le_of_ble_eq_true rfl) hl18 rfl hinit rfl (by decide +kernel) hai dX3_init_20 (fun _ _ _ _ h => lv_bipush hx hb dX3_init_21 rfl h) rfl (by decide) dX3_init_23 dX3_init_25 (Nat.le_of_ble_eq_true rfl) (Nat.le_of_ble_eq_true rfl) (fun q2 => ?_)
    refine wc_newi (own := RX3) (j := 3) (n := 20) (T := TX3) hx hb hown hK hA hts hin tyX3 tyX3_ok nmX3 rfl (by decide) rfl (Nat.le_of_ble_eq_true rfl) hl21 rfl hinit rfl (by decide +kernel) hai dX3_init_28 (fun _ _ _ _ h => lv_bipush hx hb dX3_init_29 rfl h) rfl (by decide) dX3_init_31 dX3_init_33 (Nat.le_of_ble_eq_true rfl) (Nat.le_of_ble_eq_true rfl) (fun q3 => ?_)
    refine wc_newi (own := RX3) (j := 4) (n := 20) (T := TX3) hx hb hown hK hA hts hin tyX3 tyX3_ok nmX3 rfl (by decide) rfl (Nat.le_of_ble_eq_true rfl) hl24 rfl hinit rfl (by decide +kernel) hai dX3_init_36 (fun _ _ _ _ h => lv_bipush hx hb dX3_init_37 rfl h) rfl (by decide) dX3_init_39 dX3_init_41 (Nat.le_of_ble_eq_true rfl) (Nat.le_of_ble_eq_true rfl) (fun q4 => ?_)
    refine wc_newi (own := RX3) (j := 5) (n := 20) (T := TX3) hx hb hown hK hA hts hin tyX3 tyX3_ok nmX3 rfl (by decide) rfl (Nat.le_of_ble_eq_true rfl) hl27 rfl hinit rfl (by decide +kernel) hai dX3_init_44 (fun _ _ _ _ h => lv_bipush hx hb dX3_init_45 rfl h) rfl (by decide) dX3_init_47 dX3_init_49 (Nat.le_of_ble_eq_true rfl) (Nat.le_of_ble_eq_true rfl) (fun q5 => ?_)
    refine wc_newi (own := RX3) (j := 6) (n := 20) (T := TX3) hx hb hown hK hA hts hin tyX3 tyX3_ok nmX3 rfl (by decide) rfl (Nat.le_of_ble_eq_true rfl) hl30 rfl hinit rfl (by decide +kernel) hai dX3_init_52 (fun _ _ _ _ h => lv_bipush hx hb dX3_init_53 rfl h) rfl (by decide) dX3_init_55 dX3_init_57 (Nat.le_of_ble_eq_true rfl) (Nat.le_of_ble_eq_true rfl) (fun q6 => ?_)
    refine wc_newi (own := RX3) (j := 7) (n := 20) (T := TX3) hx hb hown hK hA hts hin tyX3 tyX3_ok nmX3 rfl (by decide) rfl (Nat.le_of_ble_eq_true rfl) hl33 rfl hinit rfl (by decide +kernel) hai dX3_init_60 (fun _ _ _ _ h => lv_bipush hx hb dX3_init_61 rfl h) rfl (by decide) dX3_init_63 dX3_init_65 (Nat.le_of_ble_eq_true rfl) (Nat.le_of_ble_eq_true rfl) (fun q7 => ?_)
    refine wc_put0 (own := RX3) (j := 8) (T := TX3) hx hb hown hK hts hin tyX3 tyX3_ok nmX3 rfl (by decide) rfl (Nat.le_of_ble_eq_true rfl) hl36 rfl (by decide +kernel) dX3_init_68 dX3_init_69 dX3_init_70 ?_
    intro H locs ls hl hP hD hS
    exact W.vret hx hb hr (fun t ht hW => ⟨⟨_, rfl, ⟨q0, q1, q2, q3, q4, q5, q6, q7, rfl⟩, by rw [ht]; exact hP, hD⟩, hS.F ht⟩) hS.2.2 dX3_init_73
  exact key s.heap [] ls hl hP hD hS
def N_X1 (cI cZ cA : ClassId) (h0 : Nat) (u : va_W) : Prop := ∃ (q0 : Nat) (q1 : Nat) (q2 : Nat) (q3 : Nat) (r3 : Nat → Nat) (q5 : Nat) (q6 : Nat) (q7 : Nat) (q8 : Nat) (r8 : Nat → Nat) (q9 : Nat), u = (h0, .inr (1, [.ref q0, .ref q1, .ref q2, .ref q3, .int 0, .ref q5, .ref q6, .ref q7, .ref q8, .ref q9, .int 0])) :: ([] ++ [(q0, .inl (cI, 20, .inl (fun _ => 0)))] ++ [(q1, .inl (cI, 20, .inl (fun _ => 0)))] ++ [(q2, .inl (cI, 20, .inl (fun _ => 0)))] ++ ((q3, .inl (cA, 20, .inr (.inr (.inr (.inr (fun i => if i < 20 then some (r3 i) else none)))))) :: (List.range 20).map (fun i => (r3 i, .inl (cI, 10, .inl (fun _ => 0))))) ++ [(q5, .inl (cI, 20, .inl (fun _ => 0)))] ++ [(q6, .inl (cI, 20, .inl (fun _ => 0)))] ++ [(q7, .inl (cI, 20, .inl (fun _ => 0)))] ++ ((q8, .inl (cA, 20, .inr (.inr (.inr (.inr (fun i => if i < 20 then some (r8 i) else none)))))) :: (List.range 20).map (fun i => (r8 i, .inl (cI, 10, .inl (fun _ => 0))))) ++ [(q9, .inl (cI, 20, .inl (fun _ => 0)))])
set_option maxHeartbeats 4000000 in
set_option maxRecDepth 100000 in
theorem n_X1 (l : Launch) (D : va_G) (cI cZ cA cL : ClassId) (h0 sz : Nat) : Met l yX1_init wsX1_init { frames := 1, cells := 49, slots := 580, locals := 12 } (va_Pc [.ref h0] (fun U => U.heap.size = sz ∧ va_P D vwCl [(h0, .inr (1, [.null, .null, .null, .null, .int 0, .null, .null, .null, .null, .null, .int 0]))] U.heap ∧ va_K D vwCl (TY cI cZ cA cL) U ∧ va_AOA .int U ∧ va_D (fun _ => True) [(h0, .inr (1, [.null, .null, .null, .null, .int 0, .null, .null, .null, .null, .null, .int 0]))])) (va_Qv (fun u : va_W => N_X1 cI cZ cA h0 u) (fun u t => va_P D vwCl u t.heap ∧ va_D (va_A [(h0, .inr (1, [.null, .null, .null, .null, .int 0, .null, .null, .null, .null, .null, .int 0]))] sz) u) (va_A [(h0, .inr (1, [.null, .null, .null, .null, .int 0, .null, .null, .null, .null, .null, .int 0]))] sz)) 49 580 (va_A [(h0, .inr (1, [.null, .null, .null, .null, .int 0, .null, .null, .null, .null, .null, .int 0]))] sz) := by
  refine Met.ofW (cc := cX1_init) (maxL := 1) (ret := none) (by decide +kernel) rfl ?_
  intro p e s m args below meth c s₁ B hml hv
  obtain ⟨rfl, hsz, hP, hK, hO, hD0⟩ := hv
  have hx := B.exec
  have hb := B.bytes
  have hr := B.returns
  have hts := atoms_spec (ws := wsX1_init) B.pre
  have hown : s.vm.findClass RX1 = some m.cls := findClass_of_methodNamed B.named
  have hlocks := B.notSynchronized
  have hinit : meth.name = "<init>" := (name_of_methodNamed B.named B.method).1
  subst hsz
  have hD := hD0.self (sz := s.heap.size)
  generalize hAe : va_A [(h0, .inr (1, [.null, .null, .null, .null, .int 0, .null, .null, .null, .null, .null, .int 0]))] s.heap.size = A at hD ⊢
  have hA : ∀ q : Nat, s.heap.size ≤ q → A q := fun q h => by rw [← hAe]; exact Or.inr h
  have hS : va_S A s.heap s.heap [] := va_S.rf
  have hl := lv_entry ([.ref h0]) (n := 1) (Nat.le_of_ble_eq_true rfl)
  rw [lg_entry_eq]
  generalize (lg_sl ([.ref h0]) ++ List.replicate (1 - (lg_sl ([.ref h0])).length) Slot.unset).toArray = ls at hl ⊢
  have hl : lv_has ls 1 [(0, .ref h0)] := hl
  have hin : ∀ w ∈ u_ws RX1 TX1 11, w ∈ wsX1_init := by decide +kernel
  have hai : (Cond.arrayClass .int) ∈ wsX1_init := by decide +kernel
  have hl9 : (Cond.fieldLink RX1 9 RX1 (TX1 0).2.1 (TX1 0).2.2.1) ∈ wsX1_init := by decide +kernel
  have hl15 : (Cond.fieldLink RX1 15 RX1 (TX1 1).2.1 (TX1 1).2.2.1) ∈ wsX1_init := by decide +kernel
  have hl18 : (Cond.fieldLink RX1 18 RX1 (TX1 2).2.1 (TX1 2).2.2.1) ∈ wsX1_init := by decide +kernel
  have hai2 : (Cond.arrayClass .int).before #[Value.ref h0] s = true := hts (.arrayClass .int) (by decide +kernel)
  have hcl3 : (Cond.classLink RX1 21 ("[" ++ (FieldType.array .int).toString)) ∈ wsX1_init := by decide +kernel
  have hl23 : (Cond.fieldLink RX1 23 RX1 (TX1 3).2.1 (TX1 3).2.2.1) ∈ wsX1_init := by decide +kernel
  have hl26 : (Cond.fieldLink RX1 26 RX1 (TX1 4).2.1 (TX1 4).2.2.1) ∈ wsX1_init := by decide +kernel
  have hl30 : (Cond.fieldLink RX1 30 RX1 (TX1 5).2.1 (TX1 5).2.2.1) ∈ wsX1_init := by decide +kernel
  have hl33 : (Cond.fieldLink RX1 33 RX1 (TX1 6).2.1 (TX1 6).2.2.1) ∈ wsX1_init := by decide +kernel
  have hl36 : (Cond.fieldLink RX1 36 RX1 (TX1 7).2.1 (TX1 7).2.2.1) ∈ wsX1_init := by decide +kernel
  have hcl8 : (Cond.classLink RX1 21 ("[" ++ (FieldType.array .int).toString)) ∈ wsX1_init := by decide +kernel
  have hl39 : (Cond.fieldLink RX1 39 RX1 (TX1 8).2.1 (TX1 8).2.2.1) ∈ wsX1_init := by decide +kernel
  have hl42 : (Cond.fieldLink RX1 42 RX1 (TX1 9).2.1 (TX1 9).2.2.1) ∈ wsX1_init := by decide +kernel
  have hl45 : (Cond.fieldLink RX1 45 RX1 (TX1 10).2.1 (TX1 10).2.2.1) ∈ wsX1_init := by decide +kernel
  refine lv_aload_n hx hb dX1_init_0 rfl (lv_at hl 0 rfl) ?_
  refine W.objInit hx hb hown (hts (.methodLink RX1 3 objectInit) (by decide +kernel)) (hts (.instanceMethod objectInit) (by decide +kernel)) (hts (.code objectInit ⟨#[0xb1]⟩ 1 none) (by decide +kernel)) rfl (by rw [hml]; exact hl.1) rfl dX1_init_1 (Nat.le_of_ble_eq_true rfl) (Nat.le_of_ble_eq_true rfl) ?_
  refine W.eq (g2 := F0 m 4 ls []) rfl ?_
  have key : WC p l e { frames := 1, cells := 49, slots := 580, locals := 12 } s m #[Value.ref h0] below meth c 0 0 (MQ below (va_Qv (fun u : va_W => N_X1 cI cZ cA h0 u) (fun u t => va_P D vwCl u t.heap ∧ va_D A u) A) #[Value.ref h0] s 49 580 A) 1 D A s.heap 1 h0 4 [.null, .null, .null, .null, .int 0, .null, .null, .null, .null, .null, .int 0] [] := by
    refine wc_newi (own := RX1) (j := 0) (n := 20) (T := TX1) hx hb hown hK hA hts hin tyX1 tyX1_ok nmX1 rfl (by decide) rfl (Nat.le_of_ble_eq_true rfl) hl9 rfl hinit rfl (by decide +kernel) hai dX1_init_4 (fun _ _ _ _ h => lv_bipush hx hb dX1_init_5 rfl h) rfl (by decide) dX1_init_7 dX1_init_9 (Nat.le_of_ble_eq_true rfl) (Nat.le_of_ble_eq_true rfl) (fun q0 => ?_)
    refine wc_newi (own := RX1) (j := 1) (n := 20) (T := TX1) hx hb hown hK hA hts hin tyX1 tyX1_ok nmX1 rfl (by decide) rfl (Nat.le_of_ble_eq_true rfl) hl15 rfl hinit rfl (by decide +kernel) hai dX1_init_12 (fun _ _ _ _ h => lv_bipush hx hb dX1_init_13 rfl h) rfl (by decide) dX1_init_15 dX1_init_17 (Nat.le_of_ble_eq_true rfl) (Nat.le_of_ble_eq_true rfl) (fun q1 => ?_)
    refine wc_newi (own := RX1) (j := 2) (n := 20) (T := TX1) hx hb hown hK hA hts hin tyX1 tyX1_ok nmX1 rfl (by decide) rfl (Nat.le_of_ble_eq_true rfl) hl18 rfl hinit rfl (by decide +kernel) hai dX1_init_20 (fun _ _ _ _ h => lv_bipush hx hb dX1_init_21 rfl h) rfl (by decide) dX1_init_23 dX1_init_25 (Nat.le_of_ble_eq_true rfl) (Nat.le_of_ble_eq_true rfl) (fun q2 => ?_)
    refine wc_mna (own := RX1) (j := 3) (n := 20) (k := 10) (T := TX1) hx hb hown hK hA hts hin tyX1 tyX1_ok nmX1 rfl (by decide) rfl (Nat.le_of_ble_eq_true rfl) hl23 rfl hinit rfl (by decide +kernel) hcl3 hO hai2 dX1_init_28 (fun _ _ _ _ h => lv_bipush hx hb dX1_init_29 rfl h) (fun _ _ _ _ h => lv_bipush hx hb dX1_init_31 rfl h) rfl rfl (by decide) (by decide) dX1_init_33 dX1_init_37 (Nat.le_of_ble_eq_true rfl) (Nat.le_of_ble_eq_true rfl) (fun q3 r3 => ?_)
    refine wc_put0 (own := RX1) (j := 4) (T := TX1) hx hb hown hK hts hin tyX1 tyX1_ok nmX1 rfl (by decide) rfl (Nat.le_of_ble_eq_true rfl) hl26 rfl (by decide +kernel) dX1_init_40 dX1_init_41 dX1_init_42 ?_
    refine wc_newi (own := RX1) (j := 5) (n := 20) (T := TX1) hx hb hown hK hA hts hin tyX1 tyX1_ok nmX1 rfl (by decide) rfl (Nat.le_of_ble_eq_true rfl) hl30 rfl hinit rfl (by decide +kernel) hai dX1_init_45 (fun _ _ _ _ h => lv_bipush hx hb dX1_init_46 rfl h) rfl (by decide) dX1_init_48 dX1_init_50 (Nat.le_of_ble_eq_true rfl) (Nat.le_of_ble_eq_true rfl) (fun q5 => ?_)
    refine wc_newi (own := RX1) (j := 6) (n := 20) (T := TX1) hx hb hown hK hA hts hin tyX1 tyX1_ok nmX1 rfl (by decide) rfl (Nat.le_of_ble_eq_true rfl) hl33 rfl hinit rfl (by decide +kernel) hai dX1_init_53 (fun _ _ _ _ h => lv_bipush hx hb dX1_init_54 rfl h) rfl (by decide) dX1_init_56 dX1_init_58 (Nat.le_of_ble_eq_true rfl) (Nat.le_of_ble_eq_true rfl) (fun q6 => ?_)
    refine wc_newi (own := RX1) (j := 7) (n := 20) (T := TX1) hx hb hown hK hA hts hin tyX1 tyX1_ok nmX1 rfl (by decide) rfl (Nat.le_of_ble_eq_true rfl) hl36 rfl hinit rfl (by decide +kernel) hai dX1_init_61 (fun _ _ _ _ h => lv_bipush hx hb dX1_init_62 rfl h) rfl (by decide) dX1_init_64 dX1_init_66 (Nat.le_of_ble_eq_true rfl) (Nat.le_of_ble_eq_true rfl) (fun q7 => ?_)
    refine wc_mna (own := RX1) (j := 8) (n := 20) (k := 10) (T := TX1) hx hb hown hK hA hts hin tyX1 tyX1_ok nmX1 rfl (by decide) rfl (Nat.le_of_ble_eq_true rfl) hl39 rfl hinit rfl (by decide +kernel) hcl8 hO hai2 dX1_init_69 (fun _ _ _ _ h => lv_bipush hx hb dX1_init_70 rfl h) (fun _ _ _ _ h => lv_bipush hx hb dX1_init_72 rfl h) rfl rfl (by decide) (by decide) dX1_init_74 dX1_init_78 (Nat.le_of_ble_eq_true rfl) (Nat.le_of_ble_eq_true rfl) (fun q8 r8 => ?_)
    refine wc_newi (own := RX1) (j := 9) (n := 20) (T := TX1) hx hb hown hK hA hts hin tyX1 tyX1_ok nmX1 rfl (by decide) rfl (Nat.le_of_ble_eq_true rfl) hl42 rfl hinit rfl (by decide +kernel) hai dX1_init_81 (fun _ _ _ _ h => lv_bipush hx hb dX1_init_82 rfl h) rfl (by decide) dX1_init_84 dX1_init_86 (Nat.le_of_ble_eq_true rfl) (Nat.le_of_ble_eq_true rfl) (fun q9 => ?_)
    refine wc_put0 (own := RX1) (j := 10) (T := TX1) hx hb hown hK hts hin tyX1 tyX1_ok nmX1 rfl (by decide) rfl (Nat.le_of_ble_eq_true rfl) hl45 rfl (by decide +kernel) dX1_init_89 dX1_init_90 dX1_init_91 ?_
    intro H locs ls hl hP hD hS
    exact W.vret hx hb hr (fun t ht hW => ⟨⟨_, rfl, ⟨q0, q1, q2, q3, r3, q5, q6, q7, q8, r8, q9, rfl⟩, by rw [ht]; exact hP, hD⟩, hS.F ht⟩) hS.2.2 dX1_init_94
  exact key s.heap [] ls hl hP hD hS
def N_X0 (cI cZ cA : ClassId) (h0 : Nat) (u : va_W) : Prop := ∃ (q0 : Nat) (q1 : Nat) (r1 : Nat → Nat), u = (h0, .inr (0, [.ref q0, .ref q1, .int 0])) :: ([] ++ [(q0, .inl (cI, 20, .inl (fun _ => 0)))] ++ ((q1, .inl (cA, 20, .inr (.inr (.inr (.inr (fun i => if i < 20 then some (r1 i) else none)))))) :: (List.range 20).map (fun i => (r1 i, .inl (cI, 30, .inl (fun _ => 0))))))
set_option maxHeartbeats 4000000 in
set_option maxRecDepth 100000 in
theorem n_X0 (l : Launch) (D : va_G) (cI cZ cA cL : ClassId) (h0 sz : Nat) : Met l yX0_init wsX0_init { frames := 1, cells := 22, slots := 640, locals := 12 } (va_Pc [.ref h0] (fun U => U.heap.size = sz ∧ va_P D vwCl [(h0, .inr (0, [.null, .null, .int 0]))] U.heap ∧ va_K D vwCl (TY cI cZ cA cL) U ∧ va_AOA .int U ∧ va_D (fun _ => True) [(h0, .inr (0, [.null, .null, .int 0]))])) (va_Qv (fun u : va_W => N_X0 cI cZ cA h0 u) (fun u t => va_P D vwCl u t.heap ∧ va_D (va_A [(h0, .inr (0, [.null, .null, .int 0]))] sz) u) (va_A [(h0, .inr (0, [.null, .null, .int 0]))] sz)) 22 640 (va_A [(h0, .inr (0, [.null, .null, .int 0]))] sz) := by
  refine Met.ofW (cc := cX0_init) (maxL := 1) (ret := none) (by decide +kernel) rfl ?_
  intro p e s m args below meth c s₁ B hml hv
  obtain ⟨rfl, hsz, hP, hK, hO, hD0⟩ := hv
  have hx := B.exec
  have hb := B.bytes
  have hr := B.returns
  have hts := atoms_spec (ws := wsX0_init) B.pre
  have hown : s.vm.findClass RX0 = some m.cls := findClass_of_methodNamed B.named
  have hlocks := B.notSynchronized
  have hinit : meth.name = "<init>" := (name_of_methodNamed B.named B.method).1
  subst hsz
  have hD := hD0.self (sz := s.heap.size)
  generalize hAe : va_A [(h0, .inr (0, [.null, .null, .int 0]))] s.heap.size = A at hD ⊢
  have hA : ∀ q : Nat, s.heap.size ≤ q → A q := fun q h => by rw [← hAe]; exact Or.inr h
  have hS : va_S A s.heap s.heap [] := va_S.rf
  have hl := lv_entry ([.ref h0]) (n := 1) (Nat.le_of_ble_eq_true rfl)
  rw [lg_entry_eq]
  generalize (lg_sl ([.ref h0]) ++ List.replicate (1 - (lg_sl ([.ref h0])).length) Slot.unset).toArray = ls at hl ⊢
  have hl : lv_has ls 1 [(0, .ref h0)] := hl
  have hin : ∀ w ∈ u_ws RX0 TX0 3, w ∈ wsX0_init := by decide +kernel
  have hai : (Cond.arrayClass .int) ∈ wsX0_init := by decide +kernel
  have hl9 : (Cond.fieldLink RX0 9 RX0 (TX0 0).2.1 (TX0 0).2.2.1) ∈ wsX0_init := by decide +kernel
  have hai2 : (Cond.arrayClass .int).before #[Value.ref h0] s = true := hts (.arrayClass .int) (by decide +kernel)
  have hcl1 : (Cond.classLink RX0 15 ("[" ++ (FieldType.array .int).toString)) ∈ wsX0_init := by decide +kernel
  have hl17 : (Cond.fieldLink RX0 17 RX0 (TX0 1).2.1 (TX0 1).2.2.1) ∈ wsX0_init := by decide +kernel
  have hl20 : (Cond.fieldLink RX0 20 RX0 (TX0 2).2.1 (TX0 2).2.2.1) ∈ wsX0_init := by decide +kernel
  refine lv_aload_n hx hb dX0_init_0 rfl (lv_at hl 0 rfl) ?_
  refine W.objInit hx hb hown (hts (.methodLink RX0 3 objectInit) (by decide +kernel)) (hts (.instanceMethod objectInit) (by decide +kernel)) (hts (.code objectInit ⟨#[0xb1]⟩ 1 none) (by decide +kernel)) rfl (by rw [hml]; exact hl.1) rfl dX0_init_1 (Nat.le_of_ble_eq_true rfl) (Nat.le_of_ble_eq_true rfl) ?_
  refine W.eq (g2 := F0 m 4 ls []) rfl ?_
  have key : WC p l e { frames := 1, cells := 22, slots := 640, locals := 12 } s m #[Value.ref h0] below meth c 0 0 (MQ below (va_Qv (fun u : va_W => N_X0 cI cZ cA h0 u) (fun u t => va_P D vwCl u t.heap ∧ va_D A u) A) #[Value.ref h0] s 22 640 A) 1 D A s.heap 0 h0 4 [.null, .null, .int 0] [] := by
    refine wc_newi (own := RX0) (j := 0) (n := 20) (T := TX0) hx hb hown hK hA hts hin tyX0 tyX0_ok nmX0 rfl (by decide) rfl (Nat.le_of_ble_eq_true rfl) hl9 rfl hinit rfl (by decide +kernel) hai dX0_init_4 (fun _ _ _ _ h => lv_bipush hx hb dX0_init_5 rfl h) rfl (by decide) dX0_init_7 dX0_init_9 (Nat.le_of_ble_eq_true rfl) (Nat.le_of_ble_eq_true rfl) (fun q0 => ?_)
    refine wc_mna (own := RX0) (j := 1) (n := 20) (k := 30) (T := TX0) hx hb hown hK hA hts hin tyX0 tyX0_ok nmX0 rfl (by decide) rfl (Nat.le_of_ble_eq_true rfl) hl17 rfl hinit rfl (by decide +kernel) hcl1 hO hai2 dX0_init_12 (fun _ _ _ _ h => lv_bipush hx hb dX0_init_13 rfl h) (fun _ _ _ _ h => lv_bipush hx hb dX0_init_15 rfl h) rfl rfl (by decide) (by decide) dX0_init_17 dX0_init_21 (Nat.le_of_ble_eq_true rfl) (Nat.le_of_ble_eq_true rfl) (fun q1 r1 => ?_)
    refine wc_put0 (own := RX0) (j := 2) (T := TX0) hx hb hown hK hts hin tyX0 tyX0_ok nmX0 rfl (by decide) rfl (Nat.le_of_ble_eq_true rfl) hl20 rfl (by decide +kernel) dX0_init_24 dX0_init_25 dX0_init_26 ?_
    intro H locs ls hl hP hD hS
    exact W.vret hx hb hr (fun t ht hW => ⟨⟨_, rfl, ⟨q0, q1, r1, rfl⟩, by rw [ht]; exact hP, hD⟩, hS.F ht⟩) hS.2.2 dX0_init_29
  exact key s.heap [] ls hl hP hD hS
