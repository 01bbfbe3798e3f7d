set_option maxHeartbeats 4000000 in
set_option maxRecDepth 100000 in
theorem zz_X6 (l : Launch) (D : va_G) (cI cZ cA cL : ClassId) (h0 sz : Nat) : Met l yX6_init wsX6_init { frames := 1, cells := 24, slots := 1330, locals := 12 } (va_Pc [.ref h0] (fun U => U.heap.size = sz ∧ va_P D vwCl [(h0, .inr (6, [.int 0, .null, .null, .null, .int 0, .null, .null, .null, .null, .null, .null, .int 0, .null, .null, .null, .null, .null, .null, .null, .int 0, .null, .null, .int 0, .null, .null, .int 0, .null, .null, .null, .null]))] U.heap ∧ va_K D vwCl (TY cI cZ cA cL) U ∧ va_AOA .int U ∧ va_D (fun _ => True) [(h0, .inr (6, [.int 0, .null, .null, .null, .int 0, .null, .null, .null, .null, .null, .null, .int 0, .null, .null, .null, .null, .null, .null, .null, .int 0, .null, .null, .int 0, .null, .null, .int 0, .null, .null, .null, .null]))])) (va_Qv (fun u : va_W => N_X6 cI cZ cA h0 u) (fun u t => va_P D vwCl u t.heap ∧ va_D (va_A [(h0, .inr (6, [.int 0, .null, .null, .null, .int 0, .null, .null, .null, .null, .null, .null, .int 0, .null, .null, .null, .null, .null, .null, .null, .int 0, .null, .null, .int 0, .null, .null, .int 0, .null, .null, .null, .null]))] sz) u) (va_A [(h0, .inr (6, [.int 0, .null, .null, .null, .int 0, .null, .null, .null, .null, .null, .null, .int 0, .null, .null, .null, .null, .null, .null, .null, .int 0, .null, .null, .int 0, .null, .null, .int 0, .null, .null, .null, .null]))] sz)) 24 1330 (va_A [(h0, .inr (6, [.int 0, .null, .null, .null, .int 0, .null, .null, .null, .null, .null, .null, .int 0, .null, .null, .null, .null, .null, .null, .null, .int 0, .null, .null, .int 0, .null, .null, .int 0, .null, .null, .null, .null]))] sz) := by
  refine Met.ofW (cc := cX6_init) (maxL := 2) (ret := none) (by decide +kernel) rfl ?_
  intro p e s m args below meth c s₁ B hml hv
  obtain ⟨rfl, hsz, hP, hK, hO, hD0⟩ := hv
  have hx := B.exec
  have hb := B.bytes
  have hr := B.returns
  have hts := atoms_spec (ws := wsX6_init) B.pre
  have hown : s.vm.findClass RX6 = some m.cls := findClass_of_methodNamed B.named
  have hlocks := B.notSynchronized
  have hinit : meth.name = "<init>" := (name_of_methodNamed B.named B.method).1
  subst hsz
  have hD := hD0.self (sz := s.heap.size)
  generalize hAe : va_A [(h0, .inr (6, [.int 0, .null, .null, .null, .int 0, .null, .null, .null, .null, .null, .null, .int 0, .null, .null, .null, .null, .null, .null, .null, .int 0, .null, .null, .int 0, .null, .null, .int 0, .null, .null, .null, .null]))] s.heap.size = A at hD ⊢
  have hA : ∀ q : Nat, s.heap.size ≤ q → A q := fun q h => by rw [← hAe]; exact Or.inr h
  have hS : va_S A s.heap s.heap [] := va_S.rf
  have hl := lv_entry ([.ref h0]) (n := 2) (Nat.le_of_ble_eq_true rfl)
  rw [lg_entry_eq]
  generalize (lg_sl ([.ref h0]) ++ List.replicate (2 - (lg_sl ([.ref h0])).length) Slot.unset).toArray = ls at hl ⊢
  have hl : lv_has ls 2 [(0, .ref h0)] := hl
  have hin : ∀ w ∈ u_ws RX6 TX6 30, w ∈ wsX6_init := by decide +kernel
  have hai : (Cond.arrayClass .int) ∈ wsX6_init := by decide +kernel
  have hl7 : (Cond.fieldLink RX6 7 RX6 (TX6 1).2.1 (TX6 1).2.2.1) ∈ wsX6_init := by decide +kernel
  have haz : (Cond.arrayClass .boolean) ∈ wsX6_init := by decide +kernel
  have hl13 : (Cond.fieldLink RX6 13 RX6 (TX6 2).2.1 (TX6 2).2.2.1) ∈ wsX6_init := by decide +kernel
  have hl17 : (Cond.fieldLink RX6 17 RX6 (TX6 3).2.1 (TX6 3).2.2.1) ∈ wsX6_init := by decide +kernel
  have hl20 : (Cond.fieldLink RX6 20 RX6 (TX6 5).2.1 (TX6 5).2.2.1) ∈ wsX6_init := by decide +kernel
  have hl23 : (Cond.fieldLink RX6 23 RX6 (TX6 6).2.1 (TX6 6).2.2.1) ∈ wsX6_init := by decide +kernel
  have hl26 : (Cond.fieldLink RX6 26 RX6 (TX6 7).2.1 (TX6 7).2.2.1) ∈ wsX6_init := by decide +kernel
  have hl29 : (Cond.fieldLink RX6 29 RX6 (TX6 8).2.1 (TX6 8).2.2.1) ∈ wsX6_init := by decide +kernel
  have hl32 : (Cond.fieldLink RX6 32 RX6 (TX6 9).2.1 (TX6 9).2.2.1) ∈ wsX6_init := by decide +kernel
  have hl35 : (Cond.fieldLink RX6 35 RX6 (TX6 10).2.1 (TX6 10).2.2.1) ∈ wsX6_init := by decide +kernel
  have hl38 : (Cond.fieldLink RX6 38 RX6 (TX6 12).2.1 (TX6 12).2.2.1) ∈ wsX6_init := by decide +kernel
  have hl41 : (Cond.fieldLink RX6 41 RX6 (TX6 13).2.1 (TX6 13).2.2.1) ∈ wsX6_init := by decide +kernel
  have hl44 : (Cond.fieldLink RX6 44 RX6 (TX6 14).2.1 (TX6 14).2.2.1) ∈ wsX6_init := by decide +kernel
  have hl47 : (Cond.fieldLink RX6 47 RX6 (TX6 15).2.1 (TX6 15).2.2.1) ∈ wsX6_init := by decide +kernel
  have hl50 : (Cond.fieldLink RX6 50 RX6 (TX6 16).2.1 (TX6 16).2.2.1) ∈ wsX6_init := by decide +kernel
  have hl53 : (Cond.fieldLink RX6 53 RX6 (TX6 17).2.1 (TX6 17).2.2.1) ∈ wsX6_init := by decide +kernel
  have hl56 : (Cond.fieldLink RX6 56 RX6 (TX6 18).2.1 (TX6 18).2.2.1) ∈ wsX6_init := by decide +kernel
  have hl59 : (Cond.fieldLink RX6 59 RX6 (TX6 20).2.1 (TX6 20).2.2.1) ∈ wsX6_init := by decide +kernel
  have hl62 : (Cond.fieldLink RX6 62 RX6 (TX6 21).2.1 (TX6 21).2.2.1) ∈ wsX6_init := by decide +kernel
  have hl65 : (Cond.fieldLink RX6 65 RX6 (TX6 23).2.1 (TX6 23).2.2.1) ∈ wsX6_init := by decide +kernel
  have hl68 : (Cond.fieldLink RX6 68 RX6 (TX6 24).2.1 (TX6 24).2.2.1) ∈ wsX6_init := by decide +kernel
  have hl71 : (Cond.fieldLink RX6 71 RX6 (TX6 26).2.1 (TX6 26).2.2.1) ∈ wsX6_init := by decide +kernel
  have hl74 : (Cond.fieldLink RX6 74 RX6 (TX6 27).2.1 (TX6 27).2.2.1) ∈ wsX6_init := by decide +kernel
  have hl77 : (Cond.fieldLink RX6 77 RX6 (TX6 28).2.1 (TX6 28).2.2.1) ∈ wsX6_init := by decide +kernel
  have hl80 : (Cond.fieldLink RX6 80 RX6 (TX6 29).2.1 (TX6 29).2.2.1) ∈ wsX6_init := by decide +kernel
  have hlg : (Cond.fieldLink RX6 20 RX6 (TX6 5).2.1 (TX6 5).2.2.1) ∈ wsX6_init := by decide +kernel
  refine lv_aload_n hx hb dX6_init_0 rfl (lv_at hl 0 rfl) ?_
  refine W.objInit hx hb hown (hts (.methodLink RX6 1 objectInit) (by decide +kernel)) (hts (.instanceMethod objectInit) (by decide +kernel)) (hts (.code objectInit ⟨#[0xb1]⟩ 1 none) (by decide +kernel)) rfl (by rw [hml]; exact hl.1) rfl dX6_init_1 (Nat.le_of_ble_eq_true rfl) (Nat.le_of_ble_eq_true rfl) ?_
  refine W.eq (g2 := F0 m 4 ls []) rfl ?_
  have key : WC p l e { frames := 1, cells := 24, slots := 1330, locals := 12 } s m #[Value.ref h0] below meth c 0 0 (MQ below (va_Qv (fun u : va_W => N_X6 cI cZ cA h0 u) (fun u t => va_P D vwCl u t.heap ∧ va_D A u) A) #[Value.ref h0] s 24 1330 A) 2 D A s.heap 6 h0 4 [.int 0, .null, .null, .null, .int 0, .null, .null, .null, .null, .null, .null, .int 0, .null, .null, .null, .null, .null, .null, .null, .int 0, .null, .null, .int 0, .null, .null, .int 0, .null, .null, .null, .null] [] := by
    refine wc_newi (own := RX6) (j := 1) (n := 30) (T := TX6) hx hb hown hK hA hts hin tyX6 tyX6_ok nmX6 rfl (by decide) rfl (Nat.le_of_ble_eq_true rfl) hl7 rfl hinit rfl (by decide +kernel) hai dX6_init_4 (fun _ _ _ _ h => lv_bipush hx hb dX6_init_5 rfl h) rfl (by decide) dX6_init_7 dX6_init_9 (Nat.le_of_ble_eq_true rfl) (Nat.le_of_ble_eq_true rfl) (fun q1 => ?_)
    show WC p l e _ s m _ below meth c 1 30 _ 2 D A s.heap 6 h0 12 [.int 0, .ref q1, .null, .null, .int 0, .null, .null, .null, .null, .null, .null, .int 0, .null, .null, .null, .null, .null, .null, .null, .int 0, .null, .null, .int 0, .null, .null, .int 0, .null, .null, .null, .null] ([] ++ [(q1, .inl (cI, 30, .inl (fun _ => 0)))])
    refine wc_newz (own := RX6) (j := 2) (n := 30) (T := TX6) hx hb hown hK hA hts hin tyX6 tyX6_ok nmX6 rfl (by decide) rfl (Nat.le_of_ble_eq_true rfl) hl13 rfl hinit rfl (by decide +kernel) haz dX6_init_12 (fun _ _ _ _ h => lv_bipush hx hb dX6_init_13 rfl h) rfl (by decide) dX6_init_15 dX6_init_17 (Nat.le_of_ble_eq_true rfl) (Nat.le_of_ble_eq_true rfl) (fun q2 => ?_)
    show WC p l e _ s m _ below meth c 2 60 _ 2 D A s.heap 6 h0 20 [.int 0, .ref q1, .ref q2, .null, .int 0, .null, .null, .null, .null, .null, .null, .int 0, .null, .null, .null, .null, .null, .null, .null, .int 0, .null, .null, .int 0, .null, .null, .int 0, .null, .null, .null, .null] ([] ++ [(q1, .inl (cI, 30, .inl (fun _ => 0)))] ++ [(q2, .inl (cZ, 30, .inl (fun _ => 0)))])
    refine wc_newi (own := RX6) (j := 3) (n := 120) (T := TX6) hx hb hown hK hA hts hin tyX6 tyX6_ok nmX6 rfl (by decide) rfl (Nat.le_of_ble_eq_true rfl) hl17 rfl hinit rfl (by decide +kernel) hai dX6_init_20 (fun _ _ _ _ h => lv_bipush hx hb dX6_init_21 rfl h) rfl (by decide) dX6_init_23 dX6_init_25 (Nat.le_of_ble_eq_true rfl) (Nat.le_of_ble_eq_true rfl) (fun q3 => ?_)
    show WC p l e _ s m _ below meth c 3 180 _ 2 D A s.heap 6 h0 28 [.int 0, .ref q1, .ref q2, .ref q3, .int 0, .null, .null, .null, .null, .null, .null, .int 0, .null, .null, .null, .null, .null, .null, .null, .int 0, .null, .null, .int 0, .null, .null, .int 0, .null, .null, .null, .null] ([] ++ [(q1, .inl (cI, 30, .inl (fun _ => 0)))] ++ [(q2, .inl (cZ, 30, .inl (fun _ => 0)))] ++ [(q3, .inl (cI, 120, .inl (fun _ => 0)))])
    sorry
  exact key s.heap [] ls hl hP hD hS
