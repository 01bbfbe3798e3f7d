def M_X6 (cI cZ : ClassId) (h0 : Nat) (u : va_W) : Prop := ∃ (q1 : Nat) (q2 : Nat) (q3 : Nat) (q5 : Nat) (q6 : Nat) (q7 : Nat) (q8 : Nat) (q9 : Nat) (q10 : Nat) (q12 : Nat) (q13 : Nat) (q14 : Nat) (q15 : Nat) (q16 : Nat) (q17 : Nat) (q18 : Nat) (q20 : Nat) (q21 : Nat) (q23 : Nat) (q24 : Nat) (q26 : Nat) (q27 : Nat) (q28 : Nat) (q29 : Nat), u = (h0, .inr (6, [.int 0, .ref q1, .ref q2, .ref q3, .int 0, .ref q5, .ref q6, .ref q7, .ref q8, .ref q9, .ref q10, .int 0, .ref q12, .ref q13, .ref q14, .ref q15, .ref q16, .ref q17, .ref q18, .int 0, .ref q20, .ref q21, .int 0, .ref q23, .ref q24, .int 0, .ref q26, .ref q27, .ref q28, .ref q29])) :: (q1, .inl (cI, 30, .inl (fun _ => 0))) :: (q2, .inl (cZ, 30, .inl (fun _ => 0))) :: (q3, .inl (cI, 120, .inl (fun _ => 0))) :: (q5, .inl (cI, 10, .inl (ai 10))) :: (q6, .inl (cI, 10, .inl (fun _ => 0))) :: (q7, .inl (cI, 20, .inl (fun _ => 0))) :: (q8, .inl (cI, 20, .inl (fun _ => 0))) :: (q9, .inl (cI, 20, .inl (fun _ => 0))) :: (q10, .inl (cI, 200, .inl (fun _ => 0))) :: (q12, .inl (cI, 20, .inl (fun _ => 0))) :: (q13, .inl (cI, 20, .inl (fun _ => 0))) :: (q14, .inl (cI, 20, .inl (fun _ => 0))) :: (q15, .inl (cI, 20, .inl (fun _ => 0))) :: (q16, .inl (cI, 20, .inl (fun _ => 0))) :: (q17, .inl (cI, 20, .inl (fun _ => 0))) :: (q18, .inl (cI, 20, .inl (fun _ => 0))) :: (q20, .inl (cI, 20, .inl (fun _ => 0))) :: (q21, .inl (cI, 600, .inl (fun _ => 0))) :: (q23, .inl (cI, 20, .inl (fun _ => 0))) :: (q24, .inl (cI, 20, .inl (fun _ => 0))) :: (q26, .inl (cI, 30, .inl (fun _ => 0))) :: (q27, .inl (cI, 10, .inl (fun _ => 0))) :: (q28, .inl (cI, 10, .inl (fun _ => 0))) :: (q29, .inl (cI, 20, .inl (fun _ => 0))) :: []
section X6L
variable {p : Program} {l : Launch} {e : Env} {R : Room} {s : State} {m : MethodId} {args : Array Value} {below : List Frame} {meth : Method} {c : Code} {Q : State → Prop} {cells slots : Nat}
variable {D : va_G} {cI cZ cA cL : ClassId} {A : Nat → Prop} {H0 : Heap} {Ts : List Cond}
theorem wc_cast {nL ci h0 pc : Nat} {fs fs2 : List Value} {Rw Rw2 : va_W} (h1 : fs = fs2) (h2 : Rw = Rw2) (k : WC p l e R s m args below meth c cells slots Q nL D A H0 ci h0 pc fs2 Rw2) : WC p l e R s m args below meth c cells slots Q nL D A H0 ci h0 pc fs Rw := by
  subst h1; subst h2; exact k
set_option maxHeartbeats 4000000 in
theorem x6_loop {h0 q5 : Nat} {fs : List Value} {a b c3 : Nat × va_E} {R2 : va_W} (hx : p.tables.exec = Jvm.exec) (hb : c.code = cX6_init) (hown : s.vm.findClass RX6 = some m.cls) (hK : va_K D vwCl (TY cI cZ cA cL) s) (hts : ∀ w ∈ Ts, w.before args s = true) (hin : ∀ w ∈ u_ws RX6 TX6 30, w ∈ Ts) (hlg : (Cond.fieldLink RX6 20 RX6 (TX6 5).2.1 (TX6 5).2.2.1) ∈ Ts) (h5 : fs[5]? = some (.ref q5))
    (hend : ∀ (H : Heap) (locs : List Loc) (ls : Array Slot), va_P D vwCl ((h0, .inr (6, fs)) :: a :: b :: c3 :: (q5, .inl (cI, 10, .inl (ai 10))) :: R2) H → va_D A ((h0, .inr (6, fs)) :: a :: b :: c3 :: (q5, .inl (cI, 10, .inl (ai 10))) :: R2) → va_S A H0 H locs → W p l e R s m args below meth c H locs cells slots Q (F0 m 221 ls [])) :
    WC p l e R s m args below meth c cells slots Q 2 D A H0 6 h0 198 fs (a :: b :: c3 :: (q5, .inl (cI, 10, .inl (fun _ => 0))) :: R2) := by
  intro H locs ls hl hP hD hS
  refine lv_iconst (v := 0) hx hb dX6_init_198 rfl ?_
  refine lv_istore_n (k := 1) (lv' := [(1, .int 0), (0, .ref h0)]) hx hb dX6_init_199 rfl hl (by decide) rfl (fun ls hl => ?_)
  have lp : ∀ (d i : Nat) (H : Heap) (locs : List Loc) (ls : Array Slot), i + d = 10 → lv_has ls 2 [(1, .int (nI i)), (0, .ref h0)] → va_P D vwCl ((h0, .inr (6, fs)) :: a :: b :: c3 :: (q5, .inl (cI, 10, .inl (ai i))) :: R2) H → va_D A ((h0, .inr (6, fs)) :: a :: b :: c3 :: (q5, .inl (cI, 10, .inl (ai i))) :: R2) → va_S A H0 H locs → W p l e R s m args below meth c H locs cells slots Q (F0 m 200 ls []) := by
    intro d
    induction d with
    | zero =>
      intro i H locs ls hi hl hP hD hS
      obtain rfl : i = 10 := by omega
      refine lv_iload_n hx hb dX6_init_200 rfl (lv_at hl 0 rfl) ?_
      refine lv_bipush hx hb dX6_init_201 rfl ?_
      refine lv_icmp_ge (tgt := 221) hx hb dX6_init_203 (by decide) (fun _ => ?_) (fun c9 => absurd (nI_le (a := 10) (b := 10) (Nat.le_refl 10) (by decide)) c9)
      exact hend H locs ls hP hD hS
    | succ d ih =>
      intro i H locs ls hi hl hP hD hS
      refine lv_iload_n hx hb dX6_init_200 rfl (lv_at hl 0 rfl) ?_
      refine lv_bipush hx hb dX6_init_201 rfl ?_
      refine lv_icmp_ge (tgt := 221) hx hb dX6_init_203 (by decide) (fun c9 => absurd c9 (nI_ge (a := i) (b := 10) (by omega) (by decide))) (fun _ => ?_)
      refine lv_aload_n hx hb dX6_init_206 rfl (lv_at hl 1 rfl) ?_
      refine va_get (D := D) (ci := 6) (v := .ref q5) (C := RX6) (T := TX6) (N := 30) hx hb hts hin hown hK hP 0 rfl rfl 5 (by decide) (hts _ hlg) (fun _ h9 => h9) h5 dX6_init_207 ?_
      refine lv_iload_n hx hb dX6_init_210 rfl (lv_at hl 0 rfl) ?_
      refine lv_iload_n hx hb dX6_init_211 rfl (lv_at hl 0 rfl) ?_
      refine lv_iconst (v := 4) hx hb dX6_init_212 rfl ?_
      refine lv_irem hx hb dX6_init_213 (by decide) ?_
      refine va_iast hx hb hK hP hD hS 4 0 rfl rfl (vp_in_nI (by omega) (by decide)) dX6_init_214 (fun H2 locs2 hP2 hD2 hS2 => ?_)
      rw [ai_s (by omega)] at hP2 hD2
      refine lv_iinc (v := nI (i + 1)) (lv' := [(1, .int (nI (i + 1))), (0, .ref h0)]) hx hb dX6_init_215 hl (k := 0) rfl (nI_1 i) (by decide) rfl (fun ls hl => ?_)
      refine lv_goto (tgt := 200) hx hb dX6_init_218 (by decide) ?_
      exact ih (i + 1) H2 locs2 ls (by omega) hl hP2 hD2 hS2
  exact lp 10 0 H locs ls (by decide) hl (by rw [ai_0]; exact hP) (by rw [ai_0]; exact hD) hS
end X6L
set_option maxHeartbeats 4000000 in
set_option maxRecDepth 100000 in
theorem n_X6 (l : Launch) (D : va_G) (cI cZ cA cL : ClassId) (h0 sz : Nat) : Met l yX6_init wsX6_init { frames := 1, cells := 24, slots := 1330, locals := 12 } (va_Pc [.ref h0] (fun U => U.heap.size = sz ∧ va_P D vwCl [(h0, .inr (6, [.int 0, .null, .null, .null, .int 0, .null, .null, .null, .null, .null, .null, .int 0, .null, .null, .null, .null, .null, .null, .null, .int 0, .null, .null, .int 0, .null, .null, .int 0, .null, .null, .null, .null]))] U.heap ∧ va_K D vwCl (TY cI cZ cA cL) U ∧ va_AOA .int U ∧ va_D (fun _ => True) [(h0, .inr (6, [.int 0, .null, .null, .null, .int 0, .null, .null, .null, .null, .null, .null, .int 0, .null, .null, .null, .null, .null, .null, .null, .int 0, .null, .null, .int 0, .null, .null, .int 0, .null, .null, .null, .null]))])) (va_Qv (fun u : va_W => M_X6 cI cZ h0 u) (fun u t => va_P D vwCl u t.heap ∧ va_D (va_A [(h0, .inr (6, [.int 0, .null, .null, .null, .int 0, .null, .null, .null, .null, .null, .null, .int 0, .null, .null, .null, .null, .null, .null, .null, .int 0, .null, .null, .int 0, .null, .null, .int 0, .null, .null, .null, .null]))] sz) u) (va_A [(h0, .inr (6, [.int 0, .null, .null, .null, .int 0, .null, .null, .null, .null, .null, .null, .int 0, .null, .null, .null, .null, .null, .null, .null, .int 0, .null, .null, .int 0, .null, .null, .int 0, .null, .null, .null, .null]))] sz)) 24 1330 (va_A [(h0, .inr (6, [.int 0, .null, .null, .null, .int 0, .null, .null, .null, .null, .null, .null, .int 0, .null, .null, .null, .null, .null, .null, .null, .int 0, .null, .null, .int 0, .null, .null, .int 0, .null, .null, .null, .null]))] sz) := by
  refine Met.ofW (cc := cX6_init) (maxL := 2) (ret := none) (by decide +kernel) rfl ?_
  intro p e s m args below meth c s₁ B hml hv
  obtain ⟨rfl, hsz, hP, hK, hO, hD0⟩ := hv
  have hx := B.exec
  have hb := B.bytes
  have hr := B.returns
  have hts := atoms_spec (ws := wsX6_init) B.pre
  have hown : s.vm.findClass RX6 = some m.cls := findClass_of_methodNamed B.named
  have hlocks := B.notSynchronized
  have hinit : meth.name = "<init>" := (name_of_methodNamed B.named B.method).1
  subst hsz
  have hD := hD0.self (sz := s.heap.size)
  generalize hAe : va_A [(h0, .inr (6, [.int 0, .null, .null, .null, .int 0, .null, .null, .null, .null, .null, .null, .int 0, .null, .null, .null, .null, .null, .null, .null, .int 0, .null, .null, .int 0, .null, .null, .int 0, .null, .null, .null, .null]))] s.heap.size = A at hD ⊢
  have hA : ∀ q : Nat, s.heap.size ≤ q → A q := fun q h => by rw [← hAe]; exact Or.inr h
  have hS : va_S A s.heap s.heap [] := va_S.rf
  have hl := lv_entry ([.ref h0]) (n := 2) (Nat.le_of_ble_eq_true rfl)
  rw [lg_entry_eq]
  generalize (lg_sl ([.ref h0]) ++ List.replicate (2 - (lg_sl ([.ref h0])).length) Slot.unset).toArray = ls at hl ⊢
  have hl : lv_has ls 2 [(0, .ref h0)] := hl
  have hin : ∀ w ∈ u_ws RX6 TX6 30, w ∈ wsX6_init := by decide +kernel
  have hai : (Cond.arrayClass .int) ∈ wsX6_init := by decide +kernel
  have hl7 : (Cond.fieldLink RX6 7 RX6 (TX6 1).2.1 (TX6 1).2.2.1) ∈ wsX6_init := by decide +kernel
  have haz : (Cond.arrayClass .boolean) ∈ wsX6_init := by decide +kernel
  have hl13 : (Cond.fieldLink RX6 13 RX6 (TX6 2).2.1 (TX6 2).2.2.1) ∈ wsX6_init := by decide +kernel
  have hl17 : (Cond.fieldLink RX6 17 RX6 (TX6 3).2.1 (TX6 3).2.2.1) ∈ wsX6_init := by decide +kernel
  have hl20 : (Cond.fieldLink RX6 20 RX6 (TX6 5).2.1 (TX6 5).2.2.1) ∈ wsX6_init := by decide +kernel
  have hl23 : (Cond.fieldLink RX6 23 RX6 (TX6 6).2.1 (TX6 6).2.2.1) ∈ wsX6_init := by decide +kernel
  have hl26 : (Cond.fieldLink RX6 26 RX6 (TX6 7).2.1 (TX6 7).2.2.1) ∈ wsX6_init := by decide +kernel
  have hl29 : (Cond.fieldLink RX6 29 RX6 (TX6 8).2.1 (TX6 8).2.2.1) ∈ wsX6_init := by decide +kernel
  have hl32 : (Cond.fieldLink RX6 32 RX6 (TX6 9).2.1 (TX6 9).2.2.1) ∈ wsX6_init := by decide +kernel
  have hl35 : (Cond.fieldLink RX6 35 RX6 (TX6 10).2.1 (TX6 10).2.2.1) ∈ wsX6_init := by decide +kernel
  have hl38 : (Cond.fieldLink RX6 38 RX6 (TX6 12).2.1 (TX6 12).2.2.1) ∈ wsX6_init := by decide +kernel
  have hl41 : (Cond.fieldLink RX6 41 RX6 (TX6 13).2.1 (TX6 13).2.2.1) ∈ wsX6_init := by decide +kernel
  have hl44 : (Cond.fieldLink RX6 44 RX6 (TX6 14).2.1 (TX6 14).2.2.1) ∈ wsX6_init := by decide +kernel
  have hl47 : (Cond.fieldLink RX6 47 RX6 (TX6 15).2.1 (TX6 15).2.2.1) ∈ wsX6_init := by decide +kernel
  have hl50 : (Cond.fieldLink RX6 50 RX6 (TX6 16).2.1 (TX6 16).2.2.1) ∈ wsX6_init := by decide +kernel
  have hl53 : (Cond.fieldLink RX6 53 RX6 (TX6 17).2.1 (TX6 17).2.2.1) ∈ wsX6_init := by decide +kernel
  have hl56 : (Cond.fieldLink RX6 56 RX6 (TX6 18).2.1 (TX6 18).2.2.1) ∈ wsX6_init := by decide +kernel
  have hl59 : (Cond.fieldLink RX6 59 RX6 (TX6 20).2.1 (TX6 20).2.2.1) ∈ wsX6_init := by decide +kernel
  have hl62 : (Cond.fieldLink RX6 62 RX6 (TX6 21).2.1 (TX6 21).2.2.1) ∈ wsX6_init := by decide +kernel
  have hl65 : (Cond.fieldLink RX6 65 RX6 (TX6 23).2.1 (TX6 23).2.2.1) ∈ wsX6_init := by decide +kernel
  have hl68 : (Cond.fieldLink RX6 68 RX6 (TX6 24).2.1 (TX6 24).2.2.1) ∈ wsX6_init := by decide +kernel
  have hl71 : (Cond.fieldLink RX6 71 RX6 (TX6 26).2.1 (TX6 26).2.2.1) ∈ wsX6_init := by decide +kernel
  have hl74 : (Cond.fieldLink RX6 74 RX6 (TX6 27).2.1 (TX6 27).2.2.1) ∈ wsX6_init := by decide +kernel
  have hl77 : (Cond.fieldLink RX6 77 RX6 (TX6 28).2.1 (TX6 28).2.2.1) ∈ wsX6_init := by decide +kernel
  have hl80 : (Cond.fieldLink RX6 80 RX6 (TX6 29).2.1 (TX6 29).2.2.1) ∈ wsX6_init := by decide +kernel
  have hlg : (Cond.fieldLink RX6 20 RX6 (TX6 5).2.1 (TX6 5).2.2.1) ∈ wsX6_init := by decide +kernel
  refine lv_aload_n hx hb dX6_init_0 rfl (lv_at hl 0 rfl) ?_
  refine W.objInit hx hb hown (hts (.methodLink RX6 1 objectInit) (by decide +kernel)) (hts (.instanceMethod objectInit) (by decide +kernel)) (hts (.code objectInit ⟨#[0xb1]⟩ 1 none) (by decide +kernel)) rfl (by rw [hml]; exact hl.1) rfl dX6_init_1 (Nat.le_of_ble_eq_true rfl) (Nat.le_of_ble_eq_true rfl) ?_
  refine W.eq (g2 := F0 m 4 ls []) rfl ?_
  have key : WC p l e { frames := 1, cells := 24, slots := 1330, locals := 12 } s m #[Value.ref h0] below meth c 0 0 (MQ below (va_Qv (fun u : va_W => M_X6 cI cZ h0 u) (fun u t => va_P D vwCl u t.heap ∧ va_D A u) A) #[Value.ref h0] s 24 1330 A) 2 D A s.heap 6 h0 4 [.int 0, .null, .null, .null, .int 0, .null, .null, .null, .null, .null, .null, .int 0, .null, .null, .null, .null, .null, .null, .null, .int 0, .null, .null, .int 0, .null, .null, .int 0, .null, .null, .null, .null] [] := by
    refine wc_newi (own := RX6) (j := 1) (n := 30) (T := TX6) hx hb hown hK hA hts hin tyX6 tyX6_ok nmX6 rfl (by decide) rfl (by simp only [List.length_set, List.length_cons, List.length_nil]; decide) hl7 rfl hinit rfl (by decide +kernel) hai dX6_init_4 (fun _ _ _ _ h => lv_bipush hx hb dX6_init_5 rfl h) rfl (by decide) dX6_init_7 dX6_init_9 (Nat.le_of_ble_eq_true rfl) (Nat.le_of_ble_eq_true rfl) (fun q1 => ?_)
    refine wc_newz (own := RX6) (j := 2) (n := 30) (T := TX6) hx hb hown hK hA hts hin tyX6 tyX6_ok nmX6 rfl (by decide) rfl (by simp only [List.length_set, List.length_cons, List.length_nil]; decide) hl13 rfl hinit rfl (by decide +kernel) haz dX6_init_12 (fun _ _ _ _ h => lv_bipush hx hb dX6_init_13 rfl h) rfl (by decide) dX6_init_15 dX6_init_17 (Nat.le_of_ble_eq_true rfl) (Nat.le_of_ble_eq_true rfl) (fun q2 => ?_)
    refine wc_newi (own := RX6) (j := 3) (n := 120) (T := TX6) hx hb hown hK hA hts hin tyX6 tyX6_ok nmX6 rfl (by decide) rfl (by simp only [List.length_set, List.length_cons, List.length_nil]; decide) hl17 rfl hinit rfl (by decide +kernel) hai dX6_init_20 (fun _ _ _ _ h => lv_bipush hx hb dX6_init_21 rfl h) rfl (by decide) dX6_init_23 dX6_init_25 (Nat.le_of_ble_eq_true rfl) (Nat.le_of_ble_eq_true rfl) (fun q3 => ?_)
    refine wc_newi (own := RX6) (j := 5) (n := 10) (T := TX6) hx hb hown hK hA hts hin tyX6 tyX6_ok nmX6 rfl (by decide) rfl (by simp only [List.length_set, List.length_cons, List.length_nil]; decide) hl20 rfl hinit rfl (by decide +kernel) hai dX6_init_28 (fun _ _ _ _ h => lv_bipush hx hb dX6_init_29 rfl h) rfl (by decide) dX6_init_31 dX6_init_33 (Nat.le_of_ble_eq_true rfl) (Nat.le_of_ble_eq_true rfl) (fun q5 => ?_)
    refine wc_newi (own := RX6) (j := 6) (n := 10) (T := TX6) hx hb hown hK hA hts hin tyX6 tyX6_ok nmX6 rfl (by decide) rfl (by simp only [List.length_set, List.length_cons, List.length_nil]; decide) hl23 rfl hinit rfl (by decide +kernel) hai dX6_init_36 (fun _ _ _ _ h => lv_bipush hx hb dX6_init_37 rfl h) rfl (by decide) dX6_init_39 dX6_init_41 (Nat.le_of_ble_eq_true rfl) (Nat.le_of_ble_eq_true rfl) (fun q6 => ?_)
    refine wc_newi (own := RX6) (j := 7) (n := 20) (T := TX6) hx hb hown hK hA hts hin tyX6 tyX6_ok nmX6 rfl (by decide) rfl (by simp only [List.length_set, List.length_cons, List.length_nil]; decide) hl26 rfl hinit rfl (by decide +kernel) hai dX6_init_44 (fun _ _ _ _ h => lv_bipush hx hb dX6_init_45 rfl h) rfl (by decide) dX6_init_47 dX6_init_49 (Nat.le_of_ble_eq_true rfl) (Nat.le_of_ble_eq_true rfl) (fun q7 => ?_)
    refine wc_newi (own := RX6) (j := 8) (n := 20) (T := TX6) hx hb hown hK hA hts hin tyX6 tyX6_ok nmX6 rfl (by decide) rfl (by simp only [List.length_set, List.length_cons, List.length_nil]; decide) hl29 rfl hinit rfl (by decide +kernel) hai dX6_init_52 (fun _ _ _ _ h => lv_bipush hx hb dX6_init_53 rfl h) rfl (by decide) dX6_init_55 dX6_init_57 (Nat.le_of_ble_eq_true rfl) (Nat.le_of_ble_eq_true rfl) (fun q8 => ?_)
    refine wc_newi (own := RX6) (j := 9) (n := 20) (T := TX6) hx hb hown hK hA hts hin tyX6 tyX6_ok nmX6 rfl (by decide) rfl (by simp only [List.length_set, List.length_cons, List.length_nil]; decide) hl32 rfl hinit rfl (by decide +kernel) hai dX6_init_60 (fun _ _ _ _ h => lv_bipush hx hb dX6_init_61 rfl h) rfl (by decide) dX6_init_63 dX6_init_65 (Nat.le_of_ble_eq_true rfl) (Nat.le_of_ble_eq_true rfl) (fun q9 => ?_)
    refine wc_newi (own := RX6) (j := 10) (n := 200) (T := TX6) hx hb hown hK hA hts hin tyX6 tyX6_ok nmX6 rfl (by decide) rfl (by simp only [List.length_set, List.length_cons, List.length_nil]; decide) hl35 rfl hinit rfl (by decide +kernel) hai dX6_init_68 (fun _ _ _ _ h => lv_sipush hx hb dX6_init_69 rfl h) rfl (by decide) dX6_init_72 dX6_init_74 (Nat.le_of_ble_eq_true rfl) (Nat.le_of_ble_eq_true rfl) (fun q10 => ?_)
    refine wc_newi (own := RX6) (j := 12) (n := 20) (T := TX6) hx hb hown hK hA hts hin tyX6 tyX6_ok nmX6 rfl (by decide) rfl (by simp only [List.length_set, List.length_cons, List.length_nil]; decide) hl38 rfl hinit rfl (by decide +kernel) hai dX6_init_77 (fun _ _ _ _ h => lv_bipush hx hb dX6_init_78 rfl h) rfl (by decide) dX6_init_80 dX6_init_82 (Nat.le_of_ble_eq_true rfl) (Nat.le_of_ble_eq_true rfl) (fun q12 => ?_)
    refine wc_newi (own := RX6) (j := 13) (n := 20) (T := TX6) hx hb hown hK hA hts hin tyX6 tyX6_ok nmX6 rfl (by decide) rfl (by simp only [List.length_set, List.length_cons, List.length_nil]; decide) hl41 rfl hinit rfl (by decide +kernel) hai dX6_init_85 (fun _ _ _ _ h => lv_bipush hx hb dX6_init_86 rfl h) rfl (by decide) dX6_init_88 dX6_init_90 (Nat.le_of_ble_eq_true rfl) (Nat.le_of_ble_eq_true rfl) (fun q13 => ?_)
    refine wc_newi (own := RX6) (j := 14) (n := 20) (T := TX6) hx hb hown hK hA hts hin tyX6 tyX6_ok nmX6 rfl (by decide) rfl (by simp only [List.length_set, List.length_cons, List.length_nil]; decide) hl44 rfl hinit rfl (by decide +kernel) hai dX6_init_93 (fun _ _ _ _ h => lv_bipush hx hb dX6_init_94 rfl h) rfl (by decide) dX6_init_96 dX6_init_98 (Nat.le_of_ble_eq_true rfl) (Nat.le_of_ble_eq_true rfl) (fun q14 => ?_)
    refine wc_newi (own := RX6) (j := 15) (n := 20) (T := TX6) hx hb hown hK hA hts hin tyX6 tyX6_ok nmX6 rfl (by decide) rfl (by simp only [List.length_set, List.length_cons, List.length_nil]; decide) hl47 rfl hinit rfl (by decide +kernel) hai dX6_init_101 (fun _ _ _ _ h => lv_bipush hx hb dX6_init_102 rfl h) rfl (by decide) dX6_init_104 dX6_init_106 (Nat.le_of_ble_eq_true rfl) (Nat.le_of_ble_eq_true rfl) (fun q15 => ?_)
    refine wc_newi (own := RX6) (j := 16) (n := 20) (T := TX6) hx hb hown hK hA hts hin tyX6 tyX6_ok nmX6 rfl (by decide) rfl (by simp only [List.length_set, List.length_cons, List.length_nil]; decide) hl50 rfl hinit rfl (by decide +kernel) hai dX6_init_109 (fun _ _ _ _ h => lv_bipush hx hb dX6_init_110 rfl h) rfl (by decide) dX6_init_112 dX6_init_114 (Nat.le_of_ble_eq_true rfl) (Nat.le_of_ble_eq_true rfl) (fun q16 => ?_)
    refine wc_newi (own := RX6) (j := 17) (n := 20) (T := TX6) hx hb hown hK hA hts hin tyX6 tyX6_ok nmX6 rfl (by decide) rfl (by simp only [List.length_set, List.length_cons, List.length_nil]; decide) hl53 rfl hinit rfl (by decide +kernel) hai dX6_init_117 (fun _ _ _ _ h => lv_bipush hx hb dX6_init_118 rfl h) rfl (by decide) dX6_init_120 dX6_init_122 (Nat.le_of_ble_eq_true rfl) (Nat.le_of_ble_eq_true rfl) (fun q17 => ?_)
    refine wc_newi (own := RX6) (j := 18) (n := 20) (T := TX6) hx hb hown hK hA hts hin tyX6 tyX6_ok nmX6 rfl (by decide) rfl (by simp only [List.length_set, List.length_cons, List.length_nil]; decide) hl56 rfl hinit rfl (by decide +kernel) hai dX6_init_125 (fun _ _ _ _ h => lv_bipush hx hb dX6_init_126 rfl h) rfl (by decide) dX6_init_128 dX6_init_130 (Nat.le_of_ble_eq_true rfl) (Nat.le_of_ble_eq_true rfl) (fun q18 => ?_)
    refine wc_newi (own := RX6) (j := 20) (n := 20) (T := TX6) hx hb hown hK hA hts hin tyX6 tyX6_ok nmX6 rfl (by decide) rfl (by simp only [List.length_set, List.length_cons, List.length_nil]; decide) hl59 rfl hinit rfl (by decide +kernel) hai dX6_init_133 (fun _ _ _ _ h => lv_bipush hx hb dX6_init_134 rfl h) rfl (by decide) dX6_init_136 dX6_init_138 (Nat.le_of_ble_eq_true rfl) (Nat.le_of_ble_eq_true rfl) (fun q20 => ?_)
    refine wc_newi (own := RX6) (j := 21) (n := 600) (T := TX6) hx hb hown hK hA hts hin tyX6 tyX6_ok nmX6 rfl (by decide) rfl (by simp only [List.length_set, List.length_cons, List.length_nil]; decide) hl62 rfl hinit rfl (by decide +kernel) hai dX6_init_141 (fun _ _ _ _ h => lv_sipush hx hb dX6_init_142 rfl h) rfl (by decide) dX6_init_145 dX6_init_147 (Nat.le_of_ble_eq_true rfl) (Nat.le_of_ble_eq_true rfl) (fun q21 => ?_)
    refine wc_newi (own := RX6) (j := 23) (n := 20) (T := TX6) hx hb hown hK hA hts hin tyX6 tyX6_ok nmX6 rfl (by decide) rfl (by simp only [List.length_set, List.length_cons, List.length_nil]; decide) hl65 rfl hinit rfl (by decide +kernel) hai dX6_init_150 (fun _ _ _ _ h => lv_bipush hx hb dX6_init_151 rfl h) rfl (by decide) dX6_init_153 dX6_init_155 (Nat.le_of_ble_eq_true rfl) (Nat.le_of_ble_eq_true rfl) (fun q23 => ?_)
    refine wc_newi (own := RX6) (j := 24) (n := 20) (T := TX6) hx hb hown hK hA hts hin tyX6 tyX6_ok nmX6 rfl (by decide) rfl (by simp only [List.length_set, List.length_cons, List.length_nil]; decide) hl68 rfl hinit rfl (by decide +kernel) hai dX6_init_158 (fun _ _ _ _ h => lv_bipush hx hb dX6_init_159 rfl h) rfl (by decide) dX6_init_161 dX6_init_163 (Nat.le_of_ble_eq_true rfl) (Nat.le_of_ble_eq_true rfl) (fun q24 => ?_)
    refine wc_newi (own := RX6) (j := 26) (n := 30) (T := TX6) hx hb hown hK hA hts hin tyX6 tyX6_ok nmX6 rfl (by decide) rfl (by simp only [List.length_set, List.length_cons, List.length_nil]; decide) hl71 rfl hinit rfl (by decide +kernel) hai dX6_init_166 (fun _ _ _ _ h => lv_bipush hx hb dX6_init_167 rfl h) rfl (by decide) dX6_init_169 dX6_init_171 (Nat.le_of_ble_eq_true rfl) (Nat.le_of_ble_eq_true rfl) (fun q26 => ?_)
    refine wc_newi (own := RX6) (j := 27) (n := 10) (T := TX6) hx hb hown hK hA hts hin tyX6 tyX6_ok nmX6 rfl (by decide) rfl (by simp only [List.length_set, List.length_cons, List.length_nil]; decide) hl74 rfl hinit rfl (by decide +kernel) hai dX6_init_174 (fun _ _ _ _ h => lv_bipush hx hb dX6_init_175 rfl h) rfl (by decide) dX6_init_177 dX6_init_179 (Nat.le_of_ble_eq_true rfl) (Nat.le_of_ble_eq_true rfl) (fun q27 => ?_)
    refine wc_newi (own := RX6) (j := 28) (n := 10) (T := TX6) hx hb hown hK hA hts hin tyX6 tyX6_ok nmX6 rfl (by decide) rfl (by simp only [List.length_set, List.length_cons, List.length_nil]; decide) hl77 rfl hinit rfl (by decide +kernel) hai dX6_init_182 (fun _ _ _ _ h => lv_bipush hx hb dX6_init_183 rfl h) rfl (by decide) dX6_init_185 dX6_init_187 (Nat.le_of_ble_eq_true rfl) (Nat.le_of_ble_eq_true rfl) (fun q28 => ?_)
    refine wc_newi (own := RX6) (j := 29) (n := 20) (T := TX6) hx hb hown hK hA hts hin tyX6 tyX6_ok nmX6 rfl (by decide) rfl (by simp only [List.length_set, List.length_cons, List.length_nil]; decide) hl80 rfl hinit rfl (by decide +kernel) hai dX6_init_190 (fun _ _ _ _ h => lv_bipush hx hb dX6_init_191 rfl h) rfl (by decide) dX6_init_193 dX6_init_195 (Nat.le_of_ble_eq_true rfl) (Nat.le_of_ble_eq_true rfl) (fun q29 => ?_)
    refine wc_cast (fs2 := [.int 0, .ref q1, .ref q2, .ref q3, .int 0, .ref q5, .ref q6, .ref q7, .ref q8, .ref q9, .ref q10, .int 0, .ref q12, .ref q13, .ref q14, .ref q15, .ref q16, .ref q17, .ref q18, .int 0, .ref q20, .ref q21, .int 0, .ref q23, .ref q24, .int 0, .ref q26, .ref q27, .ref q28, .ref q29]) (Rw2 := (q1, .inl (cI, 30, .inl (fun _ => 0))) :: (q2, .inl (cZ, 30, .inl (fun _ => 0))) :: (q3, .inl (cI, 120, .inl (fun _ => 0))) :: (q5, .inl (cI, 10, .inl (fun _ => 0))) :: (q6, .inl (cI, 10, .inl (fun _ => 0))) :: (q7, .inl (cI, 20, .inl (fun _ => 0))) :: (q8, .inl (cI, 20, .inl (fun _ => 0))) :: (q9, .inl (cI, 20, .inl (fun _ => 0))) :: (q10, .inl (cI, 200, .inl (fun _ => 0))) :: (q12, .inl (cI, 20, .inl (fun _ => 0))) :: (q13, .inl (cI, 20, .inl (fun _ => 0))) :: (q14, .inl (cI, 20, .inl (fun _ => 0))) :: (q15, .inl (cI, 20, .inl (fun _ => 0))) :: (q16, .inl (cI, 20, .inl (fun _ => 0))) :: (q17, .inl (cI, 20, .inl (fun _ => 0))) :: (q18, .inl (cI, 20, .inl (fun _ => 0))) :: (q20, .inl (cI, 20, .inl (fun _ => 0))) :: (q21, .inl (cI, 600, .inl (fun _ => 0))) :: (q23, .inl (cI, 20, .inl (fun _ => 0))) :: (q24, .inl (cI, 20, .inl (fun _ => 0))) :: (q26, .inl (cI, 30, .inl (fun _ => 0))) :: (q27, .inl (cI, 10, .inl (fun _ => 0))) :: (q28, .inl (cI, 10, .inl (fun _ => 0))) :: (q29, .inl (cI, 20, .inl (fun _ => 0))) :: []) (by simp only [List.set_cons_zero, List.set_cons_succ]) (by simp only [List.nil_append, List.append_assoc, List.cons_append]) ?_
    refine x6_loop (cI := cI) (cZ := cZ) (cA := cA) (cL := cL) hx hb hown hK hts hin hlg rfl (fun H locs ls hP hD hS => ?_)
    exact W.vret hx hb hr (fun t ht hW => ⟨⟨_, rfl, ⟨q1, q2, q3, q5, q6, q7, q8, q9, q10, q12, q13, q14, q15, q16, q17, q18, q20, q21, q23, q24, q26, q27, q28, q29, rfl⟩, by rw [ht]; exact hP, hD⟩, hS.F ht⟩) hS.2.2 dX6_init_221
  exact key s.heap [] ls hl hP hD hS
