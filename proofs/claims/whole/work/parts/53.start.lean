/-! the law from its entry: the two systems are made, then its loop -/
theorem nwM_on : ∀ w ∈ nwM, w.onTables = true := by decide +kernel
theorem nwM_in : ∀ w ∈ nwM, w ∈ tables_1 := by decide +kernel
theorem nwX_in : ∀ w ∈ nwX, w ∈ tables_1 := by decide +kernel
theorem nm_same {u U : State} (h : u.vm = U.vm) (hN : NM u) : NM U := fun w hw => va_Nw.same (nwM_on w hw) h (hN w hw)
theorem nm_warm {s U : State} (hW : s.WarmedH U.vm) (hN : NM s) : NM U :=
  List.forall_mem_cons.mpr ⟨va_Nw.warmM hW (hN _ (List.mem_of_getElem? (i := 0) rfl)), List.forall_mem_cons.mpr ⟨va_Nw.warmM hW (hN _ (List.mem_of_getElem? (i := 1) rfl)), List.forall_mem_cons.mpr ⟨va_Nw.warmM hW (hN _ (List.mem_of_getElem? (i := 2) rfl)), List.forall_mem_cons.mpr ⟨va_Nw.warmM hW (hN _ (List.mem_of_getElem? (i := 3) rfl)), fun _ h => absurd h List.not_mem_nil⟩⟩⟩⟩
theorem pcm_blind {D : va_G} {cI cZ cA cL : ClassId} {av : List Value} {sz : Nat} {ws : va_W} : FrameBlind (va_Pc av (fun U => U.heap.size = sz ∧ va_P D vwCl ws U.heap ∧ va_K D vwCl (TY cI cZ cA cL) U ∧ va_AOA .int U ∧ va_D (fun _ => True) ws ∧ NM U)) := fun a U g mk q => by
  obtain ⟨q0, q1, qP, qK, qO, qD, qM⟩ := q
  exact ⟨q0, q1, qP, va_K.moved (u := U) (U := U.calling g mk a) (Vm.Alike.refl U.vm) qK, va_AOA.moved (u := U) (U := U.calling g mk a) (Vm.Alike.refl U.vm) qO, qD, nm_same (u := U) (U := U.calling g mk a) rfl qM⟩
theorem arr_of {args : Array Value} {s : State} {ty : FieldType} (h : (Cond.arrayClass ty).before args s = true) : ∃ cA : ClassId, ArrOfT s cA ty ∧ s.vm.findClass ("[" ++ ty.toString) = some cA := by
  obtain ⟨cA, kA, comp, h1, h2, h3⟩ := Cond.arrayClass_spec h
  exact ⟨cA, fun n z => ⟨fun k h => (by cases h), kA, h2, comp, h3⟩, h1⟩
theorem aov_of {args : Array Value} {s : State} {t : FieldType} (h : (Cond.arrayOver (.array t)).before args s = true) : ∃ cA : ClassId, ArrOfT s cA (.array t) ∧ s.vm.findClass ("[" ++ (FieldType.array t).toString) = some cA := by
  simp only [Cond.before, Cond.holds, Cond.value, beq_iff_eq] at h
  cases hc : s.vm.findClass (FieldType.array t).toString with
  | none => simp [hc] at h
  | some comp =>
    simp only [hc, Option.bind_some, Option.bind_eq_some_iff, Option.map_eq_some_iff] at h
    obtain ⟨c, hi, k, hk, hb⟩ := h
    obtain ⟨hlt, hp, -⟩ := Array.findIdx?_eq_some_iff_getElem.mp hi
    have hkk : s.vm.classes[c] = k := (Array.getElem?_eq_some_iff.mp hk).2
    rw [hkk] at hp
    cases hkind : k.kind with
    | array component ty =>
      rw [hkind] at hb hp
      simp at hb hp
      exact ⟨c, fun n z => ⟨fun k h => (by cases h), k, hk, comp, by rw [hkind, hp, hb.1]⟩, hb.2⟩
    | _ => rw [hkind] at hb; simp at hb
theorem one_W {D : va_G} {x : Nat × va_E} {X : va_W} {H : Heap} (h : va_P D vwCl (X ++ [x]) H) : va_P D vwCl [x] H := fun k q hk => by
  have h0 : k < 1 := (List.getElem?_eq_some_iff.mp hk).1
  rw [show k = 0 by omega] at hk
  cases hk
  exact h X.length _ (by rw [List.getElem?_append_right (Nat.le_refl _)]; simp)
theorem one_F {A : Nat → Prop} {x : Nat × va_E} {X : va_W} {sz : Nat} (h : va_D A (X ++ [x])) (hA : ∀ q, sz ≤ q → A q) : ∀ q, va_A [x] sz q → A q := fun q hq => by
  rcases hq with ⟨k, e9, hk⟩ | hq
  · have h0 : k < 1 := (List.getElem?_eq_some_iff.mp hk).1
    rw [show k = 0 by omega] at hk
    cases hk
    exact h.2 X.length (q, e9) (by rw [List.getElem?_append_right (Nat.le_refl _)]; simp)
  · exact hA q hq
set_option maxHeartbeats 4000000 in
set_option maxRecDepth 100000 in
theorem start_of {CP : aM → Prop} (G : AG CP) (hCP : CP σ0) {p : Program} {e : Env} {s : State} {m : MethodId} {below : List Frame} {meth : Method} {c : Code} (l : Launch) (hflags : l.flags = flags0) {b L : Nat} {xs : Nat → Int32} (hL : L ≤ 2560) (C0 : lw_At p s m meth c b L xs) : W p l e room_1 s m #[Value.ref b] below meth c s.heap [] 0 0 (lw_Z below #[Value.ref b] s) (entryFrame m ([Value.ref b] : List Value).toArray 7) := by
  obtain ⟨hx, hb, hr, hml, hown, hts, hX, hbl, hlocks, hgv⟩ := id C0
  have htt : ∀ w ∈ tables_1, w.before #[Value.ref b] s = true := fun w h => hts w (List.mem_append_right _ h)
  have htl : ∀ w ∈ wsL_law, w.before #[Value.ref b] s = true := fun w h => hts w (wsL_law_in w h)
  have hs := flat_of_before _ hgv
  have hA : ∀ q : Nat, s.heap.size ≤ q → (fun q : Nat => s.heap.size ≤ q) q := fun _ h => h
  obtain ⟨c0, iS0, hKn0⟩ := u_known (C := RX0) (T := TX0) (N := 3) (n := 3) hts inX0 (htt (.instantiable RX0 3) (by decide +kernel))
  obtain ⟨c1, iS1, hKn1⟩ := u_known (C := RX1) (T := TX1) (N := 11) (n := 11) hts inX1 (htt (.instantiable RX1 11) (by decide +kernel))
  obtain ⟨c2, iS2, hKn2⟩ := u_known (C := RX2) (T := TX2) (N := 2) (n := 2) hts inX2 (htt (.instantiable RX2 2) (by decide +kernel))
  obtain ⟨c3, iS3, hKn3⟩ := u_known (C := RX3) (T := TX3) (N := 9) (n := 9) hts inX3 (htt (.instantiable RX3 9) (by decide +kernel))
  obtain ⟨c4, iS4, hKn4⟩ := u_known (C := RX4) (T := TX4) (N := 4) (n := 4) hts inX4 (htt (.instantiable RX4 4) (by decide +kernel))
  obtain ⟨c5, iS5, hKn5⟩ := u_known (C := RX5) (T := TX5) (N := 8) (n := 8) hts inX5 (htt (.instantiable RX5 8) (by decide +kernel))
  obtain ⟨c6, iS6, hKn6⟩ := u_known (C := RX6) (T := TX6) (N := 30) (n := 30) hts inX6 (htt (.instantiable RX6 30) (by decide +kernel))
  obtain ⟨dC, dI, hKc⟩ : ∃ (dC : Nat → ClassId) (dI : Nat → Nat → Nat), ∀ (k : Nat) (q : vw_C), vwCl[k]? = some q → u_Kn s q.1 q.2.1 q.2.2 (dC k) (dI k) := by
    refine ⟨fun k => if k = 0 then c0 else if k = 1 then c1 else if k = 2 then c2 else if k = 3 then c3 else if k = 4 then c4 else if k = 5 then c5 else c6, fun k => if k = 0 then iS0 else if k = 1 then iS1 else if k = 2 then iS2 else if k = 3 then iS3 else if k = 4 then iS4 else if k = 5 then iS5 else iS6, ?_⟩
    intro k q hq
    match k, hq with
    | 0, hq => cases hq; exact hKn0
    | 1, hq => cases hq; exact hKn1
    | 2, hq => cases hq; exact hKn2
    | 3, hq => cases hq; exact hKn3
    | 4, hq => cases hq; exact hKn4
    | 5, hq => cases hq; exact hKn5
    | 6, hq => cases hq; exact hKn6
    | k + 7, hq => simp [vwCl] at hq
  obtain ⟨cI, aI1, aI2⟩ := arr_of (htt (.arrayClass .int) (by decide +kernel))
  obtain ⟨cZ, aZ1, aZ2⟩ := arr_of (htt (.arrayClass .boolean) (by decide +kernel))
  obtain ⟨cA, aA1, aA2⟩ := aov_of (htt (.arrayOver (.array .int)) (by decide +kernel))
  obtain ⟨cL, aL1, aL2⟩ := arr_of (htt (.arrayClass .long) (by decide +kernel))
  have hK : va_K (dC, dI) vwCl (TY cI cZ cA cL) s := by
    refine ⟨hKc, fun k q h => ?_⟩
    match k, h with
    | 0, h => cases h; exact ⟨aI1, aI2⟩
    | 1, h => cases h; exact ⟨aZ1, aZ2⟩
    | 2, h => cases h; exact ⟨aA1, aA2⟩
    | 3, h => cases h; exact ⟨aL1, aL2⟩
    | k + 4, h => simp [TY] at h
  have hO : va_AOA .int s := va_AOA.of (htt (.arrayOver (.array .int)) (by decide +kernel))
  have hNW : NW s := fun w hw => va_Nw.of (nw_on w hw) (htt w (nw_in w hw))
  have hNM : NM s := fun w hw => va_Nw.of (nwM_on w hw) (htt w (nwM_in w hw))
  have hNX : NX s := fun w hw => va_Nw.of (nwX_on w hw) (htt w (nwX_in w hw))
  have hNC : NCs s := by
    intro i hi j hj hij
    have n12 := va_Nc.of (hs (.not (.castable (exn 1) (exn 2))) (by decide +kernel))
    have n13 := va_Nc.of (hs (.not (.castable (exn 1) (exn 3))) (by decide +kernel))
    have n21 := va_Nc.of (hs (.not (.castable (exn 2) (exn 1))) (by decide +kernel))
    have n23 := va_Nc.of (hs (.not (.castable (exn 2) (exn 3))) (by decide +kernel))
    have n31 := va_Nc.of (hs (.not (.castable (exn 3) (exn 1))) (by decide +kernel))
    have n32 := va_Nc.of (hs (.not (.castable (exn 3) (exn 2))) (by decide +kernel))
    have hi3 : i = 1 ∨ i = 2 ∨ i = 3 := by simpa [excs] using hi
    have hj3 : j = 1 ∨ j = 2 ∨ j = 3 := by simpa [excs] using hj
    rcases hi3 with rfl | rfl | rfl <;> rcases hj3 with rfl | rfl | rfl <;> first | exact absurd rfl hij | assumption
  obtain ⟨ts0, _, _, _, et0, -⟩ := Cond.exactly_spec (hs (.exactly (.string RX5 214) "java/lang/String") (by decide +kernel))
  have vt0 : vk_R RX5 214 "there is no such number" ts0 s := vk_R.of (htt (.stringRef RX5 214 "there is no such number") (by decide +kernel)) et0
  obtain ⟨ts1, _, _, _, et1, -⟩ := Cond.exactly_spec (hs (.exactly (.string RX5 221) "java/lang/String") (by decide +kernel))
  have vt1 : vk_R RX5 221 "an argument is out of its range" ts1 s := vk_R.of (htt (.stringRef RX5 221 "an argument is out of its range") (by decide +kernel)) et1
  obtain ⟨ts2, _, _, _, et2, -⟩ := Cond.exactly_spec (hs (.exactly (.string RX5 226) "java/lang/String") (by decide +kernel))
  have vt2 : vk_R RX5 226 "there are as many as there may be" ts2 s := vk_R.of (htt (.stringRef RX5 226 "there are as many as there may be") (by decide +kernel)) et2
  obtain ⟨ts3, _, _, _, et3, -⟩ := Cond.exactly_spec (hs (.exactly (.string RX5 229) "java/lang/String") (by decide +kernel))
  have vt3 : vk_R RX5 229 "this can not be asked now" ts3 s := vk_R.of (htt (.stringRef RX5 229 "this can not be asked now") (by decide +kernel)) et3
  have hZU := fun (A : Nat → Prop) (h : ∀ a : Nat, a < s.heap.size → ¬ A a) => vx_Zqof (A := A) (htt (.laysStatic Bundle.tN "UNASSIGNED_STACK" Bundle.steD) (by decide +kernel)) (htt (.initialized Bundle.tN) (by decide +kernel)) (hs (.isRef (.static Bundle.tN "UNASSIGNED_STACK" Bundle.steD)) (by decide +kernel)) h
  have hZN := fun (A : Nat → Prop) (h : ∀ a : Nat, a < s.heap.size → ¬ A a) => vx_Zqof (A := A) (htt (.laysStatic Bundle.tN "SUPPRESSED_SENTINEL" Bundle.listD) (by decide +kernel)) (htt (.initialized Bundle.tN) (by decide +kernel)) (hs (.isRef (.static Bundle.tN "SUPPRESSED_SENTINEL" Bundle.listD)) (by decide +kernel)) h
  have hlt : l.stackTraces = false := by
    unfold Launch.stackTraces
    rw [hflags]
    decide +kernel
  have hS : va_S (fun q : Nat => s.heap.size ≤ q) s.heap s.heap [] := va_S.rf
  have hP : va_P (dC, dI) vwCl [] s.heap := fun k q h => by simp at h
  have hD : va_D (fun q : Nat => s.heap.size ≤ q) [] := ⟨fun i j p q h => by simp at h, fun k q h => by simp at h⟩
  have hl := lv_entry ([.ref b]) (n := 7) (Nat.le_of_ble_eq_true rfl)
  rw [lg_entry_eq]
  generalize (lg_sl ([.ref b]) ++ List.replicate (7 - (lg_sl ([.ref b])).length) Slot.unset).toArray = ls at hl ⊢
  have hl : lv_has ls 7 [(0, .ref b)] := hl
  refine va_new (ci := 5) (fs := [.null, .null, .null, .null, .null, .null, .null, .null]) (C := RX5) (T := TX5) (N := 8) hx hb hts inX5 tyX5 tyX5_ok hown (htt (.classLink RL 8 RX5) (by decide +kernel)) (htt (.instantiable RX5 8) (by decide +kernel)) (htt (.initialized RX5) (by decide +kernel)) hK hP hD hS hA rfl (fun j hj => by rcases (show j = 0 ∨ j = 1 ∨ j = 2 ∨ j = 3 ∨ j = 4 ∨ j = 5 ∨ j = 6 ∨ j = 7 by omega) with rfl | rfl | rfl | rfl | rfl | rfl | rfl | rfl <;> rfl) (Nat.le_of_ble_eq_true rfl) (Nat.le_of_ble_eq_true rfl) dL_law_0 (fun h0 H hP hD hS => ?_)
  refine W.widen (k := 1) (n := 8) (by omega) (by omega) ?_
  refine lv_dup hx hb dL_law_3 rfl ?_
  have hPc := one_W (X := []) hP
  have hFc := one_F (X := []) hD (sz := H.size) (fun q h => Nat.le_trans hS.1 h)
  refine va_callv (va_runI (As := []) (rest := [.ref h0]) ⟨hx, hb, hml, hown, htl⟩ (n_X5 l (dC, dI) cI cZ cA cL h0 H.size) (cwI 0 htl gL_law_X5_init rfl rfl rfl (htt (.initialized RX5) (by decide +kernel)) (htt (.methodLink RL 107 yX5_init) (by decide +kernel)) (htt (.instanceMethod yX5_init) (by decide +kernel)) rfl (by decide +kernel) ⟨Nat.le_of_ble_eq_true rfl, Nat.le_of_ble_eq_true rfl⟩) ⟨pcm_blind, fun U hU hW => ⟨rfl, by rw [hU], by rw [hU]; exact hPc, va_K.moved hW.alike hK, va_AOA.moved hW.alike hO, one_D, nm_warm hW hNM⟩⟩ rfl rfl hl.1 rfl (lv_room (Nat.le_of_ble_eq_true rfl)) dL_law_4 ⟨Nat.le_of_ble_eq_true rfl, Nat.le_of_ble_eq_true rfl⟩) hS (fun q _ h => hFc q h) hFc (fun u5 t H1 locs ht hvm hw5 hB hz1 hk1 hS => ?_)
  obtain ⟨hP1, hD1⟩ := hB
  rw [ht] at hP1
  obtain ⟨hP, hD⟩ := app_join (X := []) hP hD hk1 hFc hP1 hD1
  refine W.widen (k := 153) (n := 1997) (by omega) (by omega) ?_
  refine lv_astore_n (lv' := [(1, .ref h0), (0, .ref b)]) hx hb dL_law_7 rfl hl (by decide) rfl (fun ls hl => ?_)
  refine va_new (ci := 6) (fs := [.int 0, .null, .null, .null, .int 0, .null, .null, .null, .null, .null, .null, .int 0, .null, .null, .null, .null, .null, .null, .null, .int 0, .null, .null, .int 0, .null, .null, .int 0, .null, .null, .null, .null]) (C := RX6) (T := TX6) (N := 30) hx hb hts inX6 tyX6 tyX6_ok hown (htt (.classLink RL 108 RX6) (by decide +kernel)) (htt (.instantiable RX6 30) (by decide +kernel)) (htt (.initialized RX6) (by decide +kernel)) hK hP hD hS hA rfl (fun j hj => by rcases (show j = 0 ∨ j = 1 ∨ j = 2 ∨ j = 3 ∨ j = 4 ∨ j = 5 ∨ j = 6 ∨ j = 7 ∨ j = 8 ∨ j = 9 ∨ j = 10 ∨ j = 11 ∨ j = 12 ∨ j = 13 ∨ j = 14 ∨ j = 15 ∨ j = 16 ∨ j = 17 ∨ j = 18 ∨ j = 19 ∨ j = 20 ∨ j = 21 ∨ j = 22 ∨ j = 23 ∨ j = 24 ∨ j = 25 ∨ j = 26 ∨ j = 27 ∨ j = 28 ∨ j = 29 by omega) with rfl | rfl | rfl | rfl | rfl | rfl | rfl | rfl | rfl | rfl | rfl | rfl | rfl | rfl | rfl | rfl | rfl | rfl | rfl | rfl | rfl | rfl | rfl | rfl | rfl | rfl | rfl | rfl | rfl | rfl <;> rfl) (Nat.le_of_ble_eq_true rfl) (Nat.le_of_ble_eq_true rfl) dL_law_8 (fun h6 H2 hP hD hS => ?_)
  refine W.widen (k := 154) (n := 2027) (by omega) (by omega) ?_
  refine lv_dup hx hb dL_law_11 rfl ?_
  have hPc := one_W hP
  have hFc := one_F hD (sz := H2.size) (fun q h => Nat.le_trans hS.1 h)
  refine va_callv (va_runI (As := []) (rest := [.ref h6]) ⟨hx, hb, hml, hown, htl⟩ (n_X6 l (dC, dI) cI cZ cA cL h6 H2.size) (cwI 0 htl gL_law_X6_init rfl rfl rfl (htt (.initialized RX6) (by decide +kernel)) (htt (.methodLink RL 110 yX6_init) (by decide +kernel)) (htt (.instanceMethod yX6_init) (by decide +kernel)) rfl (by decide +kernel) ⟨Nat.le_of_ble_eq_true rfl, Nat.le_of_ble_eq_true rfl⟩) ⟨pc_blind, fun U hU hW => ⟨rfl, by rw [hU], by rw [hU]; exact hPc, va_K.moved hW.alike hK, va_AOA.moved hW.alike hO, one_D⟩⟩ rfl rfl hl.1 rfl (lv_room (Nat.le_of_ble_eq_true rfl)) dL_law_12 ⟨Nat.le_of_ble_eq_true rfl, Nat.le_of_ble_eq_true rfl⟩) hS (fun q _ h => hFc q h) hFc (fun u6 t2 H3 locs3 ht2 hvm2 hw6 hB hz2 hk2 hS => ?_)
  obtain ⟨hP1, hD1⟩ := hB
  rw [ht2] at hP1
  obtain ⟨hP, hD⟩ := app_join hP hD hk2 hFc hP1 hD1
  refine W.widen (k := 178) (n := 3357) (by omega) (by omega) ?_
  refine lv_astore_n (lv' := [(2, .ref h6), (1, .ref h0), (0, .ref b)]) hx hb dL_law_15 rfl hl (by decide) rfl (fun ls hl => ?_)
  refine lv_iconst (v := 1) hx hb dL_law_16 rfl ?_
  refine va_newa (atype := .long) (ty := .long) (a0 := (1, .inr (.inl (fun _ => 0)))) hx hb (htt (.arrayClass .long) (by decide +kernel)) rfl hK hP hD hS hA (fun _ => rfl) (by decide) rfl (Nat.le_of_ble_eq_true rfl) (Nat.le_of_ble_eq_true rfl) (Nat.le_of_ble_eq_true rfl) dL_law_17 (fun qL cA2 H4 hK2 hP hD hS => ?_)
  have e1 : cA2 = cL := ra_int (t := .long) (hK.2 3 (cL, .long) rfl).2 (hK2.2 4 (cA2, .long) rfl).2
  subst e1
  refine lv_astore_n (lv' := [(3, .ref qL), (2, .ref h6), (1, .ref h0), (0, .ref b)]) hx hb dL_law_19 rfl hl (by decide) rfl (fun ls hl => ?_)
  refine lv_iconst (v := 0) hx hb dL_law_20 rfl ?_
  refine lv_istore (lv' := [(4, .int 0), (3, .ref qL), (2, .ref h6), (1, .ref h0), (0, .ref b)]) hx hb dL_law_21 hl (by decide) rfl (fun ls hl => ?_)
  obtain ⟨ad, had, e0, e6, eL, ew⟩ := lay_all (cL := cA2) (qL := qL) (b := b) hw5 hw6
  rw [show ([] ++ u5 ++ u6 ++ [(qL, .inl (cA2, 1, .inr (.inl (fun _ => 0))))] : va_W) = u5 ++ u6 ++ [(qL, .inl (cA2, 1, .inr (.inl (fun _ => 0))))] from rfl, ew] at hP hD
  have hA9 : ∀ q, AA ad s.heap.size q → s.heap.size ≤ q := fun q hq => by
    rcases hq with ⟨k, hk, rfl⟩ | hq
    · exact perm_A hD k hk
    · exact hq
  have hA8 : ∀ a : Nat, a < s.heap.size → ¬ AA ad s.heap.size a := fun a h q => absurd (hA9 a q) (Nat.not_le.mpr h)
  have Z : LCX p l e s m meth c b L xs (dC, dI) cI cZ cA cA2 ad (fun k => if k = 0 then ts0 else if k = 1 then ts1 else if k = 2 then ts2 else ts3) := by
    refine ⟨hx, hb, hml, hown, htl, hr, hlocks, hK, hNW, ⟨hNX, fun k hk => ?_, hZU _ hA8, hZN _ hA8⟩, hNC, hX, hbl, hA8 b hbl, had, perm_adI hD, hlt, hA9⟩
    match k, hk with
    | 0, _ => exact vt0
    | 1, _ => exact vt1
    | 2, _ => exact vt2
    | 3, _ => exact vt3
    | k + 4, hk => omega
  have hSA : va_S (AA ad s.heap.size) s.heap H4 _ := ⟨hS.1, fun q h1 h2 => hS.2.1 q h1 (Nat.not_le.mpr h1), fun q hq => Or.inr (hS.2.2 q hq)⟩
  refine W.widen (k := 179) (n := 3358) (by omega) (by omega) ?_
  refine law_loop G Z (c0 := 179) (s0 := 3358) (by decide) (by decide) hL (L + 1) 0 0 σ0 (by omega) (by omega) (by omega) (by omega) hCP H4 _ ls ?_ (perm_P hP) hSA
  refine ⟨hl.1, hl.2.1, rfl, fun v hv => ?_, fun k v hk hv => ?_⟩
  · simp only [List.mem_cons, List.not_mem_nil, or_false] at hv
    rcases hv with rfl | rfl | rfl | rfl | rfl | rfl | rfl <;> rfl
  · match k, hk with
    | 0, hk => cases hk; rw [show cv ad (.ref 200) = .ref b from by rw [← had]; rfl]; exact lv_at hl 4 rfl
    | 1, hk => cases hk; rw [show cv ad (.ref 0) = .ref h0 from by rw [← e0]; rfl]; exact lv_at hl 3 rfl
    | 2, hk => cases hk; rw [show cv ad (.ref 6) = .ref h6 from by rw [← e6]; rfl]; exact lv_at hl 2 rfl
    | 3, hk => cases hk; rw [show cv ad (.ref 178) = .ref qL from by rw [← eL]; rfl]; exact lv_at hl 1 rfl
    | 4, hk => cases hk; rw [nI_0]; exact lv_at hl 0 rfl
    | 5, hk => cases hk; exact absurd rfl hv
    | 6, hk => cases hk; exact absurd rfl hv
    | k + 7, hk => simp at hk
