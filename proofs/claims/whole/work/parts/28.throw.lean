/-! methods that throw: the three exceptions by numbers, what throwing needs of the world, contracts, rules -/
abbrev aFx : Type := List Value → aM → Option (Nat × Int32 × aM)
def exn (e : Nat) : String := if e = 1 then "java/lang/IndexOutOfBoundsException" else if e = 2 then "java/lang/IllegalArgumentException" else "java/lang/IllegalStateException"
def nwX : List Cond := [.castable "java/lang/IndexOutOfBoundsException" "java/lang/IndexOutOfBoundsException", .castable "java/lang/IllegalArgumentException" "java/lang/IllegalArgumentException", .castable "java/lang/IllegalStateException" "java/lang/IllegalStateException", .declares (Bundle.initS "java/lang/RuntimeException"), .declares (Bundle.initS "java/lang/Exception"), .declares (Bundle.initS "java/lang/Throwable")]
def xnames : List String := ["java/lang/RuntimeException", "java/lang/Exception"]
theorem nwX_on : ∀ w ∈ nwX, w.onTables = true := by decide +kernel
def NX (U : State) : Prop := ∀ w ∈ nwX, va_Nw w U
theorem nx_same {u U : State} (h : u.vm = U.vm) (hN : NX u) : NX U := fun w hw => va_Nw.same (nwX_on w hw) h (hN w hw)
theorem nx_warm {s U : State} (hW : s.WarmedH U.vm) (hN : NX s) : NX U :=
  List.forall_mem_cons.mpr ⟨va_Nw.warmC hW (hN _ (List.mem_of_getElem? (i := 0) rfl)), List.forall_mem_cons.mpr ⟨va_Nw.warmC hW (hN _ (List.mem_of_getElem? (i := 1) rfl)), List.forall_mem_cons.mpr ⟨va_Nw.warmC hW (hN _ (List.mem_of_getElem? (i := 2) rfl)), List.forall_mem_cons.mpr ⟨va_Nw.warmD hW (hN _ (List.mem_of_getElem? (i := 3) rfl)), List.forall_mem_cons.mpr ⟨va_Nw.warmD hW (hN _ (List.mem_of_getElem? (i := 4) rfl)), List.forall_mem_cons.mpr ⟨va_Nw.warmD hW (hN _ (List.mem_of_getElem? (i := 5) rfl)), fun _ h => absurd h List.not_mem_nil⟩⟩⟩⟩⟩⟩
def xtext (e : Nat) : Nat × String := if e = 0 then (214, "there is no such number") else if e = 1 then (221, "an argument is out of its range") else if e = 2 then (226, "there are as many as there may be") else (229, "this can not be asked now")
def XS (sa : Nat → Nat) (A : Nat → Prop) (U : State) (H : Heap) : Prop := NX U ∧ (∀ k, k < 4 → vk_R RX5 (xtext k).1 (xtext k).2 (sa k) U) ∧ vx_Zq Bundle.tN "UNASSIGNED_STACK" Bundle.steD A U H ∧ vx_Zq Bundle.tN "SUPPRESSED_SENTINEL" Bundle.listD A U H
theorem XS.warm {sa : Nat → Nat} {A : Nat → Prop} {s U : State} {H : Heap} (hW : s.WarmedH U.vm) (h : XS sa A s H) : XS sa A U H :=
  ⟨nx_warm hW h.1, fun k hk => vk_R.warm hW (h.2.1 k hk), vx_Zq.moved hW.alike h.2.2.1, vx_Zq.moved hW.alike h.2.2.2⟩
theorem XS.same {sa : Nat → Nat} {A : Nat → Prop} {u U : State} {H : Heap} (hv : U.vm = u.vm) (h : XS sa A u H) : XS sa A U H :=
  ⟨nx_same hv.symm h.1, fun k hk => vk_R.same hv (h.2.1 k hk), vx_Zq.moved (by rw [hv]; exact Vm.Alike.refl _) h.2.2.1, vx_Zq.moved (by rw [hv]; exact Vm.Alike.refl _) h.2.2.2⟩
theorem XS.kept {sa : Nat → Nat} {A : Nat → Prop} {U : State} {H H1 : Heap} (hq : ∀ a : Nat, a < H.size → ¬ A a → H1[a]? = H[a]?) (h : XS sa A U H) : XS sa A U H1 :=
  ⟨h.1, h.2.1, h.2.2.1.kept hq, h.2.2.2.kept hq⟩
theorem XS.narrow {sa : Nat → Nat} {A B : Nat → Prop} {U : State} {H : Heap} (hq : ∀ q, B q → A q) (h : XS sa A U H) : XS sa B U H :=
  ⟨h.1, h.2.1, h.2.2.1.narrow hq, h.2.2.2.narrow hq⟩
abbrev PX (D : va_G) (cI cZ cA cL : ClassId) (ad sa : Nat → Nat) (sz : Nat) (σ : aM) (U : State) : Prop := PP D cI cZ cA cL ad sz σ U ∧ XS sa (AA ad sz) U U.heap
abbrev XCs (D : va_G) (cI cZ cA cL : ClassId) (ad : Nat → Nat) (sz : Nat) (Xa : Nat → aM → Prop) : String → State → State → Prop := vx_X (fun u : Nat × aM => Xa u.1 u.2) (fun E u t => E = exn u.1 ∧ BB D cI cZ cA cL ad u.2 t) (AA ad sz)
def CtXi (l : Launch) (y : MethodName) (ws : List Cond) (rm : Room) (mc : Nat) (D : va_G) (cI cZ cA cL : ClassId) (ad sa : Nat → Nat) (pre : List Value) (F : aFx) : Prop :=
  ∀ (sz : Nat) (As : List Value) (σ : aM) (e : Nat) (r : Int32) (σ' : aM), F As σ = some (e, r, σ') → vx_Met l y ws rm (va_Pc ((pre ++ As).map (cv ad)) (PX D cI cZ cA cL ad sa sz σ)) (va_Qi (fun (r2 : Int32) (u : aM) => e = 0 ∧ r2 = r ∧ u = σ') (BB D cI cZ cA cL ad) (AA ad sz)) (XCs D cI cZ cA cL ad sz (fun e2 u => e2 = e ∧ ¬ e = 0 ∧ u = σ')) mc (6 * mc) (AA ad sz)
def CtXv (l : Launch) (y : MethodName) (ws : List Cond) (rm : Room) (mc : Nat) (D : va_G) (cI cZ cA cL : ClassId) (ad sa : Nat → Nat) (pre : List Value) (F : aFx) : Prop :=
  ∀ (sz : Nat) (As : List Value) (σ : aM) (e : Nat) (r : Int32) (σ' : aM), F As σ = some (e, r, σ') → vx_Met l y ws rm (va_Pc ((pre ++ As).map (cv ad)) (PX D cI cZ cA cL ad sa sz σ)) (va_Qv (fun (u : aM) => e = 0 ∧ u = σ') (BB D cI cZ cA cL ad) (AA ad sz)) (XCs D cI cZ cA cL ad sz (fun e2 u => e2 = e ∧ ¬ e = 0 ∧ u = σ')) mc (6 * mc) (AA ad sz)
def bnN {β : Type} (o : Option (Int32 × aM)) (f : Int32 → aM → Option β) : Option β := match o with
  | none => none
  | some (r, s) => f r s
theorem bnN_some {β : Type} {o : Option (Int32 × aM)} {f : Int32 → aM → Option β} {y : β} (h : bnN o f = some y) : ∃ r s, o = some (r, s) ∧ f r s = some y := by
  unfold bnN at h
  split at h
  · cases h
  · exact ⟨_, _, rfl, h⟩
def bnX (o : Option (Nat × Int32 × aM)) (f : aM → Option (Nat × Int32 × aM)) : Option (Nat × Int32 × aM) := match o with
  | none => none
  | some (e, _, s) => if e = 0 then f s else some (e, 0, s)
theorem bnX_some {o : Option (Nat × Int32 × aM)} {f : aM → Option (Nat × Int32 × aM)} {y : Nat × Int32 × aM} (h : bnX o f = some y) : ∃ e r s, o = some (e, r, s) ∧ ((e = 0 ∧ f s = some y) ∨ (¬ e = 0 ∧ y = (e, 0, s))) := by
  unfold bnX at h
  split at h
  · cases h
  · refine ⟨_, _, _, rfl, ?_⟩
    split at h
    · exact Or.inl ⟨by assumption, h⟩
    · exact Or.inr ⟨by assumption, (Option.some.inj h).symm⟩
theorem itX_some {β : Type} {c : Prop} [Decidable c] {X : Option β} {y : β} (h : (if c then X else none) = some y) : c ∧ X = some y := by
  split at h
  · exact ⟨by assumption, h⟩
  · cases h
theorem itX_cases {β : Type} {c : Prop} [Decidable c] {X Y : Option β} {y : β} (h : (if c then X else Y) = some y) : (c ∧ X = some y) ∨ (¬ c ∧ Y = some y) := by
  split at h
  · exact Or.inl ⟨by assumption, h⟩
  · exact Or.inr ⟨by assumption, h⟩
def I_throw (e : Nat) (Xa : Nat → aM → Prop) : aI := fun _ x => match x with
  | (_, _, [], σ) => Xa e σ
  | _ => False
def I_callX (n : Nat) (F : aFx) (KN : aS → Prop) (Xa : Nat → aM → Prop) : aI := fun _ x => match x with
  | (pc, L, st, σ) => bif Nat.ble n st.length && catS (st.drop n) then (∃ e r σ', F (st.take n).reverse σ = some (e, r, σ') ∧ (e = 0 → KN (pc + 3, L, st.drop n, σ')) ∧ (¬ e = 0 → Xa e σ')) else False
theorem px_blind {D : va_G} {cI cZ cA cL : ClassId} {ad sa : Nat → Nat} {av : List Value} {sz : Nat} {σ : aM} : FrameBlind (va_Pc av (PX D cI cZ cA cL ad sa sz σ)) := fun a U g mk q => by
  obtain ⟨q0, ⟨q1, qP, qK, qN⟩, qX⟩ := q
  exact ⟨q0, ⟨q1, qP, va_K.moved (u := U) (U := U.calling g mk a) (Vm.Alike.refl U.vm) qK, nw_same (u := U) (U := U.calling g mk a) rfl qN⟩, XS.same (u := U) (U := U.calling g mk a) rfl qX⟩
section THROWS
variable {p : Program} {l : Launch} {e : Env} {R : Room} {s : State} {m : MethodId} {args : Array Value} {below : List Frame} {meth : Method} {c : Code} {cells slots : Nat}
variable {cc : ByteArray} {nL : Nat} {D : va_G} {cI cZ cA cL : ClassId} {ad sa : Nat → Nat} {Ts : List Cond} {own : String} {mc : Nat} {Qc : Array Value → State → Outcome → State → Prop}
theorem ru_callX {pc n index maxL : Nat} {y : MethodName} {bytes : ByteArray} {ret : Option FieldType} {ws : List Cond} {rm : Room} {F : aFx} {Xa : Nat → aM → Prop} (hx : p.tables.exec = Jvm.exec) (hb : c.code = cc) (hml : c.maxLocals = nL) (hown : s.vm.findClass own = some m.cls) (hts : ∀ w ∈ Ts, w.before args s = true) (hK : va_K D vwCl (TY cI cZ cA cL) s) (hN : NW s) (hX : XS sa (AA ad s.heap.size) s s.heap) (hno : ∀ x ∈ c.exceptionTable.toList, False) (hlocks : meth.locks = false)
    (hM : CtXv l y ws rm 1 D cI cZ cA cL ad sa [] F) (cw : CallB R s args own index y bytes maxL ret ws rm 1 6 n ∧ (Cond.static y).before args s = true) (hdg : decode cc pc = .ok (.invokestatic index, 3)) (hroom : cells + 1 ≤ R.cells ∧ slots + 6 ≤ R.slots) (hmc : cells + 1 ≤ mc ∧ slots + 6 ≤ 6 * mc) :
    Ru p l e R s m args below meth c cells slots (vx_MQ below Qc (XCs D cI cZ cA cL ad s.heap.size Xa) args s mc (6 * mc) (AA ad s.heap.size)) nL D cI cZ cA cL ad (AA ad s.heap.size) s.heap (I_callX n F (WS p l e R s m args below meth c (cells + 1) (slots + 6) (vx_MQ below Qc (XCs D cI cZ cA cL ad s.heap.size Xa) args s mc (6 * mc) (AA ad s.heap.size)) nL D cI cZ cA cL ad (AA ad s.heap.size) s.heap) Xa) pc := by
  refine ⟨fun _ _ _ _ h => h, fun L st σ h => ?_⟩
  revert h
  simp only [I_callX]
  cases hao : Nat.ble n st.length && catS (st.drop n) with
  | false => exact fun h => h.elim
  | true =>
    rw [Bool.and_eq_true] at hao
    have hlen : n ≤ st.length := Nat.le_of_ble_eq_true hao.1
    intro h H locs ls hl hP hS
    obtain ⟨e1, r, σ', hF, hk, hk2⟩ := h
    have est : st.map (cv ad) = (((st.take n).reverse).map (cv ad)).reverse ++ (st.drop n).map (cv ad) := by
      rw [List.map_reverse, List.reverse_reverse, ← List.map_append, List.take_append_drop]
    show W p l e R s m args below meth c H locs cells slots _ (F0 m pc ls (st.map (cv ad)))
    rw [est]
    refine vx_callv (mc := 1) (ms := 6) (vx_runS (As := ((st.take n).reverse).map (cv ad)) (rest := (st.drop n).map (cv ad)) ⟨hx, hb, hml, hown, hts⟩ (hM H.size _ σ e1 r σ' hF) cw ⟨px_blind, fun U hU hW => ⟨rfl, ⟨by rw [hU], by rw [hU]; exact hP, va_K.moved hW.alike hK, nw_warm hW hN⟩, by rw [hU]; exact XS.warm hW ((XS.kept hS.2.1 hX).narrow (va_S_AA hS))⟩⟩ rfl (by simp; omega) hl.1 rfl (lv_room (catS_map hao.2)) hdg hroom) hS (fun q _ h9 => va_S_AA hS q h9) (va_S_AA hS) (fun q _ h9 => va_S_AA hS q h9) ?_ (fun u t H1 locs1 ht hvm hw hB hz1 hk1 hS1 => ?_)
    · intro E ce q9 u t H1 locs1 ht hvm hpx hB hz1 hk1 hS1 hce hcv hcl
      obtain ⟨u1, u2⟩ := u
      obtain ⟨q1, q2, q3⟩ := hpx
      obtain ⟨hE, hP1, hK1⟩ := hB
      dsimp only at q1 q2 q3 hE hP1
      subst q1; subst q3
      refine vx_out (fun x hx => (hno x hx).elim) hlocks hce hcv hcl (fun t2 ht2 hv2 => ⟨(u1, u2), hk2 q2, ⟨hE, by rw [ht2, ← ht]; exact hP1, va_K.moved hv2 hK⟩, hS1.F ht2⟩) hS1.2.2 hmc.1 hmc.2
    · obtain ⟨h0, hw⟩ := hw
      subst hw
      obtain ⟨hP1, hK1⟩ := hB
      rw [ht] at hP1
      exact hk h0 H1 locs1 ls hl hP1 hS1
theorem ru_throw {pc ik is ic k e1 : Nat} {cls : String} {Xa : Nat → aM → Prop} (hx : p.tables.exec = Jvm.exec) (hb : c.code = cc) (hl : l.stackTraces = false) (hml : c.maxLocals = nL) (hown : s.vm.findClass RX5 = some m.cls) (hts : ∀ w ∈ Ts, w.before args s = true) (hK : va_K D vwCl (TY cI cZ cA cL) s) (hX : XS sa (AA ad s.heap.size) s s.heap) (hno : ∀ x ∈ c.exceptionTable.toList, False) (hlocks : meth.locks = false)
    (hcls : Bundle.fit cls = true) (hk : (Cond.classLink RX5 ik cls) ∈ Ts) (hini : (Cond.initialized cls) ∈ Ts) (h4 : k < 4) (his : is = (xtext k).1) (hgw : ∀ w ∈ (vx_atS RX5 ic cls xnames).filter goodWord, w ∈ Ts) (hbw : ∀ w ∈ (vx_atS RX5 ic cls xnames).filter (fun w => !goodWord w), w ∈ nwX) (hot : ∀ w ∈ Cond.classLink RX5 ik cls :: Cond.initialized cls :: vx_atS RX5 ic cls xnames, vx_ot w = true) (hexn : cls = exn e1)
    (d0 : decode cc pc = .ok (.new ik, 3)) (d3 : decode cc (pc + 3) = .ok (.dup, 1)) (d4 : decode cc (pc + 4) = .ok (.ldc is, 2)) (d6 : decode cc (pc + 6) = .ok (.invokespecial ic, 3)) (d9 : decode cc (pc + 9) = .ok (.athrow, 1))
    (hR : 5 < R.frames ∧ 82 ≤ R.locals ∧ cells + 1 ≤ R.cells ∧ slots + 6 ≤ R.slots) (hmc : cells + 1 ≤ mc ∧ slots + 6 ≤ 6 * mc) :
    Ru p l e R s m args below meth c cells slots (vx_MQ below Qc (XCs D cI cZ cA cL ad s.heap.size Xa) args s mc (6 * mc) (AA ad s.heap.size)) nL D cI cZ cA cL ad (AA ad s.heap.size) s.heap (I_throw e1 Xa) pc := by
  refine ⟨fun _ _ _ _ h => h, fun L st σ h => ?_⟩
  revert h
  unfold I_throw
  split
  · rename_i pc' L' σ' heq
    cases heq
    intro h H locs ls hl2 hP hS
    refine vx_throwS (cls := cls) (text := (xtext k).2) (names := xnames) (is := is) (sa := sa k) hx hb hl hown hcls (by decide +kernel) (hts _ hk) (hts _ hini) (by rw [his]; exact hX.2.1 k h4) (vx_hat (fun w hw => hts w (hgw w hw)) hbw (fun w hw => va_Nw.use (nwX_on w hw) (hX.1 w hw))) hot hX.2.2.1 hX.2.2.2 hS (hl2.1.trans hml.symm) d0 d3 d4 d6 d9 (fun x hx => (hno x hx).elim) hR.1 hR.2.1 hR.2.2.1 hR.2.2.2 hlocks ?_ hS.2.2 hmc.1 hmc.2
    intro t hv hz hkeep
    refine ⟨(e1, σ), h, ⟨hexn, hP.kept (fun k9 x hx => hkeep x.1 ((hP k9 x hx).lt)), va_K.moved hv hK⟩, Nat.le_trans hS.1 hz, fun q h1 h2 => ?_⟩
    rw [hkeep q (Nat.lt_of_lt_of_le h1 hS.1)]
    exact hS.2.1 q h1 h2
  · exact fun h => h.elim
theorem ru_iretX {pc : Nat} {Qa : Int32 → aM → Prop} {XC : String → State → State → Prop} (hx : p.tables.exec = Jvm.exec) (hb : c.code = cc) (hK : va_K D vwCl (TY cI cZ cA cL) s) (hr : meth.sig.returnType = some .int) (hlocks : meth.locks = false) (hdg : decode cc pc = .ok (.ireturn, 1)) (hmc : cells ≤ mc ∧ slots ≤ 6 * mc) :
    Ru p l e R s m args below meth c cells slots (vx_MQ below (va_Qi Qa (BB D cI cZ cA cL ad) (AA ad s.heap.size)) XC args s mc (6 * mc) (AA ad s.heap.size)) nL D cI cZ cA cL ad (AA ad s.heap.size) s.heap (I_iret Qa) pc := by
  refine ⟨mono_iret _, fun L st σ h => ?_⟩
  revert h
  unfold I_iret
  split
  · rename_i pc' L' v σ' heq
    cases heq
    intro h H locs ls hl hP hS
    exact W.widen hmc.1 hmc.2 (vx_ret (W.iret (v := v) hx hb hr (fun t ht hW => ⟨⟨v, σ, rfl, h, by rw [ht]; exact hP, va_K.moved hW.alike hK⟩, hS.F ht⟩) hS.2.2 hdg hlocks))
  · exact fun h => h.elim
theorem ru_vretX {pc : Nat} {Qa : Int32 → aM → Prop} {XC : String → State → State → Prop} (hx : p.tables.exec = Jvm.exec) (hb : c.code = cc) (hK : va_K D vwCl (TY cI cZ cA cL) s) (hr : meth.sig.returnType = none) (hlocks : meth.locks = false) (hdg : decode cc pc = .ok (.return_, 1)) (hmc : cells ≤ mc ∧ slots ≤ 6 * mc) :
    Ru p l e R s m args below meth c cells slots (vx_MQ below (va_Qv (Qa 0) (BB D cI cZ cA cL ad) (AA ad s.heap.size)) XC args s mc (6 * mc) (AA ad s.heap.size)) nL D cI cZ cA cL ad (AA ad s.heap.size) s.heap (I_vret Qa) pc := by
  refine ⟨mono_vret _, fun L st σ h => ?_⟩
  revert h
  unfold I_vret
  split
  · rename_i pc' L' σ' heq
    cases heq
    intro h H locs ls hl hP hS
    exact W.widen hmc.1 hmc.2 (vx_ret (W.vret hx hb hr (fun t ht hW => ⟨⟨σ, rfl, h, by rw [ht]; exact hP, va_K.moved hW.alike hK⟩, hS.F ht⟩) hS.2.2 hdg hlocks))
  · exact fun h => h.elim
end THROWS
abbrev aTx : Type := (Int32 → aM → Prop) → (Nat → aM → Prop) → (aS → Prop) → List aI
def shpX (pre : List Value) (n : Nat) (F : aFx) : Prop := ∀ As σ y, F As σ = some y → (∀ v ∈ pre ++ As, v.category = 1) ∧ (pre ++ As).length ≤ n
def runsX (T : aTx) (mc : Nat) (pre : List Value) (n : Nat) (F : aFx) : Prop := ∀ (Qa : Int32 → aM → Prop) (Xa : Nat → aM → Prop) (K : Nat → aS → Prop), (∀ c, c < mc → ∀ k x, wp (T Qa Xa (K (c + 1))) k (K c) x → K c x) → (∀ c pc L i st σ, K c (pc, L.set i .null, st, σ) → K c (pc, L, st, σ)) → ∀ As σ y, F As σ = some y → (y.1 = 0 → Qa y.2.1 y.2.2) → (¬ y.1 = 0 → Xa y.1 y.2.2) → K 0 (0, (pre ++ As) ++ List.replicate (n - (pre ++ As).length) .null, [], σ)
def CXX (p : Program) (s : State) (m : MethodId) (args : Array Value) (meth : Method) (c : Code) (cc : ByteArray) (nL : Nat) (ret : Option FieldType) (own : String) (ws : List Cond) (D : va_G) (cI cZ cA cL : ClassId) (ad sa : Nat → Nat) : Prop :=
  CX p s m args meth c cc nL ret own ws D cI cZ cA cL ∧ XS sa (AA ad s.heap.size) s s.heap ∧ (∀ x ∈ c.exceptionTable.toList, False)
theorem mk_Xi {l : Launch} {y : MethodName} {ws ws' : List Cond} {f k mc : Nat} {D : va_G} {cI cZ cA cL : ClassId} {ad sa : Nat → Nat} {cc : ByteArray} {maxL : Nat} (pre : List Value) (F : aFx) (T : aTx) (hy : plainName y.cls = true) (hw : ws = Cond.code y cc maxL (some .int) :: ws')
    (hr : ∀ (p : Program) (e : Env) (s : State) (m : MethodId) (args : Array Value) (below : List Frame) (meth : Method) (c : Code) (Qa : Int32 → aM → Prop) (Xa : Nat → aM → Prop), CXX p s m args meth c cc maxL (some .int) y.cls ws D cI cZ cA cL ad sa → ∀ n, n < mc → ruL (Ru p l e { frames := f, cells := mc, slots := 6 * mc, locals := k } s m args below meth c n (6 * n) (vx_MQ below (va_Qi Qa (BB D cI cZ cA cL ad) (AA ad s.heap.size)) (XCs D cI cZ cA cL ad s.heap.size Xa) args s mc (6 * mc) (AA ad s.heap.size)) maxL D cI cZ cA cL ad (AA ad s.heap.size) s.heap) 0 (T Qa Xa (WS p l e { frames := f, cells := mc, slots := 6 * mc, locals := k } s m args below meth c (n + 1) (6 * (n + 1)) (vx_MQ below (va_Qi Qa (BB D cI cZ cA cL ad) (AA ad s.heap.size)) (XCs D cI cZ cA cL ad s.heap.size Xa) args s mc (6 * mc) (AA ad s.heap.size)) maxL D cI cZ cA cL ad (AA ad s.heap.size) s.heap)))
    (hsh : shpX pre maxL F) (hru : runsX T mc pre maxL F) : CtXi l y ws { frames := f, cells := mc, slots := 6 * mc, locals := k } mc D cI cZ cA cL ad sa pre F := by
  intro sz As σ e1 r σ' hF
  refine vx_ofW (cc := cc) (maxL := maxL) (ret := some .int) hy hw ?_
  intro p e s m args below meth c s₁ B hml hno hv
  obtain ⟨rfl, ⟨hsz, hP, hK, hN⟩, hX⟩ := hv
  have hx := B.exec
  have hb := B.bytes
  have hrt := B.returns
  have hts := atoms_spec (ws := ws) B.pre
  have hown : s.vm.findClass y.cls = some m.cls := findClass_of_methodNamed B.named
  have hlocks := B.notSynchronized
  subst hsz
  obtain ⟨h1, h2⟩ := hsh As σ _ hF
  have hl := lh_entry (ad := ad) (pre ++ As) h1 h2
  rw [lg_entry_eq]
  have key := hr p e s m _ below meth c (fun r2 u => e1 = 0 ∧ r2 = r ∧ u = σ') (fun e2 u => e2 = e1 ∧ ¬ e1 = 0 ∧ u = σ') ⟨⟨hx, hb, hml, hown, hts, hrt, hlocks, hK, hN⟩, hX, hno⟩
  exact hru _ _ (fun n => WS p l e { frames := f, cells := mc, slots := 6 * mc, locals := k } s m _ below meth c n (6 * n) (vx_MQ below (va_Qi (fun r2 u => e1 = 0 ∧ r2 = r ∧ u = σ') (BB D cI cZ cA cL ad) (AA ad s.heap.size)) (XCs D cI cZ cA cL ad s.heap.size (fun e2 u => e2 = e1 ∧ ¬ e1 = 0 ∧ u = σ')) _ s mc (6 * mc) (AA ad s.heap.size)) maxL D cI cZ cA cL ad (AA ad s.heap.size) s.heap) (fun n hn => wp_WS (key n hn)) (fun n pc L i st σ => WS_forget) As σ _ hF (fun h0 => ⟨h0, rfl, rfl⟩) (fun h0 => ⟨rfl, h0, rfl⟩) s.heap [] _ hl hP va_S.rf
theorem mk_Xv {l : Launch} {y : MethodName} {ws ws' : List Cond} {f k mc : Nat} {D : va_G} {cI cZ cA cL : ClassId} {ad sa : Nat → Nat} {cc : ByteArray} {maxL : Nat} (pre : List Value) (F : aFx) (T : aTx) (hy : plainName y.cls = true) (hw : ws = Cond.code y cc maxL none :: ws')
    (hr : ∀ (p : Program) (e : Env) (s : State) (m : MethodId) (args : Array Value) (below : List Frame) (meth : Method) (c : Code) (Qa : Int32 → aM → Prop) (Xa : Nat → aM → Prop), CXX p s m args meth c cc maxL none y.cls ws D cI cZ cA cL ad sa → ∀ n, n < mc → ruL (Ru p l e { frames := f, cells := mc, slots := 6 * mc, locals := k } s m args below meth c n (6 * n) (vx_MQ below (va_Qv (Qa 0) (BB D cI cZ cA cL ad) (AA ad s.heap.size)) (XCs D cI cZ cA cL ad s.heap.size Xa) args s mc (6 * mc) (AA ad s.heap.size)) maxL D cI cZ cA cL ad (AA ad s.heap.size) s.heap) 0 (T Qa Xa (WS p l e { frames := f, cells := mc, slots := 6 * mc, locals := k } s m args below meth c (n + 1) (6 * (n + 1)) (vx_MQ below (va_Qv (Qa 0) (BB D cI cZ cA cL ad) (AA ad s.heap.size)) (XCs D cI cZ cA cL ad s.heap.size Xa) args s mc (6 * mc) (AA ad s.heap.size)) maxL D cI cZ cA cL ad (AA ad s.heap.size) s.heap)))
    (hsh : shpX pre maxL F) (hru : runsX T mc pre maxL F) : CtXv l y ws { frames := f, cells := mc, slots := 6 * mc, locals := k } mc D cI cZ cA cL ad sa pre F := by
  intro sz As σ e1 r σ' hF
  refine vx_ofW (cc := cc) (maxL := maxL) (ret := none) hy hw ?_
  intro p e s m args below meth c s₁ B hml hno hv
  obtain ⟨rfl, ⟨hsz, hP, hK, hN⟩, hX⟩ := hv
  have hx := B.exec
  have hb := B.bytes
  have hrt := B.returns
  have hts := atoms_spec (ws := ws) B.pre
  have hown : s.vm.findClass y.cls = some m.cls := findClass_of_methodNamed B.named
  have hlocks := B.notSynchronized
  subst hsz
  obtain ⟨h1, h2⟩ := hsh As σ _ hF
  have hl := lh_entry (ad := ad) (pre ++ As) h1 h2
  rw [lg_entry_eq]
  have key := hr p e s m _ below meth c (fun _ u => e1 = 0 ∧ u = σ') (fun e2 u => e2 = e1 ∧ ¬ e1 = 0 ∧ u = σ') ⟨⟨hx, hb, hml, hown, hts, hrt, hlocks, hK, hN⟩, hX, hno⟩
  exact hru _ _ (fun n => WS p l e { frames := f, cells := mc, slots := 6 * mc, locals := k } s m _ below meth c n (6 * n) (vx_MQ below (va_Qv (fun u => e1 = 0 ∧ u = σ') (BB D cI cZ cA cL ad) (AA ad s.heap.size)) (XCs D cI cZ cA cL ad s.heap.size (fun e2 u => e2 = e1 ∧ ¬ e1 = 0 ∧ u = σ')) _ s mc (6 * mc) (AA ad s.heap.size)) maxL D cI cZ cA cL ad (AA ad s.heap.size) s.heap) (fun n hn => wp_WS (key n hn)) (fun n pc L i st σ => WS_forget) As σ _ hF (fun h0 => ⟨h0, rfl⟩) (fun h0 => ⟨rfl, h0, rfl⟩) s.heap [] _ hl hP va_S.rf
theorem xt_1 : ∀ w ∈ (vx_atS RX5 216 "java/lang/IndexOutOfBoundsException" xnames).filter (fun w => !goodWord w), w ∈ nwX := by decide +kernel
theorem xt_2 : ∀ w ∈ (vx_atS RX5 223 "java/lang/IllegalArgumentException" xnames).filter (fun w => !goodWord w), w ∈ nwX := by decide +kernel
theorem xt_3 : ∀ w ∈ (vx_atS RX5 228 "java/lang/IllegalStateException" xnames).filter (fun w => !goodWord w), w ∈ nwX := by decide +kernel
