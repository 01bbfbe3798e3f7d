/-! the law's helpers: a call of the face with catches, its answer put into a long array (number 178); the law's own instructions -/
def excs : List Nat := [1, 2, 3]
def NCs (U : State) : Prop := ∀ i ∈ excs, ∀ j ∈ excs, ¬ i = j → va_Nc (exn i) (exn j) U
theorem ncs_moved {u U : State} (h : u.vm.Alike U.vm) (hN : NCs u) : NCs U := fun i hi j hj hij => va_Nc.moved h (hN i hi j hj hij)
abbrev PW (D : va_G) (cI cZ cA cL : ClassId) (ad sa : Nat → Nat) (sz : Nat) (σ : aM) (U : State) : Prop := PX D cI cZ cA cL ad sa sz σ U ∧ NCs U
abbrev XF (ad : Nat → Nat) (sz : Nat) : String → State → State → Prop := vx_X (fun _ : Unit => False) (fun _ _ _ => False) (AA ad sz)
/-- a helper of the law: it never throws -/
def CtW (l : Launch) (y : MethodName) (ws : List Cond) (rm : Room) (mc : Nat) (D : va_G) (cI cZ cA cL : ClassId) (ad sa : Nat → Nat) (F : aF) : Prop :=
  ∀ (sz : Nat) (As : List Value) (σ : aM) (r : Int32) (σ' : aM), F As σ = some (r, σ') → vx_Met l y ws rm (va_Pc (As.map (cv ad)) (PW D cI cZ cA cL ad sa sz σ)) (va_Qi (fun (r2 : Int32) (u : aM) => r2 = r ∧ u = σ') (BB D cI cZ cA cL ad) (AA ad sz)) (XF ad sz) mc (6 * mc) (AA ad sz)
theorem pw_blind {D : va_G} {cI cZ cA cL : ClassId} {ad sa : Nat → Nat} {av : List Value} {sz : Nat} {σ : aM} : FrameBlind (va_Pc av (PW D cI cZ cA cL ad sa sz σ)) := fun a U g mk q => by
  obtain ⟨q0, ⟨⟨q1, qP, qK, qN⟩, qX⟩, qC⟩ := q
  exact ⟨q0, ⟨⟨q1, qP, va_K.moved (u := U) (U := U.calling g mk a) (Vm.Alike.refl U.vm) qK, nw_same (u := U) (U := U.calling g mk a) rfl qN⟩, XS.same (u := U) (U := U.calling g mk a) rfl qX⟩, ncs_moved (u := U) (U := U.calling g mk a) (Vm.Alike.refl U.vm) qC⟩
def I_i2l : aI := fun K x => match x with
  | (pc, L, .int a :: st, σ) => K (pc + 1, L, .long a.toInt64 :: st, σ)
  | _ => False
def I_last : aI := fun K x => match x with
  | (pc, L, .long w :: .int i :: .ref a :: st, σ) => kd a = 4 ∧ inb i (ln a) = true ∧ ∃ v : Int32, w = v.toInt64 ∧ K (pc + 1, L, st, mput σ a (ix i) v)
  | _ => False
def I_lald : aI := fun K x => match x with
  | (pc, L, .int i :: .ref a :: st, σ) => kd a = 4 ∧ inb i (ln a) = true ∧ K (pc + 1, L, .long (σ a (ix i)).toInt64 :: st, σ)
  | _ => False
def I_lcmp : aI := fun K x => match x with
  | (pc, L, .long b :: .long a :: st, σ) => K (pc + 1, L, .int (lg_cmp a b) :: st, σ)
  | _ => False
def I_callC (n : Nat) (F : aFx) (hc : Nat → Option Int32) (KN : aS → Prop) (Qa : Int32 → aM → Prop) : aI := fun _ x => match x with
  | (pc, L, st, σ) => match st.drop n with
    | .ref a :: rest => bif Nat.beq a 0 && catS rest then (∃ e r σ', F (st.take n).reverse σ = some (e, r, σ') ∧ (e = 0 → KN (pc + 3, L, .int r :: rest, σ')) ∧ (¬ e = 0 → ∃ v, hc e = some v ∧ Qa v σ')) else False
    | _ => False
/-- a static call of a helper -/
def I_callW (n : Nat) (F : aF) (KN : aS → Prop) : aI := fun _ x => match x with
  | (pc, L, st, σ) => bif Nat.ble n st.length && catS (st.drop n) then (∃ r σ', F (st.take n).reverse σ = some (r, σ') ∧ KN (pc + 3, L, .int r :: st.drop n, σ')) else False
theorem mono_i2l : mono I_i2l := by
  intro K K' x hK h
  revert h
  unfold I_i2l
  split
  · exact hK _
  · exact id
theorem mono_lcmp : mono I_lcmp := by
  intro K K' x hK h
  revert h
  unfold I_lcmp
  split
  · exact hK _
  · exact id
theorem mono_last : mono I_last := by
  intro K K' x hK h
  revert h
  unfold I_last
  split
  · exact fun ⟨h1, h2, v, h3, h4⟩ => ⟨h1, h2, v, h3, hK _ h4⟩
  · exact id
theorem mono_lald : mono I_lald := by
  intro K K' x hK h
  revert h
  unfold I_lald
  split
  · exact fun h => ⟨h.1, h.2.1, hK _ h.2.2⟩
  · exact id
section WRAP
variable {p : Program} {l : Launch} {e : Env} {R : Room} {s : State} {m : MethodId} {args : Array Value} {below : List Frame} {meth : Method} {c : Code} {Q : State → Prop} {cells slots : Nat}
variable {cc : ByteArray} {nL : Nat} {D : va_G} {cI cZ cA cL : ClassId} {ad sa : Nat → Nat} {A : Nat → Prop} {H0 : Heap} {Ts : List Cond} {own : String} {mc : Nat} {Qc : Array Value → State → Outcome → State → Prop}
theorem ru_i2l {pc : Nat} (hx : p.tables.exec = Jvm.exec) (hb : c.code = cc) (hdg : decode cc pc = .ok (.i2l, 1)) : Ru p l e R s m args below meth c cells slots Q nL D cI cZ cA cL ad A H0 I_i2l pc := by
  refine ⟨mono_i2l, fun L st σ h => ?_⟩
  revert h
  unfold I_i2l
  split
  · rename_i heq
    cases heq
    intro h H locs ls hl hP hS
    exact lv_i2l hx hb hdg rfl (h H locs ls hl hP hS)
  · exact fun h => h.elim
theorem ru_lcmp {pc : Nat} (hx : p.tables.exec = Jvm.exec) (hb : c.code = cc) (hdg : decode cc pc = .ok (.lcmp, 1)) : Ru p l e R s m args below meth c cells slots Q nL D cI cZ cA cL ad A H0 I_lcmp pc := by
  refine ⟨mono_lcmp, fun L st σ h => ?_⟩
  revert h
  unfold I_lcmp
  split
  · rename_i heq
    cases heq
    intro h H locs ls hl hP hS
    exact W.lcmp hx hb hdg (h H locs ls hl hP hS)
  · exact fun h => h.elim
theorem ru_lald {pc : Nat} (hx : p.tables.exec = Jvm.exec) (hb : c.code = cc) (hK : va_K D vwCl (TY cI cZ cA cL) s) (hdg : decode cc pc = .ok (.laload, 1)) : Ru p l e R s m args below meth c cells slots Q nL D cI cZ cA cL ad A H0 I_lald pc := by
  refine ⟨mono_lald, fun L st σ h => ?_⟩
  revert h
  unfold I_lald
  split
  · rename_i pc' L' i a st' σ' heq
    cases heq
    intro h H locs ls hl hP hS
    exact va_lald (f := fun j => (σ a j).toInt64) hx hb hK hP a 3 (by rw [wl_at (kd_lt (Or.inr (Or.inr (Or.inr h.1)))).2, cellE_long h.1]) rfl (inb_in h.2.1) hdg (h.2.2 H locs ls hl hP hS)
  · exact fun h => h.elim
theorem ru_last {pc sz : Nat} (hx : p.tables.exec = Jvm.exec) (hb : c.code = cc) (hK : va_K D vwCl (TY cI cZ cA cL) s) (hi : adI ad) (hdg : decode cc pc = .ok (.lastore, 1)) : Ru p l e R s m args below meth c cells slots Q nL D cI cZ cA cL ad (AA ad sz) H0 I_last pc := by
  refine ⟨mono_last, fun L st σ h => ?_⟩
  revert h
  unfold I_last
  split
  · rename_i pc' L' w i a st' σ' heq
    cases heq
    intro h H locs ls hl hP hS
    obtain ⟨h1, h2, v, h3, h4⟩ := h
    subst h3
    refine va_last hx hb hK hP (wl_D hi σ sz) hS a 3 (by rw [wl_at (kd_lt (Or.inr (Or.inr (Or.inr h1)))).2, cellE_long h1]) rfl (inb_in h2) hdg (fun H1 locs1 hP1 hD1 hS1 => ?_)
    rw [wl_set (k := a) (i := ix i) (v := v) (by
      rw [cellE_long h1]
      refine congrArg (fun z => (Sum.inl (cL, ln a, Sum.inr (Sum.inl z)) : va_E)) ?_
      funext j
      simp only [mput, if_true, upd, vp_updL, ix]
      by_cases hj : j = i.toNatClampNeg
      · simp [hj]
      · simp [hj])] at hP1
    exact h4 H1 locs1 ls hl hP1 hS1
  · exact fun h => h.elim
theorem ru_callC {pc n index maxL mf : Nat} {y : MethodName} {bytes : ByteArray} {ret : Option FieldType} {ws : List Cond} {rm : Room} {F : aFx} {hc : Nat → Option Int32} {Qa : Int32 → aM → Prop} {XC : String → State → State → Prop} (hx : p.tables.exec = Jvm.exec) (hb : c.code = cc) (hml : c.maxLocals = nL) (hown : s.vm.findClass own = some m.cls) (hts : ∀ w ∈ Ts, w.before args s = true) (hK : va_K D vwCl (TY cI cZ cA cL) s) (hN : NW s) (hX : XS sa (AA ad s.heap.size) s s.heap)
    (hM : CtXi l y ws rm mf D cI cZ cA cL ad sa [.ref 0] F) (cw : CallW R s args own RX5 index y bytes maxL ret ws rm mf (6 * mf) n) (hdg : decode cc pc = .ok (.invokevirtual index, 3)) (hroom : cells + mf ≤ R.cells ∧ slots + 6 * mf ≤ R.slots)
    (hh : ∀ (e1 : Nat) (v : Int32), hc e1 = some v → ∀ (H1 : Heap) (locs1 : List Loc) (ls : Array Slot) (L rest : List Value) (q9 : Addr) (ce : Cell) (σ1 : aM), lh ad ls nL L → H1[q9]? = some ce → ce.vm = .none → s.vm.findClass (exn e1) = some ce.cls → va_P D vwCl (wl cI cZ cA cL ad σ1) H1 → va_S (AA ad s.heap.size) s.heap H1 locs1 → Qa v σ1 → vx_W p l e R s m args below meth c H1 locs1 (cells + mf) (slots + 6 * mf) (vx_MQ below (va_Qi Qa (BB D cI cZ cA cL ad) (AA ad s.heap.size)) XC args s mc (6 * mc) (AA ad s.heap.size)) (F0 m pc ls rest) q9) :
    Ru p l e R s m args below meth c cells slots (vx_MQ below (va_Qi Qa (BB D cI cZ cA cL ad) (AA ad s.heap.size)) XC args s mc (6 * mc) (AA ad s.heap.size)) nL D cI cZ cA cL ad (AA ad s.heap.size) s.heap (I_callC n F hc (WS p l e R s m args below meth c (cells + mf) (slots + 6 * mf) (vx_MQ below (va_Qi Qa (BB D cI cZ cA cL ad) (AA ad s.heap.size)) XC args s mc (6 * mc) (AA ad s.heap.size)) nL D cI cZ cA cL ad (AA ad s.heap.size) s.heap) Qa) pc := by
  refine ⟨fun _ _ _ _ h => h, fun L st σ h => ?_⟩
  revert h
  simp only [I_callC]
  split
  · rename_i a rest hd
    cases hao : Nat.beq a 0 && catS rest with
    | false => exact fun h => h.elim
    | true =>
      rw [Bool.and_eq_true] at hao
      have := Nat.eq_of_beq_eq_true hao.1
      subst this
      intro h H locs ls hl hP hS
      obtain ⟨e1, r, σ', hF, hk, hk2⟩ := h
      have hlen : n ≤ st.length := by
        have := congrArg List.length hd
        rw [List.length_drop] at this
        simp at this
        omega
      have est : st.map (cv ad) = (((st.take n).reverse).map (cv ad)).reverse ++ .ref (ad 0) :: rest.map (cv ad) := by
        rw [List.map_reverse, List.reverse_reverse]
        conv => lhs; rw [← List.take_append_drop n st, hd]
        rw [List.map_append]
        rfl
      show W p l e R s m args below meth c H locs cells slots _ (F0 m pc ls (st.map (cv ad)))
      rw [est]
      refine vx_calli (mc := mf) (ms := 6 * mf) (vx_runV (As := ((st.take n).reverse).map (cv ad)) (rest := rest.map (cv ad)) (b := ad 0) ⟨hx, hb, hml, hown, hts⟩ (hM H.size _ σ e1 r σ' hF) cw ⟨px_blind, va_recv hK hP rfl (wl_obj (o := 0) (by decide)), fun U hU hW => ⟨rfl, ⟨by rw [hU], by rw [hU]; exact hP, va_K.moved hW.alike hK, nw_warm hW hN⟩, by rw [hU]; exact XS.warm hW ((XS.kept hS.2.1 hX).narrow (va_S_AA hS))⟩⟩ rfl (by simp; omega) hl.1 rfl (lv_room (catS_map hao.2)) hdg hroom) hS (fun q _ h9 => va_S_AA hS q h9) (va_S_AA hS) (fun q _ h9 => va_S_AA hS q h9) ?_ (fun r2 u t H1 locs1 ht hvm hw hB hz1 hk1 hS1 => ?_)
      · intro E ce q9 u t H1 locs1 ht hvm hpx hB hz1 hk1 hS1 hce hcv hcl
        obtain ⟨u1, u2⟩ := u
        obtain ⟨q1, q2, q3⟩ := hpx
        obtain ⟨hE, hP1, hK1⟩ := hB
        dsimp only at q1 q2 q3 hE hP1
        subst q1; subst q3
        obtain ⟨v, hv, hq⟩ := hk2 q2
        rw [hE] at hcl
        rw [ht] at hP1
        exact hh u1 v hv H1 locs1 ls L _ q9 ce u2 hl hce hcv hcl hP1 hS1 hq
      · obtain ⟨h0, rfl, rfl⟩ := hw
        obtain ⟨hP1, hK1⟩ := hB
        rw [ht] at hP1
        exact hk h0 H1 locs1 ls hl hP1 hS1
  · exact fun h => h.elim
theorem ru_callW {pc n index maxL mf : Nat} {y : MethodName} {bytes : ByteArray} {ret : Option FieldType} {hh : List (Nat × Nat × Nat × Nat)} {ws : List Cond} {rm : Room} {F : aF} (hx : p.tables.exec = Jvm.exec) (hb : c.code = cc) (hml : c.maxLocals = nL) (hown : s.vm.findClass own = some m.cls) (hts : ∀ w ∈ Ts, w.before args s = true) (hK : va_K D vwCl (TY cI cZ cA cL) s) (hN : NW s) (hX : XS sa (AA ad s.heap.size) s s.heap) (hC : NCs s)
    (hM : CtW l y ws rm mf D cI cZ cA cL ad sa F) (cw : vx_CSW R s args own index y bytes maxL ret hh ws rm mf (6 * mf) n) (hdg : decode cc pc = .ok (.invokestatic index, 3)) (hroom : cells + mf ≤ R.cells ∧ slots + 6 * mf ≤ R.slots) :
    Ru p l e R s m args below meth c cells slots Q nL D cI cZ cA cL ad (AA ad s.heap.size) s.heap (I_callW n F (WS p l e R s m args below meth c (cells + mf) (slots + 6 * mf) Q nL D cI cZ cA cL ad (AA ad s.heap.size) s.heap)) pc := by
  refine ⟨fun _ _ _ _ h => h, fun L st σ h => ?_⟩
  revert h
  simp only [I_callW]
  cases hao : Nat.ble n st.length && catS (st.drop n) with
  | false => exact fun h => h.elim
  | true =>
    rw [Bool.and_eq_true] at hao
    have hlen : n ≤ st.length := Nat.le_of_ble_eq_true hao.1
    intro h H locs ls hl hP hS
    obtain ⟨r, σ', hF, hk⟩ := h
    have est : st.map (cv ad) = (((st.take n).reverse).map (cv ad)).reverse ++ (st.drop n).map (cv ad) := by
      rw [List.map_reverse, List.reverse_reverse, ← List.map_append, List.take_append_drop]
    show W p l e R s m args below meth c H locs cells slots Q (F0 m pc ls (st.map (cv ad)))
    rw [est]
    refine vx_calli (mc := mf) (ms := 6 * mf) (vx_runSX (As := ((st.take n).reverse).map (cv ad)) (rest := (st.drop n).map (cv ad)) ⟨hx, hb, hml, hown, hts⟩ (hM H.size _ σ r σ' hF) cw ⟨pw_blind, fun U hU hW => ⟨rfl, ⟨⟨by rw [hU], by rw [hU]; exact hP, va_K.moved hW.alike hK, nw_warm hW hN⟩, by rw [hU]; exact XS.warm hW ((XS.kept hS.2.1 hX).narrow (va_S_AA hS))⟩, ncs_moved hW.alike hC⟩⟩ rfl (by simp; omega) hl.1 rfl (lv_room (catS_map hao.2)) hdg hroom) hS (fun q _ h9 => va_S_AA hS q h9) (va_S_AA hS) (fun q _ h9 => va_S_AA hS q h9) (fun E ce q9 u t H1 locs1 ht hvm hpx hB hz1 hk1 hS1 hce hcv hcl => hpx.elim) (fun r2 u t H1 locs1 ht hvm hw hB hz1 hk1 hS1 => ?_)
    obtain ⟨rfl, rfl⟩ := hw
    obtain ⟨hP1, hK1⟩ := hB
    rw [ht] at hP1
    exact hk H1 locs1 ls hl hP1 hS1
/-- behind a catch: the exception is put away, a number is answered -/
theorem hand_ok {pc hp a1 : Nat} {e1 : Nat} {v : Int32} {n : Int} {Qa : Int32 → aM → Prop} {XC : String → State → State → Prop} {H1 : Heap} {locs1 : List Loc} {ls : Array Slot} {L rest : List Value} {q9 : Addr} {ce : Cell} {σ1 : aM} (pre : List ExceptionTableEntry) (x : ExceptionTableEntry) (suf : List ExceptionTableEntry) (hx : p.tables.exec = Jvm.exec) (hb : c.code = cc) (hown : s.vm.findClass own = some m.cls) (hts : ∀ w ∈ Ts, w.before args s = true) (hK : va_K D vwCl (TY cI cZ cA cL) s) (hr : meth.sig.returnType = some .int) (hlocks : meth.locks = false) (hX : NX s)
    (hsplit : c.exceptionTable.toList = pre ++ x :: suf) (hpass : ∀ z ∈ pre, z.catchType ≠ 0 ∧ ∃ nm : String, (Cond.classLink own z.catchType nm) ∈ Ts ∧ va_Nc (exn e1) nm s) (hcov : covers x pc = true) (h0 : x.catchType ≠ 0) (hlink : (Cond.classLink own x.catchType (exn e1)) ∈ Ts) (hcast : (Cond.castable (exn e1) (exn e1)) ∈ nwX) (hhp : x.handlerPc = hp)
    (hst : ∀ ls : Array Slot, lh ad ls nL L → (∀ ls' : Array Slot, W p l e R s m args below meth c H1 locs1 cells slots (vx_MQ below (va_Qi Qa (BB D cI cZ cA cL ad) (AA ad s.heap.size)) XC args s mc (6 * mc) (AA ad s.heap.size)) (F0 m a1 ls' [])) → W p l e R s m args below meth c H1 locs1 cells slots (vx_MQ below (va_Qi Qa (BB D cI cZ cA cL ad) (AA ad s.heap.size)) XC args s mc (6 * mc) (AA ad s.heap.size)) (F0 m hp ls [.ref q9]))
    (d1 : decode cc a1 = .ok (.iconst n, 1)) (hv : Int32.ofInt n = v) (d2 : decode cc (a1 + 1) = .ok (.ireturn, 1)) (hmc : cells ≤ mc ∧ slots ≤ 6 * mc)
    (hl : lh ad ls nL L) (hce : H1[q9]? = some ce) (hcv : ce.vm = .none) (hcl : s.vm.findClass (exn e1) = some ce.cls) (hP : va_P D vwCl (wl cI cZ cA cL ad σ1) H1) (hS : va_S (AA ad s.heap.size) s.heap H1 locs1) (hq : Qa v σ1) :
    vx_W p l e R s m args below meth c H1 locs1 cells slots (vx_MQ below (va_Qi Qa (BB D cI cZ cA cL ad) (AA ad s.heap.size)) XC args s mc (6 * mc) (AA ad s.heap.size)) (F0 m pc ls rest) q9 := by
  refine vx_catch hown pre x suf hsplit (fun z hz => Or.inr ⟨(hpass z hz).1, (hpass z hz).2.elim fun nm h => ⟨nm, hts _ h.1, h.2⟩⟩) hcov h0 (hts _ hlink) (va_Nw.use rfl (hX _ hcast)) hce hcv hcl ?_
  rw [hhp]
  refine hst ls hl (fun ls' => ?_)
  refine lv_iconst hx hb d1 hv ?_
  exact W.widen hmc.1 hmc.2 (vx_ret (W.iret (v := v) hx hb hr (fun t ht hW => ⟨⟨v, σ1, rfl, hq, by rw [ht]; exact hP, va_K.moved hW.alike hK⟩, hS.F ht⟩) hS.2.2 d2 hlocks))
theorem ast_n {hp : Nat} {k : Fin 4} {Q : State → Prop} {H1 : Heap} {locs1 : List Loc} {L : List Value} {q9 : Addr} (hx : p.tables.exec = Jvm.exec) (hb : c.code = cc) (hdg : decode cc hp = .ok (.astore_n k, 1)) (hk : (k : Nat) < nL) : ∀ ls : Array Slot, lh ad ls nL L → (∀ ls' : Array Slot, W p l e R s m args below meth c H1 locs1 cells slots Q (F0 m (hp + 1) ls' [])) → W p l e R s m args below meth c H1 locs1 cells slots Q (F0 m hp ls [.ref q9]) :=
  fun ls hl h => lv_astore_n hx hb hdg rfl (lhL_has hl) hk rfl (fun ls' _ => h ls')
theorem ast_w {hp k : Nat} {Q : State → Prop} {H1 : Heap} {locs1 : List Loc} {L : List Value} {q9 : Addr} (hx : p.tables.exec = Jvm.exec) (hb : c.code = cc) (hdg : decode cc hp = .ok (.astore k, 2)) (hk : k < nL) : ∀ ls : Array Slot, lh ad ls nL L → (∀ ls' : Array Slot, W p l e R s m args below meth c H1 locs1 cells slots Q (F0 m (hp + 2) ls' [])) → W p l e R s m args below meth c H1 locs1 cells slots Q (F0 m hp ls [.ref q9]) :=
  fun ls hl h => lv_astore hx hb hdg (lhL_has hl) hk rfl (fun ls' _ => h ls')
end WRAP
abbrev aTw : Type := (Int32 → aM → Prop) → (aS → Prop) → List aI
def runsW (T : aTw) (n : Nat) (F : aF) : Prop := ∀ (Qa : Int32 → aM → Prop) (K : Nat → aS → Prop), (∀ c, c < 2 → ∀ k x, wp (T Qa (K (c + 1))) k (K c) x → K c x) → ∀ As σ y, F As σ = some y → Qa y.1 y.2 → K 0 (0, As ++ List.replicate (n - As.length) .null, [], σ)
def CXW (p : Program) (s : State) (m : MethodId) (args : Array Value) (meth : Method) (c : Code) (cc : ByteArray) (nL : Nat) (own : String) (ws : List Cond) (D : va_G) (cI cZ cA cL : ClassId) (ad sa : Nat → Nat) (hh : List (Nat × Nat × Nat × Nat)) : Prop :=
  CX p s m args meth c cc nL (some .int) own ws D cI cZ cA cL ∧ XS sa (AA ad s.heap.size) s s.heap ∧ NCs s ∧ c.exceptionTable.toList = tableOf hh
theorem mk_W {l : Launch} {y : MethodName} {ws ws' : List Cond} {f k mf : Nat} {D : va_G} {cI cZ cA cL : ClassId} {ad sa : Nat → Nat} {cc : ByteArray} {maxL : Nat} {hh : List (Nat × Nat × Nat × Nat)} (F : aF) (T : aTw) (hy : plainName y.cls = true) (hw : ws = Cond.codeWith y cc maxL (some .int) hh :: ws')
    (hr : ∀ (p : Program) (e : Env) (s : State) (m : MethodId) (args : Array Value) (below : List Frame) (meth : Method) (c : Code) (Qa : Int32 → aM → Prop), CXW p s m args meth c cc maxL y.cls ws D cI cZ cA cL ad sa hh → ∀ n, n < 2 → ruL (Ru p l e { frames := f, cells := 2 * mf, slots := 6 * (2 * mf), locals := k } s m args below meth c (n * mf) (6 * (n * mf)) (vx_MQ below (va_Qi Qa (BB D cI cZ cA cL ad) (AA ad s.heap.size)) (XF ad s.heap.size) args s (2 * mf) (6 * (2 * mf)) (AA ad s.heap.size)) maxL D cI cZ cA cL ad (AA ad s.heap.size) s.heap) 0 (T Qa (WS p l e { frames := f, cells := 2 * mf, slots := 6 * (2 * mf), locals := k } s m args below meth c (n * mf + mf) (6 * (n * mf) + 6 * mf) (vx_MQ below (va_Qi Qa (BB D cI cZ cA cL ad) (AA ad s.heap.size)) (XF ad s.heap.size) args s (2 * mf) (6 * (2 * mf)) (AA ad s.heap.size)) maxL D cI cZ cA cL ad (AA ad s.heap.size) s.heap)))
    (hsh : shp [] maxL F) (hru : runsW T maxL F) : CtW l y ws { frames := f, cells := 2 * mf, slots := 6 * (2 * mf), locals := k } (2 * mf) D cI cZ cA cL ad sa F := by
  intro sz As σ r σ' hF
  refine vx_ofWH (cc := cc) (maxL := maxL) (ret := some .int) hy hw ?_
  intro p e s m args below meth c s₁ B hml hv
  obtain ⟨rfl, ⟨⟨hsz, hP, hK, hN⟩, hX⟩, hC⟩ := hv
  have hx := B.exec
  have hb := B.bytes
  have hrt := B.returns
  have hts := atoms_spec (ws := ws) B.pre
  have hown : s.vm.findClass y.cls = some m.cls := findClass_of_methodNamed B.named
  have hlocks := B.notSynchronized
  have htab := vx_table (x := y) B (hts _ (by rw [hw]; exact List.mem_cons_self))
  subst hsz
  obtain ⟨h1, h2⟩ := hsh As σ r σ' hF
  have hl := lh_entry (ad := ad) As h1 h2
  rw [lg_entry_eq]
  have key := hr p e s m _ below meth c (fun r2 u => r2 = r ∧ u = σ') ⟨⟨hx, hb, hml, hown, hts, hrt, hlocks, hK, hN⟩, hX, hC, htab⟩
  have e0 : WS p l e { frames := f, cells := 2 * mf, slots := 6 * (2 * mf), locals := k } s m _ below meth c (0 * mf) (6 * (0 * mf)) (vx_MQ below (va_Qi (fun r2 u => r2 = r ∧ u = σ') (BB D cI cZ cA cL ad) (AA ad s.heap.size)) (XF ad s.heap.size) _ s (2 * mf) (6 * (2 * mf)) (AA ad s.heap.size)) maxL D cI cZ cA cL ad (AA ad s.heap.size) s.heap (0, As ++ List.replicate (maxL - As.length) .null, [], σ) :=
    hru (fun r2 u => r2 = r ∧ u = σ') (fun n => WS p l e { frames := f, cells := 2 * mf, slots := 6 * (2 * mf), locals := k } s m _ below meth c (n * mf) (6 * (n * mf)) (vx_MQ below (va_Qi (fun r2 u => r2 = r ∧ u = σ') (BB D cI cZ cA cL ad) (AA ad s.heap.size)) (XF ad s.heap.size) _ s (2 * mf) (6 * (2 * mf)) (AA ad s.heap.size)) maxL D cI cZ cA cL ad (AA ad s.heap.size) s.heap) (fun n hn => by
      have k2 := key n hn
      have a1 : (n + 1) * mf = n * mf + mf := Nat.succ_mul n mf
      have a2 : 6 * (n * mf + mf) = 6 * (n * mf) + 6 * mf := Nat.mul_add 6 (n * mf) mf
      rw [a1, a2]
      exact wp_WS k2) As σ (r, σ') hF ⟨rfl, rfl⟩
  rw [Nat.zero_mul, Nat.mul_zero] at e0
  exact e0 s.heap [] _ hl hP va_S.rf
