/-! contracts: a method answers what its function says, and the memory is what it says -/
abbrev BB (D : va_G) (cI cZ cA cL : ClassId) (ad : Nat → Nat) (u : aM) (t : State) : Prop := va_P D vwCl (wl cI cZ cA cL ad u) t.heap ∧ va_K D vwCl (TY cI cZ cA cL) t
abbrev PP (D : va_G) (cI cZ cA cL : ClassId) (ad : Nat → Nat) (sz : Nat) (σ : aM) (U : State) : Prop := U.heap.size = sz ∧ va_P D vwCl (wl cI cZ cA cL ad σ) U.heap ∧ va_K D vwCl (TY cI cZ cA cL) U ∧ NW U
/-- an int method (a boolean one too): pre: the receiver, if there is one -/
def CtI (l : Launch) (y : MethodName) (ws : List Cond) (rm : Room) (D : va_G) (cI cZ cA cL : ClassId) (ad : Nat → Nat) (pre : List Value) (F : aF) : Prop :=
  ∀ (sz : Nat) (As : List Value) (σ : aM) (r : Int32) (σ' : aM), F As σ = some (r, σ') → Met l y ws rm (va_Pc ((pre ++ As).map (cv ad)) (PP D cI cZ cA cL ad sz σ)) (va_Qi (fun (r2 : Int32) (u : aM) => r2 = r ∧ u = σ') (BB D cI cZ cA cL ad) (AA ad sz)) 0 0 (AA ad sz)
def CtV (l : Launch) (y : MethodName) (ws : List Cond) (rm : Room) (D : va_G) (cI cZ cA cL : ClassId) (ad : Nat → Nat) (pre : List Value) (F : aF) : Prop :=
  ∀ (sz : Nat) (As : List Value) (σ : aM) (r : Int32) (σ' : aM), F As σ = some (r, σ') → Met l y ws rm (va_Pc ((pre ++ As).map (cv ad)) (PP D cI cZ cA cL ad sz σ)) (va_Qv (fun (u : aM) => u = σ') (BB D cI cZ cA cL ad) (AA ad sz)) 0 0 (AA ad sz)
def ruL (P : aI → Nat → Prop) : Nat → List aI → Prop
  | _, [] => True
  | n, i :: t => P i n ∧ ruL P (n + 1) t
theorem ruL_get {P : aI → Nat → Prop} (hb : ∀ n, P I_bot n) : ∀ (T : List aI) (n k : Nat), ruL P n T → P (T.getD k I_bot) (n + k)
  | [], n, k, _ => by simpa using hb (n + k)
  | i :: t, n, 0, h => by simpa using h.1
  | i :: t, n, k + 1, h => by
    have := ruL_get hb t (n + 1) k h.2
    rw [show n + (k + 1) = n + 1 + k by omega]
    simpa using this
section CALLS
variable {p : Program} {l : Launch} {e : Env} {R : Room} {s : State} {m : MethodId} {args : Array Value} {below : List Frame} {meth : Method} {c : Code} {Q : State → Prop} {cells slots : Nat}
variable {cc : ByteArray} {nL : Nat} {D : va_G} {cI cZ cA cL : ClassId} {ad : Nat → Nat} {A : Nat → Prop} {H0 : Heap} {Ts : List Cond} {own : String}
theorem wp_WS {T : List aI} (h : ruL (Ru p l e R s m args below meth c cells slots Q nL D cI cZ cA cL ad A H0) 0 T) : ∀ (n : Nat) (x : aS), wp T n (WS p l e R s m args below meth c cells slots Q nL D cI cZ cA cL ad A H0) x → WS p l e R s m args below meth c cells slots Q nL D cI cZ cA cL ad A H0 x := by
  intro n
  induction n with
  | zero => exact fun x h => h
  | succ n ih =>
    intro x hx
    obtain ⟨pc, L, st, σ⟩ := x
    have hr := ruL_get (fun _ => ru_bot) T 0 pc h
    rw [Nat.zero_add] at hr
    exact hr.2 L st σ (hr.1 _ _ _ ih hx)
theorem lh_forget {ad : Nat → Nat} {ls : Array Slot} {n i : Nat} {L : List Value} (h : lh ad ls n L) : lh ad ls n (L.set i .null) := by
  refine ⟨h.1, h.2.1, by rw [List.length_set]; exact h.2.2.1, fun v hv => ?_, fun k v hk hv => ?_⟩
  · rcases List.mem_or_eq_of_mem_set hv with h1 | h1
    · exact h.2.2.2.1 v h1
    · rw [h1]; rfl
  · rw [List.getElem?_set] at hk
    by_cases e : i = k
    · rw [if_pos e] at hk
      split at hk
      · cases hk
        exact absurd rfl hv
      · cases hk
    · rw [if_neg e] at hk
      exact h.2.2.2.2 k v hk hv
theorem WS_forget {pc i : Nat} {L st : List Value} {σ : aM} (h : WS p l e R s m args below meth c cells slots Q nL D cI cZ cA cL ad A H0 (pc, L.set i .null, st, σ)) : WS p l e R s m args below meth c cells slots Q nL D cI cZ cA cL ad A H0 (pc, L, st, σ) := fun H locs ls hl hP hS => h H locs ls (lh_forget hl) hP hS
theorem AA_mono {ad : Nat → Nat} {a b : Nat} (h : a ≤ b) : ∀ q, AA ad b q → AA ad a q := fun q hq => hq.elim Or.inl (fun h2 => Or.inr (Nat.le_trans h h2))
theorem pp_blind {D : va_G} {cI cZ cA cL : ClassId} {ad : Nat → Nat} {av : List Value} {sz : Nat} {σ : aM} : FrameBlind (va_Pc av (PP D cI cZ cA cL ad sz σ)) := fun a U g mk q => by
  obtain ⟨q0, q1, qP, qK, qN⟩ := q
  exact ⟨q0, q1, qP, va_K.moved (u := U) (U := U.calling g mk a) (Vm.Alike.refl U.vm) qK, nw_same (u := U) (U := U.calling g mk a) rfl qN⟩
theorem catS_map {ad : Nat → Nat} {st : List Value} (h : catS st = true) : ((st.map (cv ad)).map fun v => v.category).sum ≤ 8 := by
  have e : (st.map (cv ad)).map (fun v => v.category) = st.map (fun v => v.category) := by
    rw [List.map_map]
    exact List.map_congr_left fun v _ => cv_cat ad v
  rw [e]
  exact Nat.le_of_ble_eq_true h
theorem va_S_AA {H1 H2 : Heap} {ad : Nat → Nat} {locs : List Loc} (hS : va_S (AA ad H1.size) H1 H2 locs) : ∀ q, AA ad H2.size q → AA ad H1.size q := AA_mono hS.1
theorem ru_callV {pc o n index maxL : Nat} {C : String} {T : u_T} {N : Nat} {y : MethodName} {bytes : ByteArray} {ret : Option FieldType} {ws : List Cond} {rm : Room} {F : aF} (hx : p.tables.exec = Jvm.exec) (hb : c.code = cc) (hml : c.maxLocals = nL) (hown : s.vm.findClass own = some m.cls) (hts : ∀ w ∈ Ts, w.before args s = true) (hK : va_K D vwCl (TY cI cZ cA cL) s) (hN : NW s) (ho : o < 7) (hc : vwCl[cn o]? = some (C, T, N))
    (hM : CtI l y ws rm D cI cZ cA cL ad [.ref o] F) (cw : CallW R s args own C index y bytes maxL ret ws rm 0 0 n) (hdg : decode cc pc = .ok (.invokevirtual index, 3)) (hroom : cells ≤ R.cells ∧ slots ≤ R.slots) : Ru p l e R s m args below meth c cells slots Q nL D cI cZ cA cL ad (AA ad H0.size) H0 (I_callV o n F) pc := by
  refine ⟨mono_callV _ _ _, fun L st σ h => ?_⟩
  revert h
  simp only [I_callV]
  split
  · rename_i a rest hd
    cases hao : Nat.beq a o && catS rest with
    | false => exact fun h => h.elim
    | true =>
      rw [Bool.and_eq_true] at hao
      have := Nat.eq_of_beq_eq_true hao.1
      subst this
      intro h H locs ls hl hP hS
      obtain ⟨r, σ', hF, hk⟩ := h
      have hlen : n ≤ st.length := by
        have := congrArg List.length hd
        rw [List.length_drop] at this
        simp at this
        omega
      have est : st.map (cv ad) = (((st.take n).reverse).map (cv ad)).reverse ++ .ref (ad a) :: rest.map (cv ad) := by
        rw [List.map_reverse, List.reverse_reverse]
        conv => lhs; rw [← List.take_append_drop n st, hd]
        rw [List.map_append]
        rfl
      show W p l e R s m args below meth c H locs cells slots Q (F0 m pc ls (st.map (cv ad)))
      rw [est]
      refine va_calli (mc := 0) (ms := 0) (va_runV (As := ((st.take n).reverse).map (cv ad)) (rest := rest.map (cv ad)) (b := ad a) ⟨hx, hb, hml, hown, hts⟩ (hM H.size _ σ r σ' hF) cw ⟨pp_blind, va_recv hK hP hc (wl_obj ho), fun U hU hW => ⟨rfl, by rw [hU], by rw [hU]; exact hP, va_K.moved hW.alike hK, nw_warm hW hN⟩⟩ rfl (by simp; omega) hl.1 rfl (lv_room (catS_map hao.2)) hdg ⟨hroom.1, hroom.2⟩) hS (fun q _ h9 => va_S_AA hS q h9) (va_S_AA hS) (fun r2 u t H1 locs1 ht hvm hw hB hz1 hk1 hS1 => ?_)
      obtain ⟨rfl, rfl⟩ := hw
      obtain ⟨hP1, hK1⟩ := hB
      rw [ht] at hP1
      exact hk H1 locs1 ls hl hP1 hS1
  · exact fun h => h.elim
theorem ru_callVv {pc o n index maxL : Nat} {C : String} {T : u_T} {N : Nat} {y : MethodName} {bytes : ByteArray} {ret : Option FieldType} {ws : List Cond} {rm : Room} {F : aF} (hx : p.tables.exec = Jvm.exec) (hb : c.code = cc) (hml : c.maxLocals = nL) (hown : s.vm.findClass own = some m.cls) (hts : ∀ w ∈ Ts, w.before args s = true) (hK : va_K D vwCl (TY cI cZ cA cL) s) (hN : NW s) (ho : o < 7) (hc : vwCl[cn o]? = some (C, T, N))
    (hM : CtV l y ws rm D cI cZ cA cL ad [.ref o] F) (cw : CallW R s args own C index y bytes maxL ret ws rm 0 0 n) (hdg : decode cc pc = .ok (.invokevirtual index, 3)) (hroom : cells ≤ R.cells ∧ slots ≤ R.slots) : Ru p l e R s m args below meth c cells slots Q nL D cI cZ cA cL ad (AA ad H0.size) H0 (I_callVv o n F) pc := by
  refine ⟨mono_callVv _ _ _, fun L st σ h => ?_⟩
  revert h
  simp only [I_callVv]
  split
  · rename_i a rest hd
    cases hao : Nat.beq a o && catS rest with
    | false => exact fun h => h.elim
    | true =>
      rw [Bool.and_eq_true] at hao
      have := Nat.eq_of_beq_eq_true hao.1
      subst this
      intro h H locs ls hl hP hS
      obtain ⟨r, σ', hF, hk⟩ := h
      have hlen : n ≤ st.length := by
        have := congrArg List.length hd
        rw [List.length_drop] at this
        simp at this
        omega
      have est : st.map (cv ad) = (((st.take n).reverse).map (cv ad)).reverse ++ .ref (ad a) :: rest.map (cv ad) := by
        rw [List.map_reverse, List.reverse_reverse]
        conv => lhs; rw [← List.take_append_drop n st, hd]
        rw [List.map_append]
        rfl
      show W p l e R s m args below meth c H locs cells slots Q (F0 m pc ls (st.map (cv ad)))
      rw [est]
      refine va_callv (mc := 0) (ms := 0) (va_runV (As := ((st.take n).reverse).map (cv ad)) (rest := rest.map (cv ad)) (b := ad a) ⟨hx, hb, hml, hown, hts⟩ (hM H.size _ σ r σ' hF) cw ⟨pp_blind, va_recv hK hP hc (wl_obj ho), fun U hU hW => ⟨rfl, by rw [hU], by rw [hU]; exact hP, va_K.moved hW.alike hK, nw_warm hW hN⟩⟩ rfl (by simp; omega) hl.1 rfl (lv_room (catS_map hao.2)) hdg ⟨hroom.1, hroom.2⟩) hS (fun q _ h9 => va_S_AA hS q h9) (va_S_AA hS) (fun u t H1 locs1 ht hvm hw hB hz1 hk1 hS1 => ?_)
      subst hw
      obtain ⟨hP1, hK1⟩ := hB
      rw [ht] at hP1
      exact hk H1 locs1 ls hl hP1 hS1
  · exact fun h => h.elim
theorem ru_callS {pc n index maxL : Nat} {y : MethodName} {bytes : ByteArray} {ret : Option FieldType} {ws : List Cond} {rm : Room} {F : aF} (hx : p.tables.exec = Jvm.exec) (hb : c.code = cc) (hml : c.maxLocals = nL) (hown : s.vm.findClass own = some m.cls) (hts : ∀ w ∈ Ts, w.before args s = true) (hK : va_K D vwCl (TY cI cZ cA cL) s) (hN : NW s)
    (hM : CtI l y ws rm D cI cZ cA cL ad [] F) (cw : CallB R s args own index y bytes maxL ret ws rm 0 0 n ∧ (Cond.static y).before args s = true) (hdg : decode cc pc = .ok (.invokestatic index, 3)) (hroom : cells ≤ R.cells ∧ slots ≤ R.slots) : Ru p l e R s m args below meth c cells slots Q nL D cI cZ cA cL ad (AA ad H0.size) H0 (I_callS n F) pc := by
  refine ⟨mono_callS _ _, fun L st σ h => ?_⟩
  revert h
  simp only [I_callS]
  cases hao : Nat.ble n st.length && catS (st.drop n) with
  | false => exact fun h => h.elim
  | true =>
    rw [Bool.and_eq_true] at hao
    have hlen : n ≤ st.length := Nat.le_of_ble_eq_true hao.1
    intro h H locs ls hl hP hS
    obtain ⟨r, σ', hF, hk⟩ := h
    have est : st.map (cv ad) = (((st.take n).reverse).map (cv ad)).reverse ++ (st.drop n).map (cv ad) := by
      rw [List.map_reverse, List.reverse_reverse, ← List.map_append, List.take_append_drop]
    show W p l e R s m args below meth c H locs cells slots Q (F0 m pc ls (st.map (cv ad)))
    rw [est]
    refine va_calli (mc := 0) (ms := 0) (va_runS (As := ((st.take n).reverse).map (cv ad)) (rest := (st.drop n).map (cv ad)) ⟨hx, hb, hml, hown, hts⟩ (hM H.size _ σ r σ' hF) cw ⟨pp_blind, fun U hU hW => ⟨rfl, by rw [hU], by rw [hU]; exact hP, va_K.moved hW.alike hK, nw_warm hW hN⟩⟩ rfl (by simp; omega) hl.1 rfl (lv_room (catS_map hao.2)) hdg ⟨hroom.1, hroom.2⟩) hS (fun q _ h9 => va_S_AA hS q h9) (va_S_AA hS) (fun r2 u t H1 locs1 ht hvm hw hB hz1 hk1 hS1 => ?_)
    obtain ⟨rfl, rfl⟩ := hw
    obtain ⟨hP1, hK1⟩ := hB
    rw [ht] at hP1
    exact hk H1 locs1 ls hl hP1 hS1
/-- the room's part that a method has -/
theorem ru_iret {pc : Nat} {Qa : Int32 → aM → Prop} (hx : p.tables.exec = Jvm.exec) (hb : c.code = cc) (hK : va_K D vwCl (TY cI cZ cA cL) s) (hr : meth.sig.returnType = some .int) (hlocks : meth.locks = false) (hdg : decode cc pc = .ok (.ireturn, 1)) :
    Ru p l e R s m args below meth c 0 0 (MQ below (va_Qi Qa (BB D cI cZ cA cL ad) (AA ad s.heap.size)) args s 0 0 (AA ad s.heap.size)) nL D cI cZ cA cL ad (AA ad s.heap.size) s.heap (I_iret Qa) pc := by
  refine ⟨mono_iret _, fun L st σ h => ?_⟩
  revert h
  unfold I_iret
  split
  · rename_i pc' L' v σ' heq
    cases heq
    intro h H locs ls hl hP hS
    exact W.iret (v := v) hx hb hr (fun t ht hW => ⟨⟨v, σ, rfl, h, by rw [ht]; exact hP, va_K.moved hW.alike hK⟩, hS.F ht⟩) hS.2.2 hdg hlocks
  · exact fun h => h.elim
theorem ru_zret {pc : Nat} {Qa : Int32 → aM → Prop} (hx : p.tables.exec = Jvm.exec) (hb : c.code = cc) (hK : va_K D vwCl (TY cI cZ cA cL) s) (hr : meth.sig.returnType = some .boolean) (hlocks : meth.locks = false) (hdg : decode cc pc = .ok (.ireturn, 1)) :
    Ru p l e R s m args below meth c 0 0 (MQ below (va_Qi Qa (BB D cI cZ cA cL ad) (AA ad s.heap.size)) args s 0 0 (AA ad s.heap.size)) nL D cI cZ cA cL ad (AA ad s.heap.size) s.heap (I_zret Qa) pc := by
  refine ⟨mono_zret _, fun L st σ h => ?_⟩
  revert h
  unfold I_zret
  split
  · rename_i pc' L' v σ' heq
    cases heq
    intro h H locs ls hl hP hS
    exact W.zret (v := v) hx hb hr (by rcases h.1 with rfl | rfl <;> rfl) (fun t ht hW => ⟨⟨v, σ, rfl, h.2, by rw [ht]; exact hP, va_K.moved hW.alike hK⟩, hS.F ht⟩) hS.2.2 hdg hlocks
  · exact fun h => h.elim
theorem ru_vret {pc : Nat} {Qa : Int32 → aM → Prop} (hx : p.tables.exec = Jvm.exec) (hb : c.code = cc) (hK : va_K D vwCl (TY cI cZ cA cL) s) (hr : meth.sig.returnType = none) (hlocks : meth.locks = false) (hdg : decode cc pc = .ok (.return_, 1)) :
    Ru p l e R s m args below meth c 0 0 (MQ below (va_Qv (Qa 0) (BB D cI cZ cA cL ad) (AA ad s.heap.size)) args s 0 0 (AA ad s.heap.size)) nL D cI cZ cA cL ad (AA ad s.heap.size) s.heap (I_vret Qa) pc := by
  refine ⟨mono_vret _, fun L st σ h => ?_⟩
  revert h
  unfold I_vret
  split
  · rename_i pc' L' σ' heq
    cases heq
    intro h H locs ls hl hP hS
    exact W.vret hx hb hr (fun t ht hW => ⟨⟨σ, rfl, h, by rw [ht]; exact hP, va_K.moved hW.alike hK⟩, hS.F ht⟩) hS.2.2 hdg hlocks
  · exact fun h => h.elim
end CALLS
/-- what the rules of a method may use -/
def CX (p : Program) (s : State) (m : MethodId) (args : Array Value) (meth : Method) (c : Code) (cc : ByteArray) (nL : Nat) (ret : Option FieldType) (own : String) (ws : List Cond) (D : va_G) (cI cZ cA cL : ClassId) : Prop :=
  p.tables.exec = Jvm.exec ∧ c.code = cc ∧ c.maxLocals = nL ∧ s.vm.findClass own = some m.cls ∧ (∀ w ∈ ws, w.before args s = true) ∧ meth.sig.returnType = ret ∧ meth.locks = false ∧ va_K D vwCl (TY cI cZ cA cL) s ∧ NW s
def shp (pre : List Value) (n : Nat) (F : aF) : Prop := ∀ As σ r σ', F As σ = some (r, σ') → (∀ v ∈ pre ++ As, v.category = 1) ∧ (pre ++ As).length ≤ n
def runs (T : (Int32 → aM → Prop) → List aI) (pre : List Value) (n : Nat) (F : aF) : Prop := ∀ (Qa : Int32 → aM → Prop) (K : aS → Prop), (∀ k x, wp (T Qa) k K x → K x) → (∀ pc L i st σ, K (pc, L.set i .null, st, σ) → K (pc, L, st, σ)) → ∀ As σ r σ', F As σ = some (r, σ') → Qa r σ' → K (0, (pre ++ As) ++ List.replicate (n - (pre ++ As).length) .null, [], σ)
theorem mk_I {l : Launch} {y : MethodName} {ws ws' : List Cond} {f k : Nat} {D : va_G} {cI cZ cA cL : ClassId} {ad : Nat → Nat} {cc : ByteArray} {maxL : Nat} {ty : FieldType} (pre : List Value) (F : aF) (T : (Int32 → aM → Prop) → List aI) (hy : plainName y.cls = true) (hw : ws = Cond.code y cc maxL (some ty) :: ws')
    (hr : ∀ (p : Program) (e : Env) (s : State) (m : MethodId) (args : Array Value) (below : List Frame) (meth : Method) (c : Code) (Qa : Int32 → aM → Prop), CX p s m args meth c cc maxL (some ty) y.cls ws D cI cZ cA cL → ruL (Ru p l e { frames := f, cells := 0, slots := 0, locals := k } s m args below meth c 0 0 (MQ below (va_Qi Qa (BB D cI cZ cA cL ad) (AA ad s.heap.size)) args s 0 0 (AA ad s.heap.size)) maxL D cI cZ cA cL ad (AA ad s.heap.size) s.heap) 0 (T Qa))
    (hsh : shp pre maxL F) (hru : runs T pre maxL F) : CtI l y ws { frames := f, cells := 0, slots := 0, locals := k } D cI cZ cA cL ad pre F := by
  intro sz As σ r σ' hF
  refine Met.ofW (cc := cc) (maxL := maxL) (ret := some ty) hy hw ?_
  intro p e s m args below meth c s₁ B hml hv
  obtain ⟨rfl, hsz, hP, hK, hN⟩ := hv
  have hx := B.exec
  have hb := B.bytes
  have hrt := B.returns
  have hts := atoms_spec (ws := ws) B.pre
  have hown : s.vm.findClass y.cls = some m.cls := findClass_of_methodNamed B.named
  have hlocks := B.notSynchronized
  subst hsz
  obtain ⟨h1, h2⟩ := hsh As σ r σ' hF
  have hl := lh_entry (ad := ad) (pre ++ As) h1 h2
  rw [lg_entry_eq]
  have key := hr p e s m _ below meth c (fun r2 u => r2 = r ∧ u = σ') ⟨hx, hb, hml, hown, hts, hrt, hlocks, hK, hN⟩
  exact hru _ _ (wp_WS key) (fun pc L i st σ => WS_forget) As σ r σ' hF ⟨rfl, rfl⟩ s.heap [] _ hl hP va_S.rf
theorem mk_V {l : Launch} {y : MethodName} {ws ws' : List Cond} {f k : Nat} {D : va_G} {cI cZ cA cL : ClassId} {ad : Nat → Nat} {cc : ByteArray} {maxL : Nat} (pre : List Value) (F : aF) (T : (Int32 → aM → Prop) → List aI) (hy : plainName y.cls = true) (hw : ws = Cond.code y cc maxL none :: ws')
    (hr : ∀ (p : Program) (e : Env) (s : State) (m : MethodId) (args : Array Value) (below : List Frame) (meth : Method) (c : Code) (Qa : Int32 → aM → Prop), CX p s m args meth c cc maxL none y.cls ws D cI cZ cA cL → ruL (Ru p l e { frames := f, cells := 0, slots := 0, locals := k } s m args below meth c 0 0 (MQ below (va_Qv (Qa 0) (BB D cI cZ cA cL ad) (AA ad s.heap.size)) args s 0 0 (AA ad s.heap.size)) maxL D cI cZ cA cL ad (AA ad s.heap.size) s.heap) 0 (T Qa))
    (hsh : shp pre maxL F) (hru : runs T pre maxL F) : CtV l y ws { frames := f, cells := 0, slots := 0, locals := k } D cI cZ cA cL ad pre F := by
  intro sz As σ r σ' hF
  refine Met.ofW (cc := cc) (maxL := maxL) (ret := none) hy hw ?_
  intro p e s m args below meth c s₁ B hml hv
  obtain ⟨rfl, hsz, hP, hK, hN⟩ := hv
  have hx := B.exec
  have hb := B.bytes
  have hrt := B.returns
  have hts := atoms_spec (ws := ws) B.pre
  have hown : s.vm.findClass y.cls = some m.cls := findClass_of_methodNamed B.named
  have hlocks := B.notSynchronized
  subst hsz
  obtain ⟨h1, h2⟩ := hsh As σ r σ' hF
  have hl := lh_entry (ad := ad) (pre ++ As) h1 h2
  rw [lg_entry_eq]
  have key := hr p e s m _ below meth c (fun _ u => u = σ') ⟨hx, hb, hml, hown, hts, hrt, hlocks, hK, hN⟩
  exact hru _ _ (wp_WS key) (fun pc L i st σ => WS_forget) As σ r σ' hF rfl s.heap [] _ hl hP va_S.rf
