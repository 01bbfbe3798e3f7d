/-! constructors that make objects; the loops of Patch and of the reference -/
def ai (i : Nat) : Nat → Int32 := fun j => if j < i then nI (j % 4) else 0
theorem ai_0 : ai 0 = fun _ => 0 := by
  funext j
  simp [ai]
theorem ai_s {i : Nat} (h : i < 10) : upd (ai i) (nI i).toNatClampNeg (nI i - nI i / 4 * 4) = ai (i + 1) := by
  rw [nI_clamp (by omega), show nI i - nI i / 4 * 4 = nI (i % 4) from pk_rem (d := 4) (by omega) (by decide) (by decide)]
  funext j
  by_cases e : j = i
  · subst e
    simp [upd, ai]
  · by_cases h1 : j < i
    · simp [upd, ai, e, h1, show j < i + 1 by omega]
    · simp [upd, ai, e, h1, show ¬ j < i + 1 by omega]
section CTOR2
variable {p : Program} {l : Launch} {e : Env} {R : Room} {s : State} {m : MethodId} {args : Array Value} {below : List Frame} {meth : Method} {c : Code} {Q : State → Prop} {cells slots : Nat}
variable {cc : ByteArray} {nL : Nat} {D : va_G} {cI cZ cA cL : ClassId} {A : Nat → Prop} {H0 : Heap} {Ts : List Cond} {own : String}
theorem app_join {X u : va_W} {x : Nat × va_E} {H H1 : Heap} {cl : List vw_C} (hP : va_P D cl (X ++ [x]) H) (hD : va_D A (X ++ [x])) (hk : ∀ q : Nat, q < H.size → ¬ va_A [x] H.size q → H1[q]? = H[q]?) (hF : ∀ q, va_A [x] H.size q → A q) (hP1 : va_P D cl u H1) (hD1 : va_D (va_A [x] H.size) u) : va_P D cl (X ++ u) H1 ∧ va_D A (X ++ u) := by
  have hX : va_P D cl X H := fun k q h => hP k q (by rw [List.getElem?_append_left (List.getElem?_eq_some_iff.mp h).1]; exact h)
  have hne : ∀ (i : Nat) (q : Nat × va_E), X[i]? = some q → q.1 ≠ x.1 := fun i q h e => by
    have h1 : i < X.length := (List.getElem?_eq_some_iff.mp h).1
    have := hD.1 i X.length q x (by rw [List.getElem?_append_left h1]; exact h) (by simp) e
    omega
  have hin : ∀ q : Nat, va_A [x] H.size q → q = x.1 ∨ H.size ≤ q := fun q h => by
    rcases h with ⟨k, e, hk⟩ | h
    · have h0 : k < 1 := (List.getElem?_eq_some_iff.mp hk).1
      rw [show k = 0 by omega] at hk
      simp at hk
      exact Or.inl (by rw [hk])
    · exact Or.inr h
  refine ⟨(hX.kept fun k q h => hk q.1 ((hX k q h).lt) fun z => ?_).app hP1, va_D.app ⟨fun i j a b h1 h2 e => ?_, fun k q h => hD.2 k q (by rw [List.getElem?_append_left (List.getElem?_eq_some_iff.mp h).1]; exact h)⟩ (hD1.weaken fun k q _ h => hF _ h) (fun i j a b h1 h2 e => ?_)⟩
  · rcases hin _ z with h3 | h3
    · exact hne k q h h3
    · exact absurd ((hX k q h).lt) (by omega)
  · exact hD.1 i j a b (by rw [List.getElem?_append_left (List.getElem?_eq_some_iff.mp h1).1]; exact h1) (by rw [List.getElem?_append_left (List.getElem?_eq_some_iff.mp h2).1]; exact h2) e
  · rcases hin _ (hD1.2 j b h2) with h3 | h3
    · exact hne i a h1 (e.trans h3)
    · exact absurd ((hX i a h1).lt) (by omega)
/-- x.f = new C() -/
theorem wc_sub {ci h0 pc j index i2 ci2 N N2 mc2 ms2 : Nat} {fs nl2 : List Value} {Rw : va_W} {C ref C2 : String} {T T2 : u_T} {NX : Nat → va_W → Prop} (hx : p.tables.exec = Jvm.exec) (hb : c.code = cc) (hown : s.vm.findClass own = some m.cls) (hK : va_K D vwCl (TY cI cZ cA cL) s) (hA : ∀ q, H0.size ≤ q → A q) (hts : ∀ w ∈ Ts, w.before args s = true) (hin : ∀ w ∈ u_ws C T N, w ∈ Ts) (ty0 : Nat → FieldType) (hty : ∀ k, k < N → parseFieldDescriptor (T k).2.2.1 = some (ty0 k)) (hnm : ∀ a, a < N → ∀ b, b < N → a ≠ b → (T a).2.1 ≠ (T b).2.1) (hc : vwCl[ci]? = some (C, T, N)) (hj : j < N) (hr : ref = (T j).1) (hlen : j < fs.length)
    (hlink : (Cond.fieldLink own index ref (T j).2.1 (T j).2.2.1) ∈ Ts) (hfin : (T j).2.2.2 = true) (hinit : meth.name = "<init>") (hdecl : (T j).1 = own) (hd : parseFieldDescriptor (T j).2.2.1 = some (.object C2))
    (hin2 : ∀ w ∈ u_ws C2 T2 N2, w ∈ Ts) (ty2 : Nat → FieldType) (hty2 : ∀ k, k < N2 → parseFieldDescriptor (T2 k).2.2.1 = some (ty2 k)) (hcl : (Cond.classLink own i2 C2) ∈ Ts) (hins : (Cond.instantiable C2 N2) ∈ Ts) (hini : (Cond.initialized C2) ∈ Ts) (hc2 : vwCl[ci2]? = some (C2, T2, N2)) (hfs2 : ∀ j, j < N2 → defaultValue (ty2 j) = vp_V nl2 j)
    (d0 : decode cc pc = .ok (.aload_n 0, 1)) (d1 : decode cc (pc + 1) = .ok (.new i2, 3)) (d4 : decode cc (pc + 4) = .ok (.dup, 1)) (dp : decode cc (pc + 8) = .ok (.putfield index, 3)) (hcells : cells + 1 ≤ R.cells) (hslots : slots + N2 ≤ R.slots)
    (hcall : ∀ (q : Nat) (H : Heap) (locs : List Loc) (ls : Array Slot), ls.size = nL → va_P D vwCl [(q, .inr (ci2, nl2))] H → va_Run p l e R s m args below meth c H locs (cells + 1) (slots + N2) mc2 ms2 (F0 m (pc + 5) ls [.ref q, .ref q, .ref h0]) [.ref q, .ref h0] (va_Qv (NX q) (fun u t => va_P D vwCl u t.heap ∧ va_D (va_A [(q, .inr (ci2, nl2))] H.size) u) (va_A [(q, .inr (ci2, nl2))] H.size) [Value.ref q].toArray) (va_A [(q, .inr (ci2, nl2))] H.size))
    (k : ∀ (q : Nat) (u : va_W), NX q u → WC p l e R s m args below meth c (cells + 1 + mc2) (slots + N2 + ms2) Q nL D A H0 ci h0 (pc + 11) (fs.set j (.ref q)) (Rw ++ u)) : WC p l e R s m args below meth c cells slots Q nL D A H0 ci h0 pc fs Rw := by
  intro H locs ls hl hP hD hS
  refine lv_aload_n hx hb d0 rfl (lv_at hl 0 rfl) ?_
  refine va_new (ci := ci2) (fs := nl2) (C := C2) (T := T2) (N := N2) hx hb hts hin2 ty2 hty2 hown (hts _ hcl) (hts _ hins) (hts _ hini) hK hP hD hS hA hc2 hfs2 hcells hslots d1 (fun q H1 hP1 hD1 hS1 => ?_)
  refine lv_dup hx hb d4 rfl ?_
  have hq : va_P D vwCl [(q, .inr (ci2, nl2))] H1 := fun k9 x hx9 => by
    have hk0 : k9 < 1 := (List.getElem?_eq_some_iff.mp hx9).1
    rw [show k9 = 0 by omega] at hx9
    cases hx9
    exact hP1 (((h0, .inr (ci, fs)) :: Rw : va_W).length) _ (by rw [List.getElem?_append_right (Nat.le_refl _)]; simp)
  have hF : ∀ z, va_A [(q, .inr (ci2, nl2))] H1.size z → A z := fun z hz => by
    rcases hz with ⟨k9, e9, hk9⟩ | hz
    · have hk0 : k9 < 1 := (List.getElem?_eq_some_iff.mp hk9).1
      rw [show k9 = 0 by omega] at hk9
      cases hk9
      exact hD1.2 (((h0, .inr (ci, fs)) :: Rw : va_W).length) (q, .inr (ci2, nl2)) (by rw [List.getElem?_append_right (Nat.le_refl _)]; simp)
    · exact hA z (Nat.le_trans hS1.1 hz)
  refine va_callv (hcall q H1 locs ls hl.1 hq) hS1 (fun z _ h => hF z h) hF (fun u t H2 locs2 ht hvm hw hB hz1 hk1 hS2 => ?_)
  obtain ⟨hP2, hD2⟩ := hB
  rw [ht] at hP2
  obtain ⟨hP3, hD3⟩ := app_join (X := (h0, .inr (ci, fs)) :: Rw) hP1 hD1 hk1 hF hP2 hD2
  refine va_putF (D := D) (ci := ci) (v := .ref q) (ty := .object C2) (C := C) (T := T) (N := N) hx hb hts hin ty0 hty hnm hown hK hP3 hD3 hS2 0 rfl hc j hj (hts _ hlink) (fun x h9 => by rw [hr]; exact h9) hfin hinit hdecl hd rfl rfl hlen dp (fun H3 locs3 hP4 hD4 hS4 => ?_)
  exact k q u hw H3 locs3 ls hl hP4 hD4 hS4
end CTOR2
/-- the links to private constructors of nest mates -/
def nwM : List Cond := [.methodLinkNest RX5 9 yX4_init "CueTour", .methodLinkNest RX5 25 yX1_init "CueTour", .methodLinkNest RX5 32 yX3_init "CueTour", .methodLinkNest RX5 39 yX0_init "CueTour"]
def NM (U : State) : Prop := ∀ w ∈ nwM, va_Nw w U
abbrev PC (D : va_G) (cI cZ cA cL : ClassId) (sz : Nat) (ws : va_W) (U : State) : Prop := U.heap.size = sz ∧ va_P D vwCl ws U.heap ∧ va_K D vwCl (TY cI cZ cA cL) U ∧ va_AOA .int U ∧ va_D (fun _ => True) ws
theorem pc_blind {D : va_G} {cI cZ cA cL : ClassId} {av : List Value} {sz : Nat} {ws : va_W} : FrameBlind (va_Pc av (PC D cI cZ cA cL sz ws)) := fun a U g mk q => by
  obtain ⟨q0, q1, qP, qK, qO, qD⟩ := q
  exact ⟨q0, q1, qP, va_K.moved (u := U) (U := U.calling g mk a) (Vm.Alike.refl U.vm) qK, va_AOA.moved (u := U) (U := U.calling g mk a) (Vm.Alike.refl U.vm) qO, qD⟩
theorem one_D {x : Nat × va_E} : va_D (fun _ => True) [x] := ⟨fun i j a b h1 h2 _ => by
  have := (List.getElem?_eq_some_iff.mp h1).1
  have := (List.getElem?_eq_some_iff.mp h2).1
  simp at *
  omega, fun _ _ _ => trivial⟩
