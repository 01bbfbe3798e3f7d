/-! the law's body: what its rules may use; its end -/
def LCX (p : Program) (l : Launch) (_e : Env) (s : State) (m : MethodId) (meth : Method) (c : Code) (b N : Nat) (xs : Nat → Int32) (D : va_G) (cI cZ cA cL : ClassId) (ad sa : Nat → Nat) : Prop :=
  p.tables.exec = Jvm.exec ∧ c.code = cL_law ∧ c.maxLocals = 7 ∧ s.vm.findClass RL = some m.cls ∧ (∀ w ∈ wsL_law, w.before #[Value.ref b] s = true) ∧ meth.sig.returnType = ret ∧ meth.locks = false ∧ va_K D vwCl (TY cI cZ cA cL) s ∧ NW s ∧ XS sa (AA ad s.heap.size) s s.heap ∧ NCs s ∧ va_X b N xs s s.heap ∧ b < s.heap.size ∧ ¬ AA ad s.heap.size b ∧ ad 200 = b ∧ adI ad ∧ l.stackTraces = false ∧ (∀ q, AA ad s.heap.size q → s.heap.size ≤ q)
theorem ru_lret {p : Program} {l : Launch} {e : Env} {s : State} {m : MethodId} {below : List Frame} {meth : Method} {c : Code} {D : va_G} {cI cZ cA cL : ClassId} {ad : Nat → Nat} {b pc cells slots : Nat} (hx : p.tables.exec = Jvm.exec) (hb : c.code = cL_law) (hr : meth.sig.returnType = ret) (hlocks : meth.locks = false) (hA9 : ∀ q, AA ad s.heap.size q → s.heap.size ≤ q) (hdg : decode cL_law pc = .ok (.ireturn, 1)) (hcell : cells + 20 ≤ 601024) (hslot : slots + 120 ≤ 7293034) :
    Ru p l e room_1 s m #[Value.ref b] below meth c cells slots (lw_Z below #[Value.ref b] s) 7 D cI cZ cA cL ad (AA ad s.heap.size) s.heap I_lret pc := by
  refine ⟨fun _ _ _ _ h => h, fun L st σ h => ?_⟩
  revert h
  unfold I_lret
  split
  · rename_i heq
    cases heq
    intro h H locs ls hl hP hS
    subst h
    refine va_forget (fun q hq => hA9 _ (hS.2.2 q hq)) ?_
    refine W.widen (k := 601024) (n := 7293034) (by omega) (by omega) ?_
    exact lw_ret hx hb hr hlocks hdg
  · exact fun h => h.elim
def T_lawhead (_KN : Nat → aS → Prop) (N : Nat) (xs : Nat → Int32) : List aI := [I_iload 4 2, I_bot, I_aload 0 1, I_slen (nI N), I_const 5 1, I_bin fun x y => x - y, I_icmp (fun x y => y < x) 2240, I_bot, I_bot, I_aload 0 1, I_iload 4 2, I_bot, I_sld N xs, I_const 63 2, I_bot, I_bin fun x y => x &&& y, I_switch [192, 248, 328, 412, 425, 481, 494, 574, 654, 746, 826, 839, 895, 951, 1007, 1075, 1143, 1211, 1303, 1383, 1439, 1495, 1508, 1564, 1620, 1688, 1756, 1836, 1904, 1917, 1985, 2041, 2054, 2110, 2178] 2234]
theorem law_offs : ∀ (k t : Nat), ([192, 248, 328, 412, 425, 481, 494, 574, 654, 746, 826, 839, 895, 951, 1007, 1075, 1143, 1211, 1303, 1383, 1439, 1495, 1508, 1564, 1620, 1688, 1756, 1836, 1904, 1917, 1985, 2041, 2054, 2110, 2178] : List Nat)[k]? = some t → ∃ o : Int, (#[153, 209, 289, 373, 386, 442, 455, 535, 615, 707, 787, 800, 856, 912, 968, 1036, 1104, 1172, 1264, 1344, 1400, 1456, 1469, 1525, 1581, 1649, 1717, 1797, 1865, 1878, 1946, 2002, 2015, 2071, 2139] : Array Int)[k]? = some o ∧ ((39 : Nat) : Int) + o = (t : Int) := by
  intro k t h
  have hk : k < 35 := (List.getElem?_eq_some_iff.mp h).1
  have key : ∀ k : Fin 35, (#[153, 209, 289, 373, 386, 442, 455, 535, 615, 707, 787, 800, 856, 912, 968, 1036, 1104, 1172, 1264, 1344, 1400, 1456, 1469, 1525, 1581, 1649, 1717, 1797, 1865, 1878, 1946, 2002, 2015, 2071, 2139] : Array Int)[k.val]? = (([192, 248, 328, 412, 425, 481, 494, 574, 654, 746, 826, 839, 895, 951, 1007, 1075, 1143, 1211, 1303, 1383, 1439, 1495, 1508, 1564, 1620, 1688, 1756, 1836, 1904, 1917, 1985, 2041, 2054, 2110, 2178] : List Nat)[k.val]?).map (fun t => (t : Int) - 39) := by decide +kernel
  have := key ⟨k, hk⟩
  dsimp only at this
  rw [h] at this
  exact ⟨(t : Int) - 39, this, by omega⟩
set_option maxHeartbeats 8000000 in
set_option maxRecDepth 100000 in
theorem r_lawhead {p : Program} {l : Launch} {e : Env} {s : State} {m : MethodId} {below : List Frame} {meth : Method} {c : Code} {D : va_G} {cI cZ cA cL : ClassId} {ad sa : Nat → Nat} {b N : Nat} {xs : Nat → Int32} (Z : LCX p l e s m meth c b N xs D cI cZ cA cL ad sa) (cells slots : Nat) (hcell : cells + 20 ≤ 601024) (hslot : slots + 120 ≤ 7293034) :
    ruL (Ru p l e room_1 s m #[Value.ref b] below meth c cells slots (lw_Z below #[Value.ref b] s) 7 D cI cZ cA cL ad (AA ad s.heap.size) s.heap) 23 (T_lawhead (fun d => WS p l e room_1 s m #[Value.ref b] below meth c (cells + d) (slots + 6 * d) (lw_Z below #[Value.ref b] s) 7 D cI cZ cA cL ad (AA ad s.heap.size) s.heap) N xs) := by
  obtain ⟨hx, hb, hml, hown, hts, hr, hlocks, hK, hN, hX, hC, hXs, hbl, hbA, had, hi, hlt, hA9⟩ := Z
  refine ruL_c (n := 23) (n2 := 24) rfl (ru_iload hx hb dL_law_23) ?_
  refine ruL_c (n := 24) (n2 := 25) rfl (ru_bot) ?_
  refine ruL_c (n := 25) (n2 := 26) rfl (ru_aload_n (k := 0) hx hb dL_law_25) ?_
  refine ruL_c (n := 26) (n2 := 27) rfl (ru_slen hx hb hXs hbl hbA had rfl dL_law_26) ?_
  refine ruL_c (n := 27) (n2 := 28) rfl (ru_iconst hx hb dL_law_27 rfl) ?_
  refine ruL_c (n := 28) (n2 := 29) rfl (ru_isub hx hb dL_law_28) ?_
  refine ruL_c (n := 29) (n2 := 30) rfl (ru_icmpgt hx hb dL_law_29 (by decide)) ?_
  refine ruL_c (n := 30) (n2 := 31) rfl (ru_bot) ?_
  refine ruL_c (n := 31) (n2 := 32) rfl (ru_bot) ?_
  refine ruL_c (n := 32) (n2 := 33) rfl (ru_aload_n (k := 0) hx hb dL_law_32) ?_
  refine ruL_c (n := 33) (n2 := 34) rfl (ru_iload hx hb dL_law_33) ?_
  refine ruL_c (n := 34) (n2 := 35) rfl (ru_bot) ?_
  refine ruL_c (n := 35) (n2 := 36) rfl (ru_sld hx hb hXs hbl hbA had dL_law_35) ?_
  refine ruL_c (n := 36) (n2 := 37) rfl (ru_bipush hx hb dL_law_36 rfl) ?_
  refine ruL_c (n := 37) (n2 := 38) rfl (ru_bot) ?_
  refine ruL_c (n := 38) (n2 := 39) rfl (ru_iand hx hb dL_law_38) ?_
  refine ruL_c (n := 39) (n2 := 40) rfl (ru_switch hx hb dL_law_39 (by decide) law_offs (by decide)) ?_
  exact trivial
def T_lawtail (_KN : Nat → aS → Prop) (_N : Nat) (_xs : Nat → Int32) : List aI := [I_iinc 4 5, I_bot, I_bot, I_goto 23, I_bot, I_bot, I_const 1 1, I_lret]
set_option maxHeartbeats 8000000 in
set_option maxRecDepth 100000 in
theorem r_lawtail {p : Program} {l : Launch} {e : Env} {s : State} {m : MethodId} {below : List Frame} {meth : Method} {c : Code} {D : va_G} {cI cZ cA cL : ClassId} {ad sa : Nat → Nat} {b N : Nat} {xs : Nat → Int32} (Z : LCX p l e s m meth c b N xs D cI cZ cA cL ad sa) (cells slots : Nat) (hcell : cells + 20 ≤ 601024) (hslot : slots + 120 ≤ 7293034) :
    ruL (Ru p l e room_1 s m #[Value.ref b] below meth c cells slots (lw_Z below #[Value.ref b] s) 7 D cI cZ cA cL ad (AA ad s.heap.size) s.heap) 2234 (T_lawtail (fun d => WS p l e room_1 s m #[Value.ref b] below meth c (cells + d) (slots + 6 * d) (lw_Z below #[Value.ref b] s) 7 D cI cZ cA cL ad (AA ad s.heap.size) s.heap) N xs) := by
  obtain ⟨hx, hb, hml, hown, hts, hr, hlocks, hK, hN, hX, hC, hXs, hbl, hbA, had, hi, hlt, hA9⟩ := Z
  refine ruL_c (n := 2234) (n2 := 2235) rfl (ru_iinc hx hb dL_law_2234 rfl) ?_
  refine ruL_c (n := 2235) (n2 := 2236) rfl (ru_bot) ?_
  refine ruL_c (n := 2236) (n2 := 2237) rfl (ru_bot) ?_
  refine ruL_c (n := 2237) (n2 := 2238) rfl (ru_goto hx hb dL_law_2237 (by decide)) ?_
  refine ruL_c (n := 2238) (n2 := 2239) rfl (ru_bot) ?_
  refine ruL_c (n := 2239) (n2 := 2240) rfl (ru_bot) ?_
  refine ruL_c (n := 2240) (n2 := 2241) rfl (ru_iconst hx hb dL_law_2240 rfl) ?_
  refine ruL_c (n := 2241) (n2 := 2242) rfl (ru_lret hx hb hr hlocks hA9 dL_law_2241 hcell hslot) ?_
  exact trivial
