/-! constructors: an object in the making (h0, its fields so far) before the rest of the world (Rw); four patterns of instructions, once for all -/
section CTOR
variable {p : Program} {l : Launch} {e : Env} {R : Room} {s : State} {m : MethodId} {args : Array Value} {below : List Frame} {meth : Method} {c : Code} {Q : State → Prop} {cells slots : Nat}
variable {cc : ByteArray} {nL : Nat} {D : va_G} {cI cZ cA cL : ClassId} {A : Nat → Prop} {H0 : Heap} {Ts : List Cond} {own : String}
def WC (p : Program) (l : Launch) (e : Env) (R : Room) (s : State) (m : MethodId) (args : Array Value) (below : List Frame) (meth : Method) (c : Code) (cells slots : Nat) (Q : State → Prop) (nL : Nat) (D : va_G) (A : Nat → Prop) (H0 : Heap) (ci h0 pc : Nat) (fs : List Value) (Rw : va_W) : Prop :=
  ∀ (H : Heap) (locs : List Loc) (ls : Array Slot), lv_has ls nL [(0, .ref h0)] → va_P D vwCl ((h0, .inr (ci, fs)) :: Rw) H → va_D A ((h0, .inr (ci, fs)) :: Rw) → va_S A H0 H locs → W p l e R s m args below meth c H locs cells slots Q (F0 m pc ls [])
theorem wc_eq {ci h0 pc : Nat} {fs : List Value} {Rw : va_W} {c1 s1 c2 s2 : Nat} (hc : c1 = c2) (hs : s1 = s2) (k : WC p l e R s m args below meth c c2 s2 Q nL D A H0 ci h0 pc fs Rw) : WC p l e R s m args below meth c c1 s1 Q nL D A H0 ci h0 pc fs Rw := by
  subst hc; subst hs; exact k
theorem ra_int {a b : ClassId} {t : FieldType} (h1 : s.vm.findClass ("[" ++ t.toString) = some a) (h2 : s.vm.findClass ("[" ++ t.toString) = some b) : b = a := Option.some.inj (h2.symm.trans h1)
/-- x.f = new int[n] -/
theorem wc_newi {ci h0 pc pa j index n N : Nat} {nv : Int32} {fs : List Value} {Rw : va_W} {C ref : String} {T : u_T} (hx : p.tables.exec = Jvm.exec) (hb : c.code = cc) (hown : s.vm.findClass own = some m.cls) (hK : va_K D vwCl (TY cI cZ cA cL) s) (hA : ∀ q, H0.size ≤ q → A q) (hts : ∀ w ∈ Ts, w.before args s = true) (hin : ∀ w ∈ u_ws C T N, w ∈ Ts) (ty0 : Nat → FieldType) (hty : ∀ k, k < N → parseFieldDescriptor (T k).2.2.1 = some (ty0 k)) (hnm : ∀ a, a < N → ∀ b, b < N → a ≠ b → (T a).2.1 ≠ (T b).2.1) (hc : vwCl[ci]? = some (C, T, N)) (hj : j < N) (hr : ref = (T j).1) (hlen : j < fs.length)
    (hlink : (Cond.fieldLink own index ref (T j).2.1 (T j).2.2.1) ∈ Ts) (hfin : (T j).2.2.2 = true) (hinit : meth.name = "<init>") (hdecl : (T j).1 = own) (hd : parseFieldDescriptor (T j).2.2.1 = some (.array .int)) (harr : (Cond.arrayClass .int) ∈ Ts)
    (d0 : decode cc pc = .ok (.aload_n 0, 1)) (push : ∀ (H : Heap) (locs : List Loc) (ls : Array Slot) (st : List Value), W p l e R s m args below meth c H locs cells slots Q (F0 m pa ls (.int nv :: st)) → W p l e R s m args below meth c H locs cells slots Q (F0 m (pc + 1) ls st)) (hn : nv = nI n) (hn2 : n < 100000) (dn : decode cc pa = .ok (.newarray .int, 2)) (dp : decode cc (pa + 2) = .ok (.putfield index, 3)) (hcells : cells + 1 ≤ R.cells) (hslots : slots + n ≤ R.slots)
    (k : ∀ q : Nat, WC p l e R s m args below meth c (cells + 1) (slots + n) Q nL D A H0 ci h0 (pa + 5) (fs.set j (.ref q)) (Rw ++ [(q, .inl (cI, n, .inl (fun _ => 0)))])) : WC p l e R s m args below meth c cells slots Q nL D A H0 ci h0 pc fs Rw := by
  intro H locs ls hl hP hD hS
  refine lv_aload_n hx hb d0 rfl (lv_at hl 0 rfl) ?_
  refine push _ _ _ _ ?_
  subst hn
  refine va_newa (atype := .int) (ty := .int) (a0 := (n, .inl (fun _ => 0))) hx hb (hts _ harr) rfl hK hP hD hS hA (fun _ => rfl) (nI_pos (by omega)) (nI_clamp (by omega)) (by show n * 4 ≤ _; omega) hcells hslots dn (fun q cA2 H1 hK2 hP1 hD1 hS1 => ?_)
  have e1 : cA2 = cI := ra_int (t := .int) (hK.2 0 (cI, .int) rfl).2 (hK2.2 4 (cA2, .int) rfl).2
  subst e1
  refine va_putF (D := D) (ci := ci) (v := .ref q) (ty := .array .int) (C := C) (T := T) (N := N) hx hb hts hin ty0 hty hnm hown hK hP1 hD1 hS1 0 rfl hc j hj (hts _ hlink) (fun x h9 => by rw [hr]; exact h9) hfin hinit hdecl hd rfl rfl hlen dp (fun H2 locs2 hP2 hD2 hS2 => ?_)
  exact k q H2 locs2 ls hl hP2 hD2 hS2
theorem wc_newz {ci h0 pc pa j index n N : Nat} {nv : Int32} {fs : List Value} {Rw : va_W} {C ref : String} {T : u_T} (hx : p.tables.exec = Jvm.exec) (hb : c.code = cc) (hown : s.vm.findClass own = some m.cls) (hK : va_K D vwCl (TY cI cZ cA cL) s) (hA : ∀ q, H0.size ≤ q → A q) (hts : ∀ w ∈ Ts, w.before args s = true) (hin : ∀ w ∈ u_ws C T N, w ∈ Ts) (ty0 : Nat → FieldType) (hty : ∀ k, k < N → parseFieldDescriptor (T k).2.2.1 = some (ty0 k)) (hnm : ∀ a, a < N → ∀ b, b < N → a ≠ b → (T a).2.1 ≠ (T b).2.1) (hc : vwCl[ci]? = some (C, T, N)) (hj : j < N) (hr : ref = (T j).1) (hlen : j < fs.length)
    (hlink : (Cond.fieldLink own index ref (T j).2.1 (T j).2.2.1) ∈ Ts) (hfin : (T j).2.2.2 = true) (hinit : meth.name = "<init>") (hdecl : (T j).1 = own) (hd : parseFieldDescriptor (T j).2.2.1 = some (.array .boolean)) (harr : (Cond.arrayClass .boolean) ∈ Ts)
    (d0 : decode cc pc = .ok (.aload_n 0, 1)) (push : ∀ (H : Heap) (locs : List Loc) (ls : Array Slot) (st : List Value), W p l e R s m args below meth c H locs cells slots Q (F0 m pa ls (.int nv :: st)) → W p l e R s m args below meth c H locs cells slots Q (F0 m (pc + 1) ls st)) (hn : nv = nI n) (hn2 : n < 100000) (dn : decode cc pa = .ok (.newarray .boolean, 2)) (dp : decode cc (pa + 2) = .ok (.putfield index, 3)) (hcells : cells + 1 ≤ R.cells) (hslots : slots + n ≤ R.slots)
    (k : ∀ q : Nat, WC p l e R s m args below meth c (cells + 1) (slots + n) Q nL D A H0 ci h0 (pa + 5) (fs.set j (.ref q)) (Rw ++ [(q, .inl (cZ, n, .inl (fun _ => 0)))])) : WC p l e R s m args below meth c cells slots Q nL D A H0 ci h0 pc fs Rw := by
  intro H locs ls hl hP hD hS
  refine lv_aload_n hx hb d0 rfl (lv_at hl 0 rfl) ?_
  refine push _ _ _ _ ?_
  subst hn
  refine va_newa (atype := .boolean) (ty := .boolean) (a0 := (n, .inl (fun _ => 0))) hx hb (hts _ harr) rfl hK hP hD hS hA (fun _ => rfl) (nI_pos (by omega)) (nI_clamp (by omega)) (by show n * 1 ≤ _; omega) hcells hslots dn (fun q cA2 H1 hK2 hP1 hD1 hS1 => ?_)
  have e1 : cA2 = cZ := ra_int (t := .boolean) (hK.2 1 (cZ, .boolean) rfl).2 (hK2.2 4 (cA2, .boolean) rfl).2
  subst e1
  refine va_putF (D := D) (ci := ci) (v := .ref q) (ty := .array .boolean) (C := C) (T := T) (N := N) hx hb hts hin ty0 hty hnm hown hK hP1 hD1 hS1 0 rfl hc j hj (hts _ hlink) (fun x h9 => by rw [hr]; exact h9) hfin hinit hdecl hd rfl rfl hlen dp (fun H2 locs2 hP2 hD2 hS2 => ?_)
  exact k q H2 locs2 ls hl hP2 hD2 hS2
/-- x.f = 0 -/
theorem wc_put0 {ci h0 pc j index N : Nat} {fs : List Value} {Rw : va_W} {C ref : String} {T : u_T} (hx : p.tables.exec = Jvm.exec) (hb : c.code = cc) (hown : s.vm.findClass own = some m.cls) (hK : va_K D vwCl (TY cI cZ cA cL) s) (hts : ∀ w ∈ Ts, w.before args s = true) (hin : ∀ w ∈ u_ws C T N, w ∈ Ts) (ty0 : Nat → FieldType) (hty : ∀ k, k < N → parseFieldDescriptor (T k).2.2.1 = some (ty0 k)) (hnm : ∀ a, a < N → ∀ b, b < N → a ≠ b → (T a).2.1 ≠ (T b).2.1) (hc : vwCl[ci]? = some (C, T, N)) (hj : j < N) (hr : ref = (T j).1) (hlen : j < fs.length)
    (hlink : (Cond.fieldLink own index ref (T j).2.1 (T j).2.2.1) ∈ Ts) (hfin : (T j).2.2.2 = false) (hd : parseFieldDescriptor (T j).2.2.1 = some .int)
    (d0 : decode cc pc = .ok (.aload_n 0, 1)) (d1 : decode cc (pc + 1) = .ok (.iconst 0, 1)) (dp : decode cc (pc + 2) = .ok (.putfield index, 3))
    (k : WC p l e R s m args below meth c cells slots Q nL D A H0 ci h0 (pc + 5) (fs.set j (.int 0)) Rw) : WC p l e R s m args below meth c cells slots Q nL D A H0 ci h0 pc fs Rw := by
  intro H locs ls hl hP hD hS
  refine lv_aload_n hx hb d0 rfl (lv_at hl 0 rfl) ?_
  refine lv_iconst (v := 0) hx hb d1 rfl ?_
  refine va_put (D := D) (ci := ci) (v := .int 0) (ty := .int) (C := C) (T := T) (N := N) hx hb hts hin ty0 hty hnm hown hK hP hD hS 0 rfl hc j hj (hts _ hlink) (fun x h9 => by rw [hr]; exact h9) hfin hd rfl rfl hlen dp (fun H2 locs2 hP2 hD2 hS2 => ?_)
  exact k H2 locs2 ls hl hP2 hD2 hS2
/-- x.f = new int[n][k] -/
theorem wc_mna {ci h0 pc pb pa j index i2 n k N : Nat} {nv kv : Int32} {fs : List Value} {Rw : va_W} {C ref : String} {T : u_T} (hx : p.tables.exec = Jvm.exec) (hb : c.code = cc) (hown : s.vm.findClass own = some m.cls) (hK : va_K D vwCl (TY cI cZ cA cL) s) (hA : ∀ q, H0.size ≤ q → A q) (hts : ∀ w ∈ Ts, w.before args s = true) (hin : ∀ w ∈ u_ws C T N, w ∈ Ts) (ty0 : Nat → FieldType) (hty : ∀ k, k < N → parseFieldDescriptor (T k).2.2.1 = some (ty0 k)) (hnm : ∀ a, a < N → ∀ b, b < N → a ≠ b → (T a).2.1 ≠ (T b).2.1) (hc : vwCl[ci]? = some (C, T, N)) (hj : j < N) (hr : ref = (T j).1) (hlen : j < fs.length)
    (hlink : (Cond.fieldLink own index ref (T j).2.1 (T j).2.2.1) ∈ Ts) (hfin : (T j).2.2.2 = true) (hinit : meth.name = "<init>") (hdecl : (T j).1 = own) (hd : parseFieldDescriptor (T j).2.2.1 = some (.array (.array .int))) (hcl : (Cond.classLink own i2 ("[" ++ (FieldType.array .int).toString)) ∈ Ts) (hover : va_AOA .int s) (harr : (Cond.arrayClass .int).before args s = true)
    (d0 : decode cc pc = .ok (.aload_n 0, 1)) (push : ∀ (H : Heap) (locs : List Loc) (ls : Array Slot) (st : List Value), W p l e R s m args below meth c H locs cells slots Q (F0 m pb ls (.int nv :: st)) → W p l e R s m args below meth c H locs cells slots Q (F0 m (pc + 1) ls st)) (push2 : ∀ (H : Heap) (locs : List Loc) (ls : Array Slot) (st : List Value), W p l e R s m args below meth c H locs cells slots Q (F0 m pa ls (.int kv :: st)) → W p l e R s m args below meth c H locs cells slots Q (F0 m pb ls st)) (hn : nv = nI n) (hk : kv = nI k) (hn2 : n < 1000) (hk2 : k < 1000) (dn : decode cc pa = .ok (.multianewarray i2 2, 4)) (dp : decode cc (pa + 4) = .ok (.putfield index, 3)) (hcells : cells + (1 + n) ≤ R.cells) (hslots : slots + (n + n * k) ≤ R.slots)
    (kk : ∀ (q : Nat) (r : Nat → Nat), WC p l e R s m args below meth c (cells + 1 + n) (slots + n + n * k) Q nL D A H0 ci h0 (pa + 7) (fs.set j (.ref q)) (Rw ++ ((q, .inl (cA, n, .inr (.inr (.inr (.inr (fun i => if i < n then some (r i) else none)))))) :: (List.range n).map (fun i => (r i, .inl (cI, k, .inl (fun _ => 0))))))) : WC p l e R s m args below meth c cells slots Q nL D A H0 ci h0 pc fs Rw := by
  intro H locs ls hl hP hD hS
  refine lv_aload_n hx hb d0 rfl (lv_at hl 0 rfl) ?_
  refine push _ _ _ _ ?_
  refine push2 _ _ _ _ ?_
  subst hn
  subst hk
  have hP0 : va_P D vwCl (((h0, .inr (ci, fs)) :: Rw) ++ va_pl [] (fun _ => .inr (0, []))) H := by simpa [va_pl] using hP
  have hD0 : va_D A (((h0, .inr (ci, fs)) :: Rw) ++ va_pl [] (fun _ => .inr (0, []))) := by simpa [va_pl] using hD
  refine va_mna (ty := .int) (cy := cI) (z := (k, .inl (fun _ => 0))) hx hb hown (hts _ hcl) hover harr (hK.2 0 (cI, .int) rfl).2 hK hP0 hD0 hS hA (nI_pos (by omega)) (nI_pos (by omega)) (nI_clamp (by omega)) (nI_clamp (by omega)) (by omega) (by show k * 4 ≤ _; omega) (by omega) rfl rfl hcells hslots (fun c9 => by show ({ cls := c9, slots := Array.replicate k (.int 0), vm := .none } : Cell) = _; rw [arrV_new, vp_cell_i]) dn (fun q r cA2 H1 hr1 hr2 hK2 hP1 hD1 hS1 => ?_)
  have e1 : cA2 = cA := ra_int (t := .array .int) (hK.2 2 (cA, .array .int) rfl).2 (hK2.2 4 (cA2, .array .int) rfl).2
  subst e1
  have ew : ((((h0, .inr (ci, fs)) :: Rw) ++ [(q, .inl (cA2, n, .inr (.inr (.inr (.inr (fun i => if i < n then some (r i) else none))))))]) ++ va_pl ([] ++ (List.range n).map r) (vr_up (fun _ => .inr (0, [])) ((List.range n).map r) (.inl (cI, (k, .inl (fun _ => 0))))) : va_W) = (h0, .inr (ci, fs)) :: (Rw ++ ((q, .inl (cA2, n, .inr (.inr (.inr (.inr (fun i => if i < n then some (r i) else none)))))) :: (List.range n).map (fun i => (r i, .inl (cI, k, .inl (fun _ => 0)))))) := by
    have e2 : va_pl ([] ++ (List.range n).map r) (vr_up (fun _ => .inr (0, [])) ((List.range n).map r) (.inl (cI, (k, .inl (fun _ => 0))))) = (List.range n).map (fun i => ((r i, .inl (cI, k, .inl (fun _ => 0))) : Nat × va_E)) := by
      unfold va_pl
      rw [List.nil_append, List.map_map]
      refine List.map_congr_left fun i hi => ?_
      show (r i, vr_up _ _ _ (r i)) = _
      rw [vr_up_in (List.mem_map.mpr ⟨i, hi, rfl⟩)]
    rw [e2]
    simp
  rw [ew] at hP1 hD1
  refine va_putF (D := D) (ci := ci) (v := .ref q) (ty := .array (.array .int)) (C := C) (T := T) (N := N) hx hb hts hin ty0 hty hnm hown hK hP1 hD1 hS1 0 rfl hc j hj (hts _ hlink) (fun x h9 => by rw [hr]; exact h9) hfin hinit hdecl hd rfl rfl hlen dp (fun H2 locs2 hP2 hD2 hS2 => ?_)
  exact kk q r H2 locs2 ls hl hP2 hD2 hS2
end CTOR
