/-- the links between nest mates: they stand in no word list of a method, they go along beside it -/
def nwL : List Cond := [Cond.fieldLinkNest "CueTour" 60 "CueTour$Script" "count" "I" "CueTour", Cond.fieldLinkNest "CueTour" 75 "CueTour$Script" "needs" "[[I" "CueTour", Cond.fieldLinkNest "CueTour" 78 "CueTour$Script" "isOut" "[Z" "CueTour", Cond.fieldLinkNest "CueTour" 93 "CueTour$Patch" "areas" "[I" "CueTour", Cond.fieldLinkNest "CueTour" 96 "CueTour$Patch" "colours" "[I" "CueTour", Cond.fieldLinkNest "CueTour" 99 "CueTour$CueList" "count" "I" "CueTour", Cond.fieldLinkNest "CueTour" 106 "CueTour$CueList" "lineOf" "[I" "CueTour", Cond.fieldLinkNest "CueTour" 109 "CueTour$CueList" "own" "[[I" "CueTour", Cond.fieldLinkNest "CueTour" 112 "CueTour$CueList" "order" "[I" "CueTour", Cond.fieldLinkNest "CueTour" 115 "CueTour$CueList" "times" "[I" "CueTour", Cond.fieldLinkNest "CueTour" 118 "CueTour$CueList" "into" "[I" "CueTour", Cond.fieldLinkNest "CueTour" 121 "CueTour$CueList" "made" "[[I" "CueTour", Cond.fieldLinkNest "CueTour" 131 "CueTour$Rig" "count" "I" "CueTour", Cond.fieldLinkNest "CueTour" 146 "CueTour$Rig" "homes" "[I" "CueTour", Cond.fieldLinkNest "CueTour" 153 "CueTour$Rig" "stages" "[I" "CueTour", Cond.fieldLinkNest "CueTour" 160 "CueTour$Rig" "wears" "[I" "CueTour", Cond.fieldLinkNest "CueTour" 198 "CueTour$Book" "count" "I" "CueTour", Cond.fieldLinkNest "CueTour" 205 "CueTour$Book" "stages" "[I" "CueTour", Cond.fieldLinkNest "CueTour" 206 "CueTour$Book" "shorts" "[[I" "CueTour", Cond.fieldLinkNest "CueTour$CueList" 65 "CueTour$Script" "isOut" "[Z" "CueTour", Cond.fieldLinkNest "CueTour$Rig" 56 "CueTour$Patch" "areas" "[I" "CueTour", Cond.fieldLinkNest "CueTour$Rig" 59 "CueTour$Patch" "colours" "[I" "CueTour"]
def NW (U : State) : Prop := ∀ w ∈ nwL, va_Nw w U
theorem nw_on : ∀ w ∈ nwL, w.onTables = true := by decide +kernel
theorem nw_same {u U : State} (h : u.vm = U.vm) (hN : NW u) : NW U := fun w hw => va_Nw.same (nw_on w hw) h (hN w hw)
theorem nw_in : ∀ w ∈ nwL, w ∈ tables_1 := by decide +kernel
theorem nw_warm {s U : State} (hW : s.WarmedH U.vm) (hN : NW s) : NW U :=
  List.forall_mem_cons.mpr ⟨va_Nw.warmF hW (hN _ (List.mem_of_getElem? (i := 0) rfl)), List.forall_mem_cons.mpr ⟨va_Nw.warmF hW (hN _ (List.mem_of_getElem? (i := 1) rfl)), List.forall_mem_cons.mpr ⟨va_Nw.warmF hW (hN _ (List.mem_of_getElem? (i := 2) rfl)), List.forall_mem_cons.mpr ⟨va_Nw.warmF hW (hN _ (List.mem_of_getElem? (i := 3) rfl)), List.forall_mem_cons.mpr ⟨va_Nw.warmF hW (hN _ (List.mem_of_getElem? (i := 4) rfl)), List.forall_mem_cons.mpr ⟨va_Nw.warmF hW (hN _ (List.mem_of_getElem? (i := 5) rfl)), List.forall_mem_cons.mpr ⟨va_Nw.warmF hW (hN _ (List.mem_of_getElem? (i := 6) rfl)), List.forall_mem_cons.mpr ⟨va_Nw.warmF hW (hN _ (List.mem_of_getElem? (i := 7) rfl)), List.forall_mem_cons.mpr ⟨va_Nw.warmF hW (hN _ (List.mem_of_getElem? (i := 8) rfl)), List.forall_mem_cons.mpr ⟨va_Nw.warmF hW (hN _ (List.mem_of_getElem? (i := 9) rfl)), List.forall_mem_cons.mpr ⟨va_Nw.warmF hW (hN _ (List.mem_of_getElem? (i := 10) rfl)), List.forall_mem_cons.mpr ⟨va_Nw.warmF hW (hN _ (List.mem_of_getElem? (i := 11) rfl)), List.forall_mem_cons.mpr ⟨va_Nw.warmF hW (hN _ (List.mem_of_getElem? (i := 12) rfl)), List.forall_mem_cons.mpr ⟨va_Nw.warmF hW (hN _ (List.mem_of_getElem? (i := 13) rfl)), List.forall_mem_cons.mpr ⟨va_Nw.warmF hW (hN _ (List.mem_of_getElem? (i := 14) rfl)), List.forall_mem_cons.mpr ⟨va_Nw.warmF hW (hN _ (List.mem_of_getElem? (i := 15) rfl)), List.forall_mem_cons.mpr ⟨va_Nw.warmF hW (hN _ (List.mem_of_getElem? (i := 16) rfl)), List.forall_mem_cons.mpr ⟨va_Nw.warmF hW (hN _ (List.mem_of_getElem? (i := 17) rfl)), List.forall_mem_cons.mpr ⟨va_Nw.warmF hW (hN _ (List.mem_of_getElem? (i := 18) rfl)), List.forall_mem_cons.mpr ⟨va_Nw.warmF hW (hN _ (List.mem_of_getElem? (i := 19) rfl)), List.forall_mem_cons.mpr ⟨va_Nw.warmF hW (hN _ (List.mem_of_getElem? (i := 20) rfl)), List.forall_mem_cons.mpr ⟨va_Nw.warmF hW (hN _ (List.mem_of_getElem? (i := 21) rfl)), fun _ h => absurd h List.not_mem_nil⟩⟩⟩⟩⟩⟩⟩⟩⟩⟩⟩⟩⟩⟩⟩⟩⟩⟩⟩⟩⟩⟩
section RULES
variable {p : Program} {l : Launch} {e : Env} {R : Room} {s : State} {m : MethodId} {args : Array Value} {below : List Frame} {meth : Method} {c : Code} {Q : State → Prop} {cells slots : Nat}
variable {cc : ByteArray} {nL : Nat} {D : va_G} {cI cZ cA cL : ClassId} {ad : Nat → Nat} {A : Nat → Prop} {H0 : Heap} {Ts : List Cond} {own : String}
/-- the machine's W at an abstract state: for every heap that holds the memory -/
def WS (p : Program) (l : Launch) (e : Env) (R : Room) (s : State) (m : MethodId) (args : Array Value) (below : List Frame) (meth : Method) (c : Code) (cells slots : Nat) (Q : State → Prop) (nL : Nat) (D : va_G) (cI cZ cA cL : ClassId) (ad : Nat → Nat) (A : Nat → Prop) (H0 : Heap) : aS → Prop := fun x =>
  ∀ (H : Heap) (locs : List Loc) (ls : Array Slot), lh ad ls nL x.2.1 → va_P D vwCl (wl cI cZ cA cL ad x.2.2.2) H → va_S A H0 H locs → W p l e R s m args below meth c H locs cells slots Q (F0 m x.1 ls (x.2.2.1.map (cv ad)))
def Ru (p : Program) (l : Launch) (e : Env) (R : Room) (s : State) (m : MethodId) (args : Array Value) (below : List Frame) (meth : Method) (c : Code) (cells slots : Nat) (Q : State → Prop) (nL : Nat) (D : va_G) (cI cZ cA cL : ClassId) (ad : Nat → Nat) (A : Nat → Prop) (H0 : Heap) (i : aI) (pc : Nat) : Prop :=
  mono i ∧ ∀ (L st : List Value) (σ : aM), i (WS p l e R s m args below meth c cells slots Q nL D cI cZ cA cL ad A H0) (pc, L, st, σ) → WS p l e R s m args below meth c cells slots Q nL D cI cZ cA cL ad A H0 (pc, L, st, σ)
theorem ru_bot {pc : Nat} : Ru p l e R s m args below meth c cells slots Q nL D cI cZ cA cL ad A H0 I_bot pc := ⟨mono_bot, fun _ _ _ h => h.elim⟩
theorem ru_iload_n {pc : Nat} {k : Fin 4} (hx : p.tables.exec = Jvm.exec) (hb : c.code = cc) (hdg : decode cc pc = .ok (.iload_n k, 1)) : Ru p l e R s m args below meth c cells slots Q nL D cI cZ cA cL ad A H0 (I_iload k 1) pc := by
  refine ⟨mono_iload _ _, fun L st σ h => ?_⟩
  revert h
  simp only [I_iload]
  split
  · rename_i v hv
    intro h H locs ls hl hP hS
    exact lv_iload_n hx hb hdg rfl (hl.2.2.2.2 _ _ hv nofun) (h H locs ls hl hP hS)
  · exact fun h => h.elim
theorem ru_iload {pc i : Nat} (hx : p.tables.exec = Jvm.exec) (hb : c.code = cc) (hdg : decode cc pc = .ok (.iload i, 2)) : Ru p l e R s m args below meth c cells slots Q nL D cI cZ cA cL ad A H0 (I_iload i 2) pc := by
  refine ⟨mono_iload _ _, fun L st σ h => ?_⟩
  revert h
  simp only [I_iload]
  split
  · rename_i v hv
    intro h H locs ls hl hP hS
    exact lv_iload hx hb hdg (hl.2.2.2.2 _ _ hv nofun) (h H locs ls hl hP hS)
  · exact fun h => h.elim
theorem ru_aload_n {pc : Nat} {k : Fin 4} (hx : p.tables.exec = Jvm.exec) (hb : c.code = cc) (hdg : decode cc pc = .ok (.aload_n k, 1)) : Ru p l e R s m args below meth c cells slots Q nL D cI cZ cA cL ad A H0 (I_aload k 1) pc := by
  refine ⟨mono_aload _ _, fun L st σ h => ?_⟩
  revert h
  simp only [I_aload]
  split
  · rename_i v hv
    intro h H locs ls hl hP hS
    exact lv_aload_n hx hb hdg rfl (hl.2.2.2.2 _ _ hv nofun) (h H locs ls hl hP hS)
  · exact fun h => h.elim
theorem ru_aload {pc i : Nat} (hx : p.tables.exec = Jvm.exec) (hb : c.code = cc) (hdg : decode cc pc = .ok (.aload i, 2)) : Ru p l e R s m args below meth c cells slots Q nL D cI cZ cA cL ad A H0 (I_aload i 2) pc := by
  refine ⟨mono_aload _ _, fun L st σ h => ?_⟩
  revert h
  simp only [I_aload]
  split
  · rename_i v hv
    intro h H locs ls hl hP hS
    exact lv_aload hx hb hdg (hl.2.2.2.2 _ _ hv nofun) (h H locs ls hl hP hS)
  · exact fun h => h.elim
theorem ru_iconst {pc : Nat} {n : Int} {v : Int32} (hx : p.tables.exec = Jvm.exec) (hb : c.code = cc) (hdg : decode cc pc = .ok (.iconst n, 1)) (hv : Int32.ofInt n = v) : Ru p l e R s m args below meth c cells slots Q nL D cI cZ cA cL ad A H0 (I_const v 1) pc :=
  ⟨mono_const _ _, fun L st σ h H locs ls hl hP hS => lv_iconst hx hb hdg hv (h H locs ls hl hP hS)⟩
theorem ru_bipush {pc : Nat} {n : Int} {v : Int32} (hx : p.tables.exec = Jvm.exec) (hb : c.code = cc) (hdg : decode cc pc = .ok (.bipush n, 2)) (hv : (Int8.ofInt n).toInt32 = v) : Ru p l e R s m args below meth c cells slots Q nL D cI cZ cA cL ad A H0 (I_const v 2) pc :=
  ⟨mono_const _ _, fun L st σ h H locs ls hl hP hS => lv_bipush hx hb hdg hv (h H locs ls hl hP hS)⟩
theorem ru_sipush {pc : Nat} {n : Int} {v : Int32} (hx : p.tables.exec = Jvm.exec) (hb : c.code = cc) (hdg : decode cc pc = .ok (.sipush n, 3)) (hv : (Int16.ofInt n).toInt32 = v) : Ru p l e R s m args below meth c cells slots Q nL D cI cZ cA cL ad A H0 (I_const v 3) pc :=
  ⟨mono_const _ _, fun L st σ h H locs ls hl hP hS => lv_sipush hx hb hdg hv (h H locs ls hl hP hS)⟩
theorem ru_goto {pc : Nat} {off : Int} {tgt : Nat} (hx : p.tables.exec = Jvm.exec) (hb : c.code = cc) (hdg : decode cc pc = .ok (.goto off, 3)) (ht : (pc : Int) + off = (tgt : Int)) : Ru p l e R s m args below meth c cells slots Q nL D cI cZ cA cL ad A H0 (I_goto tgt) pc :=
  ⟨mono_goto _, fun L st σ h H locs ls hl hP hS => lv_goto hx hb hdg ht (h H locs ls hl hP hS)⟩
theorem ru_istore_n {pc : Nat} {k : Fin 4} (hx : p.tables.exec = Jvm.exec) (hb : c.code = cc) (hdg : decode cc pc = .ok (.istore_n k, 1)) : Ru p l e R s m args below meth c cells slots Q nL D cI cZ cA cL ad A H0 (I_istore k 1) pc := by
  refine ⟨mono_istore _ _, fun L st σ h => ?_⟩
  revert h
  unfold I_istore
  split
  · rename_i pc' L' v st' σ' heq
    cases heq
    split
    · rename_i w hw
      intro h H locs ls hl hP hS
      have hi : (k : Nat) < nL := by
        have := (List.getElem?_eq_some_iff.mp hw).1
        rw [hl.2.2.1] at this
        exact this
      exact lv_istore_n hx hb hdg rfl (lhL_has hl) hi rfl (fun ls' hl' => h H locs ls' (lh_set hl rfl hl') hP hS)
    · exact fun h => h.elim
  · exact fun h => h.elim
theorem ru_istore {pc i : Nat} (hx : p.tables.exec = Jvm.exec) (hb : c.code = cc) (hdg : decode cc pc = .ok (.istore i, 2)) : Ru p l e R s m args below meth c cells slots Q nL D cI cZ cA cL ad A H0 (I_istore i 2) pc := by
  refine ⟨mono_istore _ _, fun L st σ h => ?_⟩
  revert h
  unfold I_istore
  split
  · rename_i pc' L' v st' σ' heq
    cases heq
    split
    · rename_i w hw
      intro h H locs ls hl hP hS
      have hi : i < nL := by
        have := (List.getElem?_eq_some_iff.mp hw).1
        rw [hl.2.2.1] at this
        exact this
      exact lv_istore hx hb hdg (lhL_has hl) hi rfl (fun ls' hl' => h H locs ls' (lh_set hl rfl hl') hP hS)
    · exact fun h => h.elim
  · exact fun h => h.elim
theorem ru_iinc {pc i : Nat} {n : Int} {v : Int32} (hx : p.tables.exec = Jvm.exec) (hb : c.code = cc) (hdg : decode cc pc = .ok (.iinc i n, 3)) (hv : Int32.ofInt n = v) : Ru p l e R s m args below meth c cells slots Q nL D cI cZ cA cL ad A H0 (I_iinc i v) pc := by
  subst hv
  refine ⟨mono_iinc _ _, fun L st σ h => ?_⟩
  revert h
  simp only [I_iinc]
  split
  · rename_i w hw
    intro h H locs ls hl hP hS
    have hi : i < nL := by
      have := (List.getElem?_eq_some_iff.mp hw).1
      rw [hl.2.2.1] at this
      exact this
    obtain ⟨k, hk⟩ := List.mem_iff_getElem?.mp (lhL_in (ad := ad) hw nofun)
    exact lv_iinc hx hb hdg (lhL_has hl) hk rfl hi rfl (fun ls' hl' => h H locs ls' (lh_set hl rfl hl') hP hS)
  · exact fun h => h.elim
theorem ru_bin {pc : Nat} {f : Int32 → Int32 → Int32} (hW : ∀ (H : Heap) (locs : List Loc) (ls : Array Slot) (rest : List Value) (x y : Int32), W p l e R s m args below meth c H locs cells slots Q (F0 m (pc + 1) ls (.int (f x y) :: rest)) → W p l e R s m args below meth c H locs cells slots Q (F0 m pc ls (.int y :: .int x :: rest))) : Ru p l e R s m args below meth c cells slots Q nL D cI cZ cA cL ad A H0 (I_bin f) pc := by
  refine ⟨mono_bin _, fun L st σ h => ?_⟩
  revert h
  unfold I_bin
  split
  · rename_i heq
    cases heq
    intro h H locs ls hl hP hS
    exact hW _ _ _ _ _ _ (h H locs ls hl hP hS)
  · exact fun h => h.elim
theorem ru_div {pc : Nat} {f : Int32 → Int32 → Int32} (hW : ∀ (H : Heap) (locs : List Loc) (ls : Array Slot) (rest : List Value) (x y : Int32), ¬ y = 0 → W p l e R s m args below meth c H locs cells slots Q (F0 m (pc + 1) ls (.int (f x y) :: rest)) → W p l e R s m args below meth c H locs cells slots Q (F0 m pc ls (.int y :: .int x :: rest))) : Ru p l e R s m args below meth c cells slots Q nL D cI cZ cA cL ad A H0 (I_div f) pc := by
  refine ⟨mono_div _, fun L st σ h => ?_⟩
  revert h
  unfold I_div
  split
  · rename_i heq
    cases heq
    intro h H locs ls hl hP hS
    exact hW _ _ _ _ _ _ h.1 (h.2 H locs ls hl hP hS)
  · exact fun h => h.elim
theorem ru_iadd {pc : Nat} (hx : p.tables.exec = Jvm.exec) (hb : c.code = cc) (hdg : decode cc pc = .ok (.iadd, 1)) : Ru p l e R s m args below meth c cells slots Q nL D cI cZ cA cL ad A H0 (I_bin fun x y => x + y) pc := ru_bin fun _ _ _ _ _ _ k => lv_iadd hx hb hdg k
theorem ru_isub {pc : Nat} (hx : p.tables.exec = Jvm.exec) (hb : c.code = cc) (hdg : decode cc pc = .ok (.isub, 1)) : Ru p l e R s m args below meth c cells slots Q nL D cI cZ cA cL ad A H0 (I_bin fun x y => x - y) pc := ru_bin fun _ _ _ _ _ _ k => lv_isub hx hb hdg k
theorem ru_imul {pc : Nat} (hx : p.tables.exec = Jvm.exec) (hb : c.code = cc) (hdg : decode cc pc = .ok (.imul, 1)) : Ru p l e R s m args below meth c cells slots Q nL D cI cZ cA cL ad A H0 (I_bin fun x y => x * y) pc := ru_bin fun _ _ _ _ _ _ k => lv_imul hx hb hdg k
theorem ru_ior {pc : Nat} (hx : p.tables.exec = Jvm.exec) (hb : c.code = cc) (hdg : decode cc pc = .ok (.ior, 1)) : Ru p l e R s m args below meth c cells slots Q nL D cI cZ cA cL ad A H0 (I_bin fun x y => x ||| y) pc := ru_bin fun _ _ _ _ _ _ k => lv_ior hx hb hdg k
theorem ru_iand {pc : Nat} (hx : p.tables.exec = Jvm.exec) (hb : c.code = cc) (hdg : decode cc pc = .ok (.iand, 1)) : Ru p l e R s m args below meth c cells slots Q nL D cI cZ cA cL ad A H0 (I_bin fun x y => x &&& y) pc := ru_bin fun _ _ _ _ _ _ k => lv_iand hx hb hdg k
theorem ru_ishl {pc : Nat} (hx : p.tables.exec = Jvm.exec) (hb : c.code = cc) (hdg : decode cc pc = .ok (.ishl, 1)) : Ru p l e R s m args below meth c cells slots Q nL D cI cZ cA cL ad A H0 (I_bin fun x y => x <<< (y &&& 31)) pc := ru_bin fun _ _ _ _ _ _ k => lv_ishl hx hb hdg k
theorem ru_ishr {pc : Nat} (hx : p.tables.exec = Jvm.exec) (hb : c.code = cc) (hdg : decode cc pc = .ok (.ishr, 1)) : Ru p l e R s m args below meth c cells slots Q nL D cI cZ cA cL ad A H0 (I_bin fun x y => x >>> (y &&& 31)) pc := ru_bin fun _ _ _ _ _ _ k => lv_ishr hx hb hdg k
theorem ru_idiv {pc : Nat} (hx : p.tables.exec = Jvm.exec) (hb : c.code = cc) (hdg : decode cc pc = .ok (.idiv, 1)) : Ru p l e R s m args below meth c cells slots Q nL D cI cZ cA cL ad A H0 (I_div fun x y => x / y) pc := ru_div fun _ _ _ _ _ _ hn k => lv_idiv hx hb hdg hn k
theorem ru_irem {pc : Nat} (hx : p.tables.exec = Jvm.exec) (hb : c.code = cc) (hdg : decode cc pc = .ok (.irem, 1)) : Ru p l e R s m args below meth c cells slots Q nL D cI cZ cA cL ad A H0 (I_div fun x y => x - x / y * y) pc := ru_div fun _ _ _ _ _ _ hn k => lv_irem hx hb hdg hn k
theorem ru_dup {pc : Nat} (hx : p.tables.exec = Jvm.exec) (hb : c.code = cc) (hdg : decode cc pc = .ok (.dup, 1)) : Ru p l e R s m args below meth c cells slots Q nL D cI cZ cA cL ad A H0 I_dup pc := by
  refine ⟨mono_dup, fun L st σ h => ?_⟩
  revert h
  unfold I_dup
  split
  · rename_i heq
    cases heq
    intro h H locs ls hl hP hS
    exact lv_dup hx hb hdg rfl (h H locs ls hl hP hS)
  · rename_i heq
    cases heq
    intro h H locs ls hl hP hS
    exact lv_dup hx hb hdg rfl (h H locs ls hl hP hS)
  · exact fun h => h.elim
theorem ru_dup2 {pc : Nat} (hx : p.tables.exec = Jvm.exec) (hb : c.code = cc) (hdg : decode cc pc = .ok (.dup2, 1)) : Ru p l e R s m args below meth c cells slots Q nL D cI cZ cA cL ad A H0 I_dup2 pc := by
  refine ⟨mono_dup2, fun L st σ h => ?_⟩
  revert h
  unfold I_dup2
  split
  · rename_i heq
    cases heq
    intro h H locs ls hl hP hS
    exact lv_dup2_11 hx hb hdg rfl rfl (h H locs ls hl hP hS)
  · exact fun h => h.elim
theorem ru_if {pc tgt : Nat} {cd : Int32 → Prop} (hW : ∀ (H : Heap) (locs : List Loc) (ls : Array Slot) (rest : List Value) (x : Int32), (cd x → W p l e R s m args below meth c H locs cells slots Q (F0 m tgt ls rest)) → (¬ cd x → W p l e R s m args below meth c H locs cells slots Q (F0 m (pc + 3) ls rest)) → W p l e R s m args below meth c H locs cells slots Q (F0 m pc ls (.int x :: rest))) : Ru p l e R s m args below meth c cells slots Q nL D cI cZ cA cL ad A H0 (I_if cd tgt) pc := by
  refine ⟨mono_if _ _, fun L st σ h => ?_⟩
  revert h
  unfold I_if
  split
  · rename_i heq
    cases heq
    intro h H locs ls hl hP hS
    exact hW _ _ _ _ _ (fun q => h.1 q H locs ls hl hP hS) (fun q => h.2 q H locs ls hl hP hS)
  · exact fun h => h.elim
theorem ru_icmp {pc tgt : Nat} {cd : Int32 → Int32 → Prop} (hW : ∀ (H : Heap) (locs : List Loc) (ls : Array Slot) (rest : List Value) (x y : Int32), (cd x y → W p l e R s m args below meth c H locs cells slots Q (F0 m tgt ls rest)) → (¬ cd x y → W p l e R s m args below meth c H locs cells slots Q (F0 m (pc + 3) ls rest)) → W p l e R s m args below meth c H locs cells slots Q (F0 m pc ls (.int y :: .int x :: rest))) : Ru p l e R s m args below meth c cells slots Q nL D cI cZ cA cL ad A H0 (I_icmp cd tgt) pc := by
  refine ⟨mono_icmp _ _, fun L st σ h => ?_⟩
  revert h
  unfold I_icmp
  split
  · rename_i heq
    cases heq
    intro h H locs ls hl hP hS
    exact hW _ _ _ _ _ _ (fun q => h.1 q H locs ls hl hP hS) (fun q => h.2 q H locs ls hl hP hS)
  · exact fun h => h.elim
theorem ru_ifeq {pc tgt : Nat} {off : Int} (hx : p.tables.exec = Jvm.exec) (hb : c.code = cc) (hdg : decode cc pc = .ok (.ifCond .eq off, 3)) (ht : (pc : Int) + off = (tgt : Int)) : Ru p l e R s m args below meth c cells slots Q nL D cI cZ cA cL ad A H0 (I_if (fun x => x = 0) tgt) pc := ru_if fun _ _ _ _ _ a b => lv_if_eq hx hb hdg ht a b
theorem ru_ifne {pc tgt : Nat} {off : Int} (hx : p.tables.exec = Jvm.exec) (hb : c.code = cc) (hdg : decode cc pc = .ok (.ifCond .ne off, 3)) (ht : (pc : Int) + off = (tgt : Int)) : Ru p l e R s m args below meth c cells slots Q nL D cI cZ cA cL ad A H0 (I_if (fun x => ¬ x = 0) tgt) pc := ru_if fun _ _ _ _ _ a b => lv_if_ne hx hb hdg ht a (fun q => b (fun z => z q))
theorem ru_iflt {pc tgt : Nat} {off : Int} (hx : p.tables.exec = Jvm.exec) (hb : c.code = cc) (hdg : decode cc pc = .ok (.ifCond .lt off, 3)) (ht : (pc : Int) + off = (tgt : Int)) : Ru p l e R s m args below meth c cells slots Q nL D cI cZ cA cL ad A H0 (I_if (fun x => x < 0) tgt) pc := ru_if fun _ _ _ _ _ a b => lv_if_lt hx hb hdg ht a b
theorem ru_ifle {pc tgt : Nat} {off : Int} (hx : p.tables.exec = Jvm.exec) (hb : c.code = cc) (hdg : decode cc pc = .ok (.ifCond .le off, 3)) (ht : (pc : Int) + off = (tgt : Int)) : Ru p l e R s m args below meth c cells slots Q nL D cI cZ cA cL ad A H0 (I_if (fun x => x ≤ 0) tgt) pc := ru_if fun _ _ _ _ _ a b => lv_if_le hx hb hdg ht a b
theorem ru_icmpeq {pc tgt : Nat} {off : Int} (hx : p.tables.exec = Jvm.exec) (hb : c.code = cc) (hdg : decode cc pc = .ok (.if_icmp .eq off, 3)) (ht : (pc : Int) + off = (tgt : Int)) : Ru p l e R s m args below meth c cells slots Q nL D cI cZ cA cL ad A H0 (I_icmp (fun x y => x = y) tgt) pc := ru_icmp fun _ _ _ _ _ _ a b => lv_icmp_eq hx hb hdg ht a b
theorem ru_icmpne {pc tgt : Nat} {off : Int} (hx : p.tables.exec = Jvm.exec) (hb : c.code = cc) (hdg : decode cc pc = .ok (.if_icmp .ne off, 3)) (ht : (pc : Int) + off = (tgt : Int)) : Ru p l e R s m args below meth c cells slots Q nL D cI cZ cA cL ad A H0 (I_icmp (fun x y => ¬ x = y) tgt) pc := ru_icmp fun _ _ _ _ _ _ a b => lv_icmp_ne hx hb hdg ht a (fun q => b (fun z => z q))
theorem ru_icmplt {pc tgt : Nat} {off : Int} (hx : p.tables.exec = Jvm.exec) (hb : c.code = cc) (hdg : decode cc pc = .ok (.if_icmp .lt off, 3)) (ht : (pc : Int) + off = (tgt : Int)) : Ru p l e R s m args below meth c cells slots Q nL D cI cZ cA cL ad A H0 (I_icmp (fun x y => x < y) tgt) pc := ru_icmp fun _ _ _ _ _ _ a b => lv_icmp_lt hx hb hdg ht a b
theorem ru_icmpge {pc tgt : Nat} {off : Int} (hx : p.tables.exec = Jvm.exec) (hb : c.code = cc) (hdg : decode cc pc = .ok (.if_icmp .ge off, 3)) (ht : (pc : Int) + off = (tgt : Int)) : Ru p l e R s m args below meth c cells slots Q nL D cI cZ cA cL ad A H0 (I_icmp (fun x y => y ≤ x) tgt) pc := ru_icmp fun _ _ _ _ _ _ a b => lv_icmp_ge hx hb hdg ht a b
theorem ru_icmpgt {pc tgt : Nat} {off : Int} (hx : p.tables.exec = Jvm.exec) (hb : c.code = cc) (hdg : decode cc pc = .ok (.if_icmp .gt off, 3)) (ht : (pc : Int) + off = (tgt : Int)) : Ru p l e R s m args below meth c cells slots Q nL D cI cZ cA cL ad A H0 (I_icmp (fun x y => y < x) tgt) pc := ru_icmp fun _ _ _ _ _ _ a b => lv_icmp_gt hx hb hdg ht a b
theorem ru_icmple {pc tgt : Nat} {off : Int} (hx : p.tables.exec = Jvm.exec) (hb : c.code = cc) (hdg : decode cc pc = .ok (.if_icmp .le off, 3)) (ht : (pc : Int) + off = (tgt : Int)) : Ru p l e R s m args below meth c cells slots Q nL D cI cZ cA cL ad A H0 (I_icmp (fun x y => x ≤ y) tgt) pc := ru_icmp fun _ _ _ _ _ _ a b => lv_icmp_le hx hb hdg ht a b
theorem wl_obj {σ : aM} {o : Nat} (h : o < 7) : (wl cI cZ cA cL ad σ)[o]? = some (ad o, .inr (cn o, fsL ad (σ o) 0 (ft o))) := by
  rw [wl_at (by omega), cellE_obj h]
theorem wl_putI {σ : aM} {o j : Nat} {v : Int32} (h : o < 7) (hf : (ft o)[j]? = some none) : (wl cI cZ cA cL ad σ).set o (ad o, .inr (cn o, (fsL ad (σ o) 0 (ft o)).set j (.int v))) = wl cI cZ cA cL ad (mput σ o j v) := by
  refine wl_set ?_
  rw [cellE_obj h, fsL_set _ 0 j hf]
  simp [mput]
theorem ru_getI {pc o j index N : Nat} {C ref : String} {T : u_T} (hx : p.tables.exec = Jvm.exec) (hb : c.code = cc) (hown : s.vm.findClass own = some m.cls) (hK : va_K D vwCl (TY cI cZ cA cL) s) (hts : ∀ w ∈ Ts, w.before args s = true) (hin : ∀ w ∈ u_ws C T N, w ∈ Ts) (ho : o < 7) (hc : vwCl[cn o]? = some (C, T, N)) (hf : (ft o)[j]? = some none) (hj : j < N) (hr : ref = (T j).1)
    (hlink : (Cond.fieldLink own index ref (T j).2.1 (T j).2.2.1) ∈ Ts) (hdg : decode cc pc = .ok (.getfield index, 3)) : Ru p l e R s m args below meth c cells slots Q nL D cI cZ cA cL ad A H0 (I_getI o j) pc := by
  refine ⟨mono_getI _ _, fun L st σ h => ?_⟩
  revert h
  unfold I_getI
  split
  · rename_i pc' L' a st' σ' heq
    cases heq
    cases hao : Nat.beq a o with
    | false => exact fun h => h.elim
    | true =>
      have := Nat.eq_of_beq_eq_true hao
      subst this
      intro h H locs ls hl hP hS
      exact va_get hx hb hts hin hown hK hP a (wl_obj ho) hc j hj (hts _ hlink) (fun x h9 => by rw [hr]; exact h9) (by rw [fsL_int _ 0 j hf, Nat.zero_add]; rfl) hdg (h H locs ls hl hP hS)
  · exact fun h => h.elim
theorem ru_getIN {pc o j index N : Nat} {C ref : String} {T : u_T} (hx : p.tables.exec = Jvm.exec) (hb : c.code = cc) (hown : s.vm.findClass own = some m.cls) (hK : va_K D vwCl (TY cI cZ cA cL) s) (hN : NW s) (hts : ∀ w ∈ Ts, w.before args s = true) (hin : ∀ w ∈ u_ws C T N, w ∈ Ts) (ho : o < 7) (hc : vwCl[cn o]? = some (C, T, N)) (hf : (ft o)[j]? = some none) (hj : j < N) (hr : ref = (T j).1)
    (hlink : (Cond.fieldLinkNest own index ref (T j).2.1 (T j).2.2.1 "CueTour") ∈ nwL) (hdg : decode cc pc = .ok (.getfield index, 3)) : Ru p l e R s m args below meth c cells slots Q nL D cI cZ cA cL ad A H0 (I_getI o j) pc := by
  refine ⟨mono_getI _ _, fun L st σ h => ?_⟩
  revert h
  unfold I_getI
  split
  · rename_i pc' L' a st' σ' heq
    cases heq
    cases hao : Nat.beq a o with
    | false => exact fun h => h.elim
    | true =>
      have := Nat.eq_of_beq_eq_true hao
      subst this
      intro h H locs ls hl hP hS
      exact va_getN hx hb hts hin hown hK hP a (wl_obj ho) hc j hj (va_Nw.use rfl (hN _ hlink)) (fun x h9 => by rw [hr]; exact h9) (by rw [fsL_int _ 0 j hf, Nat.zero_add]; rfl) hdg (h H locs ls hl hP hS)
  · exact fun h => h.elim
theorem ru_getR {pc o j k index N : Nat} {C ref : String} {T : u_T} (hx : p.tables.exec = Jvm.exec) (hb : c.code = cc) (hown : s.vm.findClass own = some m.cls) (hK : va_K D vwCl (TY cI cZ cA cL) s) (hts : ∀ w ∈ Ts, w.before args s = true) (hin : ∀ w ∈ u_ws C T N, w ∈ Ts) (ho : o < 7) (hc : vwCl[cn o]? = some (C, T, N)) (hf : (ft o)[j]? = some (some k)) (hj : j < N) (hr : ref = (T j).1)
    (hlink : (Cond.fieldLink own index ref (T j).2.1 (T j).2.2.1) ∈ Ts) (hdg : decode cc pc = .ok (.getfield index, 3)) : Ru p l e R s m args below meth c cells slots Q nL D cI cZ cA cL ad A H0 (I_getR o k) pc := by
  refine ⟨mono_getR _ _, fun L st σ h => ?_⟩
  revert h
  unfold I_getR
  split
  · rename_i pc' L' a st' σ' heq
    cases heq
    cases hao : Nat.beq a o with
    | false => exact fun h => h.elim
    | true =>
      have := Nat.eq_of_beq_eq_true hao
      subst this
      intro h H locs ls hl hP hS
      exact va_get hx hb hts hin hown hK hP a (wl_obj ho) hc j hj (hts _ hlink) (fun x h9 => by rw [hr]; exact h9) (fsL_ref _ 0 j hf) hdg (h H locs ls hl hP hS)
  · exact fun h => h.elim
theorem ru_getRN {pc o j k index N : Nat} {C ref : String} {T : u_T} (hx : p.tables.exec = Jvm.exec) (hb : c.code = cc) (hown : s.vm.findClass own = some m.cls) (hK : va_K D vwCl (TY cI cZ cA cL) s) (hN : NW s) (hts : ∀ w ∈ Ts, w.before args s = true) (hin : ∀ w ∈ u_ws C T N, w ∈ Ts) (ho : o < 7) (hc : vwCl[cn o]? = some (C, T, N)) (hf : (ft o)[j]? = some (some k)) (hj : j < N) (hr : ref = (T j).1)
    (hlink : (Cond.fieldLinkNest own index ref (T j).2.1 (T j).2.2.1 "CueTour") ∈ nwL) (hdg : decode cc pc = .ok (.getfield index, 3)) : Ru p l e R s m args below meth c cells slots Q nL D cI cZ cA cL ad A H0 (I_getR o k) pc := by
  refine ⟨mono_getR _ _, fun L st σ h => ?_⟩
  revert h
  unfold I_getR
  split
  · rename_i pc' L' a st' σ' heq
    cases heq
    cases hao : Nat.beq a o with
    | false => exact fun h => h.elim
    | true =>
      have := Nat.eq_of_beq_eq_true hao
      subst this
      intro h H locs ls hl hP hS
      exact va_getN hx hb hts hin hown hK hP a (wl_obj ho) hc j hj (va_Nw.use rfl (hN _ hlink)) (fun x h9 => by rw [hr]; exact h9) (fsL_ref _ 0 j hf) hdg (h H locs ls hl hP hS)
  · exact fun h => h.elim
theorem ru_putI {pc o j index N sz : Nat} {C ref : String} {T : u_T} (hx : p.tables.exec = Jvm.exec) (hb : c.code = cc) (hown : s.vm.findClass own = some m.cls) (hK : va_K D vwCl (TY cI cZ cA cL) s) (hi : adI ad) (hts : ∀ w ∈ Ts, w.before args s = true) (hin : ∀ w ∈ u_ws C T N, w ∈ Ts) (ty0 : Nat → FieldType) (hty : ∀ k, k < N → parseFieldDescriptor (T k).2.2.1 = some (ty0 k)) (hnm : ∀ a, a < N → ∀ b, b < N → a ≠ b → (T a).2.1 ≠ (T b).2.1) (ho : o < 7) (hc : vwCl[cn o]? = some (C, T, N)) (hf : (ft o)[j]? = some none) (hj : j < N) (hr : ref = (T j).1)
    (hlink : (Cond.fieldLink own index ref (T j).2.1 (T j).2.2.1) ∈ Ts) (hfin : (T j).2.2.2 = false) (hd : parseFieldDescriptor (T j).2.2.1 = some .int) (hdg : decode cc pc = .ok (.putfield index, 3)) : Ru p l e R s m args below meth c cells slots Q nL D cI cZ cA cL ad (AA ad sz) H0 (I_putI o j) pc := by
  refine ⟨mono_putI _ _, fun L st σ h => ?_⟩
  revert h
  unfold I_putI
  split
  · rename_i pc' L' v a st' σ' heq
    cases heq
    cases hao : Nat.beq a o with
    | false => exact fun h => h.elim
    | true =>
      have := Nat.eq_of_beq_eq_true hao
      subst this
      intro h H locs ls hl hP hS
      refine va_put (ty := .int) hx hb hts hin ty0 hty hnm hown hK hP (wl_D hi σ sz) hS a (wl_obj ho) hc j hj (hts _ hlink) (fun x h9 => by rw [hr]; exact h9) hfin hd rfl rfl (by rw [fsL_len]; exact (List.getElem?_eq_some_iff.mp hf).1) hdg (fun H1 locs1 hP1 hD1 hS1 => ?_)
      have hP1 : va_P D vwCl ((wl cI cZ cA cL ad σ).set a (ad a, .inr (cn a, (fsL ad (σ a) 0 (ft a)).set j (.int v)))) H1 := hP1
      rw [wl_putI ho hf] at hP1
      exact h H1 locs1 ls hl hP1 hS1
  · exact fun h => h.elim
theorem ru_iald {pc : Nat} (hx : p.tables.exec = Jvm.exec) (hb : c.code = cc) (hK : va_K D vwCl (TY cI cZ cA cL) s) (hdg : decode cc pc = .ok (.iaload, 1)) : Ru p l e R s m args below meth c cells slots Q nL D cI cZ cA cL ad A H0 I_iald pc := by
  refine ⟨mono_iald, fun L st σ h => ?_⟩
  revert h
  unfold I_iald
  split
  · rename_i heq
    cases heq
    intro h H locs ls hl hP hS
    exact va_iald hx hb hK hP _ 0 (by rw [wl_at (kd_lt (Or.inl h.1)).2, cellE_int h.1]) rfl (inb_in h.2.1) hdg (h.2.2 H locs ls hl hP hS)
  · exact fun h => h.elim
theorem ru_zald {pc : Nat} (hx : p.tables.exec = Jvm.exec) (hb : c.code = cc) (hK : va_K D vwCl (TY cI cZ cA cL) s) (hdg : decode cc pc = .ok (.baload, 1)) : Ru p l e R s m args below meth c cells slots Q nL D cI cZ cA cL ad A H0 I_zald pc := by
  refine ⟨mono_zald, fun L st σ h => ?_⟩
  revert h
  unfold I_zald
  split
  · rename_i heq
    cases heq
    intro h H locs ls hl hP hS
    exact va_zald hx hb hK hP _ 1 (by rw [wl_at (kd_lt (Or.inr (Or.inl h.1))).2, cellE_bool h.1]) rfl (inb_in h.2.1) hdg (h.2.2 H locs ls hl hP hS)
  · exact fun h => h.elim
theorem ru_iast {pc sz : Nat} (hx : p.tables.exec = Jvm.exec) (hb : c.code = cc) (hK : va_K D vwCl (TY cI cZ cA cL) s) (hi : adI ad) (hdg : decode cc pc = .ok (.iastore, 1)) : Ru p l e R s m args below meth c cells slots Q nL D cI cZ cA cL ad (AA ad sz) H0 I_iast pc := by
  refine ⟨mono_iast, fun L st σ h => ?_⟩
  revert h
  unfold I_iast
  split
  · rename_i pc' L' v i a st' σ' heq
    cases heq
    intro h H locs ls hl hP hS
    refine va_iast hx hb hK hP (wl_D hi σ sz) hS a 0 (by rw [wl_at (kd_lt (Or.inl h.1)).2, cellE_int h.1]) rfl (inb_in h.2.1) hdg (fun H1 locs1 hP1 hD1 hS1 => ?_)
    rw [wl_set (k := a) (i := ix i) (v := v) (by rw [cellE_int h.1]; simp [mput, ix])] at hP1
    exact h.2.2 H1 locs1 ls hl hP1 hS1
  · exact fun h => h.elim
theorem nar_z {v : Int32} (h : v = 0 ∨ v = 1) : vp_nar .boolean v = v := by
  rcases h with rfl | rfl <;> rfl
theorem ru_zast {pc sz : Nat} (hx : p.tables.exec = Jvm.exec) (hb : c.code = cc) (hK : va_K D vwCl (TY cI cZ cA cL) s) (hi : adI ad) (hdg : decode cc pc = .ok (.bastore, 1)) : Ru p l e R s m args below meth c cells slots Q nL D cI cZ cA cL ad (AA ad sz) H0 I_zast pc := by
  refine ⟨mono_zast, fun L st σ h => ?_⟩
  revert h
  unfold I_zast
  split
  · rename_i pc' L' v i a st' σ' heq
    cases heq
    intro h H locs ls hl hP hS
    refine va_zast hx hb hK hP (wl_D hi σ sz) hS a 1 (by rw [wl_at (kd_lt (Or.inr (Or.inl h.1))).2, cellE_bool h.1]) rfl (inb_in h.2.1) hdg (fun H1 locs1 hP1 hD1 hS1 => ?_)
    rw [nar_z h.2.2.1, wl_set (k := a) (i := ix i) (v := v) (by rw [cellE_bool h.1]; simp [mput, ix])] at hP1
    exact h.2.2.2 H1 locs1 ls hl hP1 hS1
  · exact fun h => h.elim
theorem ru_aald {pc : Nat} (hx : p.tables.exec = Jvm.exec) (hb : c.code = cc) (hK : va_K D vwCl (TY cI cZ cA cL) s) (hdg : decode cc pc = .ok (.aaload, 1)) : Ru p l e R s m args below meth c cells slots Q nL D cI cZ cA cL ad A H0 I_aald pc := by
  refine ⟨mono_aald, fun L st σ h => ?_⟩
  revert h
  unfold I_aald
  split
  · rename_i pc' L' i a st' σ' heq
    cases heq
    intro h H locs ls hl hP hS
    have hin := inb_in h.2.1
    have hlt : i.toNatClampNeg < ln a := Nat.not_le.mp fun q => hin (Or.inr q)
    have hc := hP a _ (by rw [wl_at (kd_lt (Or.inr (Or.inr (Or.inl h.1)))).2, cellE_rows h.1])
    refine W.aald (v := .ref (ad (rb a + ix i))) (ty := .array .int) hx hb hc ((hK.2 2 _ rfl).1 (ln a) (fun j => va_rf (if j < ln a then some (ad (rb a + j)) else none))) rfl (fun q => by cases q) (by show ¬ (i < 0 ∨ (arrV _ _ _).slots.size ≤ _); rw [arrV_size]; exact hin) (by show (arrV _ _ _).slots[_]? = _; rw [arrV_read _ _ hlt]; simp only [if_pos hlt]; rfl) rfl rfl hdg (h.2.2 H locs ls hl hP hS)
  · exact fun h => h.elim
end RULES
