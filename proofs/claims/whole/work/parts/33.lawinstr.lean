/-! the law's own instructions; tables that begin at a place of the code -/
def I_slen (n : Int32) : aI := fun K x => match x with
  | (pc, L, .ref a :: st, σ) => bif Nat.beq a 200 then K (pc + 1, L, .int n :: st, σ) else False
  | _ => False
def I_sld (N : Nat) (xs : Nat → Int32) : aI := fun K x => match x with
  | (pc, L, .int i :: .ref a :: st, σ) => bif Nat.beq a 200 then (inb i N = true ∧ K (pc + 1, L, .int (xs (ix i)) :: st, σ)) else False
  | _ => False
def I_switch (ts : List Nat) (d : Nat) : aI := fun K x => match x with
  | (_, L, .int v :: st, σ) => (∀ (k t : Nat), ts[k]? = some t → v = nI k → K (t, L, st, σ)) ∧ ((v.toInt < 0 ∨ ts.length ≤ v.toInt) → K (d, L, st, σ))
  | _ => False
def I_lret : aI := fun _ x => match x with
  | (_, _, [.int v], _) => v = 1
  | _ => False
theorem mono_slen (n : Int32) : mono (I_slen n) := by
  intro K K' x hK h
  revert h
  unfold I_slen
  split
  · exact mono_bif (hK _)
  · exact id
theorem mono_sld (N : Nat) (xs : Nat → Int32) : mono (I_sld N xs) := by
  intro K K' x hK h
  revert h
  unfold I_sld
  split
  · exact mono_bif fun h => ⟨h.1, hK _ h.2⟩
  · exact id
theorem mono_switch (ts : List Nat) (d : Nat) : mono (I_switch ts d) := by
  intro K K' x hK h
  revert h
  unfold I_switch
  split
  · exact fun h => ⟨fun k t h1 h2 => hK _ (h.1 k t h1 h2), fun h1 => hK _ (h.2 h1)⟩
  · exact id
/-- k instructions on, the table beginning at b -/
def wpB (b : Nat) (T : List aI) : Nat → (aS → Prop) → aS → Prop
  | 0, K, x => K x
  | n + 1, K, x => bif Nat.ble b x.1 then T.getD (x.1 - b) I_bot (wpB b T n K) x else False
section LAWI
variable {p : Program} {l : Launch} {e : Env} {R : Room} {s : State} {m : MethodId} {args : Array Value} {below : List Frame} {meth : Method} {c : Code} {Q : State → Prop} {cells slots : Nat}
variable {cc : ByteArray} {nL : Nat} {D : va_G} {cI cZ cA cL : ClassId} {ad sa : Nat → Nat} {A : Nat → Prop} {H0 : Heap} {Ts : List Cond} {own : String}
theorem wpB_WS {b : Nat} {T : List aI} (h : ruL (Ru p l e R s m args below meth c cells slots Q nL D cI cZ cA cL ad A H0) b T) : ∀ (n : Nat) (x : aS), wpB b T n (WS p l e R s m args below meth c cells slots Q nL D cI cZ cA cL ad A H0) x → WS p l e R s m args below meth c cells slots Q nL D cI cZ cA cL ad A H0 x := by
  intro n
  induction n with
  | zero => exact fun x h => h
  | succ n ih =>
    intro x hx
    obtain ⟨pc, L, st, σ⟩ := x
    revert hx
    simp only [wpB]
    cases hb : Nat.ble b pc with
    | false => exact fun h => h.elim
    | true =>
      intro hx
      have hle : b ≤ pc := Nat.le_of_ble_eq_true hb
      have hr := ruL_get (fun _ => ru_bot) T b (pc - b) h
      rw [show b + (pc - b) = pc by omega] at hr
      exact hr.2 L st σ (hr.1 _ _ _ ih hx)
theorem ru_slen {pc b L9 : Nat} {xs : Nat → Int32} {v : Int32} (hx : p.tables.exec = Jvm.exec) (hb : c.code = cc) (hX : va_X b L9 xs s H0) (hbl : b < H0.size) (hbA : ¬ A b) (had : ad 200 = b) (hv : nI L9 = v) (hdg : decode cc pc = .ok (.arraylength, 1)) : Ru p l e R s m args below meth c cells slots Q nL D cI cZ cA cL ad A H0 (I_slen v) pc := by
  refine ⟨mono_slen _, fun L st σ h => ?_⟩
  revert h
  unfold I_slen
  split
  · rename_i pc' L' a st' σ' heq
    cases heq
    cases hao : Nat.beq a 200 with
    | false => exact fun h => h.elim
    | true =>
      have := Nat.eq_of_beq_eq_true hao
      subst this
      subst had
      subst hv
      intro h H locs ls hl hP hS
      exact va_slen hx hb hX hbl hbA hS hdg (h H locs ls hl hP hS)
  · exact fun h => h.elim
theorem ru_sld {pc b L9 : Nat} {xs : Nat → Int32} (hx : p.tables.exec = Jvm.exec) (hb : c.code = cc) (hX : va_X b L9 xs s H0) (hbl : b < H0.size) (hbA : ¬ A b) (had : ad 200 = b) (hdg : decode cc pc = .ok (.iaload, 1)) : Ru p l e R s m args below meth c cells slots Q nL D cI cZ cA cL ad A H0 (I_sld L9 xs) pc := by
  refine ⟨mono_sld _ _, fun L st σ h => ?_⟩
  revert h
  unfold I_sld
  split
  · rename_i pc' L' i a st' σ' heq
    cases heq
    cases hao : Nat.beq a 200 with
    | false => exact fun h => h.elim
    | true =>
      have := Nat.eq_of_beq_eq_true hao
      subst this
      subst had
      intro h H locs ls hl hP hS
      exact va_sld hx hb hX hbl hbA hS (inb_in h.1) hdg (h.2 H locs ls hl hP hS)
  · exact fun h => h.elim
theorem ru_switch {pc len : Nat} {dflt : Int} {offs : Array Int} {ts : List Nat} {d : Nat} (hx : p.tables.exec = Jvm.exec) (hb : c.code = cc) (hdg : decode cc pc = .ok (.tableswitch dflt 0 ((ts.length : Int) - 1) offs, len)) (hd : (pc : Int) + dflt = (d : Int)) (ho : ∀ (k t : Nat), ts[k]? = some t → ∃ o : Int, offs[k]? = some o ∧ (pc : Int) + o = (t : Int)) (hn : ts.length < 1000) : Ru p l e R s m args below meth c cells slots Q nL D cI cZ cA cL ad A H0 (I_switch ts d) pc := by
  refine ⟨mono_switch _ _, fun L st σ h => ?_⟩
  revert h
  unfold I_switch
  split
  · rename_i pc' L' v st' σ' heq
    cases heq
    intro h H locs ls hl hP hS
    by_cases h1 : v.toInt < 0 ∨ ts.length ≤ v.toInt
    · exact lv_tableOut hx hb hdg (by omega) hd (h.2 h1 H locs ls hl hP hS)
    · have h2 : ¬ v.toInt < 0 := fun q => h1 (Or.inl q)
      have h3 : ¬ (ts.length : Int) ≤ v.toInt := fun q => h1 (Or.inr q)
      have hk : v.toInt.toNat < ts.length := by omega
      obtain ⟨o, ho1, ho2⟩ := ho v.toInt.toNat ts[v.toInt.toNat] (List.getElem?_eq_getElem hk)
      refine lv_tableIn hx hb hdg h2 (by omega) (off := o) (by rw [show (v.toInt - 0).toNat = v.toInt.toNat by omega]; exact ho1) ho2 (h.1 v.toInt.toNat _ (List.getElem?_eq_getElem hk) ?_ H locs ls hl hP hS)
      apply Int32.toInt_inj.mp
      rw [nI_toInt (by omega)]
      omega
  · exact fun h => h.elim
end LAWI
/-- the two answer alike and the coupling stays: a call through a helper; a call of both at once -/
def agW (CP : aM → Prop) (w m : aM → Option (Int32 × aM)) : Prop := ∀ σ, CP σ → ∃ k σ1 b σ2, w σ = some (k, σ1) ∧ m σ1 = some (b, σ2) ∧ σ2 6 0 = k ∧ (k = 0 → σ2 178 0 = b) ∧ CP σ2
def agD (CP : aM → Prop) (x m : aM → Option (Int32 × aM)) : Prop := ∀ σ, CP σ → ∃ r σ1 σ2, x σ = some (r, σ1) ∧ m σ1 = some (r, σ2) ∧ CP σ2
theorem lcmp_eq (a : Int64) : lg_cmp a a = 0 := by
  unfold lg_cmp
  rw [if_neg (by rw [gt_iff_lt, Int64.lt_iff_toInt_lt]; omega), if_pos rfl]
