section
/-! SLIM: the definitions alone (made by wip/whole/slim.py; for rounds over the pure part, not for the hand-in) -/
abbrev aM : Type := Nat → Nat → Int32
def mput (σ : aM) (k i : Nat) (v : Int32) : aM := fun a => if a = k then upd (σ a) i v else σ a
def ix (i : Int32) : Nat := i.toNatClampNeg
def inb (i : Int32) (n : Nat) : Bool := decide (0 ≤ i.toInt) && decide (i.toInt < n)
theorem inb_in {i : Int32} {n : Nat} (h : inb i n = true) : vp_in i n := by
  simp only [inb, Bool.and_eq_true, decide_eq_true_eq] at h
  exact vp_in_iff.mpr h
def kd (k : Nat) : Nat := if k < 7 then 0 else if k = 8 ∨ k = 30 then 2 else if k < 53 then 1 else if k < 58 then 3 else if k < 178 then 1 else if k = 178 then 4 else 9
def lnT : List Nat := [0, 0, 0, 0, 0, 0, 0, 30, 30, 10, 10, 20, 20, 20, 20, 20, 20, 20, 20, 20, 20, 20, 20, 20, 20, 20, 20, 10, 10, 30, 30, 120, 10, 10, 20, 20, 20, 200, 20, 20, 20, 20, 20, 20, 20, 20, 600, 20, 20, 30, 10, 10, 20, 30, 20, 20, 30, 20]
def ln (k : Nat) : Nat := if k < 58 then lnT.getD k 0 else if k < 88 then 4 else if k < 158 then 10 else if k < 178 then 30 else 1
def lf : Nat := 4000
def bnd (o : Option (Int32 × aM)) (f : Int32 → aM → Option (Int32 × aM)) : Option (Int32 × aM) := match o with
  | none => none
  | some (r, s) => f r s
def bnN {β : Type} (o : Option (Int32 × aM)) (f : Int32 → aM → Option β) : Option β := match o with
  | none => none
  | some (r, s) => f r s
def bnX (o : Option (Nat × Int32 × aM)) (f : aM → Option (Nat × Int32 × aM)) : Option (Nat × Int32 × aM) := match o with
  | none => none
  | some (e, _, s) => if e = 0 then f s else some (e, 0, s)
def l_X4_secondsAhead_4 (x1 : Int32) : Nat → Int32 → Int32 → aM → (Int32 → Int32 → aM → Option (Int32 × aM)) → Option (Int32 × aM)
  | 0, _, _, _, _ => none
  | n + 1, v2, v3, σ4, k => if x1 ≤ v3 then k v2 v3 σ4 else if inb v3 30 = true then if ¬ (σ4 8 (ix v3)) = 0 then l_X4_secondsAhead_4 x1 n v2 (v3 + 1) σ4 k else if inb v3 30 = true then l_X4_secondsAhead_4 x1 n (v2 + (σ4 7 (ix v3))) (v3 + 1) σ4 k else none else none
def f_X4_secondsAhead (p0 : Int32) (σ : aM) : Option (Int32 × aM) := l_X4_secondsAhead_4 p0 lf 0 0 σ (fun v9 v10 σ11 => some (v9, σ11))
def f_X4_lastSecondOf (p0 : Int32) (σ : aM) : Option (Int32 × aM) := bnd (f_X4_secondsAhead p0 σ) (fun r1 σ2 => if inb p0 30 = true then some ((r1 + (σ2 7 (ix p0))) - 1, σ2) else none)
def f_X4_total (σ : aM) : Option (Int32 × aM) := bnd (f_X4_secondsAhead (σ 1 3) σ) (fun r1 σ2 => some (r1, σ2))
def f_X4_append (p0 : Int32) (σ : aM) : Option (Int32 × aM) := if inb (σ 1 3) 30 = true then some (((σ 1 3) + 1) - 1, mput (mput σ 7 (ix (σ 1 3)) p0) 1 3 ((σ 1 3) + 1)) else none
def f_X0_append (p0 : Int32) (σ : aM) : Option (Int32 × aM) := if inb (σ 5 2) 20 = true then some (((σ 5 2) + 1) - 1, mput (mput σ 26 (ix (σ 5 2)) p0) 5 2 ((σ 5 2) + 1)) else none
def l_X0_countShortLogs_4 (x1 : Int32) : Nat → Int32 → Int32 → aM → (Int32 → Int32 → aM → Option (Int32 × aM)) → Option (Int32 × aM)
  | 0, _, _, _, _ => none
  | n + 1, v2, v3, σ4, k => if (σ4 5 2) ≤ v3 then k v2 v3 σ4 else if inb v3 20 = true then if inb x1 30 = true then if (σ4 (158 + ix v3) (ix x1)) = 0 then l_X0_countShortLogs_4 x1 n v2 (v3 + 1) σ4 k else l_X0_countShortLogs_4 x1 n (v2 + 1) (v3 + 1) σ4 k else none else none
def f_X0_countShortLogs (p0 : Int32) (σ : aM) : Option (Int32 × aM) := l_X0_countShortLogs_4 p0 lf 0 0 σ (fun v9 v10 σ11 => some (v9, σ11))
def f_X3_put (p0 : Int32) (p1 : Int32) (p2 : Int32) (σ : aM) : Option (Int32 × aM) := if inb p0 20 = true then if inb p0 20 = true then some (0, mput (mput σ 22 (ix p0) p1) 23 (ix p0) p2) else none else none
def f_X3_putHome (p0 : Int32) (σ : aM) : Option (Int32 × aM) := if inb p0 20 = true then if inb p0 20 = true then bnd (f_X3_put p0 (σ 18 (ix p0)) (σ 19 (ix p0)) σ) (fun r3 σ4 => some (0, σ4)) else none else none
def f_X3_isHome (p0 : Int32) (σ : aM) : Option (Int32 × aM) := if inb p0 20 = true then if inb p0 20 = true then if ¬ (σ 22 (ix p0)) = (σ 18 (ix p0)) then some (0, σ) else some (1, σ) else none else none
def f_X3_canGo (p0 : Int32) (p1 : Int32) (σ : aM) : Option (Int32 × aM) := bnd (f_X3_isHome p0 σ) (fun r1 σ2 => if r1 = 0 then some (0, σ2) else if inb p0 20 = true then if (σ2 18 (ix p0)) = p1 then some (0, σ2) else some (1, σ2) else none)
def f_X3_isFor (p0 : Int32) (p1 : Int32) (p2 : Int32) (σ : aM) : Option (Int32 × aM) := if inb p0 20 = true then if ¬ (σ 22 (ix p0)) = p1 then some (0, σ) else if inb p0 20 = true then if ¬ (σ 23 (ix p0)) = p2 then some (0, σ) else some (1, σ) else none else none
def f_X3_append (p0 : Int32) (p1 : Int32) (p2 : Int32) (p3 : Int32) (σ : aM) : Option (Int32 × aM) := if inb (σ 4 8) 20 = true then if inb (σ 4 8) 20 = true then if inb (σ 4 8) 20 = true then if inb (σ 4 8) 20 = true then bnd (f_X3_putHome (σ 4 8) (mput (mput (mput (mput (mput σ 18 (ix (σ 4 8)) p0) 19 (ix (σ 4 8)) p1) 20 (ix (σ 4 8)) p2) 21 (ix (σ 4 8)) p3) 4 8 ((σ 4 8) + 1))) (fun r5 σ6 => some (σ 4 8, σ6)) else none else none else none else none
def l_X3_lampsFor_9 (x1 : Int32) (x2 : Int32) (x3 : Int32) : Nat → Int32 → Int32 → Int32 → aM → (Int32 → Int32 → Int32 → aM → Option (Int32 × aM)) → Option (Int32 × aM)
  | 0, _, _, _, _, _ => none
  | n + 1, v4, v5, v6, σ7, k => if (σ7 4 8) ≤ v6 then k v4 v5 v6 σ7 else bnd (f_X3_isFor v6 x1 x2 σ7) (fun r9 σ10 => if r9 = 0 then l_X3_lampsFor_9 x1 x2 x3 n v4 v5 (v6 + 1) σ10 k else if inb v6 20 = true then if ¬ (σ10 20 (ix v6)) = x3 then l_X3_lampsFor_9 x1 x2 x3 n v4 (v5 ||| (1 <<< (v6 &&& 31))) (v6 + 1) σ10 k else l_X3_lampsFor_9 x1 x2 x3 n (v4 ||| (1 <<< (v6 &&& 31))) (v5 ||| (1 <<< (v6 &&& 31))) (v6 + 1) σ10 k else none)
def f_X3_lampsFor (p0 : Int32) (p1 : Int32) (p2 : Int32) (σ : aM) : Option (Int32 × aM) := l_X3_lampsFor_9 p0 p1 p2 lf 0 0 0 σ (fun v15 v16 v17 σ18 => if v15 = 0 then some (v16, σ18) else some (v15, σ18))
def l_X3_lay_3 (x1 : Int32) (a2 : Nat) : Nat → Int32 → aM → (Int32 → aM → Option (Int32 × aM)) → Option (Int32 × aM)
  | 0, _, _, _ => none
  | n + 1, v3, σ4, k => if 10 ≤ v3 then k v3 σ4 else if inb v3 10 = true then if inb v3 10 = true then bnd (f_X3_lampsFor x1 (σ4 9 (ix v3)) (σ4 10 (ix v3)) σ4) (fun r8 σ9 => if kd a2 = 1 then if inb v3 (ln a2) = true then l_X3_lay_3 x1 a2 n (v3 + 1) (mput σ9 a2 (ix v3) r8) k else none else none) else none else none
def f_X3_lay (p0 : Int32) (p2 : Nat) (σ : aM) : Option (Int32 × aM) := l_X3_lay_3 p0 p2 lf 0 σ (fun v13 σ14 => some (0, σ14))
def l_X3_levelOf_20 (x3 : Int32) (a4 : Nat) (a5 : Nat) : Nat → Int32 → Int32 → aM → (Int32 → Int32 → aM → Option (Int32 × aM)) → Option (Int32 × aM)
  | 0, _, _, _, _ => none
  | n + 1, v6, v7, σ8, k => if 10 ≤ v7 then k v6 v7 σ8 else if kd a4 = 1 then if inb v7 (ln a4) = true then if (((σ8 a4 (ix v7)) >>> (x3 &&& 31)) &&& 1) = 0 then l_X3_levelOf_20 x3 a4 a5 n v6 (v7 + 1) σ8 k else if kd a5 = 1 then if inb v7 (ln a5) = true then if (σ8 a5 (ix v7)) ≤ v6 then l_X3_levelOf_20 x3 a4 a5 n v6 (v7 + 1) σ8 k else if kd a5 = 1 then if inb v7 (ln a5) = true then l_X3_levelOf_20 x3 a4 a5 n (σ8 a5 (ix v7)) (v7 + 1) σ8 k else none else none else none else none else none else none
def f_X3_levelOf (p0 : Int32) (p1 : Nat) (p2 : Nat) (σ : aM) : Option (Int32 × aM) := if inb p0 20 = true then if (σ 24 (ix p0)) < 300 then l_X3_levelOf_20 p0 p1 p2 lf 0 0 σ (fun v18 v19 σ20 => some (v18, σ20)) else some (0, σ) else none
def l_X3_lightOf_6 (x1 : Int32) (x2 : Int32) (a3 : Nat) (a4 : Nat) : Nat → Int32 → Int32 → aM → (Int32 → Int32 → aM → Option (Int32 × aM)) → Option (Int32 × aM)
  | 0, _, _, _, _ => none
  | n + 1, v5, v6, σ7, k => if (σ7 4 8) ≤ v6 then k v5 v6 σ7 else bnd (f_X3_isFor v6 x1 x2 σ7) (fun r9 σ10 => if r9 = 0 then l_X3_lightOf_6 x1 x2 a3 a4 n v5 (v6 + 1) σ10 k else bnd (f_X3_levelOf v6 a3 a4 σ10) (fun r13 σ14 => if inb v6 20 = true then l_X3_lightOf_6 x1 x2 a3 a4 n (v5 + ((r13 * (σ14 21 (ix v6))) / 100)) (v6 + 1) σ14 k else none))
def f_X3_lightOf (p0 : Int32) (p1 : Int32) (p2 : Nat) (p3 : Nat) (σ : aM) : Option (Int32 × aM) := l_X3_lightOf_6 p0 p1 p2 p3 lf 0 0 σ (fun v17 v18 σ19 => if 100 ≤ v17 then some (100, σ19) else some (v17, σ19))
def l_X3_startBurning_2 : Nat → Int32 → aM → (Int32 → aM → Option (Int32 × aM)) → Option (Int32 × aM)
  | 0, _, _, _ => none
  | n + 1, v1, σ2, k => if (σ2 4 8) ≤ v1 then k v1 σ2 else if inb v1 20 = true then l_X3_startBurning_2 n (v1 + 1) (mput σ2 25 (ix v1) 0) k else none
def f_X3_startBurning (σ : aM) : Option (Int32 × aM) := l_X3_startBurning_2 lf 0 σ (fun v5 σ6 => some (0, σ6))
def l_X3_burn_3 (x1 : Int32) (a2 : Nat) (a3 : Nat) : Nat → Int32 → aM → (Int32 → aM → Option (Int32 × aM)) → Option (Int32 × aM)
  | 0, _, _, _ => none
  | n + 1, v4, σ5, k => if (σ5 4 8) ≤ v4 then k v4 σ5 else if inb v4 20 = true then if ¬ (σ5 22 (ix v4)) = x1 then l_X3_burn_3 x1 a2 a3 n (v4 + 1) σ5 k else bnd (f_X3_levelOf v4 a2 a3 σ5) (fun r9 σ10 => if r9 ≤ 0 then l_X3_burn_3 x1 a2 a3 n (v4 + 1) σ10 k else if inb v4 20 = true then if inb v4 20 = true then l_X3_burn_3 x1 a2 a3 n (v4 + 1) (mput σ10 25 (ix v4) ((σ10 25 (ix v4)) + 1)) k else none else none) else none
def f_X3_burn (p0 : Int32) (p1 : Nat) (p2 : Nat) (σ : aM) : Option (Int32 × aM) := l_X3_burn_3 p0 p1 p2 lf 0 σ (fun v15 σ16 => some (0, σ16))
def l_X3_addBurnt_2 : Nat → Int32 → aM → (Int32 → aM → Option (Int32 × aM)) → Option (Int32 × aM)
  | 0, _, _, _ => none
  | n + 1, v1, σ2, k => if (σ2 4 8) ≤ v1 then k v1 σ2 else if inb v1 20 = true then if inb v1 20 = true then if inb v1 20 = true then l_X3_addBurnt_2 n (v1 + 1) (mput σ2 24 (ix v1) ((σ2 24 (ix v1)) + (σ2 25 (ix v1)))) k else none else none else none
def f_X3_addBurnt (σ : aM) : Option (Int32 × aM) := l_X3_addBurnt_2 lf 0 σ (fun v7 σ8 => some (0, σ8))
def l_X1_append_2 : Nat → Int32 → aM → (Int32 → aM → Option (Int32 × aM)) → Option (Int32 × aM)
  | 0, _, _, _ => none
  | n + 1, v1, σ2, k => if 10 ≤ v1 then k v1 σ2 else if inb (σ2 3 4) 20 = true then if inb v1 10 = true then l_X1_append_2 n (v1 + 1) (mput σ2 (88 + ix (σ2 3 4)) (ix v1) ((-1))) k else none else none
def f_X1_append (σ : aM) : Option (Int32 × aM) := l_X1_append_2 lf 0 σ (fun v6 σ7 => some (((σ7 3 4) + 1) - 1, mput σ7 3 4 ((σ7 3 4) + 1)))
def f_X1_place (p0 : Int32) (p1 : Int32) (p2 : Int32) (p3 : Int32) (σ : aM) : Option (Int32 × aM) := if inb p0 20 = true then if inb p0 20 = true then if inb p0 20 = true then some (0, mput (mput (mput σ 11 (ix p0) p1) 12 (ix p0) p2) 13 (ix p0) p3) else none else none else none
def f_X1_comesAhead (p0 : Int32) (p1 : Int32) (σ : aM) : Option (Int32 × aM) := if inb p0 20 = true then if inb p1 20 = true then if (σ 11 (ix p0)) = (σ 11 (ix p1)) then if inb p0 20 = true then if inb p1 20 = true then if (σ 12 (ix p1)) ≤ (σ 12 (ix p0)) then some (0, σ) else some (1, σ) else none else none else if inb p0 20 = true then if inb p1 20 = true then if (σ 11 (ix p1)) ≤ (σ 11 (ix p0)) then some (0, σ) else some (1, σ) else none else none else none else none
def l_X1_sortCues_12 (x4 : Int32) : Nat → Int32 → aM → (Int32 → aM → Option (Int32 × aM)) → Option (Int32 × aM)
  | 0, _, _, _ => none
  | n + 1, v5, σ6, k => if v5 ≤ 0 then k v5 σ6 else if inb (v5 - 1) 20 = true then bnd (f_X1_comesAhead x4 (σ6 14 (ix (v5 - 1))) σ6) (fun r9 σ10 => if r9 = 0 then k v5 σ10 else if inb (v5 - 1) 20 = true then if inb v5 20 = true then l_X1_sortCues_12 x4 n (v5 + (-1)) (mput σ10 14 (ix v5) (σ10 14 (ix (v5 - 1)))) k else none else none) else none
def l_X1_sortCues_2 : Nat → Int32 → aM → (Int32 → aM → Option (Int32 × aM)) → Option (Int32 × aM)
  | 0, _, _, _ => none
  | n + 1, v1, σ2, k => if (σ2 3 4) ≤ v1 then k v1 σ2 else l_X1_sortCues_12 v1 lf v1 σ2 (fun v15 σ16 => if inb v15 20 = true then l_X1_sortCues_2 n (v1 + 1) (mput σ16 14 (ix v15) v1) k else none)
def f_X1_sortCues (σ : aM) : Option (Int32 × aM) := l_X1_sortCues_2 lf 0 σ (fun v18 σ19 => some (0, σ19))
def l_X1_setTimes_2 : Nat → Int32 → aM → (Int32 → aM → Option (Int32 × aM)) → Option (Int32 × aM)
  | 0, _, _, _ => none
  | n + 1, v1, σ2, k => if (σ2 3 4) ≤ v1 then k v1 σ2 else if inb v1 20 = true then if inb (σ2 11 (ix v1)) 30 = true then if (σ2 8 (ix (σ2 11 (ix v1)))) = 0 then bnd (f_X4_secondsAhead (σ2 11 (ix v1)) σ2) (fun r7 σ8 => if inb v1 20 = true then if inb v1 20 = true then l_X1_setTimes_2 n (v1 + 1) (mput σ8 15 (ix v1) (r7 + (σ8 12 (ix v1)))) k else none else none) else if inb v1 20 = true then l_X1_setTimes_2 n (v1 + 1) (mput σ2 15 (ix v1) ((-1))) k else none else none else none
def f_X1_setTimes (σ : aM) : Option (Int32 × aM) := l_X1_setTimes_2 lf 0 σ (fun v13 σ14 => some (0, σ14))
def l_X1_forget_2 (x1 : Int32) : Nat → Int32 → aM → (Int32 → aM → Option (Int32 × aM)) → Option (Int32 × aM)
  | 0, _, _, _ => none
  | n + 1, v2, σ3, k => if 10 ≤ v2 then k v2 σ3 else if inb x1 20 = true then if inb v2 10 = true then l_X1_forget_2 x1 n (v2 + 1) (mput σ3 (108 + ix x1) (ix v2) ((-1))) k else none else none
def f_X1_forget (p0 : Int32) (σ : aM) : Option (Int32 × aM) := l_X1_forget_2 p0 lf 0 σ (fun v7 σ8 => some (0, σ8))
def l_X1_fillIn_2 (x1 : Int32) (x2 : Int32) : Nat → Int32 → aM → (Int32 → aM → Option (Int32 × aM)) → Option (Int32 × aM)
  | 0, _, _, _ => none
  | n + 1, v3, σ4, k => if 10 ≤ v3 then k v3 σ4 else if inb x1 20 = true then if inb v3 10 = true then if ¬ (σ4 (108 + ix x1) (ix v3)) = ((-1)) then l_X1_fillIn_2 x1 x2 n (v3 + 1) σ4 k else if inb x1 20 = true then if inb x2 20 = true then if inb v3 10 = true then if inb v3 10 = true then l_X1_fillIn_2 x1 x2 n (v3 + 1) (mput σ4 (108 + ix x1) (ix v3) (σ4 (88 + ix x2) (ix v3))) k else none else none else none else none else none else none
def f_X1_fillIn (p0 : Int32) (p1 : Int32) (σ : aM) : Option (Int32 × aM) := l_X1_fillIn_2 p0 p1 lf 0 σ (fun v13 σ14 => some (0, σ14))
def l_X1_fold_9 : Nat → Int32 → Int32 → aM → (Int32 → Int32 → aM → Option (Int32 × aM)) → Option (Int32 × aM)
  | 0, _, _, _, _ => none
  | n + 1, v1, v2, σ3, k => if v2 < 0 then k v1 v2 σ3 else if inb v2 20 = true then bnd (f_X1_forget (σ3 14 (ix v2)) σ3) (fun r6 σ7 => if inb (σ3 14 (ix v2)) 20 = true then if (σ7 15 (ix (σ3 14 (ix v2)))) = ((-1)) then if inb (σ3 14 (ix v2)) 20 = true then if v1 = ((-1)) then l_X1_fold_9 n v1 (v2 + (-1)) (mput σ7 16 (ix (σ3 14 (ix v2))) v1) k else bnd (f_X1_fillIn v1 (σ3 14 (ix v2)) (mput σ7 16 (ix (σ3 14 (ix v2))) v1)) (fun r13 σ14 => l_X1_fold_9 n v1 (v2 + (-1)) σ14 k) else none else if inb (σ3 14 (ix v2)) 20 = true then if (σ3 14 (ix v2)) = ((-1)) then l_X1_fold_9 n (σ3 14 (ix v2)) (v2 + (-1)) (mput σ7 16 (ix (σ3 14 (ix v2))) (σ3 14 (ix v2))) k else bnd (f_X1_fillIn (σ3 14 (ix v2)) (σ3 14 (ix v2)) (mput σ7 16 (ix (σ3 14 (ix v2))) (σ3 14 (ix v2)))) (fun r18 σ19 => l_X1_fold_9 n (σ3 14 (ix v2)) (v2 + (-1)) σ19 k) else none else none) else none
def f_X1_fold (σ : aM) : Option (Int32 × aM) := l_X1_fold_9 lf ((-1)) ((σ 3 4) - 1) σ (fun v21 v22 σ23 => some (0, σ23))
def l_X1_insertPlay_5 (x1 : Int32) : Nat → Int32 → aM → (Int32 → aM → Option (Int32 × aM)) → Option (Int32 × aM)
  | 0, _, _, _ => none
  | n + 1, v2, σ3, k => if v2 ≤ 0 then k v2 σ3 else if inb (v2 - 1) 20 = true then if inb (σ3 17 (ix (v2 - 1))) 20 = true then if inb x1 20 = true then if (σ3 15 (ix (σ3 17 (ix (v2 - 1))))) ≤ (σ3 15 (ix x1)) then k v2 σ3 else if inb (v2 - 1) 20 = true then if inb v2 20 = true then l_X1_insertPlay_5 x1 n (v2 + (-1)) (mput σ3 17 (ix v2) (σ3 17 (ix (v2 - 1)))) k else none else none else none else none else none
def f_X1_insertPlay (p0 : Int32) (σ : aM) : Option (Int32 × aM) := l_X1_insertPlay_5 p0 lf (σ 3 10) σ (fun v11 σ12 => if inb v11 20 = true then some (0, mput (mput σ12 17 (ix v11) p0) 3 10 ((σ12 3 10) + 1)) else none)
def l_X1_sortPlays_7 : Nat → Int32 → aM → (Int32 → aM → Option (Int32 × aM)) → Option (Int32 × aM)
  | 0, _, _, _ => none
  | n + 1, v1, σ2, k => if (σ2 3 4) ≤ v1 then k v1 σ2 else if inb v1 20 = true then if inb (σ2 14 (ix v1)) 20 = true then if (σ2 15 (ix (σ2 14 (ix v1)))) = ((-1)) then l_X1_sortPlays_7 n (v1 + 1) σ2 k else if inb v1 20 = true then bnd (f_X1_insertPlay (σ2 14 (ix v1)) σ2) (fun r8 σ9 => l_X1_sortPlays_7 n (v1 + 1) σ9 k) else none else none else none
def f_X1_sortPlays (σ : aM) : Option (Int32 × aM) := l_X1_sortPlays_7 lf 0 (mput σ 3 10 0) (fun v11 σ12 => some (0, σ12))
def f_X1_arrange (σ : aM) : Option (Int32 × aM) := bnd (f_X1_sortCues σ) (fun r1 σ2 => bnd (f_X1_setTimes σ2) (fun r4 σ5 => bnd (f_X1_fold σ5) (fun r7 σ8 => bnd (f_X1_sortPlays σ8) (fun r10 σ11 => some (0, σ11)))))
def f_X1_levelBehind (p0 : Int32) (p1 : Int32) (p2 : Int32) (p3 : Int32) (σ : aM) : Option (Int32 × aM) := if p1 ≤ 0 then some (p3, σ) else if p0 < p1 then if ¬ p1 = 0 then some (p2 + (((p3 - p2) * p0) / p1), σ) else none else some (p3, σ)
def l_X1_levelByFades_14 (x1 : Int32) (x2 : Int32) : Nat → Int32 → Int32 → Int32 → Int32 → Int32 → aM → (Int32 → Int32 → Int32 → Int32 → Int32 → aM → Option (Int32 × aM)) → Option (Int32 × aM)
  | 0, _, _, _, _, _, _, _ => none
  | n + 1, v3, v4, v5, v6, v7, σ8, k => if (σ8 3 10) ≤ v7 then k v3 v4 v5 v6 v7 σ8 else if inb v7 20 = true then if inb (σ8 17 (ix v7)) 20 = true then if x2 < (σ8 15 (ix (σ8 17 (ix v7)))) then k v3 v4 v5 v6 v7 σ8 else if inb v7 20 = true then if inb (σ8 17 (ix v7)) 20 = true then if inb x1 10 = true then if (σ8 (108 + ix (σ8 17 (ix v7))) (ix x1)) = ((-1)) then l_X1_levelByFades_14 x1 x2 n v3 v4 v5 v6 (v7 + 1) σ8 k else if inb (σ8 17 (ix v7)) 20 = true then bnd (f_X1_levelBehind ((σ8 15 (ix (σ8 17 (ix v7)))) - v5) v6 v3 v4 σ8) (fun r18 σ19 => if inb (σ8 17 (ix v7)) 20 = true then if inb x1 10 = true then if inb (σ8 17 (ix v7)) 20 = true then if inb (σ8 17 (ix v7)) 20 = true then l_X1_levelByFades_14 x1 x2 n r18 (σ19 (108 + ix (σ8 17 (ix v7))) (ix x1)) (σ19 15 (ix (σ8 17 (ix v7)))) (σ19 13 (ix (σ8 17 (ix v7)))) (v7 + 1) σ19 k else none else none else none else none) else none else none else none else none else none else none
def f_X1_levelByFades (p0 : Int32) (p1 : Int32) (σ : aM) : Option (Int32 × aM) := l_X1_levelByFades_14 p0 p1 lf 0 0 0 0 0 σ (fun v25 v26 v27 v28 v29 σ30 => bnd (f_X1_levelBehind (p1 - v27) v28 v25 v26 σ30) (fun r31 σ32 => some (r31, σ32)))
def l_X1_levelByTicks_38 (x15 : Int32) (x16 : Int32) (x17 : Int32) : Nat → Int32 → Int32 → Int32 → Int32 → Int32 → Int32 → aM → (Int32 → Int32 → Int32 → Int32 → Int32 → Int32 → aM → Option (Int32 × aM)) → Option (Int32 × aM)
  | 0, _, _, _, _, _, _, _, _ => none
  | n + 1, v18, v19, v20, v21, v22, v23, σ24, k => if (σ24 3 10) ≤ v23 then k v18 v19 v20 v21 v22 v23 σ24 else if inb v23 20 = true then if inb (σ24 17 (ix v23)) 20 = true then if ¬ (σ24 15 (ix (σ24 17 (ix v23)))) = x17 then k v18 v19 v20 v21 v22 v23 σ24 else if inb v23 20 = true then if inb (σ24 17 (ix v23)) 20 = true then if inb x15 10 = true then if (σ24 (108 + ix (σ24 17 (ix v23))) (ix x15)) = ((-1)) then l_X1_levelByTicks_38 x15 x16 x17 n v18 v19 v20 v21 v22 (v23 + 1) σ24 k else if inb (σ24 17 (ix v23)) 20 = true then if inb x15 10 = true then if inb (σ24 17 (ix v23)) 20 = true then bnd (f_X1_levelBehind 0 (σ24 13 (ix (σ24 17 (ix v23)))) v18 (σ24 (108 + ix (σ24 17 (ix v23))) (ix x15)) σ24) (fun r36 σ37 => l_X1_levelByTicks_38 x15 x16 x17 n r36 v18 (σ24 (108 + ix (σ24 17 (ix v23))) (ix x15)) 0 (σ24 13 (ix (σ24 17 (ix v23)))) (v23 + 1) σ37 k) else none else none else none else none else none else none else none else none
def l_X1_levelByTicks_20 (x1 : Int32) (x2 : Int32) : Nat → Int32 → Int32 → Int32 → Int32 → Int32 → Int32 → Int32 → aM → (Int32 → Int32 → Int32 → Int32 → Int32 → Int32 → Int32 → aM → Option (Int32 × aM)) → Option (Int32 × aM)
  | 0, _, _, _, _, _, _, _, _, _ => none
  | n + 1, v3, v4, v5, v6, v7, v8, v9, σ10, k => if x2 < v9 then k v3 v4 v5 v6 v7 v8 v9 σ10 else bnd (f_X1_levelBehind v6 v7 v4 v5 σ10) (fun r12 σ13 => l_X1_levelByTicks_38 x1 x2 v9 lf r12 v4 v5 v6 v7 v8 σ13 (fun v39 v40 v41 v42 v43 v44 σ45 => l_X1_levelByTicks_20 x1 x2 n v39 v40 v41 (v42 + 1) v43 v44 (v9 + 1) σ45 k))
def f_X1_levelByTicks (p0 : Int32) (p1 : Int32) (σ : aM) : Option (Int32 × aM) := l_X1_levelByTicks_20 p0 p1 lf 0 0 0 0 0 0 0 σ (fun v46 v47 v48 v49 v50 v51 v52 σ53 => some (v46, σ53))
def l_X1_fillLevels_2 (x1 : Int32) (a2 : Nat) : Nat → Int32 → aM → (Int32 → aM → Option (Int32 × aM)) → Option (Int32 × aM)
  | 0, _, _, _ => none
  | n + 1, v3, σ4, k => if 10 ≤ v3 then k v3 σ4 else bnd (f_X1_levelByFades v3 x1 σ4) (fun r6 σ7 => if kd a2 = 1 then if inb v3 (ln a2) = true then l_X1_fillLevels_2 x1 a2 n (v3 + 1) (mput σ7 a2 (ix v3) r6) k else none else none)
def f_X1_fillLevels (p0 : Int32) (p1 : Nat) (σ : aM) : Option (Int32 × aM) := l_X1_fillLevels_2 p0 p1 lf 0 σ (fun v11 σ12 => some (0, σ12))
def f_X5_readEndOf (p0 : Int32) (σ : aM) : Option (Int32 × aM) := if inb p0 30 = true then if ¬ (σ 8 (ix p0)) = 0 then some (0, σ) else bnd (f_X4_lastSecondOf p0 σ) (fun r3 σ4 => if inb p0 30 = true then bnd (f_X1_fillLevels r3 (128 + ix p0) σ4) (fun r7 σ8 => some (0, σ8)) else none) else none
def l_X5_readEnds_2 : Nat → Int32 → aM → (Int32 → aM → Option (Int32 × aM)) → Option (Int32 × aM)
  | 0, _, _, _ => none
  | n + 1, v1, σ2, k => if (σ2 1 3) ≤ v1 then k v1 σ2 else bnd (f_X5_readEndOf v1 σ2) (fun r4 σ5 => l_X5_readEnds_2 n (v1 + 1) σ5 k)
def f_X5_readEnds (σ : aM) : Option (Int32 × aM) := l_X5_readEnds_2 lf 0 σ (fun v7 σ8 => some (0, σ8))
def l_X5_shortAreas_19 (x3 : Int32) (x4 : Int32) : Nat → Int32 → Int32 → aM → (Int32 → Int32 → aM → Option (Int32 × aM)) → Option (Int32 × aM)
  | 0, _, _, _, _ => none
  | n + 1, v5, v6, σ7, k => if 4 ≤ v6 then k v5 v6 σ7 else if inb x4 30 = true then bnd (f_X3_lightOf x3 v6 28 (128 + ix x4) σ7) (fun r10 σ11 => if inb x4 30 = true then if inb v6 4 = true then if (σ11 (58 + ix x4) (ix v6)) ≤ r10 then l_X5_shortAreas_19 x3 x4 n v5 (v6 + 1) σ11 k else l_X5_shortAreas_19 x3 x4 n (v5 ||| (1 <<< (v6 &&& 31))) (v6 + 1) σ11 k else none else none) else none
def f_X5_shortAreas (p0 : Int32) (p1 : Int32) (σ : aM) : Option (Int32 × aM) := if inb p1 30 = true then if (σ 8 (ix p1)) = 0 then l_X5_shortAreas_19 p0 p1 lf 0 0 σ (fun v16 v17 σ18 => some (v16, σ18)) else some (0, σ) else none
def l_X5_countShort_20 (x4 : Int32) : Nat → Int32 → Int32 → aM → (Int32 → Int32 → aM → Option (Int32 × aM)) → Option (Int32 × aM)
  | 0, _, _, _, _ => none
  | n + 1, v5, v6, σ7, k => if (σ7 1 3) ≤ v6 then k v5 v6 σ7 else bnd (f_X5_shortAreas x4 v6 σ7) (fun r9 σ10 => if r9 = 0 then l_X5_countShort_20 x4 n v5 (v6 + 1) σ10 k else l_X5_countShort_20 x4 n (v5 + 1) (v6 + 1) σ10 k)
def f_X5_countShort (p0 : Int32) (σ : aM) : Option (Int32 × aM) := bnd (f_X3_lay p0 28 σ) (fun r1 σ2 => l_X5_countShort_20 p0 lf 0 0 σ2 (fun v13 v14 σ15 => some (v13, σ15)))
def f_X5_countShortWith (p0 : Int32) (p1 : Int32) (p2 : Int32) (σ : aM) : Option (Int32 × aM) := bnd (f_X3_put p0 p1 p2 σ) (fun r1 σ2 => bnd (f_X5_countShort p1 σ2) (fun r4 σ5 => bnd (f_X3_putHome p0 σ5) (fun r7 σ8 => some (r4, σ8))))
def l_X5_writeLog_11 (x4 : Int32) (x5 : Int32) : Nat → Int32 → aM → (Int32 → aM → Option (Int32 × aM)) → Option (Int32 × aM)
  | 0, _, _, _ => none
  | n + 1, v6, σ7, k => if (σ7 1 3) ≤ v6 then k v6 σ7 else if inb x5 20 = true then bnd (f_X5_shortAreas x4 v6 σ7) (fun r10 σ11 => if inb v6 30 = true then l_X5_writeLog_11 x4 x5 n (v6 + 1) (mput σ11 (158 + ix x5) (ix v6) r10) k else none) else none
def f_X5_writeLog (p0 : Int32) (σ : aM) : Option (Int32 × aM) := bnd (f_X0_append p0 σ) (fun r1 σ2 => l_X5_writeLog_11 p0 r1 lf 0 σ2 (fun v14 σ15 => some (0, σ15)))
def l_X5_wearOut_17 (x7 : Int32) (x8 : Int32) : Nat → Int32 → aM → (Int32 → aM → Option (Int32 × aM)) → Option (Int32 × aM)
  | 0, _, _, _ => none
  | n + 1, v9, σ10, k => if x8 ≤ v9 then k v9 σ10 else bnd (f_X1_fillLevels v9 27 σ10) (fun r12 σ13 => bnd (f_X3_burn x7 28 27 σ13) (fun r15 σ16 => l_X5_wearOut_17 x7 x8 n (v9 + 1) σ16 k))
def f_X5_wearOut (p0 : Int32) (σ : aM) : Option (Int32 × aM) := bnd (f_X4_total σ) (fun r1 σ2 => bnd (f_X3_startBurning σ2) (fun r4 σ5 => l_X5_wearOut_17 p0 r1 lf 0 σ5 (fun v18 σ19 => bnd (f_X3_addBurnt σ19) (fun r20 σ21 => some (0, σ21)))))
def f_X6_thrown (σ : aM) : Option (Int32 × aM) := some (σ 6 0, σ)
def f_X6_isFine (p0 : Int32) (σ : aM) : Option (Int32 × aM) := if ¬ p0 = 0 then some (0, mput σ 6 0 p0) else some (1, mput σ 6 0 p0)
def f_X6_isIn (p0 : Int32) (p1 : Int32) (p2 : Int32) (σ : aM) : Option (Int32 × aM) := if p0 < p1 then some (0, σ) else if p2 < p0 then some (0, σ) else some (1, σ)
def f_X6_isLine (p0 : Int32) (σ : aM) : Option (Int32 × aM) := bnd (f_X6_isIn p0 0 ((σ 6 4) - 1) σ) (fun r1 σ2 => if r1 = 0 ∨ r1 = 1 then some (r1, σ2) else none)
def f_X6_isArea (p0 : Int32) (σ : aM) : Option (Int32 × aM) := bnd (f_X6_isIn p0 0 3 σ) (fun r1 σ2 => if r1 = 0 ∨ r1 = 1 then some (r1, σ2) else none)
def f_X6_isChannel (p0 : Int32) (σ : aM) : Option (Int32 × aM) := bnd (f_X6_isIn p0 0 9 σ) (fun r1 σ2 => if r1 = 0 ∨ r1 = 1 then some (r1, σ2) else none)
def f_X6_isStage (p0 : Int32) (σ : aM) : Option (Int32 × aM) := bnd (f_X6_isIn p0 0 3 σ) (fun r1 σ2 => if r1 = 0 ∨ r1 = 1 then some (r1, σ2) else none)
def f_X6_isTime (p0 : Int32) (σ : aM) : Option (Int32 × aM) := bnd (f_X6_isIn p0 0 2000 σ) (fun r1 σ2 => if r1 = 0 ∨ r1 = 1 then some (r1, σ2) else none)
def f_X6_addLine (p0 : Int32) (σ : aM) : Option (Int32 × aM) := bnd (f_X6_isIn p0 1 30 σ) (fun r1 σ2 => if ¬ r1 = 0 then if ¬ (σ2 6 4) = 30 then bnd (f_X6_isFine 0 σ2) (fun r6 σ7 => if ¬ r6 = 0 then if inb (σ7 6 4) 30 = true then some (((σ7 6 4) + 1) - 1, mput (mput σ7 29 (ix (σ7 6 4)) p0) 6 4 ((σ7 6 4) + 1)) else none else some (0, σ7)) else bnd (f_X6_isFine 2 σ2) (fun r11 σ12 => if ¬ r11 = 0 then if inb (σ12 6 4) 30 = true then some (((σ12 6 4) + 1) - 1, mput (mput σ12 29 (ix (σ12 6 4)) p0) 6 4 ((σ12 6 4) + 1)) else none else some (0, σ12)) else bnd (f_X6_isFine 1 σ2) (fun r16 σ17 => if ¬ r16 = 0 then if inb (σ17 6 4) 30 = true then some (((σ17 6 4) + 1) - 1, mput (mput σ17 29 (ix (σ17 6 4)) p0) 6 4 ((σ17 6 4) + 1)) else none else some (0, σ17)))
def f_X6_need (p0 : Int32) (p1 : Int32) (p2 : Int32) (σ : aM) : Option (Int32 × aM) := bnd (f_X6_isLine p0 σ) (fun r1 σ2 => if r1 = 0 then bnd (f_X6_isFine 1 σ2) (fun r5 σ6 => if ¬ r5 = 0 then if inb ((4 * p0) + p1) 120 = true then if inb ((4 * p0) + p1) 120 = true then some (σ6 31 (ix ((4 * p0) + p1)), mput σ6 31 (ix ((4 * p0) + p1)) p2) else none else none else some (0, σ6)) else bnd (f_X6_isArea p1 σ2) (fun r11 σ12 => if r11 = 0 then bnd (f_X6_isFine 1 σ12) (fun r15 σ16 => if ¬ r15 = 0 then if inb ((4 * p0) + p1) 120 = true then if inb ((4 * p0) + p1) 120 = true then some (σ16 31 (ix ((4 * p0) + p1)), mput σ16 31 (ix ((4 * p0) + p1)) p2) else none else none else some (0, σ16)) else bnd (f_X6_isIn p2 0 100 σ12) (fun r21 σ22 => if ¬ r21 = 0 then bnd (f_X6_isFine 0 σ22) (fun r25 σ26 => if ¬ r25 = 0 then if inb ((4 * p0) + p1) 120 = true then if inb ((4 * p0) + p1) 120 = true then some (σ26 31 (ix ((4 * p0) + p1)), mput σ26 31 (ix ((4 * p0) + p1)) p2) else none else none else some (0, σ26)) else bnd (f_X6_isFine 2 σ22) (fun r31 σ32 => if ¬ r31 = 0 then if inb ((4 * p0) + p1) 120 = true then if inb ((4 * p0) + p1) 120 = true then some (σ32 31 (ix ((4 * p0) + p1)), mput σ32 31 (ix ((4 * p0) + p1)) p2) else none else none else some (0, σ32)))))
def l_X6_ahead_4 (x1 : Int32) : Nat → Int32 → Int32 → aM → (Int32 → Int32 → aM → Option (Int32 × aM)) → Option (Int32 × aM)
  | 0, _, _, _, _ => none
  | n + 1, v2, v3, σ4, k => if x1 ≤ v3 then k v2 v3 σ4 else if inb v3 30 = true then if (σ4 30 (ix v3)) = 0 then if inb v3 30 = true then l_X6_ahead_4 x1 n (v2 + (σ4 29 (ix v3))) (v3 + 1) σ4 k else none else l_X6_ahead_4 x1 n (v2 + 0) (v3 + 1) σ4 k else none
def f_X6_ahead (p0 : Int32) (σ : aM) : Option (Int32 × aM) := l_X6_ahead_4 p0 lf 0 0 σ (fun v9 v10 σ11 => some (v9, σ11))
def f_X6_cut (p0 : Int32) (p1 : Int32) (σ : aM) : Option (Int32 × aM) := bnd (f_X6_isLine p0 σ) (fun r1 σ2 => if r1 = 0 then bnd (f_X6_isFine 1 σ2) (fun r5 σ6 => if ¬ r5 = 0 then if inb p0 30 = true then if p1 = 0 ∨ p1 = 1 then bnd (f_X6_ahead (σ6 6 4) (mput σ6 30 (ix p0) p1)) (fun r11 σ12 => some (r11, σ12)) else none else none else some (0, σ6)) else bnd (f_X6_isFine 0 σ2) (fun r14 σ15 => if ¬ r14 = 0 then if inb p0 30 = true then if p1 = 0 ∨ p1 = 1 then bnd (f_X6_ahead (σ15 6 4) (mput σ15 30 (ix p0) p1)) (fun r20 σ21 => some (r20, σ21)) else none else none else some (0, σ15)))
def f_X6_lines (σ : aM) : Option (Int32 × aM) := some (σ 6 4, mput σ 6 0 0)
def f_X6_startOf (p0 : Int32) (σ : aM) : Option (Int32 × aM) := bnd (f_X6_isLine p0 σ) (fun r1 σ2 => if r1 = 0 then bnd (f_X6_isFine 1 σ2) (fun r5 σ6 => if ¬ r5 = 0 then if inb p0 30 = true then if (σ6 30 (ix p0)) = 0 then bnd (f_X6_ahead p0 σ6) (fun r11 σ12 => some (r11, σ12)) else some ((-1), σ6) else none else some (0, σ6)) else bnd (f_X6_isFine 0 σ2) (fun r14 σ15 => if ¬ r14 = 0 then if inb p0 30 = true then if (σ15 30 (ix p0)) = 0 then bnd (f_X6_ahead p0 σ15) (fun r20 σ21 => some (r20, σ21)) else some ((-1), σ15) else none else some (0, σ15)))
def f_X6_length (σ : aM) : Option (Int32 × aM) := bnd (f_X6_ahead (σ 6 4) (mput σ 6 0 0)) (fun r1 σ2 => some (r1, σ2))
def f_X6_setChannel (p0 : Int32) (p1 : Int32) (p2 : Int32) (σ : aM) : Option (Int32 × aM) := bnd (f_X6_isChannel p0 σ) (fun r1 σ2 => if r1 = 0 then bnd (f_X6_isFine 1 σ2) (fun r5 σ6 => if ¬ r5 = 0 then if inb p0 10 = true then if inb p0 10 = true then if inb p0 10 = true then if inb p0 10 = true then some ((10 * (σ6 32 (ix p0))) + (σ6 33 (ix p0)), mput (mput σ6 32 (ix p0) p1) 33 (ix p0) p2) else none else none else none else none else some (0, σ6)) else bnd (f_X6_isArea p1 σ2) (fun r13 σ14 => if r13 = 0 then bnd (f_X6_isFine 1 σ14) (fun r17 σ18 => if ¬ r17 = 0 then if inb p0 10 = true then if inb p0 10 = true then if inb p0 10 = true then if inb p0 10 = true then some ((10 * (σ18 32 (ix p0))) + (σ18 33 (ix p0)), mput (mput σ18 32 (ix p0) p1) 33 (ix p0) p2) else none else none else none else none else some (0, σ18)) else bnd (f_X6_isIn p2 0 2 σ14) (fun r25 σ26 => if ¬ r25 = 0 then bnd (f_X6_isFine 0 σ26) (fun r29 σ30 => if ¬ r29 = 0 then if inb p0 10 = true then if inb p0 10 = true then if inb p0 10 = true then if inb p0 10 = true then some ((10 * (σ30 32 (ix p0))) + (σ30 33 (ix p0)), mput (mput σ30 32 (ix p0) p1) 33 (ix p0) p2) else none else none else none else none else some (0, σ30)) else bnd (f_X6_isFine 2 σ26) (fun r37 σ38 => if ¬ r37 = 0 then if inb p0 10 = true then if inb p0 10 = true then if inb p0 10 = true then if inb p0 10 = true then some ((10 * (σ38 32 (ix p0))) + (σ38 33 (ix p0)), mput (mput σ38 32 (ix p0) p1) 33 (ix p0) p2) else none else none else none else none else some (0, σ38)))))
def f_X6_isFade (p0 : Int32) (p1 : Int32) (σ : aM) : Option (Int32 × aM) := bnd (f_X6_isIn p0 0 60 σ) (fun r1 σ2 => if r1 = 0 then some (0, σ2) else bnd (f_X6_isIn p1 0 60 σ2) (fun r5 σ6 => if r5 = 0 then some (0, σ6) else some (1, σ6)))
def f_X6_isCue (p0 : Int32) (σ : aM) : Option (Int32 × aM) := bnd (f_X6_isIn p0 0 ((σ 6 11) - 1) σ) (fun r1 σ2 => if r1 = 0 ∨ r1 = 1 then some (r1, σ2) else none)
def l_X6_addCue_80 (x17 : Int32) (x18 : Int32) (x19 : Int32) : Nat → Int32 → aM → (Int32 → aM → Option (Int32 × aM)) → Option (Int32 × aM)
  | 0, _, _, _ => none
  | n + 1, v20, σ21, k => if 10 ≤ v20 then k v20 σ21 else if inb ((10 * (σ21 6 11)) + v20) 200 = true then l_X6_addCue_80 x17 x18 x19 n (v20 + 1) (mput σ21 37 (ix ((10 * (σ21 6 11)) + v20)) ((-1))) k else none
def f_X6_addCue (p0 : Int32) (p1 : Int32) (p2 : Int32) (σ : aM) : Option (Int32 × aM) := bnd (f_X6_isLine p0 σ) (fun r1 σ2 => if ¬ r1 = 0 then bnd (f_X6_isFade p1 p2 σ2) (fun r5 σ6 => if ¬ r5 = 0 then if ¬ (σ6 6 11) = 20 then bnd (f_X6_isFine 0 σ6) (fun r10 σ11 => if ¬ r10 = 0 then if inb (σ11 6 11) 20 = true then if inb (σ11 6 11) 20 = true then if inb (σ11 6 11) 20 = true then l_X6_addCue_80 p0 p1 p2 lf 0 (mput (mput (mput σ11 34 (ix (σ11 6 11)) p0) 35 (ix (σ11 6 11)) p1) 36 (ix (σ11 6 11)) p2) (fun v24 σ25 => some (((σ25 6 11) + 1) - 1, mput σ25 6 11 ((σ25 6 11) + 1))) else none else none else none else some (0, σ11)) else bnd (f_X6_isFine 3 σ6) (fun r26 σ27 => if ¬ r26 = 0 then if inb (σ27 6 11) 20 = true then if inb (σ27 6 11) 20 = true then if inb (σ27 6 11) 20 = true then l_X6_addCue_80 p0 p1 p2 lf 0 (mput (mput (mput σ27 34 (ix (σ27 6 11)) p0) 35 (ix (σ27 6 11)) p1) 36 (ix (σ27 6 11)) p2) (fun v33 σ34 => some (((σ34 6 11) + 1) - 1, mput σ34 6 11 ((σ34 6 11) + 1))) else none else none else none else some (0, σ27)) else bnd (f_X6_isFine 2 σ6) (fun r35 σ36 => if ¬ r35 = 0 then if inb (σ36 6 11) 20 = true then if inb (σ36 6 11) 20 = true then if inb (σ36 6 11) 20 = true then l_X6_addCue_80 p0 p1 p2 lf 0 (mput (mput (mput σ36 34 (ix (σ36 6 11)) p0) 35 (ix (σ36 6 11)) p1) 36 (ix (σ36 6 11)) p2) (fun v42 σ43 => some (((σ43 6 11) + 1) - 1, mput σ43 6 11 ((σ43 6 11) + 1))) else none else none else none else some (0, σ36))) else bnd (f_X6_isFine 1 σ2) (fun r44 σ45 => if ¬ r44 = 0 then if inb (σ45 6 11) 20 = true then if inb (σ45 6 11) 20 = true then if inb (σ45 6 11) 20 = true then l_X6_addCue_80 p0 p1 p2 lf 0 (mput (mput (mput σ45 34 (ix (σ45 6 11)) p0) 35 (ix (σ45 6 11)) p1) 36 (ix (σ45 6 11)) p2) (fun v51 σ52 => some (((σ52 6 11) + 1) - 1, mput σ52 6 11 ((σ52 6 11) + 1))) else none else none else none else some (0, σ45)))
def f_X6_move (p0 : Int32) (p1 : Int32) (p2 : Int32) (p3 : Int32) (σ : aM) : Option (Int32 × aM) := bnd (f_X6_isCue p0 σ) (fun r1 σ2 => if r1 = 0 then bnd (f_X6_isFine 1 σ2) (fun r5 σ6 => if ¬ r5 = 0 then if inb p0 20 = true then if inb p0 20 = true then if inb p0 20 = true then if inb p0 20 = true then some (σ6 34 (ix p0), mput (mput (mput σ6 34 (ix p0) p1) 35 (ix p0) p2) 36 (ix p0) p3) else none else none else none else none else some (0, σ6)) else bnd (f_X6_isLine p1 σ2) (fun r13 σ14 => if r13 = 0 then bnd (f_X6_isFine 1 σ14) (fun r17 σ18 => if ¬ r17 = 0 then if inb p0 20 = true then if inb p0 20 = true then if inb p0 20 = true then if inb p0 20 = true then some (σ18 34 (ix p0), mput (mput (mput σ18 34 (ix p0) p1) 35 (ix p0) p2) 36 (ix p0) p3) else none else none else none else none else some (0, σ18)) else bnd (f_X6_isFade p2 p3 σ14) (fun r25 σ26 => if ¬ r25 = 0 then bnd (f_X6_isFine 0 σ26) (fun r29 σ30 => if ¬ r29 = 0 then if inb p0 20 = true then if inb p0 20 = true then if inb p0 20 = true then if inb p0 20 = true then some (σ30 34 (ix p0), mput (mput (mput σ30 34 (ix p0) p1) 35 (ix p0) p2) 36 (ix p0) p3) else none else none else none else none else some (0, σ30)) else bnd (f_X6_isFine 2 σ26) (fun r37 σ38 => if ¬ r37 = 0 then if inb p0 20 = true then if inb p0 20 = true then if inb p0 20 = true then if inb p0 20 = true then some (σ38 34 (ix p0), mput (mput (mput σ38 34 (ix p0) p1) 35 (ix p0) p2) 36 (ix p0) p3) else none else none else none else none else some (0, σ38)))))
def f_X6_change (p0 : Int32) (p1 : Int32) (p2 : Int32) (σ : aM) : Option (Int32 × aM) := bnd (f_X6_isCue p0 σ) (fun r1 σ2 => if r1 = 0 then bnd (f_X6_isFine 1 σ2) (fun r5 σ6 => if ¬ r5 = 0 then if inb ((10 * p0) + p1) 200 = true then if inb ((10 * p0) + p1) 200 = true then some (σ6 37 (ix ((10 * p0) + p1)), mput σ6 37 (ix ((10 * p0) + p1)) p2) else none else none else some (0, σ6)) else bnd (f_X6_isChannel p1 σ2) (fun r11 σ12 => if r11 = 0 then bnd (f_X6_isFine 1 σ12) (fun r15 σ16 => if ¬ r15 = 0 then if inb ((10 * p0) + p1) 200 = true then if inb ((10 * p0) + p1) 200 = true then some (σ16 37 (ix ((10 * p0) + p1)), mput σ16 37 (ix ((10 * p0) + p1)) p2) else none else none else some (0, σ16)) else bnd (f_X6_isIn p2 ((-1)) 100 σ12) (fun r21 σ22 => if ¬ r21 = 0 then bnd (f_X6_isFine 0 σ22) (fun r25 σ26 => if ¬ r25 = 0 then if inb ((10 * p0) + p1) 200 = true then if inb ((10 * p0) + p1) 200 = true then some (σ26 37 (ix ((10 * p0) + p1)), mput σ26 37 (ix ((10 * p0) + p1)) p2) else none else none else some (0, σ26)) else bnd (f_X6_isFine 2 σ22) (fun r31 σ32 => if ¬ r31 = 0 then if inb ((10 * p0) + p1) 200 = true then if inb ((10 * p0) + p1) 200 = true then some (σ32 37 (ix ((10 * p0) + p1)), mput σ32 37 (ix ((10 * p0) + p1)) p2) else none else none else some (0, σ32)))))
def f_X6_cues (σ : aM) : Option (Int32 × aM) := some (σ 6 11, mput σ 6 0 0)
def f_X6_isPlayed (p0 : Int32) (σ : aM) : Option (Int32 × aM) := if inb p0 20 = true then if inb (σ 34 (ix p0)) 30 = true then if ¬ (σ 30 (ix (σ 34 (ix p0)))) = 0 then some (0, σ) else some (1, σ) else none else none
def f_X6_when (p0 : Int32) (σ : aM) : Option (Int32 × aM) := if inb p0 20 = true then if inb (σ 34 (ix p0)) 30 = true then if inb p0 20 = true then some ((σ 49 (ix (σ 34 (ix p0)))) + (σ 35 (ix p0)), σ) else none else none else none
def f_X6_isAhead (p0 : Int32) (p1 : Int32) (σ : aM) : Option (Int32 × aM) := if inb p0 20 = true then if inb p1 20 = true then if (σ 34 (ix p0)) = (σ 34 (ix p1)) then if inb p0 20 = true then if inb p1 20 = true then if (σ 35 (ix p0)) < (σ 35 (ix p1)) then some (1, σ) else if inb p0 20 = true then if inb p1 20 = true then if ¬ (σ 35 (ix p0)) = (σ 35 (ix p1)) then some (0, σ) else if p1 ≤ p0 then some (0, σ) else some (1, σ) else none else none else none else none else if inb p0 20 = true then if inb p1 20 = true then if (σ 34 (ix p1)) ≤ (σ 34 (ix p0)) then some (0, σ) else some (1, σ) else none else none else none else none
def l_X6_orders_14 (x4 : Int32) : Nat → Int32 → Int32 → aM → (Int32 → Int32 → aM → Option (Int32 × aM)) → Option (Int32 × aM)
  | 0, _, _, _, _ => none
  | n + 1, v5, v6, σ7, k => if (σ7 6 11) ≤ v6 then k v5 v6 σ7 else if v6 = x4 then l_X6_orders_14 x4 n (v5 + 0) (v6 + 1) σ7 k else bnd (f_X6_isAhead v6 x4 σ7) (fun r10 σ11 => if r10 = 0 then l_X6_orders_14 x4 n (v5 + 0) (v6 + 1) σ11 k else l_X6_orders_14 x4 n (v5 + 1) (v6 + 1) σ11 k)
def l_X6_orders_2 : Nat → Int32 → aM → (Int32 → aM → Option (Int32 × aM)) → Option (Int32 × aM)
  | 0, _, _, _ => none
  | n + 1, v1, σ2, k => if (σ2 6 11) ≤ v1 then k v1 σ2 else l_X6_orders_14 v1 lf 0 0 σ2 (fun v14 v15 σ16 => if inb v14 20 = true then l_X6_orders_2 n (v1 + 1) (mput σ16 47 (ix v14) v1) k else none)
def f_X6_orders (σ : aM) : Option (Int32 × aM) := l_X6_orders_2 lf 0 σ (fun v18 σ19 => some (0, σ19))
def l_X6_plays_6 : Nat → Int32 → aM → (Int32 → aM → Option (Int32 × aM)) → Option (Int32 × aM)
  | 0, _, _, _ => none
  | n + 1, v4, σ5, k => if (σ5 6 4) ≤ v4 then k v4 σ5 else if ¬ v4 = 0 then if inb (v4 - 1) 30 = true then if inb (v4 - 1) 30 = true then if (σ5 30 (ix (v4 - 1))) = 0 then if inb (v4 - 1) 30 = true then if inb v4 30 = true then l_X6_plays_6 n (v4 + 1) (mput σ5 49 (ix v4) ((σ5 49 (ix (v4 - 1))) + (σ5 29 (ix (v4 - 1))))) k else none else none else if inb v4 30 = true then l_X6_plays_6 n (v4 + 1) (mput σ5 49 (ix v4) ((σ5 49 (ix (v4 - 1))) + 0)) k else none else none else none else if inb v4 30 = true then l_X6_plays_6 n (v4 + 1) (mput σ5 49 (ix v4) 0) k else none
def l_X6_plays_99 (x25 : Int32) : Nat → Int32 → aM → (Int32 → aM → Option (Int32 × aM)) → Option (Int32 × aM)
  | 0, _, _, _ => none
  | n + 1, v26, σ27, k => if v26 ≤ 0 then k v26 σ27 else if inb (v26 - 1) 20 = true then if inb (σ27 48 (ix (v26 - 1))) 20 = true then bnd (f_X6_when (σ27 47 (ix (σ27 48 (ix (v26 - 1))))) σ27) (fun r31 σ32 => if inb x25 20 = true then bnd (f_X6_when (σ32 47 (ix x25)) σ32) (fun r35 σ36 => if r31 ≤ r35 then k v26 σ36 else if inb (v26 - 1) 20 = true then if inb v26 20 = true then l_X6_plays_99 x25 n (v26 + (-1)) (mput σ36 48 (ix v26) (σ36 48 (ix (v26 - 1)))) k else none else none) else none) else none else none
def l_X6_plays_73 : Nat → Int32 → aM → (Int32 → aM → Option (Int32 × aM)) → Option (Int32 × aM)
  | 0, _, _, _ => none
  | n + 1, v17, σ18, k => if (σ18 6 11) ≤ v17 then k v17 σ18 else if inb v17 20 = true then bnd (f_X6_isPlayed (σ18 47 (ix v17)) σ18) (fun r21 σ22 => if r21 = 0 then l_X6_plays_73 n (v17 + 1) σ22 k else l_X6_plays_99 v17 lf (σ22 6 25) σ22 (fun v41 σ42 => if inb v41 20 = true then l_X6_plays_73 n (v17 + 1) (mput (mput σ42 48 (ix v41) v17) 6 25 ((σ42 6 25) + 1)) k else none)) else none
def f_X6_plays (σ : aM) : Option (Int32 × aM) := bnd (f_X6_orders σ) (fun r1 σ2 => l_X6_plays_6 lf 0 σ2 (fun v15 σ16 => l_X6_plays_73 lf 0 (mput σ16 6 25 0) (fun v44 σ45 => some (0, σ45))))
def l_X6_placeOf_2 (x1 : Int32) : Nat → Int32 → aM → (Int32 → aM → Option (Int32 × aM)) → Option (Int32 × aM)
  | 0, _, _, _ => none
  | n + 1, v2, σ3, k => if inb v2 20 = true then if (σ3 47 (ix v2)) = x1 then k v2 σ3 else l_X6_placeOf_2 x1 n (v2 + 1) σ3 k else none
def f_X6_placeOf (p0 : Int32) (σ : aM) : Option (Int32 × aM) := l_X6_placeOf_2 p0 lf 0 σ (fun v6 σ7 => some (v6, σ7))
def f_X6_cueAt (p0 : Int32) (σ : aM) : Option (Int32 × aM) := bnd (f_X6_isIn p0 0 ((σ 6 11) - 1) σ) (fun r1 σ2 => if r1 = 0 then bnd (f_X6_isFine 1 σ2) (fun r5 σ6 => if ¬ r5 = 0 then bnd (f_X6_orders σ6) (fun r9 σ10 => if inb p0 20 = true then some (σ10 47 (ix p0), σ10) else none) else some (0, σ6)) else bnd (f_X6_isFine 0 σ2) (fun r13 σ14 => if ¬ r13 = 0 then bnd (f_X6_orders σ14) (fun r17 σ18 => if inb p0 20 = true then some (σ18 47 (ix p0), σ18) else none) else some (0, σ14)))
def f_X6_timeOf (p0 : Int32) (σ : aM) : Option (Int32 × aM) := bnd (f_X6_isCue p0 σ) (fun r1 σ2 => if r1 = 0 then bnd (f_X6_isFine 1 σ2) (fun r5 σ6 => if ¬ r5 = 0 then bnd (f_X6_isPlayed p0 σ6) (fun r9 σ10 => if r9 = 0 then some ((-1), σ10) else if inb p0 20 = true then bnd (f_X6_ahead (σ10 34 (ix p0)) σ10) (fun r14 σ15 => if inb p0 20 = true then some (r14 + (σ15 35 (ix p0)), σ15) else none) else none) else some (0, σ6)) else bnd (f_X6_isFine 0 σ2) (fun r18 σ19 => if ¬ r18 = 0 then bnd (f_X6_isPlayed p0 σ19) (fun r22 σ23 => if r22 = 0 then some ((-1), σ23) else if inb p0 20 = true then bnd (f_X6_ahead (σ23 34 (ix p0)) σ23) (fun r27 σ28 => if inb p0 20 = true then some (r27 + (σ28 35 (ix p0)), σ28) else none) else none) else some (0, σ19)))
def l_X6_foldedInto_32 (x15 : Int32) : Nat → Int32 → aM → (Int32 → aM → Option (Int32 × aM)) → Option (Int32 × aM)
  | 0, _, _, _ => none
  | n + 1, v16, σ17, k => if (σ17 6 11) ≤ v16 then k v16 σ17 else if inb v16 20 = true then bnd (f_X6_isPlayed (σ17 47 (ix v16)) σ17) (fun r20 σ21 => if ¬ r20 = 0 then k v16 σ21 else l_X6_foldedInto_32 x15 n (v16 + 1) σ21 k) else none
def f_X6_foldedInto (p0 : Int32) (σ : aM) : Option (Int32 × aM) := bnd (f_X6_isCue p0 σ) (fun r1 σ2 => if r1 = 0 then bnd (f_X6_isFine 1 σ2) (fun r5 σ6 => if ¬ r5 = 0 then bnd (f_X6_orders σ6) (fun r9 σ10 => bnd (f_X6_placeOf p0 σ10) (fun r12 σ13 => l_X6_foldedInto_32 p0 lf r12 σ13 (fun v24 σ25 => if (σ25 6 11) ≤ v24 then some ((-1), σ25) else if inb v24 20 = true then some (σ25 47 (ix v24), σ25) else none))) else some (0, σ6)) else bnd (f_X6_isFine 0 σ2) (fun r28 σ29 => if ¬ r28 = 0 then bnd (f_X6_orders σ29) (fun r32 σ33 => bnd (f_X6_placeOf p0 σ33) (fun r35 σ36 => l_X6_foldedInto_32 p0 lf r35 σ36 (fun v38 σ39 => if (σ39 6 11) ≤ v38 then some ((-1), σ39) else if inb v38 20 = true then some (σ39 47 (ix v38), σ39) else none))) else some (0, σ29)))
def l_X6_changesAt_22 (x3 : Int32) (x4 : Int32) : Nat → Int32 → Int32 → aM → (Int32 → Int32 → aM → Option (Int32 × aM)) → Option (Int32 × aM)
  | 0, _, _, _, _ => none
  | n + 1, v5, v6, σ7, k => if v6 < 0 then k v5 v6 σ7 else if inb v6 20 = true then bnd (f_X6_isPlayed (σ7 47 (ix v6)) σ7) (fun r10 σ11 => if ¬ r10 = 0 then k v5 v6 σ11 else if ¬ v5 = ((-1)) then k v5 v6 σ11 else if inb v6 20 = true then if inb ((10 * (σ11 47 (ix v6))) + x4) 200 = true then l_X6_changesAt_22 x3 x4 n (σ11 37 (ix ((10 * (σ11 47 (ix v6))) + x4))) (v6 + (-1)) σ11 k else none else none) else none
def f_X6_changesAt (p0 : Int32) (p1 : Int32) (σ : aM) : Option (Int32 × aM) := if inb p0 20 = true then if inb ((10 * (σ 47 (ix p0))) + p1) 200 = true then l_X6_changesAt_22 p0 p1 lf (σ 37 (ix ((10 * (σ 47 (ix p0))) + p1))) (p0 - 1) σ (fun v17 v18 σ19 => some (v17, σ19)) else none else none
def f_X6_changes (p0 : Int32) (p1 : Int32) (σ : aM) : Option (Int32 × aM) := bnd (f_X6_isCue p0 σ) (fun r1 σ2 => if r1 = 0 then bnd (f_X6_isFine 1 σ2) (fun r5 σ6 => if ¬ r5 = 0 then bnd (f_X6_orders σ6) (fun r9 σ10 => bnd (f_X6_isPlayed p0 σ10) (fun r12 σ13 => if r12 = 0 then some ((-1), σ13) else bnd (f_X6_placeOf p0 σ13) (fun r16 σ17 => bnd (f_X6_changesAt r16 p1 σ17) (fun r19 σ20 => some (r19, σ20))))) else some (0, σ6)) else bnd (f_X6_isChannel p1 σ2) (fun r22 σ23 => if r22 = 0 then bnd (f_X6_isFine 1 σ23) (fun r26 σ27 => if ¬ r26 = 0 then bnd (f_X6_orders σ27) (fun r30 σ31 => bnd (f_X6_isPlayed p0 σ31) (fun r33 σ34 => if r33 = 0 then some ((-1), σ34) else bnd (f_X6_placeOf p0 σ34) (fun r37 σ38 => bnd (f_X6_changesAt r37 p1 σ38) (fun r40 σ41 => some (r40, σ41))))) else some (0, σ27)) else bnd (f_X6_isFine 0 σ23) (fun r43 σ44 => if ¬ r43 = 0 then bnd (f_X6_orders σ44) (fun r47 σ48 => bnd (f_X6_isPlayed p0 σ48) (fun r50 σ51 => if r50 = 0 then some ((-1), σ51) else bnd (f_X6_placeOf p0 σ51) (fun r54 σ55 => bnd (f_X6_changesAt r54 p1 σ55) (fun r57 σ58 => some (r57, σ58))))) else some (0, σ44))))
def f_X6_behind (p0 : Int32) (p1 : Int32) (p2 : Int32) (p3 : Int32) (σ : aM) : Option (Int32 × aM) := if p2 < p3 then if ¬ p3 = 0 then some (p0 + (((p1 - p0) * p2) / p3), σ) else none else some (p1, σ)
def l_X6_level_14 (x1 : Int32) (x2 : Int32) : Nat → Int32 → Int32 → Int32 → Int32 → Int32 → aM → (Int32 → Int32 → Int32 → Int32 → Int32 → aM → Option (Int32 × aM)) → Option (Int32 × aM)
  | 0, _, _, _, _, _, _, _ => none
  | n + 1, v3, v4, v5, v6, v7, σ8, k => if (σ8 6 25) ≤ v7 then k v3 v4 v5 v6 v7 σ8 else if inb v7 20 = true then if inb (σ8 48 (ix v7)) 20 = true then bnd (f_X6_when (σ8 47 (ix (σ8 48 (ix v7)))) σ8) (fun r12 σ13 => if x2 < r12 then l_X6_level_14 x1 x2 n v3 v4 v5 v6 (v7 + 1) σ13 k else if inb v7 20 = true then bnd (f_X6_changesAt (σ13 48 (ix v7)) x1 σ13) (fun r17 σ18 => if r17 = ((-1)) then l_X6_level_14 x1 x2 n v3 v4 v5 v6 (v7 + 1) σ18 k else bnd (f_X6_behind v3 v4 (r12 - v5) v6 σ18) (fun r21 σ22 => if inb (σ8 47 (ix (σ8 48 (ix v7)))) 20 = true then l_X6_level_14 x1 x2 n r21 r17 r12 (σ22 36 (ix (σ8 47 (ix (σ8 48 (ix v7)))))) (v7 + 1) σ22 k else none)) else none) else none else none
def f_X6_level (p0 : Int32) (p1 : Int32) (σ : aM) : Option (Int32 × aM) := l_X6_level_14 p0 p1 lf 0 0 0 0 0 σ (fun v25 v26 v27 v28 v29 σ30 => bnd (f_X6_behind v25 v26 (p1 - v27) v28 σ30) (fun r31 σ32 => some (r31, σ32)))
def f_X6_levelNow (p0 : Int32) (p1 : Int32) (σ : aM) : Option (Int32 × aM) := bnd (f_X6_isChannel p0 σ) (fun r1 σ2 => if ¬ r1 = 0 then bnd (f_X6_isTime p1 σ2) (fun r5 σ6 => if ¬ r5 = 0 then bnd (f_X6_isFine 0 σ6) (fun r9 σ10 => if ¬ r9 = 0 then bnd (f_X6_plays σ10) (fun r13 σ14 => bnd (f_X6_level p0 p1 σ14) (fun r16 σ17 => some (r16, σ17))) else some (0, σ10)) else bnd (f_X6_isFine 2 σ6) (fun r19 σ20 => if ¬ r19 = 0 then bnd (f_X6_plays σ20) (fun r23 σ24 => bnd (f_X6_level p0 p1 σ24) (fun r26 σ27 => some (r26, σ27))) else some (0, σ20))) else bnd (f_X6_isFine 1 σ2) (fun r29 σ30 => if ¬ r29 = 0 then bnd (f_X6_plays σ30) (fun r33 σ34 => bnd (f_X6_level p0 p1 σ34) (fun r36 σ37 => some (r36, σ37))) else some (0, σ30)))
def f_X6_levelAt (p0 : Int32) (p1 : Int32) (σ : aM) : Option (Int32 × aM) := bnd (f_X6_levelNow p0 p1 σ) (fun r1 σ2 => some (r1, σ2))
def f_X6_levelBySeconds (p0 : Int32) (p1 : Int32) (σ : aM) : Option (Int32 × aM) := bnd (f_X6_levelNow p0 p1 σ) (fun r1 σ2 => some (r1, σ2))
def f_X6_isLamp (p0 : Int32) (σ : aM) : Option (Int32 × aM) := bnd (f_X6_isIn p0 0 ((σ 6 19) - 1) σ) (fun r1 σ2 => if r1 = 0 ∨ r1 = 1 then some (r1, σ2) else none)
def f_X6_addLamp (p0 : Int32) (p1 : Int32) (p2 : Int32) (p3 : Int32) (σ : aM) : Option (Int32 × aM) := bnd (f_X6_isStage p0 σ) (fun r1 σ2 => if r1 = 0 then bnd (f_X6_isIn p2 0 2 σ2) (fun r5 σ6 => if r5 = 0 then bnd (f_X6_isFine 1 σ6) (fun r9 σ10 => if ¬ r9 = 0 then if inb (σ10 6 19) 20 = true then if inb (σ10 6 19) 20 = true then if inb (σ10 6 19) 20 = true then if inb (σ10 6 19) 20 = true then if inb (σ10 6 19) 20 = true then if inb (σ10 6 19) 20 = true then some (((σ10 6 19) + 1) - 1, mput (mput (mput (mput (mput (mput (mput σ10 38 (ix (σ10 6 19)) p0) 39 (ix (σ10 6 19)) p1) 40 (ix (σ10 6 19)) p0) 41 (ix (σ10 6 19)) p1) 42 (ix (σ10 6 19)) p2) 43 (ix (σ10 6 19)) p3) 6 19 ((σ10 6 19) + 1)) else none else none else none else none else none else none else some (0, σ10)) else bnd (f_X6_isIn p3 1 100 σ6) (fun r19 σ20 => if r19 = 0 then bnd (f_X6_isFine 1 σ20) (fun r23 σ24 => if ¬ r23 = 0 then if inb (σ24 6 19) 20 = true then if inb (σ24 6 19) 20 = true then if inb (σ24 6 19) 20 = true then if inb (σ24 6 19) 20 = true then if inb (σ24 6 19) 20 = true then if inb (σ24 6 19) 20 = true then some (((σ24 6 19) + 1) - 1, mput (mput (mput (mput (mput (mput (mput σ24 38 (ix (σ24 6 19)) p0) 39 (ix (σ24 6 19)) p1) 40 (ix (σ24 6 19)) p0) 41 (ix (σ24 6 19)) p1) 42 (ix (σ24 6 19)) p2) 43 (ix (σ24 6 19)) p3) 6 19 ((σ24 6 19) + 1)) else none else none else none else none else none else none else some (0, σ24)) else bnd (f_X6_isFine 1 σ20) (fun r33 σ34 => if ¬ r33 = 0 then if inb (σ34 6 19) 20 = true then if inb (σ34 6 19) 20 = true then if inb (σ34 6 19) 20 = true then if inb (σ34 6 19) 20 = true then if inb (σ34 6 19) 20 = true then if inb (σ34 6 19) 20 = true then some (((σ34 6 19) + 1) - 1, mput (mput (mput (mput (mput (mput (mput σ34 38 (ix (σ34 6 19)) p0) 39 (ix (σ34 6 19)) p1) 40 (ix (σ34 6 19)) p0) 41 (ix (σ34 6 19)) p1) 42 (ix (σ34 6 19)) p2) 43 (ix (σ34 6 19)) p3) 6 19 ((σ34 6 19) + 1)) else none else none else none else none else none else none else some (0, σ34)))) else bnd (f_X6_isArea p1 σ2) (fun r43 σ44 => if r43 = 0 then bnd (f_X6_isIn p2 0 2 σ44) (fun r47 σ48 => if r47 = 0 then bnd (f_X6_isFine 1 σ48) (fun r51 σ52 => if ¬ r51 = 0 then if inb (σ52 6 19) 20 = true then if inb (σ52 6 19) 20 = true then if inb (σ52 6 19) 20 = true then if inb (σ52 6 19) 20 = true then if inb (σ52 6 19) 20 = true then if inb (σ52 6 19) 20 = true then some (((σ52 6 19) + 1) - 1, mput (mput (mput (mput (mput (mput (mput σ52 38 (ix (σ52 6 19)) p0) 39 (ix (σ52 6 19)) p1) 40 (ix (σ52 6 19)) p0) 41 (ix (σ52 6 19)) p1) 42 (ix (σ52 6 19)) p2) 43 (ix (σ52 6 19)) p3) 6 19 ((σ52 6 19) + 1)) else none else none else none else none else none else none else some (0, σ52)) else bnd (f_X6_isIn p3 1 100 σ48) (fun r61 σ62 => if r61 = 0 then bnd (f_X6_isFine 1 σ62) (fun r65 σ66 => if ¬ r65 = 0 then if inb (σ66 6 19) 20 = true then if inb (σ66 6 19) 20 = true then if inb (σ66 6 19) 20 = true then if inb (σ66 6 19) 20 = true then if inb (σ66 6 19) 20 = true then if inb (σ66 6 19) 20 = true then some (((σ66 6 19) + 1) - 1, mput (mput (mput (mput (mput (mput (mput σ66 38 (ix (σ66 6 19)) p0) 39 (ix (σ66 6 19)) p1) 40 (ix (σ66 6 19)) p0) 41 (ix (σ66 6 19)) p1) 42 (ix (σ66 6 19)) p2) 43 (ix (σ66 6 19)) p3) 6 19 ((σ66 6 19) + 1)) else none else none else none else none else none else none else some (0, σ66)) else bnd (f_X6_isFine 1 σ62) (fun r75 σ76 => if ¬ r75 = 0 then if inb (σ76 6 19) 20 = true then if inb (σ76 6 19) 20 = true then if inb (σ76 6 19) 20 = true then if inb (σ76 6 19) 20 = true then if inb (σ76 6 19) 20 = true then if inb (σ76 6 19) 20 = true then some (((σ76 6 19) + 1) - 1, mput (mput (mput (mput (mput (mput (mput σ76 38 (ix (σ76 6 19)) p0) 39 (ix (σ76 6 19)) p1) 40 (ix (σ76 6 19)) p0) 41 (ix (σ76 6 19)) p1) 42 (ix (σ76 6 19)) p2) 43 (ix (σ76 6 19)) p3) 6 19 ((σ76 6 19) + 1)) else none else none else none else none else none else none else some (0, σ76)))) else bnd (f_X6_isIn p2 0 2 σ44) (fun r85 σ86 => if r85 = 0 then bnd (f_X6_isFine 2 σ86) (fun r89 σ90 => if ¬ r89 = 0 then if inb (σ90 6 19) 20 = true then if inb (σ90 6 19) 20 = true then if inb (σ90 6 19) 20 = true then if inb (σ90 6 19) 20 = true then if inb (σ90 6 19) 20 = true then if inb (σ90 6 19) 20 = true then some (((σ90 6 19) + 1) - 1, mput (mput (mput (mput (mput (mput (mput σ90 38 (ix (σ90 6 19)) p0) 39 (ix (σ90 6 19)) p1) 40 (ix (σ90 6 19)) p0) 41 (ix (σ90 6 19)) p1) 42 (ix (σ90 6 19)) p2) 43 (ix (σ90 6 19)) p3) 6 19 ((σ90 6 19) + 1)) else none else none else none else none else none else none else some (0, σ90)) else bnd (f_X6_isIn p3 1 100 σ86) (fun r99 σ100 => if r99 = 0 then bnd (f_X6_isFine 2 σ100) (fun r103 σ104 => if ¬ r103 = 0 then if inb (σ104 6 19) 20 = true then if inb (σ104 6 19) 20 = true then if inb (σ104 6 19) 20 = true then if inb (σ104 6 19) 20 = true then if inb (σ104 6 19) 20 = true then if inb (σ104 6 19) 20 = true then some (((σ104 6 19) + 1) - 1, mput (mput (mput (mput (mput (mput (mput σ104 38 (ix (σ104 6 19)) p0) 39 (ix (σ104 6 19)) p1) 40 (ix (σ104 6 19)) p0) 41 (ix (σ104 6 19)) p1) 42 (ix (σ104 6 19)) p2) 43 (ix (σ104 6 19)) p3) 6 19 ((σ104 6 19) + 1)) else none else none else none else none else none else none else some (0, σ104)) else if ¬ (σ100 6 19) = 20 then bnd (f_X6_isFine 0 σ100) (fun r114 σ115 => if ¬ r114 = 0 then if inb (σ115 6 19) 20 = true then if inb (σ115 6 19) 20 = true then if inb (σ115 6 19) 20 = true then if inb (σ115 6 19) 20 = true then if inb (σ115 6 19) 20 = true then if inb (σ115 6 19) 20 = true then some (((σ115 6 19) + 1) - 1, mput (mput (mput (mput (mput (mput (mput σ115 38 (ix (σ115 6 19)) p0) 39 (ix (σ115 6 19)) p1) 40 (ix (σ115 6 19)) p0) 41 (ix (σ115 6 19)) p1) 42 (ix (σ115 6 19)) p2) 43 (ix (σ115 6 19)) p3) 6 19 ((σ115 6 19) + 1)) else none else none else none else none else none else none else some (0, σ115)) else bnd (f_X6_isFine 3 σ100) (fun r124 σ125 => if ¬ r124 = 0 then if inb (σ125 6 19) 20 = true then if inb (σ125 6 19) 20 = true then if inb (σ125 6 19) 20 = true then if inb (σ125 6 19) 20 = true then if inb (σ125 6 19) 20 = true then if inb (σ125 6 19) 20 = true then some (((σ125 6 19) + 1) - 1, mput (mput (mput (mput (mput (mput (mput σ125 38 (ix (σ125 6 19)) p0) 39 (ix (σ125 6 19)) p1) 40 (ix (σ125 6 19)) p0) 41 (ix (σ125 6 19)) p1) 42 (ix (σ125 6 19)) p2) 43 (ix (σ125 6 19)) p3) 6 19 ((σ125 6 19) + 1)) else none else none else none else none else none else none else some (0, σ125))))))
def f_X6_isHome (p0 : Int32) (σ : aM) : Option (Int32 × aM) := if inb p0 20 = true then if inb p0 20 = true then if ¬ (σ 40 (ix p0)) = (σ 38 (ix p0)) then some (0, σ) else some (1, σ) else none else none
def f_X6_borrow (p0 : Int32) (p1 : Int32) (p2 : Int32) (σ : aM) : Option (Int32 × aM) := bnd (f_X6_isLamp p0 σ) (fun r1 σ2 => if r1 = 0 then bnd (f_X6_isFine 1 σ2) (fun r5 σ6 => if ¬ r5 = 0 then if inb p0 20 = true then if inb p0 20 = true then if inb p0 20 = true then some (σ6 38 (ix p0), mput (mput σ6 40 (ix p0) p1) 41 (ix p0) p2) else none else none else none else some (0, σ6)) else bnd (f_X6_isStage p1 σ2) (fun r12 σ13 => if r12 = 0 then bnd (f_X6_isFine 1 σ13) (fun r16 σ17 => if ¬ r16 = 0 then if inb p0 20 = true then if inb p0 20 = true then if inb p0 20 = true then some (σ17 38 (ix p0), mput (mput σ17 40 (ix p0) p1) 41 (ix p0) p2) else none else none else none else some (0, σ17)) else bnd (f_X6_isArea p2 σ13) (fun r23 σ24 => if r23 = 0 then bnd (f_X6_isFine 1 σ24) (fun r27 σ28 => if ¬ r27 = 0 then if inb p0 20 = true then if inb p0 20 = true then if inb p0 20 = true then some (σ28 38 (ix p0), mput (mput σ28 40 (ix p0) p1) 41 (ix p0) p2) else none else none else none else some (0, σ28)) else bnd (f_X6_isHome p0 σ24) (fun r34 σ35 => if r34 = 0 then bnd (f_X6_isFine 2 σ35) (fun r38 σ39 => if ¬ r38 = 0 then if inb p0 20 = true then if inb p0 20 = true then if inb p0 20 = true then some (σ39 38 (ix p0), mput (mput σ39 40 (ix p0) p1) 41 (ix p0) p2) else none else none else none else some (0, σ39)) else if inb p0 20 = true then if ¬ p1 = (σ35 38 (ix p0)) then bnd (f_X6_isFine 0 σ35) (fun r47 σ48 => if ¬ r47 = 0 then if inb p0 20 = true then if inb p0 20 = true then if inb p0 20 = true then some (σ48 38 (ix p0), mput (mput σ48 40 (ix p0) p1) 41 (ix p0) p2) else none else none else none else some (0, σ48)) else bnd (f_X6_isFine 2 σ35) (fun r54 σ55 => if ¬ r54 = 0 then if inb p0 20 = true then if inb p0 20 = true then if inb p0 20 = true then some (σ55 38 (ix p0), mput (mput σ55 40 (ix p0) p1) 41 (ix p0) p2) else none else none else none else some (0, σ55)) else none))))
def f_X6_bringBack (p0 : Int32) (σ : aM) : Option (Int32 × aM) := bnd (f_X6_isLamp p0 σ) (fun r1 σ2 => if ¬ r1 = 0 then bnd (f_X6_isHome p0 σ2) (fun r5 σ6 => if r5 = 0 then bnd (f_X6_isFine 0 σ6) (fun r9 σ10 => if ¬ r9 = 0 then if inb p0 20 = true then if inb p0 20 = true then if inb p0 20 = true then if inb p0 20 = true then if inb p0 20 = true then some (σ10 40 (ix p0), mput (mput σ10 40 (ix p0) (σ10 38 (ix p0))) 41 (ix p0) (σ10 39 (ix p0))) else none else none else none else none else none else some (0, σ10)) else bnd (f_X6_isFine 2 σ6) (fun r18 σ19 => if ¬ r18 = 0 then if inb p0 20 = true then if inb p0 20 = true then if inb p0 20 = true then if inb p0 20 = true then if inb p0 20 = true then some (σ19 40 (ix p0), mput (mput σ19 40 (ix p0) (σ19 38 (ix p0))) 41 (ix p0) (σ19 39 (ix p0))) else none else none else none else none else none else some (0, σ19))) else bnd (f_X6_isFine 1 σ2) (fun r27 σ28 => if ¬ r27 = 0 then if inb p0 20 = true then if inb p0 20 = true then if inb p0 20 = true then if inb p0 20 = true then if inb p0 20 = true then some (σ28 40 (ix p0), mput (mput σ28 40 (ix p0) (σ28 38 (ix p0))) 41 (ix p0) (σ28 39 (ix p0))) else none else none else none else none else none else some (0, σ28)))
def f_X6_replace (p0 : Int32) (σ : aM) : Option (Int32 × aM) := bnd (f_X6_isLamp p0 σ) (fun r1 σ2 => if r1 = 0 then bnd (f_X6_isFine 1 σ2) (fun r5 σ6 => if ¬ r5 = 0 then if inb p0 20 = true then if inb p0 20 = true then some (σ6 44 (ix p0), mput σ6 44 (ix p0) 0) else none else none else some (0, σ6)) else bnd (f_X6_isFine 0 σ2) (fun r11 σ12 => if ¬ r11 = 0 then if inb p0 20 = true then if inb p0 20 = true then some (σ12 44 (ix p0), mput σ12 44 (ix p0) 0) else none else none else some (0, σ12)))
def f_X6_lamps (σ : aM) : Option (Int32 × aM) := some (σ 6 19, mput σ 6 0 0)
def f_X6_whereIs (p0 : Int32) (σ : aM) : Option (Int32 × aM) := bnd (f_X6_isLamp p0 σ) (fun r1 σ2 => if r1 = 0 then bnd (f_X6_isFine 1 σ2) (fun r5 σ6 => if r5 = 0 then some (0, σ6) else if inb p0 20 = true then some (σ6 40 (ix p0), σ6) else none) else bnd (f_X6_isFine 0 σ2) (fun r10 σ11 => if r10 = 0 then some (0, σ11) else if inb p0 20 = true then some (σ11 40 (ix p0), σ11) else none))
def f_X6_wear (p0 : Int32) (σ : aM) : Option (Int32 × aM) := bnd (f_X6_isLamp p0 σ) (fun r1 σ2 => if r1 = 0 then bnd (f_X6_isFine 1 σ2) (fun r5 σ6 => if r5 = 0 then some (0, σ6) else if inb p0 20 = true then some (σ6 44 (ix p0), σ6) else none) else bnd (f_X6_isFine 0 σ2) (fun r10 σ11 => if r10 = 0 then some (0, σ11) else if inb p0 20 = true then some (σ11 44 (ix p0), σ11) else none))
def l_X6_lays_8 (x1 : Int32) (x2 : Int32) : Nat → Int32 → Int32 → Int32 → aM → (Int32 → Int32 → Int32 → aM → Option (Int32 × aM)) → Option (Int32 × aM)
  | 0, _, _, _, _, _ => none
  | n + 1, v3, v4, v5, σ6, k => if (σ6 6 19) ≤ v5 then k v3 v4 v5 σ6 else if inb v5 20 = true then if ¬ (σ6 40 (ix v5)) = x1 then l_X6_lays_8 x1 x2 n (v3 ||| 0) (v4 ||| 0) (v5 + 1) σ6 k else if inb v5 20 = true then if inb x2 10 = true then if ¬ (σ6 41 (ix v5)) = (σ6 32 (ix x2)) then l_X6_lays_8 x1 x2 n (v3 ||| 0) (v4 ||| 0) (v5 + 1) σ6 k else if inb v5 20 = true then if inb x2 10 = true then if ¬ (σ6 42 (ix v5)) = (σ6 33 (ix x2)) then l_X6_lays_8 x1 x2 n (v3 ||| (1 <<< (v5 &&& 31))) (v4 ||| 0) (v5 + 1) σ6 k else l_X6_lays_8 x1 x2 n (v3 ||| (1 <<< (v5 &&& 31))) (v4 ||| (1 <<< (v5 &&& 31))) (v5 + 1) σ6 k else none else none else none else none else none
def f_X6_lays (p0 : Int32) (p1 : Int32) (σ : aM) : Option (Int32 × aM) := l_X6_lays_8 p0 p1 lf 0 0 0 σ (fun v16 v17 v18 σ19 => if ¬ v17 = 0 then some (v17, σ19) else some (v16, σ19))
def f_X6_laidOn (p0 : Int32) (p1 : Int32) (σ : aM) : Option (Int32 × aM) := bnd (f_X6_isStage p0 σ) (fun r1 σ2 => if r1 = 0 then bnd (f_X6_isFine 1 σ2) (fun r5 σ6 => if r5 = 0 then some (0, σ6) else bnd (f_X6_lays p0 p1 σ6) (fun r9 σ10 => some (r9, σ10))) else bnd (f_X6_isChannel p1 σ2) (fun r12 σ13 => if r12 = 0 then bnd (f_X6_isFine 1 σ13) (fun r16 σ17 => if r16 = 0 then some (0, σ17) else bnd (f_X6_lays p0 p1 σ17) (fun r20 σ21 => some (r20, σ21))) else bnd (f_X6_isFine 0 σ13) (fun r23 σ24 => if r23 = 0 then some (0, σ24) else bnd (f_X6_lays p0 p1 σ24) (fun r27 σ28 => some (r27, σ28)))))
def l_X6_lights_2 (x1 : Int32) : Nat → Int32 → aM → (Int32 → aM → Option (Int32 × aM)) → Option (Int32 × aM)
  | 0, _, _, _ => none
  | n + 1, v2, σ3, k => if 10 ≤ v2 then k v2 σ3 else bnd (f_X6_level v2 x1 σ3) (fun r5 σ6 => if inb v2 10 = true then l_X6_lights_2 x1 n (v2 + 1) (mput σ6 51 (ix v2) r5) k else none)
def f_X6_lights (p0 : Int32) (σ : aM) : Option (Int32 × aM) := l_X6_lights_2 p0 lf 0 σ (fun v9 σ10 => some (0, σ10))
def l_X6_laysAll_2 (x1 : Int32) : Nat → Int32 → aM → (Int32 → aM → Option (Int32 × aM)) → Option (Int32 × aM)
  | 0, _, _, _ => none
  | n + 1, v2, σ3, k => if 10 ≤ v2 then k v2 σ3 else bnd (f_X6_lays x1 v2 σ3) (fun r5 σ6 => if inb v2 10 = true then l_X6_laysAll_2 x1 n (v2 + 1) (mput σ6 50 (ix v2) r5) k else none)
def f_X6_laysAll (p0 : Int32) (σ : aM) : Option (Int32 × aM) := l_X6_laysAll_2 p0 lf 0 σ (fun v9 σ10 => some (0, σ10))
def l_X6_lampNow_4 (x1 : Int32) : Nat → Int32 → Int32 → aM → (Int32 → Int32 → aM → Option (Int32 × aM)) → Option (Int32 × aM)
  | 0, _, _, _, _ => none
  | n + 1, v2, v3, σ4, k => if 10 ≤ v3 then k v2 v3 σ4 else if inb x1 20 = true then if 300 ≤ (σ4 44 (ix x1)) then k v2 v3 σ4 else if inb v3 10 = true then if (σ4 51 (ix v3)) ≤ v2 then l_X6_lampNow_4 x1 n v2 (v3 + 1) σ4 k else if inb v3 10 = true then if ¬ (((σ4 50 (ix v3)) >>> (x1 &&& 31)) &&& 1) = 1 then l_X6_lampNow_4 x1 n v2 (v3 + 1) σ4 k else if inb v3 10 = true then l_X6_lampNow_4 x1 n (σ4 51 (ix v3)) (v3 + 1) σ4 k else none else none else none else none
def f_X6_lampNow (p0 : Int32) (σ : aM) : Option (Int32 × aM) := l_X6_lampNow_4 p0 lf 0 0 σ (fun v13 v14 σ15 => some (v13, σ15))
def l_X6_lightNow_5 (x1 : Int32) (x2 : Int32) : Nat → Int32 → Int32 → aM → (Int32 → Int32 → aM → Option (Int32 × aM)) → Option (Int32 × aM)
  | 0, _, _, _, _ => none
  | n + 1, v3, v4, σ5, k => if (σ5 6 19) ≤ v4 then k v3 v4 σ5 else if inb v4 20 = true then if ¬ (σ5 40 (ix v4)) = x1 then l_X6_lightNow_5 x1 x2 n (v3 + 0) (v4 + 1) σ5 k else if inb v4 20 = true then if ¬ (σ5 41 (ix v4)) = x2 then l_X6_lightNow_5 x1 x2 n (v3 + 0) (v4 + 1) σ5 k else bnd (f_X6_lampNow v4 σ5) (fun r11 σ12 => if inb v4 20 = true then l_X6_lightNow_5 x1 x2 n (v3 + ((r11 * (σ12 43 (ix v4))) / 100)) (v4 + 1) σ12 k else none) else none else none
def f_X6_lightNow (p0 : Int32) (p1 : Int32) (σ : aM) : Option (Int32 × aM) := l_X6_lightNow_5 p0 p1 lf 0 0 σ (fun v15 v16 σ17 => if v15 ≤ 100 then some (v15, σ17) else some (100, σ17))
def f_X6_lampLevel (p0 : Int32) (p1 : Int32) (σ : aM) : Option (Int32 × aM) := bnd (f_X6_isLamp p0 σ) (fun r1 σ2 => if ¬ r1 = 0 then bnd (f_X6_isTime p1 σ2) (fun r5 σ6 => if ¬ r5 = 0 then bnd (f_X6_isFine 0 σ6) (fun r9 σ10 => if ¬ r9 = 0 then bnd (f_X6_plays σ10) (fun r13 σ14 => if inb p0 20 = true then bnd (f_X6_laysAll (σ14 40 (ix p0)) σ14) (fun r17 σ18 => bnd (f_X6_lights p1 σ18) (fun r20 σ21 => bnd (f_X6_lampNow p0 σ21) (fun r23 σ24 => some (r23, σ24)))) else none) else some (0, σ10)) else bnd (f_X6_isFine 2 σ6) (fun r26 σ27 => if ¬ r26 = 0 then bnd (f_X6_plays σ27) (fun r30 σ31 => if inb p0 20 = true then bnd (f_X6_laysAll (σ31 40 (ix p0)) σ31) (fun r34 σ35 => bnd (f_X6_lights p1 σ35) (fun r37 σ38 => bnd (f_X6_lampNow p0 σ38) (fun r40 σ41 => some (r40, σ41)))) else none) else some (0, σ27))) else bnd (f_X6_isFine 1 σ2) (fun r43 σ44 => if ¬ r43 = 0 then bnd (f_X6_plays σ44) (fun r47 σ48 => if inb p0 20 = true then bnd (f_X6_laysAll (σ48 40 (ix p0)) σ48) (fun r51 σ52 => bnd (f_X6_lights p1 σ52) (fun r54 σ55 => bnd (f_X6_lampNow p0 σ55) (fun r57 σ58 => some (r57, σ58)))) else none) else some (0, σ44)))
def f_X6_light (p0 : Int32) (p1 : Int32) (p2 : Int32) (σ : aM) : Option (Int32 × aM) := bnd (f_X6_isStage p0 σ) (fun r1 σ2 => if r1 = 0 then bnd (f_X6_isFine 1 σ2) (fun r5 σ6 => if ¬ r5 = 0 then bnd (f_X6_plays σ6) (fun r9 σ10 => bnd (f_X6_laysAll p0 σ10) (fun r12 σ13 => bnd (f_X6_lights p2 σ13) (fun r15 σ16 => bnd (f_X6_lightNow p0 p1 σ16) (fun r18 σ19 => some (r18, σ19))))) else some (0, σ6)) else bnd (f_X6_isArea p1 σ2) (fun r21 σ22 => if r21 = 0 then bnd (f_X6_isFine 1 σ22) (fun r25 σ26 => if ¬ r25 = 0 then bnd (f_X6_plays σ26) (fun r29 σ30 => bnd (f_X6_laysAll p0 σ30) (fun r32 σ33 => bnd (f_X6_lights p2 σ33) (fun r35 σ36 => bnd (f_X6_lightNow p0 p1 σ36) (fun r38 σ39 => some (r38, σ39))))) else some (0, σ26)) else bnd (f_X6_isTime p2 σ22) (fun r41 σ42 => if ¬ r41 = 0 then bnd (f_X6_isFine 0 σ42) (fun r45 σ46 => if ¬ r45 = 0 then bnd (f_X6_plays σ46) (fun r49 σ50 => bnd (f_X6_laysAll p0 σ50) (fun r52 σ53 => bnd (f_X6_lights p2 σ53) (fun r55 σ56 => bnd (f_X6_lightNow p0 p1 σ56) (fun r58 σ59 => some (r58, σ59))))) else some (0, σ46)) else bnd (f_X6_isFine 2 σ42) (fun r61 σ62 => if ¬ r61 = 0 then bnd (f_X6_plays σ62) (fun r65 σ66 => bnd (f_X6_laysAll p0 σ66) (fun r68 σ69 => bnd (f_X6_lights p2 σ69) (fun r71 σ72 => bnd (f_X6_lightNow p0 p1 σ72) (fun r74 σ75 => some (r74, σ75))))) else some (0, σ62)))))
def l_X6_shorts_35 (x8 : Int32) (x9 : Int32) : Nat → Int32 → Int32 → aM → (Int32 → Int32 → aM → Option (Int32 × aM)) → Option (Int32 × aM)
  | 0, _, _, _, _ => none
  | n + 1, v10, v11, σ12, k => if 4 ≤ v11 then k v10 v11 σ12 else bnd (f_X6_lightNow x8 v11 σ12) (fun r14 σ15 => if inb ((4 * x9) + v11) 120 = true then if (σ15 31 (ix ((4 * x9) + v11))) ≤ r14 then l_X6_shorts_35 x8 x9 n (v10 ||| 0) (v11 + 1) σ15 k else l_X6_shorts_35 x8 x9 n (v10 ||| (1 <<< (v11 &&& 31))) (v11 + 1) σ15 k else none)
def f_X6_shorts (p0 : Int32) (p1 : Int32) (σ : aM) : Option (Int32 × aM) := if inb p1 30 = true then if (σ 30 (ix p1)) = 0 then if inb p1 30 = true then if inb p1 30 = true then bnd (f_X6_lights (((σ 49 (ix p1)) + (σ 29 (ix p1))) - 1) σ) (fun r5 σ6 => l_X6_shorts_35 p0 p1 lf 0 0 σ6 (fun v19 v20 σ21 => some (v19, σ21))) else none else none else some (0, σ) else none
def f_X6_shortOf (p0 : Int32) (p1 : Int32) (σ : aM) : Option (Int32 × aM) := bnd (f_X6_isStage p0 σ) (fun r1 σ2 => if r1 = 0 then bnd (f_X6_isFine 1 σ2) (fun r5 σ6 => if ¬ r5 = 0 then bnd (f_X6_plays σ6) (fun r9 σ10 => bnd (f_X6_laysAll p0 σ10) (fun r12 σ13 => bnd (f_X6_shorts p0 p1 σ13) (fun r15 σ16 => some (r15, σ16)))) else some (0, σ6)) else bnd (f_X6_isLine p1 σ2) (fun r18 σ19 => if r18 = 0 then bnd (f_X6_isFine 1 σ19) (fun r22 σ23 => if ¬ r22 = 0 then bnd (f_X6_plays σ23) (fun r26 σ27 => bnd (f_X6_laysAll p0 σ27) (fun r29 σ30 => bnd (f_X6_shorts p0 p1 σ30) (fun r32 σ33 => some (r32, σ33)))) else some (0, σ23)) else bnd (f_X6_isFine 0 σ19) (fun r35 σ36 => if ¬ r35 = 0 then bnd (f_X6_plays σ36) (fun r39 σ40 => bnd (f_X6_laysAll p0 σ40) (fun r42 σ43 => bnd (f_X6_shorts p0 p1 σ43) (fun r45 σ46 => some (r45, σ46)))) else some (0, σ36))))
def l_X6_shortLines_9 (x4 : Int32) : Nat → Int32 → Int32 → aM → (Int32 → Int32 → aM → Option (Int32 × aM)) → Option (Int32 × aM)
  | 0, _, _, _, _ => none
  | n + 1, v5, v6, σ7, k => if (σ7 6 4) ≤ v6 then k v5 v6 σ7 else bnd (f_X6_shorts x4 v6 σ7) (fun r9 σ10 => if r9 = 0 then l_X6_shortLines_9 x4 n (v5 + 0) (v6 + 1) σ10 k else l_X6_shortLines_9 x4 n (v5 + 1) (v6 + 1) σ10 k)
def f_X6_shortLines (p0 : Int32) (σ : aM) : Option (Int32 × aM) := bnd (f_X6_laysAll p0 σ) (fun r1 σ2 => l_X6_shortLines_9 p0 lf 0 0 σ2 (fun v13 v14 σ15 => some (v13, σ15)))
def l_X6_bestStage_19 : Nat → Int32 → Int32 → Int32 → aM → (Int32 → Int32 → Int32 → aM → Option (Int32 × aM)) → Option (Int32 × aM)
  | 0, _, _, _, _, _ => none
  | n + 1, v7, v8, v9, σ10, k => if 4 ≤ v9 then k v7 v8 v9 σ10 else bnd (f_X6_shortLines v9 σ10) (fun r12 σ13 => if v8 ≤ r12 then if v8 ≤ r12 then l_X6_bestStage_19 n v7 v8 (v9 + 1) σ13 k else l_X6_bestStage_19 n v7 r12 (v9 + 1) σ13 k else if v8 ≤ r12 then l_X6_bestStage_19 n v9 v8 (v9 + 1) σ13 k else l_X6_bestStage_19 n v9 r12 (v9 + 1) σ13 k)
def f_X6_bestStage (σ : aM) : Option (Int32 × aM) := bnd (f_X6_plays (mput σ 6 0 0)) (fun r1 σ2 => bnd (f_X6_shortLines 0 σ2) (fun r4 σ5 => l_X6_bestStage_19 lf 0 r4 1 σ5 (fun v18 v19 v20 σ21 => some (v18, σ21))))
def l_X6_bestToBorrow_44 (x15 : Int32) (x16 : Int32) : Nat → Int32 → Int32 → Int32 → aM → (Int32 → Int32 → Int32 → aM → Option (Int32 × aM)) → Option (Int32 × aM)
  | 0, _, _, _, _, _ => none
  | n + 1, v17, v18, v19, σ20, k => if (σ20 6 19) ≤ v19 then k v17 v18 v19 σ20 else bnd (f_X6_isHome v19 σ20) (fun r22 σ23 => if r22 = 0 then l_X6_bestToBorrow_44 x15 x16 n v17 v18 (v19 + 1) σ23 k else if inb v19 20 = true then if (σ23 38 (ix v19)) = x15 then l_X6_bestToBorrow_44 x15 x16 n v17 v18 (v19 + 1) σ23 k else if inb v19 20 = true then if inb v19 20 = true then bnd (f_X6_shortLines x15 (mput (mput σ23 40 (ix v19) x15) 41 (ix v19) x16)) (fun r30 σ31 => if inb v19 20 = true then if inb v19 20 = true then if inb v19 20 = true then if inb v19 20 = true then if v18 ≤ r30 then if v18 ≤ r30 then l_X6_bestToBorrow_44 x15 x16 n v17 v18 (v19 + 1) (mput (mput σ31 40 (ix v19) (σ31 38 (ix v19))) 41 (ix v19) (σ31 39 (ix v19))) k else l_X6_bestToBorrow_44 x15 x16 n v17 r30 (v19 + 1) (mput (mput σ31 40 (ix v19) (σ31 38 (ix v19))) 41 (ix v19) (σ31 39 (ix v19))) k else if v18 ≤ r30 then l_X6_bestToBorrow_44 x15 x16 n v19 v18 (v19 + 1) (mput (mput σ31 40 (ix v19) (σ31 38 (ix v19))) 41 (ix v19) (σ31 39 (ix v19))) k else l_X6_bestToBorrow_44 x15 x16 n v19 r30 (v19 + 1) (mput (mput σ31 40 (ix v19) (σ31 38 (ix v19))) 41 (ix v19) (σ31 39 (ix v19))) k else none else none else none else none) else none else none else none)
def f_X6_bestToBorrow (p0 : Int32) (p1 : Int32) (σ : aM) : Option (Int32 × aM) := bnd (f_X6_isStage p0 σ) (fun r1 σ2 => if r1 = 0 then bnd (f_X6_isFine 1 σ2) (fun r5 σ6 => if ¬ r5 = 0 then bnd (f_X6_plays σ6) (fun r9 σ10 => bnd (f_X6_shortLines p0 σ10) (fun r12 σ13 => l_X6_bestToBorrow_44 p0 p1 lf ((-1)) r12 0 σ13 (fun v40 v41 v42 σ43 => some (v40, σ43)))) else some (0, σ6)) else bnd (f_X6_isArea p1 σ2) (fun r44 σ45 => if r44 = 0 then bnd (f_X6_isFine 1 σ45) (fun r48 σ49 => if ¬ r48 = 0 then bnd (f_X6_plays σ49) (fun r52 σ53 => bnd (f_X6_shortLines p0 σ53) (fun r55 σ56 => l_X6_bestToBorrow_44 p0 p1 lf ((-1)) r55 0 σ56 (fun v58 v59 v60 σ61 => some (v58, σ61)))) else some (0, σ49)) else bnd (f_X6_isFine 0 σ45) (fun r62 σ63 => if ¬ r62 = 0 then bnd (f_X6_plays σ63) (fun r66 σ67 => bnd (f_X6_shortLines p0 σ67) (fun r69 σ70 => l_X6_bestToBorrow_44 p0 p1 lf ((-1)) r69 0 σ70 (fun v72 v73 v74 σ75 => some (v72, σ75)))) else some (0, σ63))))
def l_X6_wears_2 (x1 : Int32) : Nat → Int32 → aM → (Int32 → aM → Option (Int32 × aM)) → Option (Int32 × aM)
  | 0, _, _, _ => none
  | n + 1, v2, σ3, k => if (σ3 6 19) ≤ v2 then k v2 σ3 else if inb v2 20 = true then l_X6_wears_2 x1 n (v2 + 1) (mput σ3 52 (ix v2) 0) k else none
def l_X6_wears_47 (x19 : Int32) (x20 : Int32) (x21 : Int32) : Nat → Int32 → aM → (Int32 → aM → Option (Int32 × aM)) → Option (Int32 × aM)
  | 0, _, _, _ => none
  | n + 1, v22, σ23, k => if (σ23 6 19) ≤ v22 then k v22 σ23 else if inb v22 20 = true then if inb v22 20 = true then if ¬ (σ23 40 (ix v22)) = x19 then if inb v22 20 = true then l_X6_wears_47 x19 x20 x21 n (v22 + 1) (mput σ23 52 (ix v22) ((σ23 52 (ix v22)) + 0)) k else none else bnd (f_X6_lampNow v22 σ23) (fun r29 σ30 => if r29 ≤ 0 then if inb v22 20 = true then l_X6_wears_47 x19 x20 x21 n (v22 + 1) (mput σ30 52 (ix v22) ((σ23 52 (ix v22)) + 0)) k else none else if inb v22 20 = true then l_X6_wears_47 x19 x20 x21 n (v22 + 1) (mput σ30 52 (ix v22) ((σ23 52 (ix v22)) + 1)) k else none) else none else none
def l_X6_wears_34 (x11 : Int32) (x12 : Int32) : Nat → Int32 → aM → (Int32 → aM → Option (Int32 × aM)) → Option (Int32 × aM)
  | 0, _, _, _ => none
  | n + 1, v13, σ14, k => if x12 ≤ v13 then k v13 σ14 else bnd (f_X6_lights v13 σ14) (fun r16 σ17 => l_X6_wears_47 x11 x12 v13 lf 0 σ17 (fun v35 σ36 => l_X6_wears_34 x11 x12 n (v13 + 1) σ36 k))
def l_X6_wears_105 (x39 : Int32) (x40 : Int32) : Nat → Int32 → aM → (Int32 → aM → Option (Int32 × aM)) → Option (Int32 × aM)
  | 0, _, _, _ => none
  | n + 1, v41, σ42, k => if (σ42 6 19) ≤ v41 then k v41 σ42 else if inb v41 20 = true then if inb v41 20 = true then if inb v41 20 = true then l_X6_wears_105 x39 x40 n (v41 + 1) (mput σ42 44 (ix v41) ((σ42 44 (ix v41)) + (σ42 52 (ix v41)))) k else none else none else none
def f_X6_wears (p0 : Int32) (σ : aM) : Option (Int32 × aM) := l_X6_wears_2 p0 lf 0 σ (fun v6 σ7 => bnd (f_X6_ahead (σ7 6 4) σ7) (fun r8 σ9 => l_X6_wears_34 p0 r8 lf 0 σ9 (fun v37 σ38 => l_X6_wears_105 p0 r8 lf 0 σ38 (fun v47 σ48 => some (0, σ48)))))
def l_X6_perform_71 (x20 : Int32) (x21 : Int32) : Nat → Int32 → Int32 → aM → (Int32 → Int32 → aM → Option (Int32 × aM)) → Option (Int32 × aM)
  | 0, _, _, _, _ => none
  | n + 1, v22, v23, σ24, k => if (σ24 6 4) ≤ v23 then k v22 v23 σ24 else bnd (f_X6_shorts x20 v23 σ24) (fun r26 σ27 => if inb ((30 * (σ27 6 22)) + v23) 600 = true then if r26 = 0 then l_X6_perform_71 x20 x21 n (v22 + 0) (v23 + 1) (mput σ27 46 (ix ((30 * (σ27 6 22)) + v23)) r26) k else l_X6_perform_71 x20 x21 n (v22 + 1) (v23 + 1) (mput σ27 46 (ix ((30 * (σ27 6 22)) + v23)) r26) k else none)
def f_X6_perform (p0 : Int32) (σ : aM) : Option (Int32 × aM) := bnd (f_X6_isStage p0 σ) (fun r1 σ2 => if ¬ r1 = 0 then bnd (f_X6_ahead (σ2 6 4) σ2) (fun r5 σ6 => if r5 = 0 then bnd (f_X6_isFine 2 σ6) (fun r9 σ10 => if ¬ r9 = 0 then bnd (f_X6_plays σ10) (fun r13 σ14 => bnd (f_X6_laysAll p0 σ14) (fun r16 σ17 => if inb (σ17 6 22) 20 = true then l_X6_perform_71 p0 r1 lf 0 0 (mput σ17 45 (ix (σ17 6 22)) p0) (fun v31 v32 σ33 => bnd (f_X6_wears p0 (mput σ33 6 22 ((σ33 6 22) + 1))) (fun r34 σ35 => some (v31, σ35))) else none)) else some (0, σ10)) else if ¬ (σ6 6 22) = 20 then bnd (f_X6_isFine 0 σ6) (fun r38 σ39 => if ¬ r38 = 0 then bnd (f_X6_plays σ39) (fun r42 σ43 => bnd (f_X6_laysAll p0 σ43) (fun r45 σ46 => if inb (σ46 6 22) 20 = true then l_X6_perform_71 p0 r1 lf 0 0 (mput σ46 45 (ix (σ46 6 22)) p0) (fun v49 v50 σ51 => bnd (f_X6_wears p0 (mput σ51 6 22 ((σ51 6 22) + 1))) (fun r52 σ53 => some (v49, σ53))) else none)) else some (0, σ39)) else bnd (f_X6_isFine 2 σ6) (fun r55 σ56 => if ¬ r55 = 0 then bnd (f_X6_plays σ56) (fun r59 σ60 => bnd (f_X6_laysAll p0 σ60) (fun r62 σ63 => if inb (σ63 6 22) 20 = true then l_X6_perform_71 p0 r1 lf 0 0 (mput σ63 45 (ix (σ63 6 22)) p0) (fun v66 v67 σ68 => bnd (f_X6_wears p0 (mput σ68 6 22 ((σ68 6 22) + 1))) (fun r69 σ70 => some (v66, σ70))) else none)) else some (0, σ56))) else bnd (f_X6_isFine 1 σ2) (fun r72 σ73 => if ¬ r72 = 0 then bnd (f_X6_plays σ73) (fun r76 σ77 => bnd (f_X6_laysAll p0 σ77) (fun r79 σ80 => if inb (σ80 6 22) 20 = true then l_X6_perform_71 p0 r1 lf 0 0 (mput σ80 45 (ix (σ80 6 22)) p0) (fun v83 v84 σ85 => bnd (f_X6_wears p0 (mput σ85 6 22 ((σ85 6 22) + 1))) (fun r86 σ87 => some (v83, σ87))) else none)) else some (0, σ73)))
def f_X6_logs (σ : aM) : Option (Int32 × aM) := some (σ 6 22, mput σ 6 0 0)
def f_X6_isLog (p0 : Int32) (σ : aM) : Option (Int32 × aM) := bnd (f_X6_isIn p0 0 ((σ 6 22) - 1) σ) (fun r1 σ2 => if r1 = 0 ∨ r1 = 1 then some (r1, σ2) else none)
def f_X6_stageOf (p0 : Int32) (σ : aM) : Option (Int32 × aM) := bnd (f_X6_isLog p0 σ) (fun r1 σ2 => if r1 = 0 then bnd (f_X6_isFine 1 σ2) (fun r5 σ6 => if r5 = 0 then some (0, σ6) else if inb p0 20 = true then some (σ6 45 (ix p0), σ6) else none) else bnd (f_X6_isFine 0 σ2) (fun r10 σ11 => if r10 = 0 then some (0, σ11) else if inb p0 20 = true then some (σ11 45 (ix p0), σ11) else none))
def f_X6_wasShortOf (p0 : Int32) (p1 : Int32) (σ : aM) : Option (Int32 × aM) := bnd (f_X6_isLog p0 σ) (fun r1 σ2 => if r1 = 0 then bnd (f_X6_isFine 1 σ2) (fun r5 σ6 => if r5 = 0 then some (0, σ6) else if inb ((30 * p0) + p1) 600 = true then some (σ6 46 (ix ((30 * p0) + p1)), σ6) else none) else bnd (f_X6_isLine p1 σ2) (fun r10 σ11 => if r10 = 0 then bnd (f_X6_isFine 1 σ11) (fun r14 σ15 => if r14 = 0 then some (0, σ15) else if inb ((30 * p0) + p1) 600 = true then some (σ15 46 (ix ((30 * p0) + p1)), σ15) else none) else bnd (f_X6_isFine 0 σ11) (fun r19 σ20 => if r19 = 0 then some (0, σ20) else if inb ((30 * p0) + p1) 600 = true then some (σ20 46 (ix ((30 * p0) + p1)), σ20) else none)))
def l_X6_timesShort_26 (x9 : Int32) : Nat → Int32 → Int32 → aM → (Int32 → Int32 → aM → Option (Int32 × aM)) → Option (Int32 × aM)
  | 0, _, _, _, _ => none
  | n + 1, v10, v11, σ12, k => if (σ12 6 22) ≤ v11 then k v10 v11 σ12 else if inb ((30 * v11) + x9) 600 = true then if (σ12 46 (ix ((30 * v11) + x9))) = 0 then l_X6_timesShort_26 x9 n (v10 + 0) (v11 + 1) σ12 k else l_X6_timesShort_26 x9 n (v10 + 1) (v11 + 1) σ12 k else none
def f_X6_timesShort (p0 : Int32) (σ : aM) : Option (Int32 × aM) := bnd (f_X6_isLine p0 σ) (fun r1 σ2 => if r1 = 0 then bnd (f_X6_isFine 1 σ2) (fun r5 σ6 => if ¬ r5 = 0 then l_X6_timesShort_26 p0 lf 0 0 σ6 (fun v16 v17 σ18 => some (v16, σ18)) else some (0, σ6)) else bnd (f_X6_isFine 0 σ2) (fun r19 σ20 => if ¬ r19 = 0 then l_X6_timesShort_26 p0 lf 0 0 σ20 (fun v23 v24 σ25 => some (v23, σ25)) else some (0, σ20)))
def f_X5_checkNumber (p0 : Int32) (p1 : Int32) (σ : aM) : Option (Nat × Int32 × aM) := if p0 < 0 then some (1, 0, σ) else if p0 < p1 then some (0, 0, σ) else some (1, 0, σ)
def f_X5_checkRange (p0 : Int32) (p1 : Int32) (p2 : Int32) (σ : aM) : Option (Nat × Int32 × aM) := if p0 < p1 then some (2, 0, σ) else if p0 ≤ p2 then some (0, 0, σ) else some (2, 0, σ)
def f_X5_checkRoom (p0 : Int32) (p1 : Int32) (σ : aM) : Option (Nat × Int32 × aM) := if p0 < p1 then some (0, 0, σ) else some (3, 0, σ)
def f_X5_checkState (p0 : Int32) (σ : aM) : Option (Nat × Int32 × aM) := if ¬ p0 = 0 then some (0, 0, σ) else some (3, 0, σ)
def f_X5_addLine (p0 : Int32) (σ : aM) : Option (Nat × Int32 × aM) := bnX (f_X5_checkRange p0 1 30 σ) (fun σ3 => bnX (f_X5_checkRoom (σ3 1 3) 30 σ3) (fun σ8 => bnN (f_X4_append p0 σ8) (fun r11 σ12 => some (0, r11, σ12))))
def f_X5_need (p0 : Int32) (p1 : Int32) (p2 : Int32) (σ : aM) : Option (Nat × Int32 × aM) := bnX (f_X5_checkNumber p0 (σ 1 3) σ) (fun σ3 => bnX (f_X5_checkNumber p1 4 σ3) (fun σ8 => bnX (f_X5_checkRange p2 0 100 σ8) (fun σ13 => if inb p0 30 = true then if inb p1 4 = true then if inb p0 30 = true then if inb p1 4 = true then some (0, σ13 (58 + ix p0) (ix p1), mput σ13 (58 + ix p0) (ix p1) p2) else none else none else none else none)))
def f_X5_cut (p0 : Int32) (p1 : Int32) (σ : aM) : Option (Nat × Int32 × aM) := bnX (f_X5_checkNumber p0 (σ 1 3) σ) (fun σ3 => if inb p0 30 = true then if p1 = 0 ∨ p1 = 1 then bnN (f_X1_arrange (mput σ3 8 (ix p0) p1)) (fun r8 σ9 => bnN (f_X4_total σ9) (fun r11 σ12 => some (0, r11, σ12))) else none else none)
def f_X5_lines (σ : aM) : Option (Int32 × aM) := some (σ 1 3, σ)
def f_X5_startOf (p0 : Int32) (σ : aM) : Option (Nat × Int32 × aM) := bnX (f_X5_checkNumber p0 (σ 1 3) σ) (fun σ3 => if inb p0 30 = true then if (σ3 8 (ix p0)) = 0 then bnN (f_X4_secondsAhead p0 σ3) (fun r8 σ9 => some (0, r8, σ9)) else some (0, (-1), σ3) else none)
def f_X5_length (σ : aM) : Option (Int32 × aM) := bnd (f_X4_total σ) (fun r1 σ2 => some (r1, σ2))
def f_X5_setChannel (p0 : Int32) (p1 : Int32) (p2 : Int32) (σ : aM) : Option (Nat × Int32 × aM) := bnX (f_X5_checkNumber p0 10 σ) (fun σ3 => bnX (f_X5_checkNumber p1 4 σ3) (fun σ8 => bnX (f_X5_checkRange p2 0 2 σ8) (fun σ13 => if inb p0 10 = true then if inb p0 10 = true then if inb p0 10 = true then if inb p0 10 = true then some (0, (10 * (σ13 9 (ix p0))) + (σ13 10 (ix p0)), mput (mput σ13 9 (ix p0) p1) 10 (ix p0) p2) else none else none else none else none)))
def f_X5_addCue (p0 : Int32) (p1 : Int32) (p2 : Int32) (σ : aM) : Option (Nat × Int32 × aM) := bnX (f_X5_checkNumber p0 (σ 1 3) σ) (fun σ3 => bnX (f_X5_checkRange p1 0 60 σ3) (fun σ8 => bnX (f_X5_checkRange p2 0 60 σ8) (fun σ13 => bnX (f_X5_checkRoom (σ13 3 4) 20 σ13) (fun σ18 => bnN (f_X1_append σ18) (fun r21 σ22 => bnN (f_X1_place r21 p0 p1 p2 σ22) (fun r24 σ25 => bnN (f_X1_arrange σ25) (fun r27 σ28 => some (0, r21, σ28))))))))
def f_X5_move (p0 : Int32) (p1 : Int32) (p2 : Int32) (p3 : Int32) (σ : aM) : Option (Nat × Int32 × aM) := bnX (f_X5_checkNumber p0 (σ 3 4) σ) (fun σ3 => bnX (f_X5_checkNumber p1 (σ3 1 3) σ3) (fun σ8 => bnX (f_X5_checkRange p2 0 60 σ8) (fun σ13 => bnX (f_X5_checkRange p3 0 60 σ13) (fun σ18 => if inb p0 20 = true then bnN (f_X1_place p0 p1 p2 p3 σ18) (fun r22 σ23 => bnN (f_X1_arrange σ23) (fun r25 σ26 => some (0, σ18 11 (ix p0), σ26))) else none))))
def f_X5_change (p0 : Int32) (p1 : Int32) (p2 : Int32) (σ : aM) : Option (Nat × Int32 × aM) := bnX (f_X5_checkNumber p0 (σ 3 4) σ) (fun σ3 => bnX (f_X5_checkNumber p1 10 σ3) (fun σ8 => bnX (f_X5_checkRange p2 ((-1)) 100 σ8) (fun σ13 => if inb p0 20 = true then if inb p1 10 = true then if inb p0 20 = true then if inb p1 10 = true then bnN (f_X1_arrange (mput σ13 (88 + ix p0) (ix p1) p2)) (fun r20 σ21 => some (0, σ13 (88 + ix p0) (ix p1), σ21)) else none else none else none else none)))
def f_X5_cues (σ : aM) : Option (Int32 × aM) := some (σ 3 4, σ)
def f_X5_cueAt (p0 : Int32) (σ : aM) : Option (Nat × Int32 × aM) := bnX (f_X5_checkNumber p0 (σ 3 4) σ) (fun σ3 => if inb p0 20 = true then some (0, σ3 14 (ix p0), σ3) else none)
def f_X5_timeOf (p0 : Int32) (σ : aM) : Option (Nat × Int32 × aM) := bnX (f_X5_checkNumber p0 (σ 3 4) σ) (fun σ3 => if inb p0 20 = true then some (0, σ3 15 (ix p0), σ3) else none)
def f_X5_foldedInto (p0 : Int32) (σ : aM) : Option (Nat × Int32 × aM) := bnX (f_X5_checkNumber p0 (σ 3 4) σ) (fun σ3 => if inb p0 20 = true then some (0, σ3 16 (ix p0), σ3) else none)
def f_X5_changes (p0 : Int32) (p1 : Int32) (σ : aM) : Option (Nat × Int32 × aM) := bnX (f_X5_checkNumber p0 (σ 3 4) σ) (fun σ3 => bnX (f_X5_checkNumber p1 10 σ3) (fun σ8 => if inb p0 20 = true then if inb p1 10 = true then some (0, σ8 (108 + ix p0) (ix p1), σ8) else none else none))
def f_X5_levelAt (p0 : Int32) (p1 : Int32) (σ : aM) : Option (Nat × Int32 × aM) := bnX (f_X5_checkNumber p0 10 σ) (fun σ3 => bnX (f_X5_checkRange p1 0 2000 σ3) (fun σ8 => bnN (f_X1_levelByFades p0 p1 σ8) (fun r11 σ12 => some (0, r11, σ12))))
def f_X5_levelBySeconds (p0 : Int32) (p1 : Int32) (σ : aM) : Option (Nat × Int32 × aM) := bnX (f_X5_checkNumber p0 10 σ) (fun σ3 => bnX (f_X5_checkRange p1 0 2000 σ3) (fun σ8 => bnN (f_X1_levelByTicks p0 p1 σ8) (fun r11 σ12 => some (0, r11, σ12))))
def f_X5_addLamp (p0 : Int32) (p1 : Int32) (p2 : Int32) (p3 : Int32) (σ : aM) : Option (Nat × Int32 × aM) := bnX (f_X5_checkNumber p0 4 σ) (fun σ3 => bnX (f_X5_checkNumber p1 4 σ3) (fun σ8 => bnX (f_X5_checkRange p2 0 2 σ8) (fun σ13 => bnX (f_X5_checkRange p3 1 100 σ13) (fun σ18 => bnX (f_X5_checkRoom (σ18 4 8) 20 σ18) (fun σ23 => bnN (f_X3_append p0 p1 p2 p3 σ23) (fun r26 σ27 => some (0, r26, σ27)))))))
def f_X5_borrow (p0 : Int32) (p1 : Int32) (p2 : Int32) (σ : aM) : Option (Nat × Int32 × aM) := bnX (f_X5_checkNumber p0 (σ 4 8) σ) (fun σ3 => bnX (f_X5_checkNumber p1 4 σ3) (fun σ8 => bnX (f_X5_checkNumber p2 4 σ8) (fun σ13 => bnN (f_X3_canGo p0 p1 σ13) (fun r16 σ17 => bnX (f_X5_checkState r16 σ17) (fun σ21 => bnN (f_X3_put p0 p1 p2 σ21) (fun r24 σ25 => if inb p0 20 = true then some (0, σ25 18 (ix p0), σ25) else none))))))
def f_X5_bringBack (p0 : Int32) (σ : aM) : Option (Nat × Int32 × aM) := bnX (f_X5_checkNumber p0 (σ 4 8) σ) (fun σ3 => bnN (f_X3_isHome p0 σ3) (fun r6 σ7 => if ¬ r6 = 0 then bnX (f_X5_checkState 0 σ7) (fun σ12 => if inb p0 20 = true then bnN (f_X3_putHome p0 σ12) (fun r16 σ17 => some (0, σ12 22 (ix p0), σ17)) else none) else bnX (f_X5_checkState 1 σ7) (fun σ21 => if inb p0 20 = true then bnN (f_X3_putHome p0 σ21) (fun r25 σ26 => some (0, σ21 22 (ix p0), σ26)) else none)))
def f_X5_replace (p0 : Int32) (σ : aM) : Option (Nat × Int32 × aM) := bnX (f_X5_checkNumber p0 (σ 4 8) σ) (fun σ3 => if inb p0 20 = true then if inb p0 20 = true then some (0, σ3 24 (ix p0), mput σ3 24 (ix p0) 0) else none else none)
def f_X5_lamps (σ : aM) : Option (Int32 × aM) := some (σ 4 8, σ)
def f_X5_whereIs (p0 : Int32) (σ : aM) : Option (Nat × Int32 × aM) := bnX (f_X5_checkNumber p0 (σ 4 8) σ) (fun σ3 => if inb p0 20 = true then some (0, σ3 22 (ix p0), σ3) else none)
def f_X5_wear (p0 : Int32) (σ : aM) : Option (Nat × Int32 × aM) := bnX (f_X5_checkNumber p0 (σ 4 8) σ) (fun σ3 => if inb p0 20 = true then some (0, σ3 24 (ix p0), σ3) else none)
def f_X5_laidOn (p0 : Int32) (p1 : Int32) (σ : aM) : Option (Nat × Int32 × aM) := bnX (f_X5_checkNumber p0 4 σ) (fun σ3 => bnX (f_X5_checkNumber p1 10 σ3) (fun σ8 => if inb p1 10 = true then if inb p1 10 = true then bnN (f_X3_lampsFor p0 (σ8 9 (ix p1)) (σ8 10 (ix p1)) σ8) (fun r13 σ14 => some (0, r13, σ14)) else none else none))
def f_X5_lampLevel (p0 : Int32) (p1 : Int32) (σ : aM) : Option (Nat × Int32 × aM) := bnX (f_X5_checkNumber p0 (σ 4 8) σ) (fun σ3 => bnX (f_X5_checkRange p1 0 2000 σ3) (fun σ8 => if inb p0 20 = true then bnN (f_X3_lay (σ8 22 (ix p0)) 28 σ8) (fun r12 σ13 => bnN (f_X1_fillLevels p1 27 σ13) (fun r15 σ16 => bnN (f_X3_levelOf p0 28 27 σ16) (fun r18 σ19 => some (0, r18, σ19)))) else none))
def f_X5_light (p0 : Int32) (p1 : Int32) (p2 : Int32) (σ : aM) : Option (Nat × Int32 × aM) := bnX (f_X5_checkNumber p0 4 σ) (fun σ3 => bnX (f_X5_checkNumber p1 4 σ3) (fun σ8 => bnX (f_X5_checkRange p2 0 2000 σ8) (fun σ13 => bnN (f_X3_lay p0 28 σ13) (fun r16 σ17 => bnN (f_X1_fillLevels p2 27 σ17) (fun r19 σ20 => bnN (f_X3_lightOf p0 p1 28 27 σ20) (fun r22 σ23 => some (0, r22, σ23)))))))
def f_X5_shortOf (p0 : Int32) (p1 : Int32) (σ : aM) : Option (Nat × Int32 × aM) := bnX (f_X5_checkNumber p0 4 σ) (fun σ3 => bnX (f_X5_checkNumber p1 (σ3 1 3) σ3) (fun σ8 => bnN (f_X3_lay p0 28 σ8) (fun r11 σ12 => bnN (f_X5_readEndOf p1 σ12) (fun r14 σ15 => bnN (f_X5_shortAreas p0 p1 σ15) (fun r17 σ18 => some (0, r17, σ18))))))
def l_X5_bestStage_14 : Nat → Int32 → Int32 → Int32 → aM → (Int32 → Int32 → Int32 → aM → Option (Int32 × aM)) → Option (Int32 × aM)
  | 0, _, _, _, _, _ => none
  | n + 1, v7, v8, v9, σ10, k => if 4 ≤ v9 then k v7 v8 v9 σ10 else bnd (f_X5_countShort v9 σ10) (fun r12 σ13 => if v8 ≤ r12 then l_X5_bestStage_14 n v7 v8 (v9 + 1) σ13 k else l_X5_bestStage_14 n v9 r12 (v9 + 1) σ13 k)
def f_X5_bestStage (σ : aM) : Option (Int32 × aM) := bnd (f_X5_readEnds σ) (fun r1 σ2 => bnd (f_X5_countShort 0 σ2) (fun r4 σ5 => l_X5_bestStage_14 lf 0 r4 1 σ5 (fun v16 v17 v18 σ19 => some (v16, σ19))))
def l_X5_bestToBorrow_26 (x17 : Int32) (x18 : Int32) : Nat → Int32 → Int32 → Int32 → aM → (Int32 → Int32 → Int32 → aM → Option (Nat × Int32 × aM)) → Option (Nat × Int32 × aM)
  | 0, _, _, _, _, _ => none
  | n + 1, v19, v20, v21, σ22, k => if (σ22 4 8) ≤ v21 then k v19 v20 v21 σ22 else bnN (f_X3_canGo v21 x17 σ22) (fun r24 σ25 => if r24 = 0 then l_X5_bestToBorrow_26 x17 x18 n v19 v20 (v21 + 1) σ25 k else bnN (f_X5_countShortWith v21 x17 x18 σ25) (fun r28 σ29 => if v20 ≤ r28 then l_X5_bestToBorrow_26 x17 x18 n v19 v20 (v21 + 1) σ29 k else l_X5_bestToBorrow_26 x17 x18 n v21 r28 (v21 + 1) σ29 k))
def f_X5_bestToBorrow (p0 : Int32) (p1 : Int32) (σ : aM) : Option (Nat × Int32 × aM) := bnX (f_X5_checkNumber p0 4 σ) (fun σ3 => bnX (f_X5_checkNumber p1 4 σ3) (fun σ8 => bnN (f_X5_readEnds σ8) (fun r11 σ12 => bnN (f_X5_countShort p0 σ12) (fun r14 σ15 => l_X5_bestToBorrow_26 p0 p1 lf ((-1)) r14 0 σ15 (fun v32 v33 v34 σ35 => some (0, v32, σ35))))))
def f_X5_perform (p0 : Int32) (σ : aM) : Option (Nat × Int32 × aM) := bnX (f_X5_checkNumber p0 4 σ) (fun σ3 => bnN (f_X4_total σ3) (fun r6 σ7 => if r6 ≤ 0 then bnX (f_X5_checkState 0 σ7) (fun σ12 => bnX (f_X5_checkRoom (σ12 5 2) 20 σ12) (fun σ17 => bnN (f_X5_readEnds σ17) (fun r20 σ21 => bnN (f_X5_countShort p0 σ21) (fun r23 σ24 => bnN (f_X5_writeLog p0 σ24) (fun r26 σ27 => bnN (f_X5_wearOut p0 σ27) (fun r29 σ30 => some (0, r23, σ30))))))) else bnX (f_X5_checkState 1 σ7) (fun σ34 => bnX (f_X5_checkRoom (σ34 5 2) 20 σ34) (fun σ39 => bnN (f_X5_readEnds σ39) (fun r42 σ43 => bnN (f_X5_countShort p0 σ43) (fun r45 σ46 => bnN (f_X5_writeLog p0 σ46) (fun r48 σ49 => bnN (f_X5_wearOut p0 σ49) (fun r51 σ52 => some (0, r45, σ52)))))))))
def f_X5_logs (σ : aM) : Option (Int32 × aM) := some (σ 5 2, σ)
def f_X5_stageOf (p0 : Int32) (σ : aM) : Option (Nat × Int32 × aM) := bnX (f_X5_checkNumber p0 (σ 5 2) σ) (fun σ3 => if inb p0 20 = true then some (0, σ3 26 (ix p0), σ3) else none)
def f_X5_wasShortOf (p0 : Int32) (p1 : Int32) (σ : aM) : Option (Nat × Int32 × aM) := bnX (f_X5_checkNumber p0 (σ 5 2) σ) (fun σ3 => bnX (f_X5_checkNumber p1 (σ3 1 3) σ3) (fun σ8 => if inb p0 20 = true then if inb p1 30 = true then some (0, σ8 (158 + ix p0) (ix p1), σ8) else none else none))
def f_X5_timesShort (p0 : Int32) (σ : aM) : Option (Nat × Int32 × aM) := bnX (f_X5_checkNumber p0 (σ 1 3) σ) (fun σ3 => bnN (f_X0_countShortLogs p0 σ3) (fun r6 σ7 => some (0, r6, σ7)))
def bnC (o : Option (Nat × Int32 × aM)) (hc : Nat → Option Int32) (f : Int32 → aM → Option (Int32 × aM)) : Option (Int32 × aM) := match o with
  | none => none
  | some (e, r, s) => if e = 0 then f r s else match hc e with
    | none => none
    | some v => some (v, s)
def hc_L_addLine (e : Nat) : Option Int32 := if e = 2 then some 1 else if e = 3 then some 2 else none
def f_L_addLine (p0 : Int32) (σ : aM) : Option (Int32 × aM) := bnC (f_X5_addLine p0 σ) hc_L_addLine (fun r σ1 => some (0, mput σ1 178 (ix 0) r))
def hc_L_need (e : Nat) : Option Int32 := if e = 1 then some 1 else if e = 2 then some 2 else none
def f_L_need (p0 : Int32) (p1 : Int32) (p2 : Int32) (σ : aM) : Option (Int32 × aM) := bnC (f_X5_need p0 p1 p2 σ) hc_L_need (fun r σ1 => some (0, mput σ1 178 (ix 0) r))
def hc_L_cut (e : Nat) : Option Int32 := if e = 1 then some 1 else none
def f_L_cut (p0 : Int32) (p1 : Int32) (σ : aM) : Option (Int32 × aM) := bnC (f_X5_cut p0 p1 σ) hc_L_cut (fun r σ1 => some (0, mput σ1 178 (ix 0) r))
def hc_L_startOf (e : Nat) : Option Int32 := if e = 1 then some 1 else none
def f_L_startOf (p0 : Int32) (σ : aM) : Option (Int32 × aM) := bnC (f_X5_startOf p0 σ) hc_L_startOf (fun r σ1 => some (0, mput σ1 178 (ix 0) r))
def hc_L_setChannel (e : Nat) : Option Int32 := if e = 1 then some 1 else if e = 2 then some 2 else none
def f_L_setChannel (p0 : Int32) (p1 : Int32) (p2 : Int32) (σ : aM) : Option (Int32 × aM) := bnC (f_X5_setChannel p0 p1 p2 σ) hc_L_setChannel (fun r σ1 => some (0, mput σ1 178 (ix 0) r))
def hc_L_addCue (e : Nat) : Option Int32 := if e = 1 then some 1 else if e = 2 then some 2 else if e = 3 then some 3 else none
def f_L_addCue (p0 : Int32) (p1 : Int32) (p2 : Int32) (σ : aM) : Option (Int32 × aM) := bnC (f_X5_addCue p0 p1 p2 σ) hc_L_addCue (fun r σ1 => some (0, mput σ1 178 (ix 0) r))
def hc_L_move (e : Nat) : Option Int32 := if e = 1 then some 1 else if e = 2 then some 2 else none
def f_L_move (p0 : Int32) (p1 : Int32) (p2 : Int32) (p3 : Int32) (σ : aM) : Option (Int32 × aM) := bnC (f_X5_move p0 p1 p2 p3 σ) hc_L_move (fun r σ1 => some (0, mput σ1 178 (ix 0) r))
def hc_L_change (e : Nat) : Option Int32 := if e = 1 then some 1 else if e = 2 then some 2 else none
def f_L_change (p0 : Int32) (p1 : Int32) (p2 : Int32) (σ : aM) : Option (Int32 × aM) := bnC (f_X5_change p0 p1 p2 σ) hc_L_change (fun r σ1 => some (0, mput σ1 178 (ix 0) r))
def hc_L_cueAt (e : Nat) : Option Int32 := if e = 1 then some 1 else none
def f_L_cueAt (p0 : Int32) (σ : aM) : Option (Int32 × aM) := bnC (f_X5_cueAt p0 σ) hc_L_cueAt (fun r σ1 => some (0, mput σ1 178 (ix 0) r))
def hc_L_timeOf (e : Nat) : Option Int32 := if e = 1 then some 1 else none
def f_L_timeOf (p0 : Int32) (σ : aM) : Option (Int32 × aM) := bnC (f_X5_timeOf p0 σ) hc_L_timeOf (fun r σ1 => some (0, mput σ1 178 (ix 0) r))
def hc_L_foldedInto (e : Nat) : Option Int32 := if e = 1 then some 1 else none
def f_L_foldedInto (p0 : Int32) (σ : aM) : Option (Int32 × aM) := bnC (f_X5_foldedInto p0 σ) hc_L_foldedInto (fun r σ1 => some (0, mput σ1 178 (ix 0) r))
def hc_L_changes (e : Nat) : Option Int32 := if e = 1 then some 1 else none
def f_L_changes (p0 : Int32) (p1 : Int32) (σ : aM) : Option (Int32 × aM) := bnC (f_X5_changes p0 p1 σ) hc_L_changes (fun r σ1 => some (0, mput σ1 178 (ix 0) r))
def hc_L_levelAt (e : Nat) : Option Int32 := if e = 1 then some 1 else if e = 2 then some 2 else none
def f_L_levelAt (p0 : Int32) (p1 : Int32) (σ : aM) : Option (Int32 × aM) := bnC (f_X5_levelAt p0 p1 σ) hc_L_levelAt (fun r σ1 => some (0, mput σ1 178 (ix 0) r))
def hc_L_levelBySeconds (e : Nat) : Option Int32 := if e = 1 then some 1 else if e = 2 then some 2 else none
def f_L_levelBySeconds (p0 : Int32) (p1 : Int32) (σ : aM) : Option (Int32 × aM) := bnC (f_X5_levelBySeconds p0 p1 σ) hc_L_levelBySeconds (fun r σ1 => some (0, mput σ1 178 (ix 0) r))
def hc_L_addLamp (e : Nat) : Option Int32 := if e = 1 then some 1 else if e = 2 then some 2 else if e = 3 then some 3 else none
def f_L_addLamp (p0 : Int32) (p1 : Int32) (p2 : Int32) (p3 : Int32) (σ : aM) : Option (Int32 × aM) := bnC (f_X5_addLamp p0 p1 p2 p3 σ) hc_L_addLamp (fun r σ1 => some (0, mput σ1 178 (ix 0) r))
def hc_L_borrow (e : Nat) : Option Int32 := if e = 1 then some 1 else if e = 3 then some 2 else none
def f_L_borrow (p0 : Int32) (p1 : Int32) (p2 : Int32) (σ : aM) : Option (Int32 × aM) := bnC (f_X5_borrow p0 p1 p2 σ) hc_L_borrow (fun r σ1 => some (0, mput σ1 178 (ix 0) r))
def hc_L_bringBack (e : Nat) : Option Int32 := if e = 1 then some 1 else if e = 3 then some 2 else none
def f_L_bringBack (p0 : Int32) (σ : aM) : Option (Int32 × aM) := bnC (f_X5_bringBack p0 σ) hc_L_bringBack (fun r σ1 => some (0, mput σ1 178 (ix 0) r))
def hc_L_replace (e : Nat) : Option Int32 := if e = 1 then some 1 else none
def f_L_replace (p0 : Int32) (σ : aM) : Option (Int32 × aM) := bnC (f_X5_replace p0 σ) hc_L_replace (fun r σ1 => some (0, mput σ1 178 (ix 0) r))
def hc_L_whereIs (e : Nat) : Option Int32 := if e = 1 then some 1 else none
def f_L_whereIs (p0 : Int32) (σ : aM) : Option (Int32 × aM) := bnC (f_X5_whereIs p0 σ) hc_L_whereIs (fun r σ1 => some (0, mput σ1 178 (ix 0) r))
def hc_L_wear (e : Nat) : Option Int32 := if e = 1 then some 1 else none
def f_L_wear (p0 : Int32) (σ : aM) : Option (Int32 × aM) := bnC (f_X5_wear p0 σ) hc_L_wear (fun r σ1 => some (0, mput σ1 178 (ix 0) r))
def hc_L_laidOn (e : Nat) : Option Int32 := if e = 1 then some 1 else none
def f_L_laidOn (p0 : Int32) (p1 : Int32) (σ : aM) : Option (Int32 × aM) := bnC (f_X5_laidOn p0 p1 σ) hc_L_laidOn (fun r σ1 => some (0, mput σ1 178 (ix 0) r))
def hc_L_lampLevel (e : Nat) : Option Int32 := if e = 1 then some 1 else if e = 2 then some 2 else none
def f_L_lampLevel (p0 : Int32) (p1 : Int32) (σ : aM) : Option (Int32 × aM) := bnC (f_X5_lampLevel p0 p1 σ) hc_L_lampLevel (fun r σ1 => some (0, mput σ1 178 (ix 0) r))
def hc_L_light (e : Nat) : Option Int32 := if e = 1 then some 1 else if e = 2 then some 2 else none
def f_L_light (p0 : Int32) (p1 : Int32) (p2 : Int32) (σ : aM) : Option (Int32 × aM) := bnC (f_X5_light p0 p1 p2 σ) hc_L_light (fun r σ1 => some (0, mput σ1 178 (ix 0) r))
def hc_L_shortOf (e : Nat) : Option Int32 := if e = 1 then some 1 else none
def f_L_shortOf (p0 : Int32) (p1 : Int32) (σ : aM) : Option (Int32 × aM) := bnC (f_X5_shortOf p0 p1 σ) hc_L_shortOf (fun r σ1 => some (0, mput σ1 178 (ix 0) r))
def hc_L_bestToBorrow (e : Nat) : Option Int32 := if e = 1 then some 1 else none
def f_L_bestToBorrow (p0 : Int32) (p1 : Int32) (σ : aM) : Option (Int32 × aM) := bnC (f_X5_bestToBorrow p0 p1 σ) hc_L_bestToBorrow (fun r σ1 => some (0, mput σ1 178 (ix 0) r))
def hc_L_perform (e : Nat) : Option Int32 := if e = 1 then some 1 else if e = 3 then some 2 else none
def f_L_perform (p0 : Int32) (σ : aM) : Option (Int32 × aM) := bnC (f_X5_perform p0 σ) hc_L_perform (fun r σ1 => some (0, mput σ1 178 (ix 0) r))
def hc_L_stageOf (e : Nat) : Option Int32 := if e = 1 then some 1 else none
def f_L_stageOf (p0 : Int32) (σ : aM) : Option (Int32 × aM) := bnC (f_X5_stageOf p0 σ) hc_L_stageOf (fun r σ1 => some (0, mput σ1 178 (ix 0) r))
def hc_L_wasShortOf (e : Nat) : Option Int32 := if e = 1 then some 1 else none
def f_L_wasShortOf (p0 : Int32) (p1 : Int32) (σ : aM) : Option (Int32 × aM) := bnC (f_X5_wasShortOf p0 p1 σ) hc_L_wasShortOf (fun r σ1 => some (0, mput σ1 178 (ix 0) r))
def hc_L_timesShort (e : Nat) : Option Int32 := if e = 1 then some 1 else none
def f_L_timesShort (p0 : Int32) (σ : aM) : Option (Int32 × aM) := bnC (f_X5_timesShort p0 σ) hc_L_timesShort (fun r σ1 => some (0, mput σ1 178 (ix 0) r))
def agW (CP : aM → Prop) (w m : aM → Option (Int32 × aM)) : Prop := ∀ σ, CP σ → ∃ k σ1 b σ2, w σ = some (k, σ1) ∧ m σ1 = some (b, σ2) ∧ σ2 6 0 = k ∧ (k = 0 → σ2 178 0 = b) ∧ CP σ2
def agD (CP : aM → Prop) (x m : aM → Option (Int32 × aM)) : Prop := ∀ σ, CP σ → ∃ r σ1 σ2, x σ = some (r, σ1) ∧ m σ1 = some (r, σ2) ∧ CP σ2
def AG (CP : aM → Prop) : Prop := (∀ p0 : Int32, agW CP (f_L_addLine p0) (f_X6_addLine p0)) ∧ (∀ p0 p1 p2 : Int32, agW CP (f_L_need p0 p1 p2) (f_X6_need p0 p1 p2)) ∧ (∀ p0 p1 : Int32, (p1 = 0 ∨ p1 = 1) → agW CP (f_L_cut p0 p1) (f_X6_cut p0 p1)) ∧ (agD CP f_X5_lines f_X6_lines) ∧ (∀ p0 : Int32, agW CP (f_L_startOf p0) (f_X6_startOf p0)) ∧ (agD CP f_X5_length f_X6_length) ∧ (∀ p0 p1 p2 : Int32, agW CP (f_L_setChannel p0 p1 p2) (f_X6_setChannel p0 p1 p2)) ∧ (∀ p0 p1 p2 : Int32, agW CP (f_L_addCue p0 p1 p2) (f_X6_addCue p0 p1 p2)) ∧ (∀ p0 p1 p2 p3 : Int32, agW CP (f_L_move p0 p1 p2 p3) (f_X6_move p0 p1 p2 p3)) ∧ (∀ p0 p1 p2 : Int32, agW CP (f_L_change p0 p1 p2) (f_X6_change p0 p1 p2)) ∧ (agD CP f_X5_cues f_X6_cues) ∧ (∀ p0 : Int32, agW CP (f_L_cueAt p0) (f_X6_cueAt p0)) ∧ (∀ p0 : Int32, agW CP (f_L_timeOf p0) (f_X6_timeOf p0)) ∧ (∀ p0 : Int32, agW CP (f_L_foldedInto p0) (f_X6_foldedInto p0)) ∧ (∀ p0 p1 : Int32, agW CP (f_L_changes p0 p1) (f_X6_changes p0 p1)) ∧ (∀ p0 p1 : Int32, agW CP (f_L_levelAt p0 p1) (f_X6_levelAt p0 p1)) ∧ (∀ p0 p1 : Int32, agW CP (f_L_levelBySeconds p0 p1) (f_X6_levelBySeconds p0 p1)) ∧ (∀ p0 p1 p2 p3 : Int32, agW CP (f_L_addLamp p0 p1 p2 p3) (f_X6_addLamp p0 p1 p2 p3)) ∧ (∀ p0 p1 p2 : Int32, agW CP (f_L_borrow p0 p1 p2) (f_X6_borrow p0 p1 p2)) ∧ (∀ p0 : Int32, agW CP (f_L_bringBack p0) (f_X6_bringBack p0)) ∧ (∀ p0 : Int32, agW CP (f_L_replace p0) (f_X6_replace p0)) ∧ (agD CP f_X5_lamps f_X6_lamps) ∧ (∀ p0 : Int32, agW CP (f_L_whereIs p0) (f_X6_whereIs p0)) ∧ (∀ p0 : Int32, agW CP (f_L_wear p0) (f_X6_wear p0)) ∧ (∀ p0 p1 : Int32, agW CP (f_L_laidOn p0 p1) (f_X6_laidOn p0 p1)) ∧ (∀ p0 p1 : Int32, agW CP (f_L_lampLevel p0 p1) (f_X6_lampLevel p0 p1)) ∧ (∀ p0 p1 p2 : Int32, agW CP (f_L_light p0 p1 p2) (f_X6_light p0 p1 p2)) ∧ (∀ p0 p1 : Int32, agW CP (f_L_shortOf p0 p1) (f_X6_shortOf p0 p1)) ∧ (agD CP f_X5_bestStage f_X6_bestStage) ∧ (∀ p0 p1 : Int32, agW CP (f_L_bestToBorrow p0 p1) (f_X6_bestToBorrow p0 p1)) ∧ (∀ p0 : Int32, agW CP (f_L_perform p0) (f_X6_perform p0)) ∧ (agD CP f_X5_logs f_X6_logs) ∧ (∀ p0 : Int32, agW CP (f_L_stageOf p0) (f_X6_stageOf p0)) ∧ (∀ p0 p1 : Int32, agW CP (f_L_wasShortOf p0 p1) (f_X6_wasShortOf p0 p1)) ∧ (∀ p0 : Int32, agW CP (f_L_timesShort p0) (f_X6_timesShort p0))
def ai (i : Nat) : Nat → Int32 := fun j => if j < i then nI (j % 4) else 0
def σ0 : aM := fun k => bif (Nat.beq k 9 || Nat.beq k 32) then ai 10 else fun _ => 0
end
section
/-! numbers: places, ranges, writing -/
theorem ix_nI {k : Nat} (h : k < 2 ^ 31) : ix (nI k) = k := nI_clamp h
theorem inb_nI {k n : Nat} (h : k < n) (hn : n < 2 ^ 31) : inb (nI k) n = true := by
  simp only [inb, Bool.and_eq_true, decide_eq_true_eq, nI_toInt (show k < 2 ^ 31 by omega)]
  omega
theorem inb_of {x : Int32} {n : Nat} (h : inb x n = true) (hn : n < 2 ^ 31) : ∃ k, k < n ∧ x = nI k := vp_in_of (inb_in h) hn
theorem inb_le {x : Int32} {n m : Nat} (h : inb x n = true) (hm : n ≤ m) : inb x m = true := by
  simp only [inb, Bool.and_eq_true, decide_eq_true_eq] at h ⊢
  omega
theorem inb_nlt {k n : Nat} (h : ¬ k < n) (hk : k < 2 ^ 31) : inb (nI k) n = false := by
  simp only [inb, Bool.and_eq_false_iff, decide_eq_false_iff_not, nI_toInt hk]
  omega
theorem inb_iff {x : Int32} {n : Nat} : inb x n = true ↔ 0 ≤ x.toInt ∧ x.toInt < n := by
  simp only [inb, Bool.and_eq_true, decide_eq_true_eq]
theorem mput_ne {σ : aM} {k i a : Nat} {v : Int32} (h : ¬ a = k) : mput σ k i v a = σ a := if_neg h
theorem mput_at {σ : aM} {k i j : Nat} {v : Int32} : mput σ k i v k j = if j = i then v else σ k j := by
  simp [mput, upd]
theorem mput_self {σ : aM} {k i : Nat} {v : Int32} : mput σ k i v k i = v := by
  simp [mput, upd]
theorem mput_other {σ : aM} {k i j : Nat} {v : Int32} (h : ¬ j = i) : mput σ k i v k j = σ k j := by
  simp [mput, upd, h]
theorem i_nlt {a b : Int32} : ¬ a < b ↔ b ≤ a := by
  rw [Int32.lt_iff_toInt_lt, Int32.le_iff_toInt_le]
  omega
theorem i_nle {a b : Int32} : ¬ a ≤ b ↔ b < a := by
  rw [Int32.lt_iff_toInt_lt, Int32.le_iff_toInt_le]
  omega
theorem nI_m1 {n : Nat} (h : n < 2 ^ 30) : (nI n - 1).toInt = (n : Int) - 1 := by
  have := pk_sub_toInt (a := n) (b := 1) (by omega) (by decide)
  exact this
/-- the number check of CueTour, the reference's range check -/
theorem x_num {p0 : Int32} {n : Nat} {σ : aM} (hn : n < 2 ^ 30) : f_X5_checkNumber p0 (nI n) σ = some (if inb p0 n = true then 0 else 1, 0, σ) := by
  unfold f_X5_checkNumber
  have h1 : (p0 < 0) ↔ p0.toInt < 0 := by rw [Int32.lt_iff_toInt_lt]; rfl
  have h2 : (p0 < nI n) ↔ p0.toInt < n := by rw [Int32.lt_iff_toInt_lt, nI_toInt (by omega)]
  have h3 : inb p0 n = true ↔ 0 ≤ p0.toInt ∧ p0.toInt < n := inb_iff
  by_cases a : p0.toInt < 0
  · rw [if_pos (h1.mpr a), if_neg (fun q => by have := h3.mp q; omega)]
  · rw [if_neg (fun q => a (h1.mp q))]
    by_cases b : p0.toInt < n
    · rw [if_pos (h2.mpr b), if_pos (h3.mpr ⟨by omega, b⟩)]
    · rw [if_neg (fun q => b (h2.mp q)), if_neg (fun q => b (h3.mp q).2)]
theorem x_rng {p0 p1 p2 : Int32} {σ : aM} : f_X5_checkRange p0 p1 p2 σ = some (if p1 ≤ p0 ∧ p0 ≤ p2 then 0 else 2, 0, σ) := by
  unfold f_X5_checkRange
  by_cases a : p0 < p1
  · rw [if_pos a, if_neg (fun q => absurd a (i_nlt.mpr q.1))]
  · rw [if_neg a]
    by_cases b : p0 ≤ p2
    · rw [if_pos b, if_pos ⟨i_nlt.mp a, b⟩]
    · rw [if_neg b, if_neg (fun q => b q.2)]
theorem x_room {p0 p1 : Int32} {σ : aM} : f_X5_checkRoom p0 p1 σ = some (if p0 < p1 then 0 else 3, 0, σ) := by
  unfold f_X5_checkRoom
  by_cases a : p0 < p1
  · rw [if_pos a, if_pos a]
  · rw [if_neg a, if_neg a]
theorem x_state {p0 : Int32} {σ : aM} : f_X5_checkState p0 σ = some (if p0 = 0 then 3 else 0, 0, σ) := by
  unfold f_X5_checkState
  by_cases a : p0 = 0
  · simp [a]
  · simp [a]
theorem m_in {p0 p1 p2 : Int32} {σ : aM} : f_X6_isIn p0 p1 p2 σ = some (if p1 ≤ p0 ∧ p0 ≤ p2 then 1 else 0, σ) := by
  unfold f_X6_isIn
  by_cases a : p0 < p1
  · rw [if_pos a, if_neg (fun q => absurd a (i_nlt.mpr q.1))]
  · rw [if_neg a]
    by_cases b : p2 < p0
    · rw [if_pos b, if_neg (fun q => absurd b (i_nlt.mpr q.2))]
    · rw [if_neg b, if_pos ⟨i_nlt.mp a, i_nlt.mp b⟩]
theorem m_inN {p0 : Int32} {n : Nat} (hn : n < 2 ^ 30) : (0 ≤ p0 ∧ p0 ≤ nI n - 1) ↔ inb p0 n = true := by
  rw [inb_iff, Int32.le_iff_toInt_le, Int32.le_iff_toInt_le, nI_m1 hn]
  have : (0 : Int32).toInt = 0 := rfl
  omega
theorem m_fine {p0 : Int32} {σ : aM} : f_X6_isFine p0 σ = some (if p0 = 0 then 1 else 0, mput σ 6 0 p0) := by
  unfold f_X6_isFine
  by_cases a : p0 = 0
  · simp [a]
  · simp [a]
theorem m_line {p0 : Int32} {n : Nat} {σ : aM} (hn : n < 2 ^ 30) (h : σ 6 4 = nI n) : f_X6_isLine p0 σ = some (if inb p0 n = true then 1 else 0, σ) := by
  unfold f_X6_isLine
  rw [m_in, h]
  by_cases a : inb p0 n = true
  · simp [(m_inN hn).mpr a, a, bnd]
  · have : ¬ (0 ≤ p0 ∧ p0 ≤ nI n - 1) := fun q => a ((m_inN hn).mp q)
    simp only [if_neg this, if_neg a, bnd]
    simp
theorem m_cue {p0 : Int32} {n : Nat} {σ : aM} (hn : n < 2 ^ 30) (h : σ 6 11 = nI n) : f_X6_isCue p0 σ = some (if inb p0 n = true then 1 else 0, σ) := by
  unfold f_X6_isCue
  rw [m_in, h]
  by_cases a : inb p0 n = true
  · simp [(m_inN hn).mpr a, a, bnd]
  · have : ¬ (0 ≤ p0 ∧ p0 ≤ nI n - 1) := fun q => a ((m_inN hn).mp q)
    simp only [if_neg this, if_neg a, bnd]
    simp
theorem m_lamp {p0 : Int32} {n : Nat} {σ : aM} (hn : n < 2 ^ 30) (h : σ 6 19 = nI n) : f_X6_isLamp p0 σ = some (if inb p0 n = true then 1 else 0, σ) := by
  unfold f_X6_isLamp
  rw [m_in, h]
  by_cases a : inb p0 n = true
  · simp [(m_inN hn).mpr a, a, bnd]
  · have : ¬ (0 ≤ p0 ∧ p0 ≤ nI n - 1) := fun q => a ((m_inN hn).mp q)
    simp only [if_neg this, if_neg a, bnd]
    simp
theorem m_log {p0 : Int32} {n : Nat} {σ : aM} (hn : n < 2 ^ 30) (h : σ 6 22 = nI n) : f_X6_isLog p0 σ = some (if inb p0 n = true then 1 else 0, σ) := by
  unfold f_X6_isLog
  rw [m_in, h]
  by_cases a : inb p0 n = true
  · simp [(m_inN hn).mpr a, a, bnd]
  · have : ¬ (0 ≤ p0 ∧ p0 ≤ nI n - 1) := fun q => a ((m_inN hn).mp q)
    simp only [if_neg this, if_neg a, bnd]
    simp
theorem m_area {p0 : Int32} {σ : aM} : f_X6_isArea p0 σ = some (if inb p0 4 = true then 1 else 0, σ) := by
  unfold f_X6_isArea
  rw [m_in]
  have e : (0 ≤ p0 ∧ p0 ≤ 3) ↔ inb p0 4 = true := m_inN (n := 4) (by decide)
  by_cases a : inb p0 4 = true
  · simp [e.mpr a, a, bnd]
  · have : ¬ (0 ≤ p0 ∧ p0 ≤ 3) := fun q => a (e.mp q)
    simp only [if_neg this, if_neg a, bnd]
    simp
theorem m_stage {p0 : Int32} {σ : aM} : f_X6_isStage p0 σ = some (if inb p0 4 = true then 1 else 0, σ) := by
  unfold f_X6_isStage
  rw [m_in]
  have e : (0 ≤ p0 ∧ p0 ≤ 3) ↔ inb p0 4 = true := m_inN (n := 4) (by decide)
  by_cases a : inb p0 4 = true
  · simp [e.mpr a, a, bnd]
  · have : ¬ (0 ≤ p0 ∧ p0 ≤ 3) := fun q => a (e.mp q)
    simp only [if_neg this, if_neg a, bnd]
    simp
theorem m_channel {p0 : Int32} {σ : aM} : f_X6_isChannel p0 σ = some (if inb p0 10 = true then 1 else 0, σ) := by
  unfold f_X6_isChannel
  rw [m_in]
  have e : (0 ≤ p0 ∧ p0 ≤ 9) ↔ inb p0 10 = true := m_inN (n := 10) (by decide)
  by_cases a : inb p0 10 = true
  · simp [e.mpr a, a, bnd]
  · have : ¬ (0 ≤ p0 ∧ p0 ≤ 9) := fun q => a (e.mp q)
    simp only [if_neg this, if_neg a, bnd]
    simp
theorem m_time {p0 : Int32} {σ : aM} : f_X6_isTime p0 σ = some (if 0 ≤ p0 ∧ p0 ≤ 2000 then 1 else 0, σ) := by
  unfold f_X6_isTime
  rw [m_in]
  by_cases a : 0 ≤ p0 ∧ p0 ≤ 2000
  · simp [a, bnd]
  · simp only [if_neg a, bnd]
    simp
theorem m_fade {p0 p1 : Int32} {σ : aM} : f_X6_isFade p0 p1 σ = some (if (0 ≤ p0 ∧ p0 ≤ 60) ∧ (0 ≤ p1 ∧ p1 ≤ 60) then 1 else 0, σ) := by
  unfold f_X6_isFade
  rw [m_in]
  by_cases a : 0 ≤ p0 ∧ p0 ≤ 60
  · rw [if_pos a]
    simp only [bnd]
    rw [if_neg (show ¬ (1 : Int32) = 0 by decide), m_in]
    by_cases b : 0 ≤ p1 ∧ p1 ≤ 60
    · rw [if_pos b, if_pos (And.intro a b)]
      rfl
    · rw [if_neg b, if_neg (fun q : (0 ≤ p0 ∧ p0 ≤ 60) ∧ (0 ≤ p1 ∧ p1 ≤ 60) => b q.2)]
      rfl
  · rw [if_neg a, if_neg (fun q : (0 ≤ p0 ∧ p0 ≤ 60) ∧ (0 ≤ p1 ∧ p1 ≤ 60) => a q.1)]
    rfl
/-- the seconds of the lines ahead that are not cut -/
def sa (sec out : Nat → Int32) : Nat → Int32
  | 0 => 0
  | l + 1 => if out l = 0 then sa sec out l + sec l else sa sec out l
theorem nI_gt {a b : Nat} (h : a < b) (hb : b < 2 ^ 31) : ¬ nI b ≤ nI a := nI_ge h hb
theorem x_ahead_l {σ : aM} {l : Nat} (hl : l ≤ 30) (k : Int32 → Int32 → aM → Option (Int32 × aM)) : ∀ (d i n : Nat), i + d = l → d < n → l_X4_secondsAhead_4 (nI l) n (sa (σ 7) (σ 8) i) (nI i) σ k = k (sa (σ 7) (σ 8) l) (nI l) σ := by
  intro d
  induction d with
  | zero =>
    intro i n hi hn
    obtain ⟨n, rfl⟩ : ∃ m, n = m + 1 := ⟨n - 1, by omega⟩
    obtain rfl : i = l := by omega
    unfold l_X4_secondsAhead_4
    rw [if_pos (nI_le (Nat.le_refl _) (by omega))]
  | succ d ih =>
    intro i n hi hn
    obtain ⟨n, rfl⟩ : ∃ m, n = m + 1 := ⟨n - 1, by omega⟩
    unfold l_X4_secondsAhead_4
    rw [if_neg (nI_gt (by omega) (by omega)), if_pos (inb_nI (by omega) (by decide)), ix_nI (by omega)]
    have := ih (i + 1) n (by omega) (by omega)
    by_cases ho : σ 8 i = 0
    · rw [if_neg (fun q => q ho), if_pos (inb_nI (by omega) (by decide)), nI_1]
      simp only [sa, if_pos ho] at this
      exact this
    · rw [if_pos ho, nI_1]
      simp only [sa, if_neg ho] at this
      exact this
theorem x_ahead {σ : aM} {l : Nat} (hl : l ≤ 30) : f_X4_secondsAhead (nI l) σ = some (sa (σ 7) (σ 8) l, σ) :=
  x_ahead_l hl _ l 0 lf (by omega) (by show l < 4000; omega)
theorem m_ahead_l {σ : aM} {l : Nat} (hl : l ≤ 30) (k : Int32 → Int32 → aM → Option (Int32 × aM)) : ∀ (d i n : Nat), i + d = l → d < n → l_X6_ahead_4 (nI l) n (sa (σ 29) (σ 30) i) (nI i) σ k = k (sa (σ 29) (σ 30) l) (nI l) σ := by
  intro d
  induction d with
  | zero =>
    intro i n hi hn
    obtain ⟨n, rfl⟩ : ∃ m, n = m + 1 := ⟨n - 1, by omega⟩
    obtain rfl : i = l := by omega
    unfold l_X6_ahead_4
    rw [if_pos (nI_le (Nat.le_refl _) (by omega))]
  | succ d ih =>
    intro i n hi hn
    obtain ⟨n, rfl⟩ : ∃ m, n = m + 1 := ⟨n - 1, by omega⟩
    unfold l_X6_ahead_4
    rw [if_neg (nI_gt (by omega) (by omega)), if_pos (inb_nI (by omega) (by decide)), ix_nI (by omega)]
    have := ih (i + 1) n (by omega) (by omega)
    by_cases ho : σ 30 i = 0
    · rw [if_pos ho, if_pos (inb_nI (by omega) (by decide)), nI_1]
      simp only [sa, if_pos ho] at this
      exact this
    · rw [if_neg ho, nI_1, Int32.add_zero]
      simp only [sa, if_neg ho] at this
      exact this
theorem m_ahead {σ : aM} {l : Nat} (hl : l ≤ 30) : f_X6_ahead (nI l) σ = some (sa (σ 29) (σ 30) l, σ) :=
  m_ahead_l hl _ l 0 lf (by omega) (by show l < 4000; omega)
theorem sa_congr {a b c d : Nat → Int32} : ∀ (l : Nat), (∀ i, i < l → a i = b i ∧ c i = d i) → sa a c l = sa b d l
  | 0, _ => rfl
  | l + 1, h => by
    simp only [sa]
    rw [sa_congr l (fun i hi => h i (by omega)), (h l (by omega)).1, (h l (by omega)).2]
end
section
/-! loops by places; rows that are written; the lamps: what is laid, levels, light -/
theorem qa_loopU {R : Type} (F : Nat → Nat → R) (N : Nat) (z : R) (hs : ∀ i n, i < N → F (n + 1) i = F n (i + 1)) (he : ∀ n, F (n + 1) N = z) : ∀ d i n, i + d = N → d < n → F n i = z := by
  intro d
  induction d with
  | zero =>
    intro i n hi hn
    obtain ⟨n, rfl⟩ : ∃ m, n = m + 1 := ⟨n - 1, by omega⟩
    obtain rfl : i = N := by omega
    exact he n
  | succ d ih =>
    intro i n hi hn
    obtain ⟨n, rfl⟩ : ∃ m, n = m + 1 := ⟨n - 1, by omega⟩
    rw [hs i n (by omega)]
    exact ih (i + 1) n (by omega) (by omega)
theorem qa_loop0 {R : Type} (F : Nat → Nat → R) (N : Nat) (z : R) (n : Nat) (hN : N < n) (hs : ∀ i n, i < N → F (n + 1) i = F n (i + 1)) (he : ∀ n, F (n + 1) N = z) : F n 0 = z :=
  qa_loopU F N z hs he N 0 n (by omega) hN
theorem lf_gt {N : Nat} (h : N < 4000) : N < lf := h
/-- the first n places of row k hold f -/
def mrow (σ : aM) (k n : Nat) (f : Nat → Int32) : aM := fun a => if a = k then (fun j => if j < n then f j else σ k j) else σ a
theorem mrow_0 {σ : aM} {k : Nat} {f : Nat → Int32} : mrow σ k 0 f = σ := by
  funext a
  by_cases h : a = k
  · subst h
    simp [mrow]
  · simp [mrow, h]
theorem mrow_s {σ : aM} {k i : Nat} {f : Nat → Int32} : mput (mrow σ k i f) k i (f i) = mrow σ k (i + 1) f := by
  funext a j
  by_cases h : a = k
  · subst h
    by_cases h2 : j = i
    · subst h2
      simp [mrow, mput, upd]
    · by_cases h3 : j < i
      · simp [mrow, mput, upd, h2, h3, show j < i + 1 by omega]
      · simp [mrow, mput, upd, h2, h3, show ¬ j < i + 1 by omega]
  · simp [mrow, mput, h]
theorem mrow_ne {σ : aM} {k n a : Nat} {f : Nat → Int32} (h : ¬ a = k) : mrow σ k n f a = σ a := if_neg h
theorem mrow_at {σ : aM} {k n j : Nat} {f : Nat → Int32} (h : j < n) : mrow σ k n f k j = f j := by
  simp [mrow, h]
theorem mrow_out {σ : aM} {k n j : Nat} {f : Nat → Int32} (h : ¬ j < n) : mrow σ k n f k j = σ k j := by
  simp [mrow, h]
theorem q10_lt {i : Nat} (h : i < 10) : ¬ (10 : Int32) ≤ nI i := nI_ge h (by decide)
theorem q10_ge : (10 : Int32) ≤ nI 10 := nI_le (Nat.le_refl _) (by decide)
theorem q4_lt {i : Nat} (h : i < 4) : ¬ (4 : Int32) ≤ nI i := nI_ge h (by decide)
theorem q4_ge : (4 : Int32) ≤ nI 4 := nI_le (Nat.le_refl _) (by decide)
theorem q_bit (y : Int32) : y &&& 1 = 0 ∨ y &&& 1 = 1 := by
  obtain ⟨j, hj, e⟩ := pk_andE y (m := 1) 1 (by decide)
  rcases (show j = 0 ∨ j = 1 by omega) with rfl | rfl
  · exact Or.inl e
  · exact Or.inr e
theorem q_le_self {k : Nat} (h : k < 2 ^ 31) : nI k ≤ nI k := nI_le (Nat.le_refl _) h
/-- what is laid: all lamps for the area, those of the colour -/
def qa_A (st ar : Nat → Int32) (s a : Int32) : Nat → Int32
  | 0 => 0
  | l + 1 => if st l = s ∧ ar l = a then qa_A st ar s a l ||| (1 <<< (nI l &&& 31)) else qa_A st ar s a l
def qa_K (st ar co : Nat → Int32) (s a c : Int32) : Nat → Int32
  | 0 => 0
  | l + 1 => if st l = s ∧ ar l = a ∧ co l = c then qa_K st ar co s a c l ||| (1 <<< (nI l &&& 31)) else qa_K st ar co s a c l
def qa_V (q : Nat) (st ar co : Nat → Int32) (s a c : Int32) : Int32 := if qa_K st ar co s a c q = 0 then qa_A st ar s a q else qa_K st ar co s a c q
theorem x_isFor {x : aM} {l : Nat} {s a : Int32} (h : l < 20) : f_X3_isFor (nI l) s a x = some (if x 22 l = s ∧ x 23 l = a then 1 else 0, x) := by
  unfold f_X3_isFor
  rw [if_pos (inb_nI h (by decide)), if_pos (inb_nI h (by decide)), ix_nI (by omega)]
  by_cases h1 : x 22 l = s
  · by_cases h2 : x 23 l = a <;> simp [h1, h2]
  · simp [h1]
theorem x_lampsFor_l {x : aM} {q : Nat} {s a c : Int32} (hq : q ≤ 20) (h48 : x 4 8 = nI q) (k : Int32 → Int32 → Int32 → aM → Option (Int32 × aM)) : l_X3_lampsFor_9 s a c lf 0 0 0 x k = k (qa_K (x 22) (x 23) (x 20) s a c q) (qa_A (x 22) (x 23) s a q) (nI q) x := by
  refine qa_loop0 (fun n i => l_X3_lampsFor_9 s a c n (qa_K (x 22) (x 23) (x 20) s a c i) (qa_A (x 22) (x 23) s a i) (nI i) x k) q _ lf (lf_gt (by omega)) (fun i n hi => ?_) (fun n => ?_)
  · show l_X3_lampsFor_9 s a c (n + 1) (qa_K (x 22) (x 23) (x 20) s a c i) (qa_A (x 22) (x 23) s a i) (nI i) x k = l_X3_lampsFor_9 s a c n (qa_K (x 22) (x 23) (x 20) s a c (i + 1)) (qa_A (x 22) (x 23) s a (i + 1)) (nI (i + 1)) x k
    rw [l_X3_lampsFor_9, h48, if_neg (nI_ge hi (by omega)), x_isFor (by omega)]
    simp only [bnd]
    rw [if_pos (inb_nI (show i < 20 by omega) (by decide)), ix_nI (by omega), nI_1]
    by_cases h1 : x 22 i = s ∧ x 23 i = a
    · by_cases h2 : x 20 i = c
      · simp [qa_A, qa_K, h1, h2]
      · simp [qa_A, qa_K, h1, h2]
    · have h3 : ¬ (x 22 i = s ∧ x 23 i = a ∧ x 20 i = c) := fun q => h1 ⟨q.1, q.2.1⟩
      simp [qa_A, qa_K, h1, h3]
  · show l_X3_lampsFor_9 s a c (n + 1) _ _ (nI q) x k = _
    rw [l_X3_lampsFor_9, h48, if_pos (q_le_self (by omega))]
theorem x_lampsFor {x : aM} {q : Nat} {s a c : Int32} (hq : q ≤ 20) (h48 : x 4 8 = nI q) : f_X3_lampsFor s a c x = some (qa_V q (x 22) (x 23) (x 20) s a c, x) := by
  unfold f_X3_lampsFor
  rw [x_lampsFor_l hq h48]
  by_cases h : qa_K (x 22) (x 23) (x 20) s a c q = 0
  · simp [qa_V, h]
  · simp [qa_V, h]
theorem x_lay {x : aM} {q : Nat} {s : Int32} (hq : q ≤ 20) (h48 : x 4 8 = nI q) : f_X3_lay s 28 x = some (0, mrow x 28 10 (fun h => qa_V q (x 22) (x 23) (x 20) s (x 9 h) (x 10 h))) := by
  have hl : ∀ k : Int32 → aM → Option (Int32 × aM), l_X3_lay_3 s 28 lf 0 x k = k (nI 10) (mrow x 28 10 (fun h => qa_V q (x 22) (x 23) (x 20) s (x 9 h) (x 10 h))) := by
    intro k
    have h0 : x = mrow x 28 0 (fun h => qa_V q (x 22) (x 23) (x 20) s (x 9 h) (x 10 h)) := mrow_0.symm
    conv => lhs; rw [h0]
    refine qa_loop0 (fun n i => l_X3_lay_3 s 28 n (nI i) (mrow x 28 i (fun h => qa_V q (x 22) (x 23) (x 20) s (x 9 h) (x 10 h))) k) 10 _ lf (lf_gt (by decide)) (fun i n hi => ?_) (fun n => ?_)
    · show l_X3_lay_3 s 28 (n + 1) (nI i) _ k = l_X3_lay_3 s 28 n (nI (i + 1)) _ k
      rw [l_X3_lay_3, if_neg (q10_lt hi), if_pos (inb_nI hi (by decide)), if_pos (inb_nI hi (by decide)), ix_nI (by omega), x_lampsFor (q := q) hq (by rw [mrow_ne (by decide)]; exact h48)]
      simp only [bnd]
      rw [if_pos (show kd 28 = 1 by decide), if_pos (show inb (nI i) (ln 28) = true from inb_nI (show i < 10 from hi) (by decide)), mrow_ne (by decide), mrow_ne (by decide), mrow_ne (by decide), mrow_ne (by decide), mrow_ne (by decide), nI_1]
      rw [← mrow_s (i := i)]
    · show l_X3_lay_3 s 28 (n + 1) (nI 10) _ k = _
      rw [l_X3_lay_3, if_pos q10_ge]
  unfold f_X3_lay
  rw [hl]
theorem m_lays {m : aM} {q h : Nat} {s : Int32} (hq : q ≤ 20) (h19 : m 6 19 = nI q) (hh : h < 10) : f_X6_lays s (nI h) m = some (qa_V q (m 40) (m 41) (m 42) s (m 32 h) (m 33 h), m) := by
  have hl : ∀ k : Int32 → Int32 → Int32 → aM → Option (Int32 × aM), l_X6_lays_8 s (nI h) lf 0 0 0 m k = k (qa_A (m 40) (m 41) s (m 32 h) q) (qa_K (m 40) (m 41) (m 42) s (m 32 h) (m 33 h) q) (nI q) m := by
    intro k
    refine qa_loop0 (fun n i => l_X6_lays_8 s (nI h) n (qa_A (m 40) (m 41) s (m 32 h) i) (qa_K (m 40) (m 41) (m 42) s (m 32 h) (m 33 h) i) (nI i) m k) q _ lf (lf_gt (by omega)) (fun i n hi => ?_) (fun n => ?_)
    · show l_X6_lays_8 s (nI h) (n + 1) (qa_A (m 40) (m 41) s (m 32 h) i) (qa_K (m 40) (m 41) (m 42) s (m 32 h) (m 33 h) i) (nI i) m k = l_X6_lays_8 s (nI h) n (qa_A (m 40) (m 41) s (m 32 h) (i + 1)) (qa_K (m 40) (m 41) (m 42) s (m 32 h) (m 33 h) (i + 1)) (nI (i + 1)) m k
      rw [l_X6_lays_8, h19, if_neg (nI_ge hi (by omega))]
      simp only [if_pos (inb_nI (show i < 20 by omega) (by decide)), if_pos (inb_nI hh (show 10 < 2 ^ 31 by decide)), ix_nI (show i < 2 ^ 31 by omega), ix_nI (show h < 2 ^ 31 by omega), nI_1]
      by_cases h1 : m 40 i = s
      · by_cases h2 : m 41 i = m 32 h
        · by_cases h3 : m 42 i = m 33 h
          · simp [qa_A, qa_K, h1, h2, h3]
          · simp [qa_A, qa_K, h1, h2, h3]
        · simp [qa_A, qa_K, h1, h2]
      · simp [qa_A, qa_K, h1]
    · show l_X6_lays_8 s (nI h) (n + 1) _ _ (nI q) m k = _
      rw [l_X6_lays_8, h19, if_pos (q_le_self (by omega))]
  unfold f_X6_lays
  rw [hl]
  by_cases h : qa_K (m 40) (m 41) (m 42) s (m 32 h) (m 33 h) q = 0
  · simp [qa_V, h]
  · simp [qa_V, h]
theorem m_laysAll {m : aM} {q : Nat} {s : Int32} (hq : q ≤ 20) (h19 : m 6 19 = nI q) : f_X6_laysAll s m = some (0, mrow m 50 10 (fun h => qa_V q (m 40) (m 41) (m 42) s (m 32 h) (m 33 h))) := by
  have hl : ∀ k : Int32 → aM → Option (Int32 × aM), l_X6_laysAll_2 s lf 0 m k = k (nI 10) (mrow m 50 10 (fun h => qa_V q (m 40) (m 41) (m 42) s (m 32 h) (m 33 h))) := by
    intro k
    have h0 : m = mrow m 50 0 (fun h => qa_V q (m 40) (m 41) (m 42) s (m 32 h) (m 33 h)) := mrow_0.symm
    conv => lhs; rw [h0]
    refine qa_loop0 (fun n i => l_X6_laysAll_2 s n (nI i) (mrow m 50 i (fun h => qa_V q (m 40) (m 41) (m 42) s (m 32 h) (m 33 h))) k) 10 _ lf (lf_gt (by decide)) (fun i n hi => ?_) (fun n => ?_)
    · show l_X6_laysAll_2 s (n + 1) (nI i) _ k = l_X6_laysAll_2 s n (nI (i + 1)) _ k
      rw [l_X6_laysAll_2, if_neg (q10_lt hi), m_lays (q := q) hq (by rw [mrow_ne (by decide)]; exact h19) hi]
      simp only [bnd]
      rw [if_pos (inb_nI hi (by decide)), ix_nI (by omega), mrow_ne (by decide), mrow_ne (by decide), mrow_ne (by decide), mrow_ne (by decide), mrow_ne (by decide), nI_1]
      rw [← mrow_s (i := i)]
    · show l_X6_laysAll_2 s (n + 1) (nI 10) _ k = _
      rw [l_X6_laysAll_2, if_pos q10_ge]
  unfold f_X6_laysAll
  rw [hl]
/-- the level of a lamp by the channels' levels -/
def qa_M (ld lv : Nat → Int32) (l : Nat) : Nat → Int32
  | 0 => 0
  | h + 1 => if qa_M ld lv l h < lv h ∧ (ld h >>> (nI l &&& 31)) &&& 1 = 1 then lv h else qa_M ld lv l h
def qa_L (we ld lv : Nat → Int32) (l : Nat) : Int32 := if we l < 300 then qa_M ld lv l 10 else 0
theorem x_levelOf {x : aM} {l a5 : Nat} {ld lv : Nat → Int32} (hl : l < 20) (hk : kd a5 = 1) (hn : ln a5 = 10) (h1 : ∀ h, h < 10 → x 28 h = ld h) (h2 : ∀ h, h < 10 → x a5 h = lv h) : f_X3_levelOf (nI l) 28 a5 x = some (qa_L (x 24) ld lv l, x) := by
  have hlp : ∀ k : Int32 → Int32 → aM → Option (Int32 × aM), l_X3_levelOf_20 (nI l) 28 a5 lf 0 0 x k = k (qa_M ld lv l 10) (nI 10) x := by
    intro k
    refine qa_loop0 (fun n i => l_X3_levelOf_20 (nI l) 28 a5 n (qa_M ld lv l i) (nI i) x k) 10 _ lf (lf_gt (by decide)) (fun i n hi => ?_) (fun n => ?_)
    · show l_X3_levelOf_20 (nI l) 28 a5 (n + 1) (qa_M ld lv l i) (nI i) x k = l_X3_levelOf_20 (nI l) 28 a5 n (qa_M ld lv l (i + 1)) (nI (i + 1)) x k
      rw [l_X3_levelOf_20, if_neg (q10_lt hi), if_pos (show kd 28 = 1 by decide), if_pos (show inb (nI i) (ln 28) = true from inb_nI (show i < 10 from hi) (by decide))]
      simp only [if_pos hk, hn, if_pos (inb_nI hi (show 10 < 2 ^ 31 by decide)), ix_nI (show i < 2 ^ 31 by omega), h1 i hi, h2 i hi, nI_1]
      by_cases hb : (ld i >>> (nI l &&& 31)) &&& 1 = 0
      · have hb1 : ¬ (ld i >>> (nI l &&& 31)) &&& 1 = 1 := by rw [hb]; decide
        rw [if_pos hb]
        simp only [qa_M, hb1, and_false, ↓reduceIte]
      · have hb1 : (ld i >>> (nI l &&& 31)) &&& 1 = 1 := (q_bit _).resolve_left hb
        rw [if_neg hb]
        by_cases hc : lv i ≤ qa_M ld lv l i
        · rw [if_pos hc]
          simp only [qa_M, hb1, and_true, if_neg (i_nlt.mpr hc)]
        · rw [if_neg hc]
          simp only [qa_M, hb1, and_true, if_pos (i_nle.mp hc)]
    · show l_X3_levelOf_20 (nI l) 28 a5 (n + 1) _ (nI 10) x k = _
      rw [l_X3_levelOf_20, if_pos q10_ge]
  unfold f_X3_levelOf
  rw [if_pos (inb_nI hl (by decide)), ix_nI (by omega), hlp]
  unfold qa_L
  by_cases h : x 24 l < 300
  · rw [if_pos h, if_pos h]
  · rw [if_neg h, if_neg h]
theorem m_lampNow {m : aM} {l : Nat} {ld lv : Nat → Int32} (hl : l < 20) (h1 : ∀ h, h < 10 → m 50 h = ld h) (h2 : ∀ h, h < 10 → m 51 h = lv h) : f_X6_lampNow (nI l) m = some (qa_L (m 44) ld lv l, m) := by
  unfold f_X6_lampNow qa_L
  by_cases hw : m 44 l < 300
  · rw [if_pos hw]
    refine qa_loop0 (fun n i => l_X6_lampNow_4 (nI l) n (qa_M ld lv l i) (nI i) m (fun v13 v14 σ15 => some (v13, σ15))) 10 _ lf (lf_gt (by decide)) (fun i n hi => ?_) (fun n => ?_)
    · show l_X6_lampNow_4 (nI l) (n + 1) (qa_M ld lv l i) (nI i) m _ = l_X6_lampNow_4 (nI l) n (qa_M ld lv l (i + 1)) (nI (i + 1)) m _
      rw [l_X6_lampNow_4, if_neg (q10_lt hi), if_pos (inb_nI hl (by decide)), ix_nI (show l < 2 ^ 31 by omega), if_neg (i_nle.mpr hw)]
      simp only [if_pos (inb_nI hi (show 10 < 2 ^ 31 by decide)), ix_nI (show i < 2 ^ 31 by omega), h1 i hi, h2 i hi, nI_1]
      by_cases hc : lv i ≤ qa_M ld lv l i
      · rw [if_pos hc]
        simp only [qa_M, if_neg (fun q : qa_M ld lv l i < lv i ∧ _ => i_nlt.mpr hc q.1)]
      · rw [if_neg hc]
        by_cases hb1 : (ld i >>> (nI l &&& 31)) &&& 1 = 1
        · rw [if_neg (fun q => q hb1)]
          simp only [qa_M, hb1, and_true, if_pos (i_nle.mp hc)]
        · rw [if_pos hb1]
          simp only [qa_M, hb1, and_false, ↓reduceIte]
    · show l_X6_lampNow_4 (nI l) (n + 1) _ (nI 10) m _ = _
      rw [l_X6_lampNow_4, if_pos q10_ge]
  · rw [if_neg hw, show lf = 3999 + 1 from rfl, l_X6_lampNow_4, if_neg (show ¬ (10 : Int32) ≤ 0 by decide), if_pos (inb_nI hl (by decide)), ix_nI (show l < 2 ^ 31 by omega), if_pos (i_nlt.mp hw)]
/-- the light of an area -/
def qa_S (st ar po we ld lv : Nat → Int32) (s a : Int32) : Nat → Int32
  | 0 => 0
  | l + 1 => if st l = s ∧ ar l = a then qa_S st ar po we ld lv s a l + (qa_L we ld lv l * po l) / 100 else qa_S st ar po we ld lv s a l
def qa_T (q : Nat) (st ar po we ld lv : Nat → Int32) (s a : Int32) : Int32 := if 100 ≤ qa_S st ar po we ld lv s a q then 100 else qa_S st ar po we ld lv s a q
theorem x_lightOf {x : aM} {q a5 : Nat} {s a : Int32} {ld lv : Nat → Int32} (hq : q ≤ 20) (h48 : x 4 8 = nI q) (hk : kd a5 = 1) (hn : ln a5 = 10) (h1 : ∀ h, h < 10 → x 28 h = ld h) (h2 : ∀ h, h < 10 → x a5 h = lv h) : f_X3_lightOf s a 28 a5 x = some (qa_T q (x 22) (x 23) (x 21) (x 24) ld lv s a, x) := by
  have hlp : ∀ k : Int32 → Int32 → aM → Option (Int32 × aM), l_X3_lightOf_6 s a 28 a5 lf 0 0 x k = k (qa_S (x 22) (x 23) (x 21) (x 24) ld lv s a q) (nI q) x := by
    intro k
    refine qa_loop0 (fun n i => l_X3_lightOf_6 s a 28 a5 n (qa_S (x 22) (x 23) (x 21) (x 24) ld lv s a i) (nI i) x k) q _ lf (lf_gt (by omega)) (fun i n hi => ?_) (fun n => ?_)
    · show l_X3_lightOf_6 s a 28 a5 (n + 1) (qa_S (x 22) (x 23) (x 21) (x 24) ld lv s a i) (nI i) x k = l_X3_lightOf_6 s a 28 a5 n (qa_S (x 22) (x 23) (x 21) (x 24) ld lv s a (i + 1)) (nI (i + 1)) x k
      rw [l_X3_lightOf_6, h48, if_neg (nI_ge hi (by omega)), x_isFor (by omega)]
      simp only [bnd]
      rw [x_levelOf (show i < 20 by omega) hk hn h1 h2]
      simp only [if_pos (inb_nI (show i < 20 by omega) (by decide)), ix_nI (show i < 2 ^ 31 by omega), nI_1]
      by_cases hc : x 22 i = s ∧ x 23 i = a
      · simp [qa_S, hc]
      · simp [qa_S, hc]
    · show l_X3_lightOf_6 s a 28 a5 (n + 1) _ (nI q) x k = _
      rw [l_X3_lightOf_6, h48, if_pos (q_le_self (by omega))]
  unfold f_X3_lightOf
  rw [hlp]
  unfold qa_T
  by_cases h : 100 ≤ qa_S (x 22) (x 23) (x 21) (x 24) ld lv s a q
  · rw [if_pos h, if_pos h]
  · rw [if_neg h, if_neg h]
theorem m_lightNow {m : aM} {q : Nat} {s a : Int32} {ld lv : Nat → Int32} (hq : q ≤ 20) (h19 : m 6 19 = nI q) (h1 : ∀ h, h < 10 → m 50 h = ld h) (h2 : ∀ h, h < 10 → m 51 h = lv h) : f_X6_lightNow s a m = some (qa_T q (m 40) (m 41) (m 43) (m 44) ld lv s a, m) := by
  have hlp : ∀ k : Int32 → Int32 → aM → Option (Int32 × aM), l_X6_lightNow_5 s a lf 0 0 m k = k (qa_S (m 40) (m 41) (m 43) (m 44) ld lv s a q) (nI q) m := by
    intro k
    refine qa_loop0 (fun n i => l_X6_lightNow_5 s a n (qa_S (m 40) (m 41) (m 43) (m 44) ld lv s a i) (nI i) m k) q _ lf (lf_gt (by omega)) (fun i n hi => ?_) (fun n => ?_)
    · show l_X6_lightNow_5 s a (n + 1) (qa_S (m 40) (m 41) (m 43) (m 44) ld lv s a i) (nI i) m k = l_X6_lightNow_5 s a n (qa_S (m 40) (m 41) (m 43) (m 44) ld lv s a (i + 1)) (nI (i + 1)) m k
      rw [l_X6_lightNow_5, h19, if_neg (nI_ge hi (by omega))]
      simp only [if_pos (inb_nI (show i < 20 by omega) (show 20 < 2 ^ 31 by decide)), ix_nI (show i < 2 ^ 31 by omega), nI_1]
      rw [m_lampNow (show i < 20 by omega) h1 h2]
      simp only [bnd]
      by_cases hc : m 40 i = s
      · by_cases hd : m 41 i = a
        · simp [qa_S, hc, hd]
        · simp [qa_S, hc, hd]
      · simp [qa_S, hc]
    · show l_X6_lightNow_5 s a (n + 1) _ (nI q) m k = _
      rw [l_X6_lightNow_5, h19, if_pos (q_le_self (by omega))]
  unfold f_X6_lightNow
  rw [hlp]
  unfold qa_T
  by_cases h : 100 ≤ qa_S (m 40) (m 41) (m 43) (m 44) ld lv s a q
  · by_cases h3 : qa_S (m 40) (m 41) (m 43) (m 44) ld lv s a q ≤ 100
    · rw [if_pos h, if_pos h3, Int32.le_antisymm h3 h]
    · rw [if_pos h, if_neg h3]
  · rw [if_neg h, if_pos (Int32.le_of_lt (i_nle.mp h))]
end
section
/-! the levels of the channels: fade by fade, second by second, and the reference's -/
theorem qa_loopL {R : Type} (F : Nat → Nat → R) (L N : Nat) (z : R) (hs : ∀ i n, L ≤ i → i < N → F (n + 1) i = F n (i + 1)) (he : ∀ n, F (n + 1) N = z) : ∀ d i n, L ≤ i → i + d = N → d < n → F n i = z := by
  intro d
  induction d with
  | zero =>
    intro i n hL hi hn
    obtain ⟨n, rfl⟩ : ∃ m, n = m + 1 := ⟨n - 1, by omega⟩
    obtain rfl : i = N := by omega
    exact he n
  | succ d ih =>
    intro i n hL hi hn
    obtain ⟨n, rfl⟩ : ∃ m, n = m + 1 := ⟨n - 1, by omega⟩
    rw [hs i n hL (by omega)]
    exact ih (i + 1) n (by omega) (by omega) (by omega)
def qb_B (p f a b : Int32) : Int32 := if f ≤ 0 then b else if p < f then a + ((b - a) * p) / f else b
theorem x_behind {p f a b : Int32} {σ : aM} : f_X1_levelBehind p f a b σ = some (qb_B p f a b, σ) := by
  unfold f_X1_levelBehind qb_B
  by_cases h : f ≤ 0
  · rw [if_pos h, if_pos h]
  · have h0 : ¬ f = 0 := fun q => h (by rw [q]; exact Int32.le_refl 0)
    rw [if_neg h, if_neg h]
    by_cases h2 : p < f
    · rw [if_pos h2, if_pos h2, if_pos h0]
    · rw [if_neg h2, if_neg h2]
theorem m_behind {a b : Int32} {K N : Nat} {σ : aM} (hK : K < 2 ^ 31) (hN : N < 2 ^ 31) : f_X6_behind a b (nI K) (nI N) σ = some (qb_B (nI K) (nI N) a b, σ) := by
  unfold f_X6_behind qb_B
  by_cases h : N = 0
  · subst h
    rw [if_neg (nI_nlt (Nat.zero_le K) hK), if_pos (show nI 0 ≤ 0 from Int32.le_refl 0)]
  · have h1 : ¬ nI N ≤ 0 := nI_nle (by omega) hN
    have h0 : ¬ nI N = 0 := nI_ne0 (by omega) hN
    rw [if_neg h1]
    by_cases h2 : nI K < nI N
    · rw [if_pos h2, if_pos h2, if_pos h0]
    · rw [if_neg h2, if_neg h2]
/-- from, to, begin and fade behind j plays -/
def qb_S (tm mk fd : Nat → Int32) : Nat → Int32 × Int32 × Int32 × Int32
  | 0 => (0, 0, 0, 0)
  | j + 1 => if mk j = -1 then qb_S tm mk fd j else (qb_B (tm j - (qb_S tm mk fd j).2.2.1) (qb_S tm mk fd j).2.2.2 (qb_S tm mk fd j).1 (qb_S tm mk fd j).2.1, mk j, tm j, fd j)
/-- how many are played up to a time -/
def qb_J (tm : Nat → Int32) (t : Int32) : Nat → Nat
  | 0 => 0
  | c + 1 => if tm c ≤ t then c + 1 else qb_J tm t c
def qb_E (s : Int32 × Int32 × Int32 × Int32) (t : Int32) : Int32 := qb_B (t - s.2.2.1) s.2.2.2 s.1 s.2.1
def qb_L (c : Nat) (tm mk fd : Nat → Int32) (t : Int32) : Int32 := qb_E (qb_S tm mk fd (qb_J tm t c)) t
theorem qb_J_le {tm : Nat → Int32} {t : Int32} : ∀ c : Nat, qb_J tm t c ≤ c
  | 0 => Nat.le_refl _
  | c + 1 => by
    have := qb_J_le (tm := tm) (t := t) c
    unfold qb_J
    split <;> omega
theorem qb_J_iff {tm : Nat → Int32} {t : Int32} : ∀ c : Nat, (∀ i j, i < j → j < c → tm i ≤ tm j) → ∀ j, j < c → (j < qb_J tm t c ↔ tm j ≤ t)
  | 0, _, j, h => absurd h (Nat.not_lt_zero j)
  | c + 1, hs, j, hj => by
    have hle := qb_J_le (tm := tm) (t := t) c
    unfold qb_J
    by_cases h : tm c ≤ t
    · rw [if_pos h]
      refine ⟨fun _ => ?_, fun _ => hj⟩
      by_cases e : j = c
      · rw [e]; exact h
      · exact Int32.le_trans (hs j c (by omega) (by omega)) h
    · rw [if_neg h]
      by_cases e : j = c
      · subst e
        exact ⟨fun q => absurd q (by omega), fun q => absurd q h⟩
      · exact qb_J_iff c (fun i j h1 h2 => hs i j h1 (by omega)) j (by omega)
theorem qb_S_skip {tm mk fd : Nat → Int32} {j : Nat} (h : mk j = -1) : qb_S tm mk fd (j + 1) = qb_S tm mk fd j := by
  rw [qb_S, if_pos h]
theorem qb_S_step {tm mk fd : Nat → Int32} {j : Nat} (h : ¬ mk j = -1) : qb_S tm mk fd (j + 1) = (qb_E (qb_S tm mk fd j) (tm j), mk j, tm j, fd j) := by
  rw [qb_S, if_neg h]
  rfl
theorem x_fades_g {x : aM} {c h : Nat} {t : Int32} {tm mk fd : Nat → Int32} (hc : c ≤ 20) (h310 : x 3 10 = nI c) (hh : h < 10) (hb : ∀ j, j < c → inb (x 17 j) 20 = true) (h15 : ∀ j, j < c → x 15 (ix (x 17 j)) = tm j) (h108 : ∀ j, j < c → x (108 + ix (x 17 j)) h = mk j) (h13 : ∀ j, j < c → x 13 (ix (x 17 j)) = fd j) (hs : ∀ i j, i < j → j < c → tm i ≤ tm j) : f_X1_levelByFades (nI h) t x = some (qb_L c tm mk fd t, x) := by
  have hJ := qb_J_le (tm := tm) (t := t) c
  have hl : ∀ k : Int32 → Int32 → Int32 → Int32 → Int32 → aM → Option (Int32 × aM), l_X1_levelByFades_14 (nI h) t lf 0 0 0 0 0 x k = k (qb_S tm mk fd (qb_J tm t c)).1 (qb_S tm mk fd (qb_J tm t c)).2.1 (qb_S tm mk fd (qb_J tm t c)).2.2.1 (qb_S tm mk fd (qb_J tm t c)).2.2.2 (nI (qb_J tm t c)) x := by
    intro k
    refine qa_loop0 (fun n j => l_X1_levelByFades_14 (nI h) t n (qb_S tm mk fd j).1 (qb_S tm mk fd j).2.1 (qb_S tm mk fd j).2.2.1 (qb_S tm mk fd j).2.2.2 (nI j) x k) (qb_J tm t c) _ lf (lf_gt (by omega)) (fun j n hj => ?_) (fun n => ?_)
    · show l_X1_levelByFades_14 (nI h) t (n + 1) (qb_S tm mk fd j).1 (qb_S tm mk fd j).2.1 (qb_S tm mk fd j).2.2.1 (qb_S tm mk fd j).2.2.2 (nI j) x k = l_X1_levelByFades_14 (nI h) t n (qb_S tm mk fd (j + 1)).1 (qb_S tm mk fd (j + 1)).2.1 (qb_S tm mk fd (j + 1)).2.2.1 (qb_S tm mk fd (j + 1)).2.2.2 (nI (j + 1)) x k
      have hjc : j < c := by omega
      have hle : tm j ≤ t := (qb_J_iff c hs j hjc).mp hj
      rw [l_X1_levelByFades_14, h310, if_neg (nI_ge hjc (by omega))]
      simp only [if_pos (inb_nI (show j < 20 by omega) (show 20 < 2 ^ 31 by decide)), ix_nI (show j < 2 ^ 31 by omega), if_pos (hb j hjc), h15 j hjc, if_neg (i_nlt.mpr hle), if_pos (inb_nI hh (show 10 < 2 ^ 31 by decide)), ix_nI (show h < 2 ^ 31 by omega), h108 j hjc, x_behind, bnd, h13 j hjc, nI_1]
      by_cases hm : mk j = -1
      · rw [if_pos hm, qb_S_skip hm]
      · rw [if_neg hm, qb_S_step hm]
        rfl
    · show l_X1_levelByFades_14 (nI h) t (n + 1) _ _ _ _ (nI (qb_J tm t c)) x k = _
      rw [l_X1_levelByFades_14, h310]
      by_cases hjc : qb_J tm t c < c
      · have hgt : ¬ tm (qb_J tm t c) ≤ t := fun q => absurd ((qb_J_iff c hs _ hjc).mpr q) (Nat.lt_irrefl _)
        rw [if_neg (nI_ge hjc (by omega))]
        simp only [if_pos (inb_nI (show qb_J tm t c < 20 by omega) (show 20 < 2 ^ 31 by decide)), ix_nI (show qb_J tm t c < 2 ^ 31 by omega), if_pos (hb _ hjc), h15 _ hjc, if_pos (i_nle.mp hgt)]
      · rw [if_pos (nI_le (by omega) (by omega))]
  unfold f_X1_levelByFades
  rw [hl]
  simp only [x_behind, bnd]
  rfl
def qb_js (tm : Nat → Int32) (c : Nat) : Nat → Nat
  | 0 => 0
  | s + 1 => qb_J tm (nI s) c
def qb_V (tm mk fd : Nat → Int32) (c : Nat) : Nat → Int32
  | 0 => 0
  | s + 1 => qb_E (qb_S tm mk fd (qb_js tm c (s + 1))) (nI s)
theorem q_sub1 (a b : Int32) : a - b + 1 = a + 1 - b := by
  rw [Int32.sub_eq_add_neg, Int32.sub_eq_add_neg, Int32.add_assoc, Int32.add_comm (-b) 1, ← Int32.add_assoc]
theorem x_ticks_g {x : aM} {c h t : Nat} {tm mk fd : Nat → Int32} {T : Nat → Nat} (hc : c ≤ 20) (h310 : x 3 10 = nI c) (hh : h < 10) (ht : t ≤ 2000) (hb : ∀ j, j < c → inb (x 17 j) 20 = true) (h15 : ∀ j, j < c → x 15 (ix (x 17 j)) = tm j) (h108 : ∀ j, j < c → x (108 + ix (x 17 j)) h = mk j) (h13 : ∀ j, j < c → x 13 (ix (x 17 j)) = fd j) (hs : ∀ i j, i < j → j < c → tm i ≤ tm j) (hT : ∀ j, j < c → tm j = nI (T j) ∧ T j < 5000) : f_X1_levelByTicks (nI h) (nI t) x = some (qb_L c tm mk fd (nI t), x) := by
  have jsle : ∀ s, qb_js tm c s ≤ c := fun s => match s with
    | 0 => Nat.zero_le _
    | s + 1 => qb_J_le c
  have jsiff : ∀ s, s ≤ 2001 → ∀ j, j < c → (j < qb_js tm c s ↔ T j < s) := fun s hs9 j hj => match s, hs9 with
    | 0, _ => ⟨fun q => absurd q (Nat.not_lt_zero _), fun q => absurd q (Nat.not_lt_zero _)⟩
    | s + 1, hs9 => by
      show j < qb_J tm (nI s) c ↔ _
      rw [qb_J_iff c hs j hj, (hT j hj).1, nI_leI (by have := (hT j hj).2; omega) (by omega)]
      omega
  have jsmono : ∀ s, s ≤ 2000 → qb_js tm c s ≤ qb_js tm c (s + 1) := fun s hs9 => by
    have h1 := jsle s
    have h2 := jsle (s + 1)
    by_cases hlt : qb_js tm c (s + 1) < qb_js tm c s
    · have h3 : qb_js tm c (s + 1) < c := by omega
      have h4 := (jsiff s (by omega) _ h3).mp hlt
      have h5 := (jsiff (s + 1) (by omega) _ h3).mpr (by omega)
      omega
    · omega
  have inner : ∀ s, s ≤ t → ∀ k : Int32 → Int32 → Int32 → Int32 → Int32 → Int32 → aM → Option (Int32 × aM), l_X1_levelByTicks_38 (nI h) (nI t) (nI s) lf (qb_E (qb_S tm mk fd (qb_js tm c s)) (nI s)) (qb_S tm mk fd (qb_js tm c s)).1 (qb_S tm mk fd (qb_js tm c s)).2.1 (nI s - (qb_S tm mk fd (qb_js tm c s)).2.2.1) (qb_S tm mk fd (qb_js tm c s)).2.2.2 (nI (qb_js tm c s)) x k = k (qb_E (qb_S tm mk fd (qb_js tm c (s + 1))) (nI s)) (qb_S tm mk fd (qb_js tm c (s + 1))).1 (qb_S tm mk fd (qb_js tm c (s + 1))).2.1 (nI s - (qb_S tm mk fd (qb_js tm c (s + 1))).2.2.1) (qb_S tm mk fd (qb_js tm c (s + 1))).2.2.2 (nI (qb_js tm c (s + 1))) x := by
    intro s hst k
    have h1 := jsle s
    have h2 := jsle (s + 1)
    have h3 := jsmono s (by omega)
    refine qa_loopL (fun n j => l_X1_levelByTicks_38 (nI h) (nI t) (nI s) n (qb_E (qb_S tm mk fd j) (nI s)) (qb_S tm mk fd j).1 (qb_S tm mk fd j).2.1 (nI s - (qb_S tm mk fd j).2.2.1) (qb_S tm mk fd j).2.2.2 (nI j) x k) (qb_js tm c s) (qb_js tm c (s + 1)) _ (fun j n hL hj => ?_) (fun n => ?_) (qb_js tm c (s + 1) - qb_js tm c s) (qb_js tm c s) lf (Nat.le_refl _) (by omega) (lf_gt (by omega))
    · show l_X1_levelByTicks_38 (nI h) (nI t) (nI s) (n + 1) (qb_E (qb_S tm mk fd j) (nI s)) (qb_S tm mk fd j).1 (qb_S tm mk fd j).2.1 (nI s - (qb_S tm mk fd j).2.2.1) (qb_S tm mk fd j).2.2.2 (nI j) x k = l_X1_levelByTicks_38 (nI h) (nI t) (nI s) n (qb_E (qb_S tm mk fd (j + 1)) (nI s)) (qb_S tm mk fd (j + 1)).1 (qb_S tm mk fd (j + 1)).2.1 (nI s - (qb_S tm mk fd (j + 1)).2.2.1) (qb_S tm mk fd (j + 1)).2.2.2 (nI (j + 1)) x k
      have hjc : j < c := by omega
      have h4 := (jsiff (s + 1) (by omega) j hjc).mp hj
      have h5 : ¬ T j < s := fun q => absurd ((jsiff s (by omega) j hjc).mpr q) (by omega)
      have e : tm j = nI s := by rw [(hT j hjc).1, show T j = s by omega]
      rw [l_X1_levelByTicks_38, h310, if_neg (nI_ge hjc (by omega))]
      simp only [if_pos (inb_nI (show j < 20 by omega) (show 20 < 2 ^ 31 by decide)), ix_nI (show j < 2 ^ 31 by omega), if_pos (hb j hjc), h15 j hjc, if_pos (inb_nI hh (show 10 < 2 ^ 31 by decide)), ix_nI (show h < 2 ^ 31 by omega), h108 j hjc, x_behind, bnd, h13 j hjc, nI_1]
      rw [if_neg (fun q => q e)]
      by_cases hm : mk j = -1
      · rw [if_pos hm, qb_S_skip hm]
      · rw [if_neg hm, qb_S_step hm, e]
        show l_X1_levelByTicks_38 (nI h) (nI t) (nI s) n (qb_B 0 (fd j) (qb_E (qb_S tm mk fd j) (nI s)) (mk j)) (qb_E (qb_S tm mk fd j) (nI s)) (mk j) 0 (fd j) (nI (j + 1)) x k = l_X1_levelByTicks_38 (nI h) (nI t) (nI s) n (qb_B (nI s - nI s) (fd j) (qb_E (qb_S tm mk fd j) (nI s)) (mk j)) (qb_E (qb_S tm mk fd j) (nI s)) (mk j) (nI s - nI s) (fd j) (nI (j + 1)) x k
        rw [Int32.sub_self]
    · show l_X1_levelByTicks_38 (nI h) (nI t) (nI s) (n + 1) _ _ _ _ _ (nI (qb_js tm c (s + 1))) x k = _
      rw [l_X1_levelByTicks_38, h310]
      by_cases hjc : qb_js tm c (s + 1) < c
      · have hgt : ¬ T (qb_js tm c (s + 1)) < s + 1 := fun q => absurd ((jsiff (s + 1) (by omega) _ hjc).mpr q) (Nat.lt_irrefl _)
        have hne : ¬ tm (qb_js tm c (s + 1)) = nI s := fun q => by
          have h9 := hT _ hjc
          rw [h9.1, nI_eq (by omega) (by omega)] at q
          omega
        rw [if_neg (nI_ge hjc (by omega))]
        simp only [if_pos (inb_nI (show qb_js tm c (s + 1) < 20 by omega) (show 20 < 2 ^ 31 by decide)), ix_nI (show qb_js tm c (s + 1) < 2 ^ 31 by omega), if_pos (hb _ hjc), h15 _ hjc]
        rw [if_pos hne]
      · rw [if_pos (nI_le (by omega) (by omega))]
  have hl : ∀ k : Int32 → Int32 → Int32 → Int32 → Int32 → Int32 → Int32 → aM → Option (Int32 × aM), l_X1_levelByTicks_20 (nI h) (nI t) lf 0 0 0 0 0 0 0 x k = k (qb_V tm mk fd c (t + 1)) (qb_S tm mk fd (qb_js tm c (t + 1))).1 (qb_S tm mk fd (qb_js tm c (t + 1))).2.1 (nI (t + 1) - (qb_S tm mk fd (qb_js tm c (t + 1))).2.2.1) (qb_S tm mk fd (qb_js tm c (t + 1))).2.2.2 (nI (qb_js tm c (t + 1))) (nI (t + 1)) x := by
    intro k
    have key : l_X1_levelByTicks_20 (nI h) (nI t) lf (qb_V tm mk fd c 0) (qb_S tm mk fd (qb_js tm c 0)).1 (qb_S tm mk fd (qb_js tm c 0)).2.1 (nI 0 - (qb_S tm mk fd (qb_js tm c 0)).2.2.1) (qb_S tm mk fd (qb_js tm c 0)).2.2.2 (nI (qb_js tm c 0)) (nI 0) x k = k (qb_V tm mk fd c (t + 1)) (qb_S tm mk fd (qb_js tm c (t + 1))).1 (qb_S tm mk fd (qb_js tm c (t + 1))).2.1 (nI (t + 1) - (qb_S tm mk fd (qb_js tm c (t + 1))).2.2.1) (qb_S tm mk fd (qb_js tm c (t + 1))).2.2.2 (nI (qb_js tm c (t + 1))) (nI (t + 1)) x := by
      refine qa_loop0 (fun n s => l_X1_levelByTicks_20 (nI h) (nI t) n (qb_V tm mk fd c s) (qb_S tm mk fd (qb_js tm c s)).1 (qb_S tm mk fd (qb_js tm c s)).2.1 (nI s - (qb_S tm mk fd (qb_js tm c s)).2.2.1) (qb_S tm mk fd (qb_js tm c s)).2.2.2 (nI (qb_js tm c s)) (nI s) x k) (t + 1) _ lf (lf_gt (by omega)) (fun s n hst => ?_) (fun n => ?_)
      · show l_X1_levelByTicks_20 (nI h) (nI t) (n + 1) (qb_V tm mk fd c s) (qb_S tm mk fd (qb_js tm c s)).1 (qb_S tm mk fd (qb_js tm c s)).2.1 (nI s - (qb_S tm mk fd (qb_js tm c s)).2.2.1) (qb_S tm mk fd (qb_js tm c s)).2.2.2 (nI (qb_js tm c s)) (nI s) x k = l_X1_levelByTicks_20 (nI h) (nI t) n (qb_V tm mk fd c (s + 1)) (qb_S tm mk fd (qb_js tm c (s + 1))).1 (qb_S tm mk fd (qb_js tm c (s + 1))).2.1 (nI (s + 1) - (qb_S tm mk fd (qb_js tm c (s + 1))).2.2.1) (qb_S tm mk fd (qb_js tm c (s + 1))).2.2.2 (nI (qb_js tm c (s + 1))) (nI (s + 1)) x k
        rw [l_X1_levelByTicks_20, if_neg (nI_nlt (by omega) (by omega)), x_behind]
        rw [show qb_B (nI s - (qb_S tm mk fd (qb_js tm c s)).2.2.1) (qb_S tm mk fd (qb_js tm c s)).2.2.2 (qb_S tm mk fd (qb_js tm c s)).1 (qb_S tm mk fd (qb_js tm c s)).2.1 = qb_E (qb_S tm mk fd (qb_js tm c s)) (nI s) from rfl]
        simp only [bnd]
        rw [inner s (by omega)]
        rw [q_sub1, nI_1]
        rfl
      · show l_X1_levelByTicks_20 (nI h) (nI t) (n + 1) _ _ _ _ _ _ (nI (t + 1)) x k = _
        rw [l_X1_levelByTicks_20, if_pos (nI_lt (by omega) (by omega))]
    have h00 : nI 0 - (qb_S tm mk fd (qb_js tm c 0)).2.2.1 = 0 := by
      show nI 0 - 0 = (0 : Int32)
      decide
    rw [h00] at key
    exact key
  unfold f_X1_levelByTicks
  rw [hl]
  rfl
theorem qb_inv {c : Nat} {tm mk fd : Nat → Int32} {T N : Nat → Nat} (hT : ∀ j, j < c → tm j = nI (T j)) (hN : ∀ j, j < c → fd j = nI (N j) ∧ N j ≤ 60) : ∀ j, j ≤ c → ∃ B M, (qb_S tm mk fd j).2.2.1 = nI B ∧ (qb_S tm mk fd j).2.2.2 = nI M ∧ M ≤ 60 ∧ (B = 0 ∨ ∃ i, i < j ∧ B = T i) := by
  intro j
  induction j with
  | zero => exact fun _ => ⟨0, 0, rfl, rfl, by omega, Or.inl rfl⟩
  | succ j ih =>
    intro hj
    by_cases hm : mk j = -1
    · rw [qb_S_skip hm]
      obtain ⟨B, M, h1, h2, h3, h4⟩ := ih (by omega)
      refine ⟨B, M, h1, h2, h3, ?_⟩
      rcases h4 with h4 | ⟨i, hi, h4⟩
      · exact Or.inl h4
      · exact Or.inr ⟨i, by omega, h4⟩
    · rw [qb_S_step hm]
      exact ⟨T j, N j, hT j (by omega), (hN j (by omega)).1, (hN j (by omega)).2, Or.inr ⟨j, by omega, rfl⟩⟩
theorem m_level_g {m : aM} {c h t : Nat} {tm mk fd : Nat → Int32} {T N : Nat → Nat} (hc : c ≤ 20) (h25 : m 6 25 = nI c) (ht : t ≤ 5000) (hb : ∀ j, j < c → inb (m 48 j) 20 = true) (hw : ∀ j, j < c → f_X6_when (m 47 (ix (m 48 j))) m = some (tm j, m)) (hch : ∀ j, j < c → f_X6_changesAt (m 48 j) (nI h) m = some (mk j, m)) (hb2 : ∀ j, j < c → inb (m 47 (ix (m 48 j))) 20 = true) (hf : ∀ j, j < c → m 36 (ix (m 47 (ix (m 48 j)))) = fd j) (hs : ∀ i j, i < j → j < c → tm i ≤ tm j) (hT : ∀ j, j < c → tm j = nI (T j) ∧ T j < 5000) (hN : ∀ j, j < c → fd j = nI (N j) ∧ N j ≤ 60) : f_X6_level (nI h) (nI t) m = some (qb_L c tm mk fd (nI t), m) := by
  have hJ := qb_J_le (tm := tm) (t := nI t) c
  have hinv := qb_inv (mk := mk) (fun j hj => (hT j hj).1) hN
  have hsT : ∀ i j, i < j → j < c → T i ≤ T j := fun i j h1 h2 => by
    have h3 := hs i j h1 h2
    have h4 := hT i (by omega)
    have h5 := hT j h2
    rw [h4.1, h5.1, nI_leI (by omega) (by omega)] at h3
    exact h3
  have hl : ∀ k : Int32 → Int32 → Int32 → Int32 → Int32 → aM → Option (Int32 × aM), l_X6_level_14 (nI h) (nI t) lf 0 0 0 0 0 m k = k (qb_S tm mk fd (min c (qb_J tm (nI t) c))).1 (qb_S tm mk fd (min c (qb_J tm (nI t) c))).2.1 (qb_S tm mk fd (min c (qb_J tm (nI t) c))).2.2.1 (qb_S tm mk fd (min c (qb_J tm (nI t) c))).2.2.2 (nI c) m := by
    intro k
    refine qa_loop0 (fun n j => l_X6_level_14 (nI h) (nI t) n (qb_S tm mk fd (min j (qb_J tm (nI t) c))).1 (qb_S tm mk fd (min j (qb_J tm (nI t) c))).2.1 (qb_S tm mk fd (min j (qb_J tm (nI t) c))).2.2.1 (qb_S tm mk fd (min j (qb_J tm (nI t) c))).2.2.2 (nI j) m k) c _ lf (lf_gt (by omega)) (fun j n hjc => ?_) (fun n => ?_)
    · show l_X6_level_14 (nI h) (nI t) (n + 1) (qb_S tm mk fd (min j (qb_J tm (nI t) c))).1 (qb_S tm mk fd (min j (qb_J tm (nI t) c))).2.1 (qb_S tm mk fd (min j (qb_J tm (nI t) c))).2.2.1 (qb_S tm mk fd (min j (qb_J tm (nI t) c))).2.2.2 (nI j) m k = l_X6_level_14 (nI h) (nI t) n (qb_S tm mk fd (min (j + 1) (qb_J tm (nI t) c))).1 (qb_S tm mk fd (min (j + 1) (qb_J tm (nI t) c))).2.1 (qb_S tm mk fd (min (j + 1) (qb_J tm (nI t) c))).2.2.1 (qb_S tm mk fd (min (j + 1) (qb_J tm (nI t) c))).2.2.2 (nI (j + 1)) m k
      rw [l_X6_level_14, h25, if_neg (nI_ge hjc (by omega))]
      simp only [if_pos (inb_nI (show j < 20 by omega) (show 20 < 2 ^ 31 by decide)), ix_nI (show j < 2 ^ 31 by omega), if_pos (hb j hjc), hw j hjc, hch j hjc, bnd, nI_1]
      by_cases hj : j < qb_J tm (nI t) c
      · have hle : tm j ≤ nI t := (qb_J_iff c hs j hjc).mp hj
        rw [show min j (qb_J tm (nI t) c) = j by omega, show min (j + 1) (qb_J tm (nI t) c) = j + 1 by omega, if_neg (i_nlt.mpr hle)]
        by_cases hm : mk j = -1
        · rw [if_pos hm, qb_S_skip hm]
        · obtain ⟨B, M, h1, h2, h3, h4⟩ := hinv j (by omega)
          have hBT : B ≤ T j := by
            rcases h4 with h4 | ⟨i, hi, h4⟩
            · omega
            · rw [h4]; exact hsT i j hi hjc
          have h9 := hT j hjc
          rw [if_neg hm, qb_S_step hm]
          unfold qb_E
          rw [h1, h2, h9.1, pk_sub hBT, m_behind (by omega) (by omega)]
          simp only [if_pos (hb2 j hjc), hf j hjc]
      · have hgt : ¬ tm j ≤ nI t := fun q => hj ((qb_J_iff c hs j hjc).mpr q)
        rw [show min j (qb_J tm (nI t) c) = qb_J tm (nI t) c by omega, show min (j + 1) (qb_J tm (nI t) c) = qb_J tm (nI t) c by omega, if_pos (i_nle.mp hgt)]
    · show l_X6_level_14 (nI h) (nI t) (n + 1) _ _ _ _ (nI c) m k = _
      rw [l_X6_level_14, h25, if_pos (q_le_self (by omega))]
  unfold f_X6_level
  rw [hl]
  obtain ⟨B, M, h1, h2, h3, h4⟩ := hinv (qb_J tm (nI t) c) hJ
  have hBt : B ≤ t := by
    rcases h4 with h4 | ⟨i, hi, h4⟩
    · omega
    · have h5 := (qb_J_iff c hs i (by omega)).mp hi
      have h6 := hT i (by omega)
      rw [h6.1, nI_leI (by omega) (by omega)] at h5
      omega
  unfold qb_L qb_E
  rw [show min c (qb_J tm (nI t) c) = qb_J tm (nI t) c by omega, h1, h2, pk_sub hBt, m_behind (by omega) (by omega)]
  rfl
end
section
/-! what the two systems hold in common; what follows for the plays -/
def qc_N (tm ov : Nat → Int32) (k : Nat) : Nat → Int32
  | 0 => -1
  | d + 1 => if tm (k - (d + 1)) = -1 then qc_N tm ov k d else ov (k - (d + 1))
def qc_C (tm ow : Nat → Int32) : Nat → Int32 → Int32
  | 0, v => v
  | m + 1, v => if v = -1 then (if tm m = -1 then qc_C tm ow m (ow m) else v) else v
def qc_u (r : Nat → Nat) (i v : Nat) : Nat → Nat := fun j => if j = i then v else r j
def qc_I (tm : Nat → Int32) (z : Nat) : Nat → (Nat → Nat) → (Nat → Nat)
  | 0, r => qc_u r 0 z
  | a + 1, r => if (tm z).toInt < (tm (r a)).toInt then qc_I tm z a (qc_u r (a + 1) (r a)) else qc_u r (a + 1) z
def qc_P (tm : Nat → Int32) : Nat → Nat × (Nat → Nat)
  | 0 => (0, fun _ => 0)
  | p + 1 => if tm p = -1 then qc_P tm p else ((qc_P tm p).1 + 1, qc_I tm p (qc_P tm p).1 (qc_P tm p).2)
theorem qc_u_at {r : Nat → Nat} {i v : Nat} : qc_u r i v i = v := if_pos rfl
theorem qc_u_ne {r : Nat → Nat} {i v j : Nat} (h : ¬ j = i) : qc_u r i v j = r j := if_neg h
theorem qc_I_all {tm : Nat → Int32} {z : Nat} (P : Nat → Prop) (hz : P z) : ∀ (a : Nat) (r : Nat → Nat) (N : Nat), a < N → (∀ j, j < N → ¬ j = a → P (r j)) → ∀ j, j < N → P (qc_I tm z a r j)
  | 0, r, N, ha, h, j, hj => by
    show P (qc_u r 0 z j)
    by_cases e : j = 0
    · rw [e, qc_u_at]; exact hz
    · rw [qc_u_ne e]; exact h j hj e
  | a + 1, r, N, ha, h, j, hj => by
    unfold qc_I
    split
    · refine qc_I_all P hz a _ N (by omega) (fun i hi hia => ?_) j hj
      by_cases e : i = a + 1
      · rw [e, qc_u_at]; exact h a (by omega) (by omega)
      · rw [qc_u_ne e]; exact h i hi e
    · by_cases e : j = a + 1
      · rw [e, qc_u_at]; exact hz
      · rw [qc_u_ne e]; exact h j hj e
theorem qc_I_sorted {tm : Nat → Int32} {z : Nat} : ∀ (a : Nat) (r : Nat → Nat) (N : Nat), a < N → (∀ i j, i < j → j < N → ¬ i = a → ¬ j = a → (tm (r i)).toInt ≤ (tm (r j)).toInt) → (∀ j, a < j → j < N → (tm z).toInt ≤ (tm (r j)).toInt) → ∀ i j, i < j → j < N → (tm (qc_I tm z a r i)).toInt ≤ (tm (qc_I tm z a r j)).toInt
  | 0, r, N, ha, h, h2, i, j, hij, hj => by
    show (tm (qc_u r 0 z i)).toInt ≤ (tm (qc_u r 0 z j)).toInt
    rw [qc_u_ne (show ¬ j = 0 by omega)]
    by_cases e : i = 0
    · rw [e, qc_u_at]; exact h2 j (by omega) hj
    · rw [qc_u_ne e]; exact h i j hij hj e (by omega)
  | a + 1, r, N, ha, h, h2, i, j, hij, hj => by
    unfold qc_I
    split
    · rename_i hlt
      refine qc_I_sorted a _ N (by omega) (fun i j h3 h4 h5 h6 => ?_) (fun j h3 h4 => ?_) i j hij hj
      · by_cases e1 : i = a + 1
        · rw [e1, qc_u_at, qc_u_ne (show ¬ j = a + 1 by omega)]
          exact h a j (by omega) h4 (by omega) (by omega)
        · rw [qc_u_ne e1]
          by_cases e2 : j = a + 1
          · rw [e2, qc_u_at]
            exact h i a (by omega) (by omega) (by omega) (by omega)
          · rw [qc_u_ne e2]
            exact h i j h3 h4 e1 e2
      · by_cases e2 : j = a + 1
        · rw [e2, qc_u_at]
          omega
        · rw [qc_u_ne e2]
          exact h2 j (by omega) h4
    · rename_i hlt
      by_cases e1 : i = a + 1
      · rw [e1, qc_u_at, qc_u_ne (show ¬ j = a + 1 by omega)]
        exact h2 j (by omega) hj
      · rw [qc_u_ne e1]
        by_cases e2 : j = a + 1
        · rw [e2, qc_u_at]
          by_cases e3 : i = a
          · rw [e3]; omega
          · have := h i a (by omega) (by omega) e1 (by omega)
            omega
        · rw [qc_u_ne e2]
          exact h i j hij hj e1 e2
theorem qc_P_facts {tm : Nat → Int32} : ∀ p : Nat, (qc_P tm p).1 ≤ p ∧ (∀ j, j < (qc_P tm p).1 → (qc_P tm p).2 j < p ∧ ¬ tm ((qc_P tm p).2 j) = -1) ∧ ∀ i j, i < j → j < (qc_P tm p).1 → (tm ((qc_P tm p).2 i)).toInt ≤ (tm ((qc_P tm p).2 j)).toInt
  | 0 => ⟨Nat.le_refl _, fun j h => absurd h (Nat.not_lt_zero j), fun i j _ h => absurd h (Nat.not_lt_zero j)⟩
  | p + 1 => by
    obtain ⟨h1, h2, h3⟩ := qc_P_facts (tm := tm) p
    unfold qc_P
    split
    · exact ⟨by omega, fun j hj => ⟨by have := (h2 j hj).1; omega, (h2 j hj).2⟩, h3⟩
    · rename_i hp
      refine ⟨Nat.succ_le_succ h1, ?_, ?_⟩
      · exact qc_I_all (fun r => r < p + 1 ∧ ¬ tm r = -1) ⟨Nat.lt_succ_self p, hp⟩ _ _ _ (Nat.lt_succ_self _) (fun j hj he => ⟨by have := (h2 j (by omega)).1; omega, (h2 j (by omega)).2⟩)
      · exact qc_I_sorted _ _ _ (Nat.lt_succ_self _) (fun i j a b c d => h3 i j a (by omega)) (fun j a b => absurd a (by omega))
/-- the lines' starts as numbers -/
theorem sa_nat {x7 x8 : Nat → Int32} {n : Nat} (h : ∀ l, l < n → ∃ s, 1 ≤ s ∧ s ≤ 30 ∧ x7 l = nI s) : ∀ l, l ≤ n → ∃ T, T ≤ 30 * l ∧ sa x7 x8 l = nI T
  | 0, _ => ⟨0, by omega, rfl⟩
  | l + 1, hl => by
    obtain ⟨T, h1, h2⟩ := sa_nat h l (by omega)
    obtain ⟨s, h3, h4, h5⟩ := h l (by omega)
    unfold sa
    split
    · exact ⟨T + s, by omega, by rw [h2, h5, nI_add]⟩
    · exact ⟨T, by omega, h2⟩
def qc_ah (x : aM) (c d : Nat) : Prop := (x 11 c).toInt < (x 11 d).toInt ∨ ((x 11 c).toInt = (x 11 d).toInt ∧ ((x 12 c).toInt < (x 12 d).toInt ∨ ((x 12 c).toInt = (x 12 d).toInt ∧ c < d)))
def qc_t (x : aM) (c : Nat) : Int32 := if x 8 (ix (x 11 c)) = 0 then sa (x 7) (x 8) (ix (x 11 c)) + x 12 c else -1
def pT (x : aM) (p : Nat) : Int32 := x 15 (ix (x 14 p))
def pO (x : aM) (h p : Nat) : Int32 := if ix (x 14 p) < 20 then x (88 + ix (x 14 p)) h else 0
def AO (k : Nat) (x : aM) : Prop := (∀ p, p < k → ∃ c, c < k ∧ x 14 p = nI c) ∧ (∀ p r, p < r → r < k → qc_ah x (ix (x 14 p)) (ix (x 14 r))) ∧ (∀ c, c < k → ∃ p, p < k ∧ x 14 p = nI c)
def AF (k : Nat) (x : aM) : Prop := (∀ p, p < k → x 16 (ix (x 14 p)) = qc_N (pT x) (x 14) k (k - p)) ∧ (∀ p h, p < k → h < 10 → x (108 + ix (x 14 p)) h = if pT x p = -1 then -1 else qc_C (pT x) (pO x h) p (pO x h p))
def AP (k : Nat) (x : aM) : Prop := x 3 10 = nI (qc_P (pT x) k).1 ∧ ∀ j, j < (qc_P (pT x) k).1 → x 17 j = x 14 ((qc_P (pT x) k).2 j)
def AR (k : Nat) (x : aM) : Prop := AO k x ∧ (∀ c, c < k → x 15 c = qc_t x c) ∧ AF k x ∧ AP k x
def RS (n : Nat) (x m : aM) : Prop := n ≤ 30 ∧ x 1 3 = nI n ∧ m 6 4 = nI n ∧ m 29 = x 7 ∧ m 30 = x 8 ∧ (∀ l, l < n → ∃ s, 1 ≤ s ∧ s ≤ 30 ∧ x 7 l = nI s) ∧ (∀ l a, l < 30 → a < 4 → m 31 (4 * l + a) = x (58 + l) a)
def RP (x m : aM) : Prop := m 32 = x 9 ∧ m 33 = x 10
def RC0 (n k : Nat) (x : aM) : Prop := k ≤ 20 ∧ x 3 4 = nI k ∧ (∀ c, c < k → ∃ L, L < n ∧ x 11 c = nI L) ∧ (∀ c, c < k → ∃ o, o ≤ 60 ∧ x 12 c = nI o) ∧ (∀ c, c < k → ∃ f, f ≤ 60 ∧ x 13 c = nI f)
def RC (n k : Nat) (x m : aM) : Prop := RC0 n k x ∧ m 6 11 = nI k ∧ m 34 = x 11 ∧ m 35 = x 12 ∧ m 36 = x 13 ∧ (∀ c h, c < 20 → h < 10 → m 37 (10 * c + h) = x (88 + c) h)
def RG (q : Nat) (x m : aM) : Prop := q ≤ 20 ∧ x 4 8 = nI q ∧ m 6 19 = nI q ∧ m 38 = x 18 ∧ m 39 = x 19 ∧ m 40 = x 22 ∧ m 41 = x 23 ∧ m 42 = x 20 ∧ m 43 = x 21 ∧ m 44 = x 24
def RB (g : Nat) (x m : aM) : Prop := g ≤ 20 ∧ x 5 2 = nI g ∧ m 6 22 = nI g ∧ m 45 = x 26 ∧ (∀ u l, u < 20 → l < 30 → m 46 (30 * u + l) = x (158 + u) l)
def QL (n k q g : Nat) (x m : aM) : Prop := RS n x m ∧ RP x m ∧ RC n k x m ∧ AR k x ∧ RG q x m ∧ RB g x m
/-- CueTour's own rows are kept; the reference's are -/
def KX (x x' : aM) : Prop := ∀ a, (1 ≤ a ∧ a ≤ 5 ∨ 7 ≤ a ∧ a ≤ 24 ∨ a = 26 ∨ 58 ≤ a ∧ a < 128 ∨ 158 ≤ a ∧ a < 178) → x' a = x a
def KM (m m' : aM) : Prop := (∀ a, 29 ≤ a ∧ a ≤ 46 → m' a = m a) ∧ m' 6 4 = m 6 4 ∧ m' 6 11 = m 6 11 ∧ m' 6 19 = m 6 19 ∧ m' 6 22 = m 6 22
/-- what the arrangement reads and writes is kept -/
def KA (x x' : aM) : Prop := ∀ a, (a = 3 ∨ 11 ≤ a ∧ a ≤ 17 ∨ 88 ≤ a ∧ a < 128) → x' a = x a
theorem KX.ka {x x' : aM} (h : KX x x') : KA x x' := fun a ha => h a (by omega)
theorem KX.rf {x : aM} : KX x x := fun _ _ => rfl
theorem KX.tr {x y z : aM} (h : KX x y) (h2 : KX y z) : KX x z := fun a ha => (h2 a ha).trans (h a ha)
theorem KM.rf {m : aM} : KM m m := ⟨fun _ _ => rfl, rfl, rfl, rfl, rfl⟩
theorem KM.tr {x y z : aM} (h : KM x y) (h2 : KM y z) : KM x z := ⟨fun a ha => (h2.1 a ha).trans (h.1 a ha), h2.2.1.trans h.2.1, h2.2.2.1.trans h.2.2.1, h2.2.2.2.1.trans h.2.2.2.1, h2.2.2.2.2.trans h.2.2.2.2⟩
theorem KX.row {x : aM} {k n : Nat} {f : Nat → Int32} (h : ¬ (1 ≤ k ∧ k ≤ 5 ∨ 7 ≤ k ∧ k ≤ 24 ∨ k = 26 ∨ 58 ≤ k ∧ k < 128 ∨ 158 ≤ k ∧ k < 178)) : KX x (mrow x k n f) := fun a ha => mrow_ne (fun e => h (e ▸ ha))
theorem KX.put {x : aM} {k i : Nat} {v : Int32} (h : ¬ (1 ≤ k ∧ k ≤ 5 ∨ 7 ≤ k ∧ k ≤ 24 ∨ k = 26 ∨ 58 ≤ k ∧ k < 128 ∨ 158 ≤ k ∧ k < 178)) : KX x (mput x k i v) := fun a ha => mput_ne (fun e => h (e ▸ ha))
theorem KM.row {m : aM} {k n : Nat} {f : Nat → Int32} (h : ¬ (29 ≤ k ∧ k ≤ 46 ∨ k = 6)) : KM m (mrow m k n f) :=
  have e : mrow m k n f 6 = m 6 := mrow_ne (fun e => h (Or.inr e.symm))
  ⟨fun a ha => mrow_ne (fun e => h (Or.inl (e ▸ ha))), by rw [e], by rw [e], by rw [e], by rw [e]⟩
theorem KM.put {m : aM} {k i : Nat} {v : Int32} (h : ¬ (29 ≤ k ∧ k ≤ 46 ∨ k = 6)) : KM m (mput m k i v) :=
  have e : mput m k i v 6 = m 6 := mput_ne (fun e => h (Or.inr e.symm))
  ⟨fun a ha => mput_ne (fun e => h (Or.inl (e ▸ ha))), by rw [e], by rw [e], by rw [e], by rw [e]⟩
theorem KM.fld {m : aM} {i : Nat} {v : Int32} (h : ¬ (i = 4 ∨ i = 11 ∨ i = 19 ∨ i = 22)) : KM m (mput m 6 i v) :=
  ⟨fun a ha => mput_ne (by omega), mput_other (by omega), mput_other (by omega), mput_other (by omega), mput_other (by omega)⟩
theorem KA.pTe {x x' : aM} (h : KA x x') : pT x' = pT x := by
  funext p
  unfold pT
  rw [h 15 (by omega), h 14 (by omega)]
theorem KA.pOe {x x' : aM} (h : KA x x') {c : Nat} : pO x' c = pO x c := by
  funext p
  unfold pO
  rw [h 14 (by omega)]
  by_cases e : ix (x 14 p) < 20
  · rw [if_pos e, if_pos e, h _ (by omega)]
  · rw [if_neg e, if_neg e]
theorem RS.cg {n : Nat} {x x' m m' : aM} (h : ∀ a, (a = 1 ∨ a = 7 ∨ a = 8 ∨ 58 ≤ a ∧ a < 88) → x' a = x a) (h4 : m' 6 4 = m 6 4) (h9 : ∀ a, 29 ≤ a ∧ a ≤ 31 → m' a = m a) (H : RS n x m) : RS n x' m' := by
  obtain ⟨h1, h2, h3, h5, h6, h7, h8⟩ := H
  refine ⟨h1, ?_, ?_, ?_, ?_, ?_, fun l a hl ha => ?_⟩
  · rw [h 1 (by omega)]; exact h2
  · rw [h4]; exact h3
  · rw [h 7 (by omega), h9 29 (by omega)]; exact h5
  · rw [h 8 (by omega), h9 30 (by omega)]; exact h6
  · rw [h 7 (by omega)]; exact h7
  · rw [h (58 + l) (by omega), h9 31 (by omega)]; exact h8 l a hl ha
theorem RP.cg {x x' m m' : aM} (h1 : x' 9 = x 9) (h2 : x' 10 = x 10) (h3 : m' 32 = m 32) (h4 : m' 33 = m 33) (H : RP x m) : RP x' m' := by
  unfold RP at H ⊢
  rw [h1, h2, h3, h4]
  exact H
theorem RC0.cg {n k : Nat} {x x' : aM} (h3 : x' 3 4 = x 3 4) (h : ∀ a, 11 ≤ a ∧ a ≤ 13 → x' a = x a) (H : RC0 n k x) : RC0 n k x' := by
  unfold RC0 at H ⊢
  rw [h3, h 11 (by omega), h 12 (by omega), h 13 (by omega)]
  exact H
theorem RC.cg {n k : Nat} {x x' m m' : aM} (h3 : x' 3 4 = x 3 4) (h : ∀ a, (11 ≤ a ∧ a ≤ 13 ∨ 88 ≤ a ∧ a < 108) → x' a = x a) (h4 : m' 6 11 = m 6 11) (h9 : ∀ a, 34 ≤ a ∧ a ≤ 37 → m' a = m a) (H : RC n k x m) : RC n k x' m' := by
  obtain ⟨g1, g2, g3, g4, g5, g6⟩ := H
  refine ⟨g1.cg h3 (fun a ha => h a (by omega)), h4.trans g2, ?_, ?_, ?_, fun c a hc ha => ?_⟩
  · rw [h 11 (by omega), h9 34 (by omega)]; exact g3
  · rw [h 12 (by omega), h9 35 (by omega)]; exact g4
  · rw [h 13 (by omega), h9 36 (by omega)]; exact g5
  · rw [h (88 + c) (by omega), h9 37 (by omega)]; exact g6 c a hc ha
theorem AO.ka {k : Nat} {x x' : aM} (h : KA x x') (H : AO k x) : AO k x' := by
  unfold AO qc_ah at H ⊢
  rw [h 14 (by omega), h 11 (by omega), h 12 (by omega)]
  exact H
theorem AP.ka {k : Nat} {x x' : aM} (h : KA x x') (H : AP k x) : AP k x' := by
  unfold AP at H ⊢
  rw [h.pTe, h 3 (by omega), h 14 (by omega), h 17 (by omega)]
  exact H
theorem AF.ka {k : Nat} {x x' : aM} (hk : k ≤ 20) (ho : AO k x) (h : KA x x') (H : AF k x) : AF k x' := by
  refine ⟨?_, fun p c hp hc => ?_⟩
  · rw [h.pTe, h 16 (by omega), h 14 (by omega)]; exact H.1
  · obtain ⟨d, hd, e⟩ := ho.1 p hp
    have e2 : ix (x 14 p) = d := by rw [e, ix_nI (by omega)]
    rw [h.pTe, h.pOe, h 14 (by omega), h (108 + ix (x 14 p)) (by omega)]
    exact H.2 p c hp hc
theorem AR.ka {k : Nat} {x x' : aM} (hk : k ≤ 20) (h : KA x x') (ht : ∀ c, c < k → qc_t x' c = qc_t x c) (H : AR k x) : AR k x' := by
  obtain ⟨h1, h2, h3, h4⟩ := H
  refine ⟨h1.ka h, ?_, h3.ka hk h1 h, h4.ka h⟩
  intro c hc
  rw [h 15 (by omega), ht c hc]
  exact h2 c hc
theorem qc_t_eq {x x' : aM} {c : Nat} (h7 : x' 7 = x 7) (h8 : x' 8 = x 8) (h11 : x' 11 = x 11) (h12 : x' 12 = x 12) : qc_t x' c = qc_t x c := by
  unfold qc_t
  rw [h7, h8, h11, h12]
theorem RG.cg {q : Nat} {x x' m m' : aM} (h : ∀ a, (a = 4 ∨ 18 ≤ a ∧ a ≤ 24) → x' a = x a) (h4 : m' 6 19 = m 6 19) (h9 : ∀ a, 38 ≤ a ∧ a ≤ 44 → m' a = m a) (H : RG q x m) : RG q x' m' := by
  unfold RG at H ⊢
  rw [h 4 (by omega), h 18 (by omega), h 19 (by omega), h 22 (by omega), h 23 (by omega), h 20 (by omega), h 21 (by omega), h 24 (by omega), h4, h9 38 (by omega), h9 39 (by omega), h9 40 (by omega), h9 41 (by omega), h9 42 (by omega), h9 43 (by omega), h9 44 (by omega)]
  exact H
theorem RB.cg {g : Nat} {x x' m m' : aM} (h : ∀ a, (a = 5 ∨ a = 26 ∨ 158 ≤ a ∧ a < 178) → x' a = x a) (h4 : m' 6 22 = m 6 22) (h9 : ∀ a, 45 ≤ a ∧ a ≤ 46 → m' a = m a) (H : RB g x m) : RB g x' m' := by
  obtain ⟨g1, g2, g3, g5, g6⟩ := H
  refine ⟨g1, ?_, h4.trans g3, ?_, fun u l hu hl => ?_⟩
  · rw [h 5 (by omega)]; exact g2
  · rw [h 26 (by omega), h9 45 (by omega)]; exact g5
  · rw [h (158 + u) (by omega), h9 46 (by omega)]; exact g6 u l hu hl
theorem QL.cg {n k q g : Nat} {x x' m m' : aM} (h : KX x x') (h2 : KM m m') (H : QL n k q g x m) : QL n k q g x' m' := by
  obtain ⟨g1, g2, g3, g4, g5, g6⟩ := H
  exact ⟨g1.cg (fun a ha => h a (by omega)) h2.2.1 (fun a ha => h2.1 a (by omega)), g2.cg (h 9 (by omega)) (h 10 (by omega)) (h2.1 32 (by omega)) (h2.1 33 (by omega)), g3.cg (by rw [h 3 (by omega)]) (fun a ha => h a (by omega)) h2.2.2.1 (fun a ha => h2.1 a (by omega)), g4.ka g3.1.1 h.ka (fun c _ => qc_t_eq (h 7 (by omega)) (h 8 (by omega)) (h 11 (by omega)) (h 12 (by omega))), g5.cg (fun a ha => h a (by omega)) h2.2.2.2.1 (fun a ha => h2.1 a (by omega)), g6.cg (fun a ha => h a (by omega)) h2.2.2.2.2 (fun a ha => h2.1 a (by omega))⟩
theorem QL.kx {n k q g : Nat} {x x' m : aM} (h : KX x x') (H : QL n k q g x m) : QL n k q g x' m := H.cg h KM.rf
theorem QL.km {n k q g : Nat} {x m m' : aM} (h : KM m m') (H : QL n k q g x m) : QL n k q g x m' := H.cg KX.rf h
/-- the plays, as the levels need them -/
def tX (x : aM) (j : Nat) : Int32 := x 15 (ix (x 17 j))
def mX (x : aM) (h j : Nat) : Int32 := if ix (x 17 j) < 20 then x (108 + ix (x 17 j)) h else 0
def fX (x : aM) (j : Nat) : Int32 := x 13 (ix (x 17 j))
def LV (x : aM) (h : Nat) (t : Int32) : Int32 := qb_L (ix (x 3 10)) (tX x) (mX x h) (fX x) t
def QX (x : aM) : Prop := ∃ c, c ≤ 20 ∧ x 3 10 = nI c ∧ (∀ j, j < c → (∃ d, d < 20 ∧ x 17 j = nI d) ∧ (∃ v, v < 5000 ∧ tX x j = nI v) ∧ (∃ v, v ≤ 60 ∧ fX x j = nI v)) ∧ ∀ i j, i < j → j < c → tX x i ≤ tX x j
/-- what the levels and the light read is kept -/
def KY (x x' : aM) : Prop := ∀ a, (1 ≤ a ∧ a ≤ 4 ∨ 7 ≤ a ∧ a ≤ 24 ∨ 58 ≤ a ∧ a < 128) → x' a = x a
theorem KX.ky {x x' : aM} (h : KX x x') : KY x x' := fun a ha => h a (by omega)
theorem KY.rf {x : aM} : KY x x := fun _ _ => rfl
theorem KY.tr {x y z : aM} (h : KY x y) (h2 : KY y z) : KY x z := fun a ha => (h2 a ha).trans (h a ha)
theorem KY.row {x : aM} {k n : Nat} {f : Nat → Int32} (h : ¬ (1 ≤ k ∧ k ≤ 4 ∨ 7 ≤ k ∧ k ≤ 24 ∨ 58 ≤ k ∧ k < 128)) : KY x (mrow x k n f) := fun a ha => mrow_ne (fun e => h (e ▸ ha))
theorem KY.put {x : aM} {k i : Nat} {v : Int32} (h : ¬ (1 ≤ k ∧ k ≤ 4 ∨ 7 ≤ k ∧ k ≤ 24 ∨ 58 ≤ k ∧ k < 128)) : KY x (mput x k i v) := fun a ha => mput_ne (fun e => h (e ▸ ha))
theorem KY.tXe {x x' : aM} (h : KY x x') : tX x' = tX x := by
  funext p
  unfold tX
  rw [h 15 (by omega), h 17 (by omega)]
theorem KY.fXe {x x' : aM} (h : KY x x') : fX x' = fX x := by
  funext p
  unfold fX
  rw [h 13 (by omega), h 17 (by omega)]
theorem KY.mXe {x x' : aM} (h : KY x x') {c : Nat} : mX x' c = mX x c := by
  funext p
  unfold mX
  rw [h 17 (by omega)]
  by_cases e : ix (x 17 p) < 20
  · rw [if_pos e, if_pos e, h _ (by omega)]
  · rw [if_neg e, if_neg e]
theorem KY.LVe {x x' : aM} (h : KY x x') {c : Nat} {t : Int32} : LV x' c t = LV x c t := by
  unfold LV
  rw [h.tXe, h.fXe, h.mXe, h 3 (by omega)]
theorem QX.ky {x x' : aM} (h : KY x x') (H : QX x) : QX x' := by
  unfold QX at H ⊢
  rw [h.tXe, h.fXe, h 3 (by omega), h 17 (by omega)]
  exact H
theorem x_fades {x : aM} {h : Nat} {t : Int32} (H : QX x) (hh : h < 10) : f_X1_levelByFades (nI h) t x = some (LV x h t, x) := by
  obtain ⟨c, hc, e, h1, h2⟩ := H
  unfold LV
  rw [e, ix_nI (by omega)]
  refine x_fades_g hc e hh (fun j hj => ?_) (fun j hj => rfl) (fun j hj => ?_) (fun j hj => rfl) h2
  · obtain ⟨⟨d, hd, e1⟩, -, -⟩ := h1 j hj
    rw [e1]
    exact inb_nI hd (by decide)
  · obtain ⟨⟨d, hd, e1⟩, -, -⟩ := h1 j hj
    unfold mX
    rw [e1, ix_nI (by omega), if_pos hd]
theorem x_ticks {x : aM} {h t : Nat} (H : QX x) (hh : h < 10) (ht : t ≤ 2000) : f_X1_levelByTicks (nI h) (nI t) x = some (LV x h (nI t), x) := by
  obtain ⟨c, hc, e, h1, h2⟩ := H
  unfold LV
  rw [e, ix_nI (by omega)]
  refine x_ticks_g (T := fun j => ix (tX x j)) hc e hh ht (fun j hj => ?_) (fun j hj => rfl) (fun j hj => ?_) (fun j hj => rfl) h2 (fun j hj => ?_)
  · obtain ⟨⟨d, hd, e1⟩, -, -⟩ := h1 j hj
    rw [e1]
    exact inb_nI hd (by decide)
  · obtain ⟨⟨d, hd, e1⟩, -, -⟩ := h1 j hj
    unfold mX
    rw [e1, ix_nI (by omega), if_pos hd]
  · obtain ⟨-, ⟨v, hv, e1⟩, -⟩ := h1 j hj
    show tX x j = nI (ix (tX x j)) ∧ ix (tX x j) < 5000
    rw [e1, ix_nI (by omega)]
    exact ⟨rfl, hv⟩
theorem QL.px {n k q g : Nat} {x m : aM} (H : QL n k q g x m) : QX x := by
  obtain ⟨hS, -, hC, ⟨hO, hT, -, hP⟩, -, -⟩ := H
  obtain ⟨hk, -, hL, ho, hf⟩ := hC.1
  obtain ⟨f1, f2, f3⟩ := qc_P_facts (tm := pT x) k
  have hv : ∀ p, p < k → ¬ pT x p = -1 → ∃ v, v < 5000 ∧ pT x p = nI v := by
    intro p hp hne
    obtain ⟨c, hc, e⟩ := hO.1 p hp
    unfold pT at hne ⊢
    rw [e, ix_nI (by omega), hT c hc] at hne ⊢
    unfold qc_t at hne ⊢
    obtain ⟨L, hL1, hL2⟩ := hL c hc
    obtain ⟨o, ho1, ho2⟩ := ho c hc
    have hn := hS.1
    obtain ⟨T, hT1, hT2⟩ := sa_nat (x8 := x 8) hS.2.2.2.2.2.1 L (by omega)
    rw [hL2, ix_nI (by omega)] at hne ⊢
    by_cases e8 : x 8 L = 0
    · rw [if_pos e8, hT2, ho2, nI_add]
      exact ⟨T + o, by omega, rfl⟩
    · rw [if_neg e8] at hne
      exact absurd rfl hne
  refine ⟨(qc_P (pT x) k).1, by omega, hP.1, fun j hj => ?_, fun i j hij hj => ?_⟩
  · obtain ⟨g1, g2⟩ := f2 j hj
    obtain ⟨d, hd, e⟩ := hO.1 _ g1
    have e17 : x 17 j = nI d := (hP.2 j hj).trans e
    refine ⟨⟨d, by omega, e17⟩, ?_, ?_⟩
    · obtain ⟨v, hv1, hv2⟩ := hv _ g1 g2
      refine ⟨v, hv1, ?_⟩
      unfold tX
      rw [hP.2 j hj]
      exact hv2
    · obtain ⟨v, hv1, hv2⟩ := hf d hd
      refine ⟨v, hv1, ?_⟩
      unfold fX
      rw [e17, ix_nI (by omega)]
      exact hv2
  · unfold tX
    rw [hP.2 i (by omega), hP.2 j hj, Int32.le_iff_toInt_le]
    exact f3 i j hij hj
end
section
/-! the ends of the lines, what is short, how many -/
theorem kd_e {l : Nat} (h : l < 30) : kd (128 + l) = 1 := by
  unfold kd
  rw [if_neg (by omega), if_neg (by omega), if_neg (by omega), if_neg (by omega), if_pos (by omega)]
theorem ln_e {l : Nat} (h : l < 30) : ln (128 + l) = 10 := by
  unfold ln
  rw [if_neg (by omega), if_neg (by omega), if_pos (by omega)]
theorem x_fill {x : aM} {a : Nat} {t : Int32} (H : QX x) (hk : kd a = 1) (hn : ln a = 10) (ha : a = 27 ∨ 128 ≤ a ∧ a < 158) : f_X1_fillLevels t a x = some (0, mrow x a 10 (fun h => LV x h t)) := by
  have hl : ∀ k : Int32 → aM → Option (Int32 × aM), l_X1_fillLevels_2 t a lf 0 x k = k (nI 10) (mrow x a 10 (fun h => LV x h t)) := by
    intro k
    have key : l_X1_fillLevels_2 t a lf (nI 0) (mrow x a 0 (fun h => LV x h t)) k = k (nI 10) (mrow x a 10 (fun h => LV x h t)) := by
      refine qa_loop0 (fun n i => l_X1_fillLevels_2 t a n (nI i) (mrow x a i (fun h => LV x h t)) k) 10 _ lf (lf_gt (by decide)) (fun i n hi => ?_) (fun n => ?_)
      · show l_X1_fillLevels_2 t a (n + 1) (nI i) (mrow x a i (fun h => LV x h t)) k = l_X1_fillLevels_2 t a n (nI (i + 1)) (mrow x a (i + 1) (fun h => LV x h t)) k
        have hK : KY x (mrow x a i (fun h => LV x h t)) := KY.row (by omega)
        rw [l_X1_fillLevels_2, if_neg (q10_lt hi), x_fades (H.ky hK) hi]
        simp only [bnd]
        rw [if_pos hk, hn, if_pos (inb_nI hi (by decide)), ix_nI (by omega), hK.LVe, nI_1, ← mrow_s (i := i)]
      · show l_X1_fillLevels_2 t a (n + 1) (nI 10) _ k = _
        rw [l_X1_fillLevels_2, if_pos q10_ge]
    rw [mrow_0] at key
    exact key
  unfold f_X1_fillLevels
  rw [hl]
/-- the reference behind its plays() -/
def PM (n k : Nat) (x m : aM) : Prop := m 6 25 = x 3 10 ∧ (∀ p, p < k → m 47 p = x 14 p) ∧ (∀ l, l < n → m 49 l = sa (x 7) (x 8) l) ∧ ∀ j, j < (qc_P (pT x) k).1 → m 48 j = nI ((qc_P (pT x) k).2 j)
theorem PM.kx {n k : Nat} {x x' m : aM} (h : KX x x') (H : PM n k x m) : PM n k x' m := by
  unfold PM at H ⊢
  rw [h.ka.pTe, h 3 (by omega), h 14 (by omega), h 7 (by omega), h 8 (by omega)]
  exact H
theorem PM.row {n k a i : Nat} {f : Nat → Int32} {x m : aM} (h : 50 ≤ a) (H : PM n k x m) : PM n k x (mrow m a i f) := by
  unfold PM at H ⊢
  rw [mrow_ne (show ¬ 6 = a by omega), mrow_ne (show ¬ 47 = a by omega), mrow_ne (show ¬ 48 = a by omega), mrow_ne (show ¬ 49 = a by omega)]
  exact H
theorem m_played {n k q g c : Nat} {x m : aM} (H : QL n k q g x m) (hc : c < k) : f_X6_isPlayed (nI c) m = some (if x 15 c = -1 then 0 else 1, m) ∧ (x 15 c = -1 ↔ ¬ x 8 (ix (x 11 c)) = 0) := by
  obtain ⟨hS, -, hC, ⟨hO, hT, -, hP⟩, -, -⟩ := H
  obtain ⟨⟨hk, -, hL, ho, hf⟩, -, e34, -⟩ := hC
  obtain ⟨L, hL1, hL2⟩ := hL c hc
  obtain ⟨o, ho1, ho2⟩ := ho c hc
  have hn := hS.1
  have hiff : x 15 c = -1 ↔ ¬ x 8 (ix (x 11 c)) = 0 := by
    rw [hT c hc]
    unfold qc_t
    obtain ⟨T, hT1, hT2⟩ := sa_nat (x8 := x 8) hS.2.2.2.2.2.1 L (by omega)
    rw [hL2, ix_nI (by omega)]
    by_cases e8 : x 8 L = 0
    · rw [if_pos e8, hT2, ho2, nI_add]
      refine ⟨fun q => ?_, fun q => absurd e8 q⟩
      have q2 := congrArg Int32.toInt q
      rw [nI_toInt (by omega), show (-1 : Int32).toInt = -1 from rfl] at q2
      omega
    · rw [if_neg e8]
      exact ⟨fun _ => e8, fun _ => rfl⟩
  refine ⟨?_, hiff⟩
  unfold f_X6_isPlayed
  rw [if_pos (inb_nI (show c < 20 by omega) (by decide)), ix_nI (by omega), e34, hS.2.2.2.2.1]
  rw [if_pos (show inb (x 11 c) 30 = true by rw [hL2]; exact inb_nI (by omega) (by decide))]
  by_cases e : x 15 c = -1
  · rw [if_pos (hiff.mp e), if_pos e]
  · rw [if_neg (fun q => e (hiff.mpr q)), if_neg e]
theorem m_changesAt_l {n k q g h : Nat} {x m : aM} (H : QL n k q g x m) (h47 : ∀ p, p < k → m 47 p = x 14 p) (hh : h < 10) (pl : Int32) (kk : Int32 → Int32 → aM → Option (Int32 × aM)) (hkk : ∀ v a b, kk v a m = kk v b m) : ∀ (p fu : Nat) (v : Int32), p ≤ k → p < fu → l_X6_changesAt_22 pl (nI h) fu v (nI p - 1) m kk = kk (qc_C (pT x) (pO x h) p v) 0 m := by
  intro p
  induction p with
  | zero =>
    intro fu v hp hf
    obtain ⟨fu, rfl⟩ : ∃ z, fu = z + 1 := ⟨fu - 1, by omega⟩
    rw [l_X6_changesAt_22, if_pos (show nI 0 - 1 < 0 by decide)]
    exact hkk _ _ _
  | succ p ih =>
    intro fu v hp hf
    obtain ⟨fu, rfl⟩ : ∃ z, fu = z + 1 := ⟨fu - 1, by omega⟩
    have hk := H.2.2.1.1.1
    obtain ⟨c, hc, e14⟩ := H.2.2.2.1.1.1 p (by omega)
    have e47 : m 47 p = nI c := (h47 p (by omega)).trans e14
    have hpl := (m_played H hc).1
    have e15 : pT x p = x 15 c := by
      unfold pT
      rw [e14, ix_nI (by omega)]
    have e37 : m 37 (10 * c + h) = x (88 + c) h := H.2.2.1.2.2.2.2.2 c h (by omega) hh
    have eO : pO x h p = x (88 + c) h := by
      unfold pO
      rw [e14, ix_nI (by omega), if_pos (by omega)]
    rw [nI_pred, l_X6_changesAt_22, if_neg (nI_pos (by omega)), if_pos (inb_nI (show p < 20 by omega) (by decide)), ix_nI (by omega), e47, hpl]
    simp only [bnd]
    unfold qc_C
    rw [e15]
    by_cases e : x 15 c = -1
    · rw [if_pos e, if_neg (fun q => q rfl)]
      by_cases ev : v = -1
      · rw [if_neg (fun q => q ev), if_pos (inb_nI (show p < 20 by omega) (by decide)), if_pos ev, e47, show (10 : Int32) * nI c + nI h = nI (10 * c + h) by rw [show (10 : Int32) = nI 10 from rfl, pk_mul, nI_add], if_pos (inb_nI (show 10 * c + h < 200 by omega) (by decide)), ix_nI (by omega), e37, show nI p + (-1) = nI p - 1 by rw [Int32.sub_eq_add_neg], ih fu _ (by omega) (by omega), if_pos e, eO]
      · rw [if_pos ev, if_neg ev]
        exact hkk _ _ _
    · rw [if_neg e, if_pos (show ¬ (1 : Int32) = 0 by decide)]
      rw [show (if v = -1 then if x 15 c = -1 then qc_C (pT x) (pO x h) p (pO x h p) else v else v) = v by rw [if_neg e]; split <;> rfl]
      exact hkk _ _ _
theorem m_changesAt {n k q g h p : Nat} {x m : aM} (H : QL n k q g x m) (h47 : ∀ p, p < k → m 47 p = x 14 p) (hh : h < 10) (hp : p < k) : f_X6_changesAt (nI p) (nI h) m = some (qc_C (pT x) (pO x h) p (pO x h p), m) := by
  have hk := H.2.2.1.1.1
  obtain ⟨c, hc, e14⟩ := H.2.2.2.1.1.1 p hp
  have e47 : m 47 p = nI c := (h47 p hp).trans e14
  have e37 : m 37 (10 * c + h) = x (88 + c) h := H.2.2.1.2.2.2.2.2 c h (by omega) hh
  have eO : pO x h p = x (88 + c) h := by
    unfold pO
    rw [e14, ix_nI (by omega), if_pos (by omega)]
  unfold f_X6_changesAt
  rw [if_pos (inb_nI (show p < 20 by omega) (by decide)), ix_nI (by omega), e47, show (10 : Int32) * nI c + nI h = nI (10 * c + h) by rw [show (10 : Int32) = nI 10 from rfl, pk_mul, nI_add], if_pos (inb_nI (show 10 * c + h < 200 by omega) (by decide)), ix_nI (by omega), e37, ← eO, m_changesAt_l H h47 hh _ (fun v17 v18 σ19 => some (v17, σ19)) (fun _ _ _ => rfl) p lf _ (by omega) (lf_gt (by omega))]
theorem m_level {n k q g h t : Nat} {x m : aM} (H : QL n k q g x m) (hM : PM n k x m) (hh : h < 10) (ht : t ≤ 5000) : f_X6_level (nI h) (nI t) m = some (LV x h (nI t), m) := by
  obtain ⟨c, hc, e, h1, h2⟩ := H.px
  have hk := H.2.2.1.1.1
  have hO := H.2.2.2.1.1
  have hP := H.2.2.2.1.2.2.2
  obtain ⟨f1, f2, f3⟩ := qc_P_facts (tm := pT x) k
  have ec : c = (qc_P (pT x) k).1 := (nI_eq (by omega) (by omega)).mp (e.symm.trans hP.1)
  unfold LV
  rw [e, ix_nI (by omega)]
  have row : ∀ j, j < c → ∃ r d, r < k ∧ d < k ∧ m 48 j = nI r ∧ x 14 r = nI d ∧ m 47 r = nI d ∧ x 17 j = nI d ∧ ¬ x 15 d = -1 := by
    intro j hj
    rw [ec] at hj
    obtain ⟨g1, g2⟩ := f2 j hj
    obtain ⟨d, hd, e1⟩ := hO.1 _ g1
    refine ⟨_, d, g1, hd, hM.2.2.2 j hj, e1, (hM.2.1 _ g1).trans e1, (hP.2 j hj).trans e1, ?_⟩
    have g3 : ¬ x 15 (ix (x 14 ((qc_P (pT x) k).2 j))) = -1 := g2
    rw [e1, ix_nI (by omega)] at g3
    exact g3
  refine m_level_g (T := fun j => ix (tX x j)) (N := fun j => ix (fX x j)) hc (hM.1.trans e) ht (fun j hj => ?_) (fun j hj => ?_) (fun j hj => ?_) (fun j hj => ?_) (fun j hj => ?_) h2 (fun j hj => ?_) (fun j hj => ?_)
  · obtain ⟨r, d, g1, g2, g3, g4, g5, g6, g7⟩ := row j hj
    rw [g3]
    exact inb_nI (by omega) (by decide)
  · obtain ⟨r, d, g1, g2, g3, g4, g5, g6, g7⟩ := row j hj
    rw [g3, ix_nI (by omega), g5]
    obtain ⟨L, hL1, hL2⟩ := H.2.2.1.1.2.2.1 d g2
    have hn := H.1.1
    unfold f_X6_when
    rw [if_pos (inb_nI (show d < 20 by omega) (by decide)), ix_nI (show d < 2 ^ 31 by omega), H.2.2.1.2.2.1, hL2, if_pos (inb_nI (show L < 30 by omega) (by decide)), if_pos (inb_nI (show d < 20 by omega) (by decide)), ix_nI (show L < 2 ^ 31 by omega), hM.2.2.1 L hL1, H.2.2.1.2.2.2.1]
    have h8 : x 8 (ix (x 11 d)) = 0 := Decidable.byContradiction fun q => g7 ((m_played H g2).2.mpr q)
    have e15 := H.2.2.2.1.2.1 d g2
    unfold qc_t at e15
    rw [if_pos h8, hL2, ix_nI (by omega)] at e15
    unfold tX
    rw [g6, ix_nI (by omega), e15]
  · obtain ⟨r, d, g1, g2, g3, g4, g5, g6, g7⟩ := row j hj
    have e15 : ¬ pT x r = -1 := by
      unfold pT
      rw [g4, ix_nI (by omega)]
      exact g7
    have e108 := H.2.2.2.1.2.2.1.2 r h g1 hh
    rw [if_neg e15, g4, ix_nI (by omega)] at e108
    rw [g3, m_changesAt H hM.2.1 hh g1, ← e108]
    unfold mX
    rw [g6, ix_nI (by omega), if_pos (by omega)]
  · obtain ⟨r, d, g1, g2, g3, g4, g5, g6, g7⟩ := row j hj
    rw [g3, ix_nI (by omega), g5]
    exact inb_nI (by omega) (by decide)
  · obtain ⟨r, d, g1, g2, g3, g4, g5, g6, g7⟩ := row j hj
    rw [g3, ix_nI (by omega), g5, H.2.2.1.2.2.2.2.1]
    unfold fX
    rw [g6]
  · obtain ⟨-, ⟨v, hv, e1⟩, -⟩ := h1 j hj
    show tX x j = nI (ix (tX x j)) ∧ ix (tX x j) < 5000
    rw [e1, ix_nI (by omega)]
    exact ⟨rfl, hv⟩
  · obtain ⟨-, -, ⟨v, hv, e1⟩⟩ := h1 j hj
    show fX x j = nI (ix (fX x j)) ∧ ix (fX x j) ≤ 60
    rw [e1, ix_nI (by omega)]
    exact ⟨rfl, hv⟩
theorem m_lights {n k q g t : Nat} {x m : aM} (H : QL n k q g x m) (hM : PM n k x m) (ht : t ≤ 5000) : f_X6_lights (nI t) m = some (0, mrow m 51 10 (fun h => LV x h (nI t))) := by
  have hl : ∀ kk : Int32 → aM → Option (Int32 × aM), l_X6_lights_2 (nI t) lf 0 m kk = kk (nI 10) (mrow m 51 10 (fun h => LV x h (nI t))) := by
    intro kk
    have key : l_X6_lights_2 (nI t) lf (nI 0) (mrow m 51 0 (fun h => LV x h (nI t))) kk = kk (nI 10) (mrow m 51 10 (fun h => LV x h (nI t))) := by
      refine qa_loop0 (fun fu i => l_X6_lights_2 (nI t) fu (nI i) (mrow m 51 i (fun h => LV x h (nI t))) kk) 10 _ lf (lf_gt (by decide)) (fun i fu hi => ?_) (fun fu => ?_)
      · show l_X6_lights_2 (nI t) (fu + 1) (nI i) (mrow m 51 i (fun h => LV x h (nI t))) kk = l_X6_lights_2 (nI t) fu (nI (i + 1)) (mrow m 51 (i + 1) (fun h => LV x h (nI t))) kk
        rw [l_X6_lights_2, if_neg (q10_lt hi), m_level (H.km (KM.row (by omega))) (hM.row (by omega)) hi ht]
        simp only [bnd]
        rw [if_pos (inb_nI hi (by decide)), ix_nI (by omega), nI_1, ← mrow_s (i := i)]
      · show l_X6_lights_2 (nI t) (fu + 1) (nI 10) _ kk = _
        rw [l_X6_lights_2, if_pos q10_ge]
    rw [mrow_0] at key
    exact key
  unfold f_X6_lights
  rw [hl]
end
section
/-! arrange: the order, the times -/
def qc_com (x : aM) (c d : Nat) : Prop := (x 11 c).toInt < (x 11 d).toInt ∨ ((x 11 c).toInt = (x 11 d).toInt ∧ (x 12 c).toInt < (x 12 d).toInt)
theorem x_com {x : aM} {c d : Nat} (hc : c < 20) (hd : d < 20) : (qc_com x c d ∧ f_X1_comesAhead (nI c) (nI d) x = some (1, x)) ∨ (¬ qc_com x c d ∧ f_X1_comesAhead (nI c) (nI d) x = some (0, x)) := by
  unfold f_X1_comesAhead
  simp only [if_pos (inb_nI hc (show 20 < 2 ^ 31 by decide)), if_pos (inb_nI hd (show 20 < 2 ^ 31 by decide)), ix_nI (show c < 2 ^ 31 by omega), ix_nI (show d < 2 ^ 31 by omega)]
  by_cases h : x 11 c = x 11 d
  · rw [if_pos h]
    have h1 := congrArg Int32.toInt h
    by_cases h2 : x 12 d ≤ x 12 c
    · refine Or.inr ⟨fun q => ?_, if_pos h2⟩
      rw [Int32.le_iff_toInt_le] at h2
      unfold qc_com at q
      omega
    · refine Or.inl ⟨?_, if_neg h2⟩
      rw [Int32.le_iff_toInt_le] at h2
      unfold qc_com
      omega
  · rw [if_neg h]
    have h1 : ¬ (x 11 c).toInt = (x 11 d).toInt := fun q => h (Int32.toInt_inj.mp q)
    by_cases h2 : x 11 d ≤ x 11 c
    · refine Or.inr ⟨fun q => ?_, if_pos h2⟩
      rw [Int32.le_iff_toInt_le] at h2
      unfold qc_com at q
      omega
    · refine Or.inl ⟨?_, if_neg h2⟩
      rw [Int32.le_iff_toInt_le] at h2
      unfold qc_com
      omega
def mS (x : aM) (q i : Nat) : aM := fun a => if a = 14 then (fun p => if q < p ∧ p ≤ i then x 14 (p - 1) else x 14 p) else x a
theorem mS_ne {x : aM} {q i a : Nat} (h : ¬ a = 14) : mS x q i a = x a := if_neg h
theorem mS_at {x : aM} {q i p : Nat} : mS x q i 14 p = if q < p ∧ p ≤ i then x 14 (p - 1) else x 14 p := rfl
theorem mS_top {x : aM} {i : Nat} : mS x i i = x := by
  funext a p
  by_cases h : a = 14
  · subst h
    rw [mS_at, if_neg (by omega)]
  · rw [mS_ne h]
theorem mS_step {x : aM} {q i : Nat} (h : q + 1 ≤ i) : mput (mS x (q + 1) i) 14 (q + 1) (x 14 q) = mS x q i := by
  funext a p
  by_cases ha : a = 14
  · subst ha
    rw [mput_at, mS_at, mS_at]
    by_cases e : p = q + 1
    · rw [if_pos e, if_pos (by omega), e]
      rfl
    · rw [if_neg e]
      by_cases e2 : q + 1 < p ∧ p ≤ i
      · rw [if_pos e2, if_pos (by omega)]
      · rw [if_neg e2, if_neg (by omega)]
  · rw [mput_ne ha, mS_ne ha, mS_ne ha]
theorem x_sort_in {x : aM} {i : Nat} (hi : i < 20) (h14 : ∀ p, p < i → ∃ c, c < i ∧ x 14 p = nI c) (k : Int32 → aM → Option (Int32 × aM)) : ∀ q fu, q ≤ i → q < fu → ∃ r, r ≤ q ∧ l_X1_sortCues_12 (nI i) fu (nI q) (mS x q i) k = k (nI r) (mS x r i) ∧ (∀ p, r ≤ p → p < q → qc_com x i (ix (x 14 p))) ∧ (r = 0 ∨ ∃ p, r = p + 1 ∧ ¬ qc_com x i (ix (x 14 p))) := by
  intro q
  induction q with
  | zero =>
    intro fu hq hf
    obtain ⟨fu, rfl⟩ : ∃ z, fu = z + 1 := ⟨fu - 1, by omega⟩
    refine ⟨0, Nat.le_refl _, ?_, fun p _ h => absurd h (Nat.not_lt_zero p), Or.inl rfl⟩
    rw [l_X1_sortCues_12, if_pos (show nI 0 ≤ 0 from Int32.le_refl 0)]
  | succ q ih =>
    intro fu hq hf
    obtain ⟨fu, rfl⟩ : ∃ z, fu = z + 1 := ⟨fu - 1, by omega⟩
    obtain ⟨c, hc, e14⟩ := h14 q (by omega)
    have eS : mS x (q + 1) i 14 q = nI c := by
      rw [mS_at, if_neg (by omega), e14]
    have e0 : ix (x 14 q) = c := by rw [e14, ix_nI (by omega)]
    rw [l_X1_sortCues_12, if_neg (nI_nle (by omega) (by omega)), nI_pred, if_pos (inb_nI (show q < 20 by omega) (by decide)), ix_nI (show q < 2 ^ 31 by omega), eS]
    rcases x_com (x := mS x (q + 1) i) (c := i) (d := c) hi (by omega) with ⟨h1, h2⟩ | ⟨h1, h2⟩
    · rw [h2]
      simp only [bnd]
      rw [if_neg (show ¬ (1 : Int32) = 0 by decide), if_pos (inb_nI (show q < 20 by omega) (by decide)), if_pos (inb_nI (show q + 1 < 20 by omega) (by decide)), ix_nI (show q + 1 < 2 ^ 31 by omega), pk_m1, eS, ← e14, mS_step hq]
      obtain ⟨r, g1, g2, g3, g4⟩ := ih fu (by omega) (by omega)
      refine ⟨r, by omega, g2, fun p hp1 hp2 => ?_, g4⟩
      by_cases e : p = q
      · rw [e, e0]; exact h1
      · exact g3 p hp1 (by omega)
    · rw [h2]
      simp only [bnd]
      rw [if_pos trivial]
      refine ⟨q + 1, Nat.le_refl _, rfl, fun p hp1 hp2 => absurd hp1 (by omega), Or.inr ⟨q, rfl, ?_⟩⟩
      rw [e0]; exact h1
theorem AO.ins {x : aM} {i r : Nat} (hi : i < 20) (H : AO i x) (hr : r ≤ i) (h1 : ∀ p, r ≤ p → p < i → qc_com x i (ix (x 14 p))) (h2 : r = 0 ∨ ∃ p, r = p + 1 ∧ ¬ qc_com x i (ix (x 14 p))) : AO (i + 1) (mput (mS x r i) 14 r (nI i)) := by
  obtain ⟨o1, o2, o3⟩ := H
  have v1 : ∀ p, p < r → mput (mS x r i) 14 r (nI i) 14 p = x 14 p := fun p hp => by
    rw [mput_at, if_neg (by omega), mS_at, if_neg (by omega)]
  have v2 : mput (mS x r i) 14 r (nI i) 14 r = nI i := mput_self
  have v3 : ∀ p, r ≤ p → p < i → mput (mS x r i) 14 r (nI i) 14 (p + 1) = x 14 p := fun p hp hp2 => by
    rw [mput_at, if_neg (by omega), mS_at, if_pos (by omega)]
    rfl
  have c1 : ∀ p, p < i → ix (x 14 p) < i := fun p hp => by
    obtain ⟨c, hc, e⟩ := o1 p hp
    rw [e, ix_nI (by omega)]
    exact hc
  have ei : ix (nI i) = i := ix_nI (by omega)
  have A : ∀ p, p < r → qc_ah x (ix (x 14 p)) i := by
    intro p hp
    rcases h2 with h2 | ⟨p0, e, h2⟩
    · omega
    · have hcp := c1 p (by omega)
      by_cases e2 : p = p0
      · subst e2
        unfold qc_com at h2
        unfold qc_ah
        omega
      · have h3 := o2 p p0 (by omega) (by omega)
        unfold qc_com at h2
        unfold qc_ah at h3 ⊢
        omega
  have B : ∀ p, r ≤ p → p < i → qc_ah x i (ix (x 14 p)) := by
    intro p hp hp2
    have h3 := h1 p hp hp2
    unfold qc_com at h3
    unfold qc_ah
    omega
  have same : ∀ c d, qc_ah (mput (mS x r i) 14 r (nI i)) c d ↔ qc_ah x c d := by
    intro c d
    unfold qc_ah
    rw [mput_ne (show ¬ 11 = 14 by decide), mput_ne (show ¬ 12 = 14 by decide), mS_ne (show ¬ 11 = 14 by decide), mS_ne (show ¬ 12 = 14 by decide)]
  refine ⟨fun p hp => ?_, fun p s hps hs => ?_, fun c hc => ?_⟩
  · by_cases e1 : p < r
    · obtain ⟨c, hc, e⟩ := o1 p (by omega)
      exact ⟨c, by omega, (v1 p e1).trans e⟩
    · by_cases e2 : p = r
      · exact ⟨i, by omega, by rw [e2]; exact v2⟩
      · obtain ⟨p, rfl⟩ : ∃ z, p = z + 1 := ⟨p - 1, by omega⟩
        obtain ⟨c, hc, e⟩ := o1 p (by omega)
        exact ⟨c, by omega, (v3 p (by omega) (by omega)).trans e⟩
  · rw [same]
    by_cases e1 : p < r
    · rw [v1 p e1]
      by_cases e2 : s < r
      · rw [v1 s e2]; exact o2 p s hps (by omega)
      · by_cases e3 : s = r
        · rw [e3, v2, ei]; exact A p e1
        · obtain ⟨s, rfl⟩ : ∃ z, s = z + 1 := ⟨s - 1, by omega⟩
          rw [v3 s (by omega) (by omega)]
          exact o2 p s (by omega) (by omega)
    · by_cases e2 : p = r
      · obtain ⟨s, rfl⟩ : ∃ z, s = z + 1 := ⟨s - 1, by omega⟩
        rw [e2, v2, ei, v3 s (by omega) (by omega)]
        exact B s (by omega) (by omega)
      · obtain ⟨s, rfl⟩ : ∃ z, s = z + 1 := ⟨s - 1, by omega⟩
        obtain ⟨p, rfl⟩ : ∃ z, p = z + 1 := ⟨p - 1, by omega⟩
        rw [v3 s (by omega) (by omega), v3 p (by omega) (by omega)]
        exact o2 p s (by omega) (by omega)
  · by_cases e1 : c = i
    · exact ⟨r, by omega, by rw [e1]; exact v2⟩
    · obtain ⟨p, hp, e⟩ := o3 c (by omega)
      by_cases e2 : p < r
      · exact ⟨p, by omega, (v1 p e2).trans e⟩
      · exact ⟨p + 1, by omega, (v3 p (by omega) hp).trans e⟩
theorem x_sortCues {x : aM} {k : Nat} (hk : k ≤ 20) (h34 : x 3 4 = nI k) : ∃ x', f_X1_sortCues x = some (0, x') ∧ (∀ a, ¬ a = 14 → x' a = x a) ∧ AO k x' := by
  have loop : ∀ (kk : Int32 → aM → Option (Int32 × aM)) d i fu y, i + d = k → d < fu → y 3 4 = nI k → AO i y → ∃ y', l_X1_sortCues_2 fu (nI i) y kk = kk (nI k) y' ∧ (∀ a, ¬ a = 14 → y' a = y a) ∧ AO k y' := by
    intro kk d
    induction d with
    | zero =>
      intro i fu y hi hf hy H
      obtain ⟨fu, rfl⟩ : ∃ z, fu = z + 1 := ⟨fu - 1, by omega⟩
      obtain rfl : i = k := by omega
      refine ⟨y, ?_, fun _ _ => rfl, H⟩
      rw [l_X1_sortCues_2, hy, if_pos (q_le_self (by omega))]
    | succ d ih =>
      intro i fu y hi hf hy H
      obtain ⟨fu, rfl⟩ : ∃ z, fu = z + 1 := ⟨fu - 1, by omega⟩
      have hin := x_sort_in (x := y) (i := i) (by omega) H.1 (fun v15 σ16 => if inb v15 20 = true then l_X1_sortCues_2 fu (nI i + 1) (mput σ16 14 (ix v15) (nI i)) kk else none) i lf (Nat.le_refl _) (lf_gt (by omega))
      rw [mS_top] at hin
      obtain ⟨r, g1, g2, g3, g4⟩ := hin
      have hy2 : mput (mS y r i) 14 r (nI i) 3 4 = nI k := by
        rw [mput_ne (by decide), mS_ne (by decide)]
        exact hy
      obtain ⟨y', e1, e2, e3⟩ := ih (i + 1) fu (mput (mS y r i) 14 r (nI i)) (by omega) (by omega) hy2 (H.ins (by omega) g1 g3 g4)
      refine ⟨y', ?_, fun a ha => ?_, e3⟩
      · rw [l_X1_sortCues_2, hy, if_neg (nI_ge (by omega) (by omega)), g2]
        simp only [if_pos (inb_nI (show r < 20 by omega) (show 20 < 2 ^ 31 by decide)), ix_nI (show r < 2 ^ 31 by omega), nI_1]
        exact e1
      · rw [e2 a ha, mput_ne ha, mS_ne ha]
  obtain ⟨x', e1, e2, e3⟩ := loop (fun v18 σ19 => some (0, σ19)) k 0 lf x (by omega) (lf_gt (by omega)) h34 ⟨fun p h => absurd h (Nat.not_lt_zero p), fun p r _ h => absurd h (Nat.not_lt_zero r), fun p h => absurd h (Nat.not_lt_zero p)⟩
  exact ⟨x', e1, e2, e3⟩
theorem x_setTimes {x : aM} {n k : Nat} (hn : n ≤ 30) (hk : k ≤ 20) (h34 : x 3 4 = nI k) (hL : ∀ c, c < k → ∃ L, L < n ∧ x 11 c = nI L) : f_X1_setTimes x = some (0, mrow x 15 k (qc_t x)) := by
  have hl : ∀ kk : Int32 → aM → Option (Int32 × aM), l_X1_setTimes_2 lf 0 x kk = kk (nI k) (mrow x 15 k (qc_t x)) := by
    intro kk
    have key : l_X1_setTimes_2 lf (nI 0) (mrow x 15 0 (qc_t x)) kk = kk (nI k) (mrow x 15 k (qc_t x)) := by
      refine qa_loop0 (fun fu i => l_X1_setTimes_2 fu (nI i) (mrow x 15 i (qc_t x)) kk) k _ lf (lf_gt (by omega)) (fun i fu hi => ?_) (fun fu => ?_)
      · show l_X1_setTimes_2 (fu + 1) (nI i) (mrow x 15 i (qc_t x)) kk = l_X1_setTimes_2 fu (nI (i + 1)) (mrow x 15 (i + 1) (qc_t x)) kk
        obtain ⟨L, hL1, hL2⟩ := hL i hi
        have e3 : mrow x 15 i (qc_t x) 3 = x 3 := mrow_ne (by decide)
        have e11 : mrow x 15 i (qc_t x) 11 = x 11 := mrow_ne (by decide)
        have e8 : mrow x 15 i (qc_t x) 8 = x 8 := mrow_ne (by decide)
        have e7 : mrow x 15 i (qc_t x) 7 = x 7 := mrow_ne (by decide)
        have e12 : mrow x 15 i (qc_t x) 12 = x 12 := mrow_ne (by decide)
        rw [l_X1_setTimes_2, e3, h34, if_neg (nI_ge hi (by omega)), if_pos (inb_nI (show i < 20 by omega) (by decide)), ix_nI (show i < 2 ^ 31 by omega), e11, hL2, if_pos (inb_nI (show L < 30 by omega) (by decide)), ix_nI (show L < 2 ^ 31 by omega), e8, x_ahead (by omega)]
        simp only [bnd, e7, e8, e12, if_pos (inb_nI (show i < 20 by omega) (show 20 < 2 ^ 31 by decide)), nI_1]
        rw [← mrow_s (i := i)]
        unfold qc_t
        rw [hL2, ix_nI (show L < 2 ^ 31 by omega)]
        by_cases e : x 8 L = 0
        · rw [if_pos e, if_pos e]
        · rw [if_neg e, if_neg e]
      · show l_X1_setTimes_2 (fu + 1) (nI k) (mrow x 15 k (qc_t x)) kk = _
        rw [l_X1_setTimes_2, mrow_ne (by decide), h34, if_pos (q_le_self (by omega))]
    rw [mrow_0] at key
    exact key
  unfold f_X1_setTimes
  rw [hl]
end
section
/-! arrange: folding, the plays by time, the whole -/
theorem mrow_same {x : aM} {k i : Nat} {f : Nat → Int32} (h : f i = x k i) : mrow x k (i + 1) f = mrow x k i f := by
  funext a j
  by_cases ha : a = k
  · subst ha
    by_cases h1 : j < i
    · rw [mrow_at h1, mrow_at (by omega)]
    · rw [mrow_out h1]
      by_cases h2 : j = i
      · subst h2
        rw [mrow_at (by omega), h]
      · rw [mrow_out (by omega)]
  · rw [mrow_ne ha, mrow_ne ha]
theorem x_forget {x : aM} {c : Nat} (hc : c < 20) : f_X1_forget (nI c) x = some (0, mrow x (108 + c) 10 (fun _ => -1)) := by
  have hl : ∀ kk : Int32 → aM → Option (Int32 × aM), l_X1_forget_2 (nI c) lf 0 x kk = kk (nI 10) (mrow x (108 + c) 10 (fun _ => -1)) := by
    intro kk
    have key : l_X1_forget_2 (nI c) lf (nI 0) (mrow x (108 + c) 0 (fun _ => -1)) kk = kk (nI 10) (mrow x (108 + c) 10 (fun _ => -1)) := by
      refine qa_loop0 (fun fu i => l_X1_forget_2 (nI c) fu (nI i) (mrow x (108 + c) i (fun _ => -1)) kk) 10 _ lf (lf_gt (by decide)) (fun i fu hi => ?_) (fun fu => ?_)
      · show l_X1_forget_2 (nI c) (fu + 1) (nI i) (mrow x (108 + c) i (fun _ => -1)) kk = l_X1_forget_2 (nI c) fu (nI (i + 1)) (mrow x (108 + c) (i + 1) (fun _ => -1)) kk
        rw [l_X1_forget_2, if_neg (q10_lt hi), if_pos (inb_nI hc (by decide)), if_pos (inb_nI hi (by decide)), ix_nI (show c < 2 ^ 31 by omega), ix_nI (show i < 2 ^ 31 by omega), nI_1, ← mrow_s (i := i)]
      · show l_X1_forget_2 (nI c) (fu + 1) (nI 10) _ kk = _
        rw [l_X1_forget_2, if_pos q10_ge]
    rw [mrow_0] at key
    exact key
  unfold f_X1_forget
  rw [hl]
theorem x_fillIn {x : aM} {d c : Nat} (hd : d < 20) (hc : c < 20) : f_X1_fillIn (nI d) (nI c) x = some (0, mrow x (108 + d) 10 (fun h => if x (108 + d) h = -1 then x (88 + c) h else x (108 + d) h)) := by
  have hl : ∀ kk : Int32 → aM → Option (Int32 × aM), l_X1_fillIn_2 (nI d) (nI c) lf 0 x kk = kk (nI 10) (mrow x (108 + d) 10 (fun h => if x (108 + d) h = -1 then x (88 + c) h else x (108 + d) h)) := by
    intro kk
    have key : l_X1_fillIn_2 (nI d) (nI c) lf (nI 0) (mrow x (108 + d) 0 (fun h => if x (108 + d) h = -1 then x (88 + c) h else x (108 + d) h)) kk = kk (nI 10) (mrow x (108 + d) 10 (fun h => if x (108 + d) h = -1 then x (88 + c) h else x (108 + d) h)) := by
      refine qa_loop0 (fun fu i => l_X1_fillIn_2 (nI d) (nI c) fu (nI i) (mrow x (108 + d) i (fun h => if x (108 + d) h = -1 then x (88 + c) h else x (108 + d) h)) kk) 10 _ lf (lf_gt (by decide)) (fun i fu hi => ?_) (fun fu => ?_)
      · show l_X1_fillIn_2 (nI d) (nI c) (fu + 1) (nI i) (mrow x (108 + d) i (fun h => if x (108 + d) h = -1 then x (88 + c) h else x (108 + d) h)) kk = l_X1_fillIn_2 (nI d) (nI c) fu (nI (i + 1)) (mrow x (108 + d) (i + 1) (fun h => if x (108 + d) h = -1 then x (88 + c) h else x (108 + d) h)) kk
        rw [l_X1_fillIn_2, if_neg (q10_lt hi)]
        simp only [if_pos (inb_nI hd (show 20 < 2 ^ 31 by decide)), if_pos (inb_nI hc (show 20 < 2 ^ 31 by decide)), if_pos (inb_nI hi (show 10 < 2 ^ 31 by decide)), ix_nI (show d < 2 ^ 31 by omega), ix_nI (show c < 2 ^ 31 by omega), ix_nI (show i < 2 ^ 31 by omega), nI_1]
        rw [mrow_out (Nat.lt_irrefl i), mrow_ne (show ¬ 88 + c = 108 + d by omega)]
        by_cases e : x (108 + d) i = -1
        · rw [if_neg (fun q => q e), ← mrow_s (i := i), if_pos e]
        · rw [if_pos e, mrow_same (if_neg e)]
      · show l_X1_fillIn_2 (nI d) (nI c) (fu + 1) (nI 10) _ kk = _
        rw [l_X1_fillIn_2, if_pos q10_ge]
    rw [mrow_0] at key
    exact key
  unfold f_X1_fillIn
  rw [hl]
theorem AO.ne {k p r : Nat} {x : aM} (H : AO k x) (hp : p < k) (hr : r < k) (h : ¬ p = r) : ¬ ix (x 14 p) = ix (x 14 r) := by
  intro e
  by_cases h1 : p < r
  · have := H.2.1 p r h1 hr
    rw [e] at this
    unfold qc_ah at this
    omega
  · have := H.2.1 r p (by omega) hp
    rw [e] at this
    unfold qc_ah at this
    omega
theorem qc_C_ne {tm ow : Nat → Int32} {v : Int32} (h : ¬ v = -1) : ∀ m, qc_C tm ow m v = v
  | 0 => rfl
  | m + 1 => by rw [qc_C, if_neg h]
/-- the folding behind the places from r on -/
def FI (k : Nat) (tm ov : Nat → Int32) (ow : Nat → Nat → Int32) (r : Nat) (nx : Int32) (y : aM) : Prop :=
  nx = qc_N tm ov k (k - r) ∧ (∀ p, r ≤ p → p < k → y 16 (ix (ov p)) = qc_N tm ov k (k - p)) ∧ (∀ p h, r ≤ p → p < k → h < 10 → tm p = -1 → y (108 + ix (ov p)) h = -1) ∧ (∀ p h, r ≤ p → p < k → h < 10 → ¬ tm p = -1 → (∃ s, r ≤ s ∧ s < p ∧ ¬ tm s = -1) → y (108 + ix (ov p)) h = qc_C tm (ow h) p (ow h p)) ∧ ((nx = -1 ∧ ∀ p, r ≤ p → p < k → tm p = -1) ∨ ∃ q, r ≤ q ∧ q < k ∧ nx = ov q ∧ ¬ tm q = -1 ∧ (∀ p, r ≤ p → p < q → tm p = -1) ∧ ∀ h, h < 10 → qc_C tm (ow h) r (y (108 + ix (ov q)) h) = qc_C tm (ow h) q (ow h q))
theorem FI.cut0 {k r c : Nat} {tm ov : Nat → Int32} {ow : Nat → Nat → Int32} {nx : Int32} {y y' : aM} (H : FI k tm ov ow (r + 1) nx y) (hr : r < k) (hc : ix (ov r) = c) (hd : ∀ p, p < k → ¬ p = r → ¬ ix (ov p) = c) (ht : tm r = -1) (e16 : y' 16 c = nx) (k16 : ∀ d, ¬ d = c → y' 16 d = y 16 d) (eF : ∀ h, h < 10 → y' (108 + c) h = -1) (hn : nx = -1) (f5 : ∀ p, r + 1 ≤ p → p < k → tm p = -1) (kF : ∀ d h, ¬ d = c → y' (108 + d) h = y (108 + d) h) : FI k tm ov ow r nx y' := by
  obtain ⟨f1, f2, f3, f4, -⟩ := H
  have hN : qc_N tm ov k (k - r) = nx := by
    rw [show k - r = (k - (r + 1)) + 1 by omega, qc_N, show k - (k - (r + 1) + 1) = r by omega, if_pos ht, f1]
  have all : ∀ p, r ≤ p → p < k → tm p = -1 := fun p hp hp2 => by
    by_cases e : p = r
    · rw [e]; exact ht
    · exact f5 p (by omega) hp2
  refine ⟨hN.symm, fun p hp hp2 => ?_, fun p h hp hp2 hh htp => ?_, fun p h hp hp2 hh htp _ => absurd (all p hp hp2) htp, Or.inl ⟨hn, all⟩⟩
  · by_cases e : p = r
    · rw [e, hc, e16, hN]
    · rw [k16 _ (hd p hp2 e)]
      exact f2 p (by omega) hp2
  · by_cases e : p = r
    · rw [e, hc]; exact eF h hh
    · rw [kF _ _ (hd p hp2 e)]
      exact f3 p h (by omega) hp2 hh htp
theorem FI.cutQ {k r c q e : Nat} {tm ov : Nat → Int32} {ow : Nat → Nat → Int32} {nx : Int32} {y y' : aM} (H : FI k tm ov ow (r + 1) nx y) (hr : r < k) (hc : ix (ov r) = c) (hd : ∀ p, p < k → ¬ p = r → ¬ ix (ov p) = c) (ht : tm r = -1) (e16 : y' 16 c = nx) (k16 : ∀ d, ¬ d = c → y' 16 d = y 16 d) (eF : ∀ h, h < 10 → y' (108 + c) h = -1) (g1 : r + 1 ≤ q) (g2 : q < k) (g3 : nx = ov q) (g4 : ¬ tm q = -1) (g5 : ∀ p, r + 1 ≤ p → p < q → tm p = -1) (g6 : ∀ h, h < 10 → qc_C tm (ow h) (r + 1) (y (108 + ix (ov q)) h) = qc_C tm (ow h) q (ow h q)) (he : ix (ov q) = e) (hde : ∀ p, p < k → ¬ p = q → ¬ ix (ov p) = e) (eQ : ∀ h, h < 10 → y' (108 + e) h = if y (108 + e) h = -1 then ow h r else y (108 + e) h) (kF : ∀ d h, ¬ d = c → ¬ d = e → y' (108 + d) h = y (108 + d) h) : FI k tm ov ow r nx y' := by
  obtain ⟨f1, f2, f3, f4, -⟩ := H
  have hN : qc_N tm ov k (k - r) = nx := by
    rw [show k - r = (k - (r + 1)) + 1 by omega, qc_N, show k - (k - (r + 1) + 1) = r by omega, if_pos ht, f1]
  refine ⟨hN.symm, fun p hp hp2 => ?_, fun p h hp hp2 hh htp => ?_, fun p h hp hp2 hh htp hs => ?_, Or.inr ⟨q, by omega, g2, g3, g4, fun p hp hp2 => ?_, fun h hh => ?_⟩⟩
  · by_cases e1 : p = r
    · rw [e1, hc, e16, hN]
    · rw [k16 _ (hd p hp2 e1)]
      exact f2 p (by omega) hp2
  · by_cases e1 : p = r
    · rw [e1, hc]; exact eF h hh
    · by_cases e2 : p = q
      · rw [e2] at htp; exact absurd htp g4
      · rw [kF _ _ (hd p hp2 e1) (hde p hp2 e2)]
        exact f3 p h (by omega) hp2 hh htp
  · obtain ⟨s, s1, s2, s3⟩ := hs
    have hsr : ¬ s = r := fun q => s3 (by rw [q]; exact ht)
    have hpq : ¬ p = q := fun q9 => s3 (g5 s (by omega) (by omega))
    rw [kF _ _ (hd p hp2 (by omega)) (hde p hp2 hpq)]
    exact f4 p h (by omega) hp2 hh htp ⟨s, by omega, s2, s3⟩
  · by_cases e1 : p = r
    · rw [e1]; exact ht
    · exact g5 p (by omega) hp2
  · have h6 := g6 h hh
    rw [he] at h6 ⊢
    rw [eQ h hh]
    by_cases e1 : y (108 + e) h = -1
    · rw [if_pos e1]
      rw [qc_C, if_pos e1, if_pos ht] at h6
      exact h6
    · rw [if_neg e1]
      rw [qc_C_ne e1] at h6 ⊢
      exact h6
theorem FI.play {k r c : Nat} {tm ov : Nat → Int32} {ow : Nat → Nat → Int32} {nx : Int32} {y y' : aM} (H : FI k tm ov ow (r + 1) nx y) (hr : r < k) (hc : ix (ov r) = c) (hd : ∀ p, p < k → ¬ p = r → ¬ ix (ov p) = c) (ht : ¬ tm r = -1) (e16 : y' 16 c = ov r) (k16 : ∀ d, ¬ d = c → y' 16 d = y 16 d) (eF : ∀ h, h < 10 → y' (108 + c) h = ow h r) (kF : ∀ d h, ¬ d = c → y' (108 + d) h = y (108 + d) h) : FI k tm ov ow r (ov r) y' := by
  obtain ⟨f1, f2, f3, f4, f5⟩ := H
  have hN : qc_N tm ov k (k - r) = ov r := by
    rw [show k - r = (k - (r + 1)) + 1 by omega, qc_N, show k - (k - (r + 1) + 1) = r by omega, if_neg ht]
  refine ⟨hN.symm, fun p hp hp2 => ?_, fun p h hp hp2 hh htp => ?_, fun p h hp hp2 hh htp hs => ?_, Or.inr ⟨r, Nat.le_refl _, hr, rfl, ht, fun p hp hp2 => absurd hp (by omega), fun h hh => ?_⟩⟩
  · by_cases e1 : p = r
    · rw [e1, hc, e16, hN]
    · rw [k16 _ (hd p hp2 e1)]
      exact f2 p (by omega) hp2
  · by_cases e1 : p = r
    · rw [e1] at htp; exact absurd htp ht
    · rw [kF _ _ (hd p hp2 e1)]
      exact f3 p h (by omega) hp2 hh htp
  · obtain ⟨s, s1, s2, s3⟩ := hs
    have hpr : ¬ p = r := by omega
    rw [kF _ _ (hd p hp2 hpr)]
    by_cases e1 : ∃ s, r + 1 ≤ s ∧ s < p ∧ ¬ tm s = -1
    · exact f4 p h (by omega) hp2 hh htp e1
    · rcases f5 with ⟨-, f5⟩ | ⟨q, g1, g2, g3, g4, g5, g6⟩
      · exact absurd (f5 p (by omega) hp2) htp
      · have hpq : p = q := by
          by_cases h1 : p < q
          · exact absurd (g5 p (by omega) h1) htp
          · by_cases h2 : q < p
            · exact absurd ⟨q, g1, h2, g4⟩ e1
            · omega
        have h6 := g6 h hh
        rw [← hpq] at h6
        rw [qc_C] at h6
        by_cases e2 : y (108 + ix (ov p)) h = -1
        · rw [if_pos e2, if_neg ht] at h6; exact h6
        · rw [if_neg e2] at h6; exact h6
  · rw [hc, eF h hh]
theorem x_fold {x : aM} {k : Nat} (hk : k ≤ 20) (h34 : x 3 4 = nI k) (hO : AO k x) : ∃ x', f_X1_fold x = some (0, x') ∧ (∀ a, ¬ a = 16 → ¬ (108 ≤ a ∧ a < 128) → x' a = x a) ∧ AF k x' := by
  have loop : ∀ (kk : Int32 → Int32 → aM → Option (Int32 × aM)) (hkk : ∀ a b c d y, kk a b y = kk c d y) (r fu : Nat) (nx : Int32) (y : aM), r ≤ k → r < fu → (∀ a, ¬ a = 16 → ¬ (108 ≤ a ∧ a < 128) → y a = x a) → FI k (pT x) (x 14) (pO x) r nx y → ∃ y' nx', l_X1_fold_9 fu nx (nI r - 1) y kk = kk 0 0 y' ∧ (∀ a, ¬ a = 16 → ¬ (108 ≤ a ∧ a < 128) → y' a = x a) ∧ FI k (pT x) (x 14) (pO x) 0 nx' y' := by
    intro kk hkk r
    induction r with
    | zero =>
      intro fu nx y hr hf hy H
      obtain ⟨fu, rfl⟩ : ∃ z, fu = z + 1 := ⟨fu - 1, by omega⟩
      refine ⟨y, nx, ?_, hy, H⟩
      rw [l_X1_fold_9, if_pos (show nI 0 - 1 < 0 by decide)]
      exact hkk _ _ _ _ _
    | succ r ih =>
      intro fu nx y hr hf hy H
      obtain ⟨fu, rfl⟩ : ∃ z, fu = z + 1 := ⟨fu - 1, by omega⟩
      obtain ⟨c, hc, e14⟩ := hO.1 r (by omega)
      have ec : ix (x 14 r) = c := by rw [e14, ix_nI (by omega)]
      have hd : ∀ p, p < k → ¬ p = r → ¬ ix (x 14 p) = c := fun p hp hpr q => hO.ne hp (show r < k by omega) hpr (q.trans ec.symm)
      have ey14 : y 14 = x 14 := hy 14 (by decide) (by decide)
      have ey15 : y 15 = x 15 := hy 15 (by decide) (by decide)
      have hc20 : inb (nI c) 20 = true := inb_nI (by omega) (by decide)
      have eT : pT x r = x 15 c := by
        unfold pT
        rw [ec]
      have eO : ∀ h, pO x h r = x (88 + c) h := fun h => by
        unfold pO
        rw [ec, if_pos (by omega)]
      have hm1 : ∀ e : Nat, e < 20 → ¬ nI e = -1 := fun e he q => by
        have q2 := congrArg Int32.toInt q
        rw [nI_toInt (by omega), show (-1 : Int32).toInt = -1 from rfl] at q2
        omega
      rw [l_X1_fold_9, nI_pred, if_neg (nI_pos (by omega)), if_pos (inb_nI (show r < 20 by omega) (by decide)), ix_nI (show r < 2 ^ 31 by omega), ey14, e14, x_forget (by omega)]
      simp only [bnd, if_pos hc20, ix_nI (show c < 2 ^ 31 by omega)]
      rw [mrow_ne (show ¬ 15 = 108 + c by omega), ey15, ← eT, show nI r + (-1) = nI r - 1 by rw [Int32.sub_eq_add_neg]]
      by_cases ht : pT x r = -1
      · rw [if_pos ht]
        rcases H.2.2.2.2 with ⟨g0, g5⟩ | ⟨q, g1, g2, g3, g4, g5, g6⟩
        · rw [if_pos g0]
          refine ih fu nx _ (by omega) (by omega) (fun a h1 h2 => ?_) (H.cut0 (c := c) (by omega) ec hd ht ?_ (fun d hd2 => ?_) (fun h hh => ?_) g0 g5 (fun d h hd2 => ?_))
          · rw [mput_ne h1, mrow_ne (by omega)]
            exact hy a h1 h2
          · rw [mput_self]
          · rw [mput_other hd2, mrow_ne (by omega)]
          · rw [mput_ne (by omega), mrow_at hh]
          · rw [mput_ne (by omega), mrow_ne (by omega)]
        · obtain ⟨e, he, e14q⟩ := hO.1 q g2
          have eq' : ix (x 14 q) = e := by rw [e14q, ix_nI (by omega)]
          have hde : ∀ p, p < k → ¬ p = q → ¬ ix (x 14 p) = e := fun p hp hpr q9 => hO.ne hp g2 hpr (q9.trans eq'.symm)
          have hec : ¬ e = c := fun q9 => hd q g2 (by omega) (eq'.trans q9)
          have enx : nx = nI e := g3.trans e14q
          rw [if_neg (show ¬ nx = -1 by rw [enx]; exact hm1 e (by omega)), enx, x_fillIn (by omega) (by omega)]
          simp only []
          have hmem : ∀ a, ¬ a = 16 → ¬ a = 108 + c → ¬ a = 108 + e → mrow (mput (mrow y (108 + c) 10 fun _ => -1) 16 c (nI e)) (108 + e) 10 (fun h => if mput (mrow y (108 + c) 10 fun _ => -1) 16 c (nI e) (108 + e) h = -1 then mput (mrow y (108 + c) 10 fun _ => -1) 16 c (nI e) (88 + c) h else mput (mrow y (108 + c) 10 fun _ => -1) 16 c (nI e) (108 + e) h) a = y a := fun a h1 h2 h3 => by
            rw [mrow_ne h3, mput_ne h1, mrow_ne h2]
          refine ih fu (nI e) _ (by omega) (by omega) (fun a h1 h2 => ?_) (FI.cutQ (nx := nI e) (c := c) (q := q) (e := e) (enx ▸ H) (by omega) ec hd ht ?_ (fun d hd2 => ?_) (fun h hh => ?_) g1 g2 (enx ▸ g3) g4 g5 g6 eq' hde (fun h hh => ?_) (fun d h hd2 hd3 => ?_))
          · rw [hmem a h1 (by omega) (by omega)]
            exact hy a h1 h2
          · rw [mrow_ne (by omega), mput_self]
          · rw [mrow_ne (by omega), mput_other hd2, mrow_ne (by omega)]
          · rw [mrow_ne (by omega), mput_ne (by omega), mrow_at hh]
          · rw [mrow_at hh, mput_ne (by omega), mput_ne (by omega), mrow_ne (by omega), mrow_ne (by omega), hy (88 + c) (by omega) (by omega), eO]
          · rw [hmem (108 + d) (by omega) (by omega) (by omega)]
      · rw [if_neg ht, if_neg (hm1 c (by omega)), x_fillIn (by omega) (by omega)]
        simp only []
        rw [← e14]
        refine ih fu (x 14 r) _ (by omega) (by omega) (fun a h1 h2 => ?_) (H.play (c := c) (by omega) ec hd ht ?_ (fun d hd2 => ?_) (fun h hh => ?_) (fun d h hd2 => ?_))
        · rw [mrow_ne (by omega), mput_ne h1, mrow_ne (by omega)]
          exact hy a h1 h2
        · rw [mrow_ne (by omega), mput_self]
        · rw [mrow_ne (by omega), mput_other hd2, mrow_ne (by omega)]
        · rw [mrow_at hh, mput_ne (by omega), mput_ne (by omega), mrow_at hh, if_pos rfl, mrow_ne (by omega), hy (88 + c) (by omega) (by omega), eO]
        · rw [mrow_ne (by omega), mput_ne (by omega), mrow_ne (by omega)]
  have h0 : FI k (pT x) (x 14) (pO x) k (-1) x := by
    refine ⟨?_, fun p h1 h2 => absurd h1 (by omega), fun p h h1 h2 => absurd h1 (by omega), fun p h h1 h2 => absurd h1 (by omega), Or.inl ⟨rfl, fun p h1 h2 => absurd h1 (by omega)⟩⟩
    rw [Nat.sub_self]
    rfl
  obtain ⟨y, nx, e1, e2, g1, g2, g3, g4, g5⟩ := loop (fun v21 v22 σ23 => some (0, σ23)) (fun _ _ _ _ _ => rfl) k lf (-1) x (Nat.le_refl _) (lf_gt (by omega)) (fun _ _ _ => rfl) h0
  refine ⟨y, ?_, e2, ?_⟩
  · unfold f_X1_fold
    rw [h34]
    exact e1
  · have e14 : y 14 = x 14 := e2 14 (by decide) (by decide)
    have e15 : y 15 = x 15 := e2 15 (by decide) (by decide)
    have eT : pT y = pT x := by
      funext p
      unfold pT
      rw [e14, e15]
    have eO : ∀ h, pO y h = pO x h := fun h => by
      funext p
      unfold pO
      rw [e14]
      by_cases e : ix (x 14 p) < 20
      · rw [if_pos e, if_pos e, e2 _ (by omega) (by omega)]
      · rw [if_neg e, if_neg e]
    refine ⟨fun p hp => ?_, fun p h hp hh => ?_⟩
    · rw [eT, e14]; exact g2 p (by omega) hp
    · rw [eT, e14, eO]
      by_cases ht : pT x p = -1
      · rw [if_pos ht]; exact g3 p h (by omega) hp hh ht
      · rw [if_neg ht]
        by_cases hs : ∃ s, 0 ≤ s ∧ s < p ∧ ¬ pT x s = -1
        · exact g4 p h (by omega) hp hh ht hs
        · rcases g5 with ⟨-, g5⟩ | ⟨q, h1, h2, h3, h4, h5, h6⟩
          · exact absurd (g5 p (by omega) hp) ht
          · have hpq : p = q := by
              by_cases h7 : p < q
              · exact absurd (h5 p (by omega) h7) ht
              · by_cases h8 : q < p
                · exact absurd ⟨q, by omega, h8, h4⟩ hs
                · omega
            rw [hpq]
            exact h6 h hh
/-- one play is put in its place -/
theorem x_ins {x : aM} {k z c : Nat} (hk : k ≤ 20) (hO : AO k x) (hz : z < k) (hc20 : c < 20) (hc : x 14 z = nI c) (kk : Int32 → aM → Option (Int32 × aM)) : ∀ (a fu : Nat) (r : Nat → Nat) (y : aM) (N : Nat), a < N → N ≤ 20 → a < fu → (∀ b, ¬ b = 17 → ¬ b = 3 → y b = x b) → (∀ j, j < N → ¬ j = a → r j < k ∧ y 17 j = x 14 (r j)) → ∃ b y', b ≤ a ∧ l_X1_insertPlay_5 (nI c) fu (nI a) y kk = kk (nI b) y' ∧ (∀ b, ¬ b = 17 → y' b = y b) ∧ ∀ j, j < N → mput y' 17 b (nI c) 17 j = x 14 (qc_I (pT x) z a r j) := by
  intro a
  induction a with
  | zero =>
    intro fu r y N ha hN hf hy hr
    obtain ⟨fu, rfl⟩ : ∃ z, fu = z + 1 := ⟨fu - 1, by omega⟩
    refine ⟨0, y, Nat.le_refl _, ?_, fun _ _ => rfl, fun j hj => ?_⟩
    · rw [l_X1_insertPlay_5, if_pos (show nI 0 ≤ 0 from Int32.le_refl 0)]
    · show _ = x 14 (qc_u r 0 z j)
      by_cases e : j = 0
      · rw [e, mput_self, qc_u_at, hc]
      · rw [mput_other e, qc_u_ne e]
        exact (hr j hj e).2
  | succ a ih =>
    intro fu r y N ha hN hf hy hr
    obtain ⟨fu, rfl⟩ : ∃ z, fu = z + 1 := ⟨fu - 1, by omega⟩
    obtain ⟨h1, h2⟩ := hr a (by omega) (by omega)
    obtain ⟨d, hd, e14⟩ := hO.1 (r a) h1
    have e17 : y 17 a = nI d := h2.trans e14
    have ey15 : y 15 = x 15 := hy 15 (by decide) (by decide)
    have eTz : pT x z = x 15 c := by
      unfold pT
      rw [hc, ix_nI (by omega)]
    have eTa : pT x (r a) = x 15 d := by
      unfold pT
      rw [e14, ix_nI (by omega)]
    rw [l_X1_insertPlay_5, if_neg (nI_nle (by omega) (by omega)), nI_pred]
    simp only [if_pos (inb_nI (show a < 20 by omega) (show 20 < 2 ^ 31 by decide)), ix_nI (show a < 2 ^ 31 by omega), e17, if_pos (inb_nI (show d < 20 by omega) (show 20 < 2 ^ 31 by decide)), ix_nI (show d < 2 ^ 31 by omega), if_pos (inb_nI hc20 (show 20 < 2 ^ 31 by decide)), ix_nI (show c < 2 ^ 31 by omega), ey15, if_pos (inb_nI (show a + 1 < 20 by omega) (show 20 < 2 ^ 31 by decide)), ix_nI (show a + 1 < 2 ^ 31 by omega), pk_m1]
    unfold qc_I
    rw [eTz, eTa]
    by_cases hle : x 15 d ≤ x 15 c
    · rw [if_pos hle]
      rw [Int32.le_iff_toInt_le] at hle
      rw [if_neg (show ¬ (x 15 c).toInt < (x 15 d).toInt by omega)]
      refine ⟨a + 1, y, Nat.le_refl _, rfl, fun _ _ => rfl, fun j hj => ?_⟩
      by_cases e : j = a + 1
      · rw [e, mput_self, qc_u_at, hc]
      · rw [mput_other e, qc_u_ne e]
        exact (hr j hj e).2
    · rw [if_neg hle]
      rw [Int32.le_iff_toInt_le] at hle
      rw [if_pos (show (x 15 c).toInt < (x 15 d).toInt by omega)]
      obtain ⟨b, y', g1, g2, g3, g4⟩ := ih fu (qc_u r (a + 1) (r a)) (mput y 17 (a + 1) (nI d)) N (by omega) hN (by omega) (fun b h3 h4 => (mput_ne h3).trans (hy b h3 h4)) (fun j hj hja => by
        by_cases e : j = a + 1
        · rw [e, qc_u_at, mput_self]
          exact ⟨h1, e14.symm⟩
        · rw [qc_u_ne e, mput_other e]
          exact hr j hj e)
      exact ⟨b, y', by omega, g2, fun b hb => (g3 b hb).trans (mput_ne hb), g4⟩
theorem x_sortPlays {x : aM} {k : Nat} (hk : k ≤ 20) (h34 : x 3 4 = nI k) (hO : AO k x) : ∃ x', f_X1_sortPlays x = some (0, x') ∧ (∀ a, ¬ a = 17 → ¬ a = 3 → x' a = x a) ∧ (∀ j, ¬ j = 10 → x' 3 j = x 3 j) ∧ AP k x' := by
  have loop : ∀ (kk : Int32 → aM → Option (Int32 × aM)) d p fu y, p + d = k → d < fu → (∀ a, ¬ a = 17 → ¬ a = 3 → y a = x a) → (∀ j, ¬ j = 10 → y 3 j = x 3 j) → y 3 10 = nI (qc_P (pT x) p).1 → (∀ j, j < (qc_P (pT x) p).1 → y 17 j = x 14 ((qc_P (pT x) p).2 j)) → ∃ y', l_X1_sortPlays_7 fu (nI p) y kk = kk (nI k) y' ∧ (∀ a, ¬ a = 17 → ¬ a = 3 → y' a = x a) ∧ (∀ j, ¬ j = 10 → y' 3 j = x 3 j) ∧ y' 3 10 = nI (qc_P (pT x) k).1 ∧ (∀ j, j < (qc_P (pT x) k).1 → y' 17 j = x 14 ((qc_P (pT x) k).2 j)) := by
    intro kk d
    induction d with
    | zero =>
      intro p fu y hp hf h1 h2 h3 h4
      obtain ⟨fu, rfl⟩ : ∃ z, fu = z + 1 := ⟨fu - 1, by omega⟩
      obtain rfl : p = k := by omega
      refine ⟨y, ?_, h1, h2, h3, h4⟩
      rw [l_X1_sortPlays_7, h2 4 (by decide), h34, if_pos (q_le_self (by omega))]
    | succ d ih =>
      intro p fu y hp hf h1 h2 h3 h4
      obtain ⟨fu, rfl⟩ : ∃ z, fu = z + 1 := ⟨fu - 1, by omega⟩
      obtain ⟨c, hc, e14⟩ := hO.1 p (by omega)
      obtain ⟨f1, f2, f3⟩ := qc_P_facts (tm := pT x) p
      have eT : pT x p = x 15 c := by
        unfold pT
        rw [e14, ix_nI (by omega)]
      have e4 : y 3 4 = nI k := (h2 4 (by decide)).trans h34
      have ey14 : y 14 p = nI c := (congrFun (h1 14 (by decide) (by decide)) p).trans e14
      have ey15 : y 15 = x 15 := h1 15 (by decide) (by decide)
      rw [l_X1_sortPlays_7, e4, if_neg (nI_ge (by omega) (by omega)), if_pos (inb_nI (show p < 20 by omega) (by decide)), ix_nI (show p < 2 ^ 31 by omega), ey14, if_pos (inb_nI (show c < 20 by omega) (by decide)), ix_nI (show c < 2 ^ 31 by omega), ey15, ← eT, nI_1]
      by_cases ht : pT x p = -1
      · have eP : qc_P (pT x) (p + 1) = qc_P (pT x) p := by rw [qc_P, if_pos ht]
        rw [if_pos ht]
        exact ih (p + 1) fu y (by omega) (by omega) h1 h2 (by rw [eP]; exact h3) (by rw [eP]; exact h4)
      · have eP : qc_P (pT x) (p + 1) = ((qc_P (pT x) p).1 + 1, qc_I (pT x) p (qc_P (pT x) p).1 (qc_P (pT x) p).2) := by rw [qc_P, if_neg ht]
        rw [if_neg ht, if_pos (inb_nI (show p < 20 by omega) (by decide))]
        unfold f_X1_insertPlay
        rw [h3]
        obtain ⟨b, y', g1, g2, g3, g4⟩ := x_ins hk hO (show p < k by omega) (show c < 20 by omega) e14 (fun v11 σ12 => if inb v11 20 = true then some (0, mput (mput σ12 17 (ix v11) (nI c)) 3 10 ((σ12 3 10) + 1)) else none) (qc_P (pT x) p).1 lf (qc_P (pT x) p).2 y ((qc_P (pT x) p).1 + 1) (Nat.lt_succ_self _) (by omega) (lf_gt (by omega)) h1 (fun j hj hj2 => ⟨by have := (f2 j (by omega)).1; omega, h4 j (by omega)⟩)
        rw [g2, if_pos (inb_nI (show b < 20 by omega) (by decide))]
        simp only [bnd]
        rw [ix_nI (show b < 2 ^ 31 by omega)]
        refine ih (p + 1) fu _ (by omega) (by omega) (fun a ha hb => ?_) (fun j hj => ?_) ?_ (fun j hj => ?_)
        · rw [mput_ne hb, mput_ne ha, g3 a ha]
          exact h1 a ha hb
        · rw [mput_other hj, mput_ne (by decide), g3 3 (by decide)]
          exact h2 j hj
        · rw [mput_self, g3 3 (by decide), h3, eP, nI_1]
        · rw [eP] at hj ⊢
          rw [mput_ne (by decide)]
          exact g4 j hj
  obtain ⟨y, e1, e2, e3, e4, e5⟩ := loop (fun v11 σ12 => some (0, σ12)) k 0 lf (mput x 3 10 0) (by omega) (lf_gt (by omega)) (fun a _ hb => mput_ne hb) (fun j hj => mput_other hj) mput_self (fun j hj => absurd hj (Nat.not_lt_zero j))
  refine ⟨y, e1, e2, e3, ?_⟩
  have e14 : y 14 = x 14 := e2 14 (by decide) (by decide)
  have eT : pT y = pT x := by
    funext p
    unfold pT
    rw [e14, e2 15 (by decide) (by decide)]
  unfold AP
  rw [eT, e14]
  exact ⟨e4, e5⟩
theorem x_arrange {x : aM} {n k : Nat} (hn : n ≤ 30) (hC : RC0 n k x) : ∃ x', f_X1_arrange x = some (0, x') ∧ (∀ a, ¬ (14 ≤ a ∧ a ≤ 17) → ¬ (108 ≤ a ∧ a < 128) → ¬ a = 3 → x' a = x a) ∧ (∀ j, ¬ j = 10 → x' 3 j = x 3 j) ∧ AR k x' := by
  obtain ⟨hk, h34, hL, -, -⟩ := hC
  obtain ⟨x1, a1, a2, a3⟩ := x_sortCues hk h34
  have b34 : x1 3 4 = nI k := by rw [a2 3 (by decide)]; exact h34
  have bL : ∀ c, c < k → ∃ L, L < n ∧ x1 11 c = nI L := by rw [a2 11 (by decide)]; exact hL
  have b1 := x_setTimes hn hk b34 bL
  have b2 : AO k (mrow x1 15 k (qc_t x1)) := by
    unfold AO qc_ah at a3 ⊢
    rw [mrow_ne (show ¬ 14 = 15 by decide), mrow_ne (show ¬ 11 = 15 by decide), mrow_ne (show ¬ 12 = 15 by decide)]
    exact a3
  have c34 : mrow x1 15 k (qc_t x1) 3 4 = nI k := by rw [mrow_ne (by decide)]; exact b34
  obtain ⟨x3, c1, c2, c3⟩ := x_fold hk c34 b2
  have d34 : x3 3 4 = nI k := by rw [c2 3 (by decide) (by decide)]; exact c34
  have d0 : AO k x3 := by
    unfold AO qc_ah at b2 ⊢
    rw [c2 14 (by decide) (by decide), c2 11 (by decide) (by decide), c2 12 (by decide) (by decide)]
    exact b2
  obtain ⟨x4, d1, d2, d3, d4⟩ := x_sortPlays hk d34 d0
  have keep : ∀ a, ¬ (14 ≤ a ∧ a ≤ 17) → ¬ (108 ≤ a ∧ a < 128) → ¬ a = 3 → x4 a = x a := fun a h1 h2 h3 => by
    rw [d2 a (by omega) h3, c2 a (by omega) h2, mrow_ne (by omega), a2 a (by omega)]
  refine ⟨x4, ?_, keep, fun j hj => ?_, ?_, fun c hc => ?_, ?_, d4⟩
  · unfold f_X1_arrange
    rw [a1]
    simp only [bnd]
    rw [b1]
    simp only []
    rw [c1]
    simp only []
    rw [d1]
  · rw [d3 j hj, c2 3 (by decide) (by decide), mrow_ne (by decide), a2 3 (by decide)]
  · unfold AO qc_ah at d0 ⊢
    rw [d2 14 (by decide) (by decide), d2 11 (by decide) (by decide), d2 12 (by decide) (by decide)]
    exact d0
  · rw [d2 15 (by decide) (by decide), c2 15 (by decide) (by decide), mrow_at hc]
    unfold qc_t
    rw [keep 8 (by decide) (by decide) (by decide), keep 11 (by decide) (by decide) (by decide), keep 7 (by decide) (by decide) (by decide), keep 12 (by decide) (by decide) (by decide), a2 8 (by decide), a2 11 (by decide), a2 7 (by decide), a2 12 (by decide)]
  · have e14 : x4 14 = x3 14 := d2 14 (by decide) (by decide)
    have eT : pT x4 = pT x3 := by
      funext p
      unfold pT
      rw [e14, d2 15 (by decide) (by decide)]
    have eO : ∀ h, pO x4 h = pO x3 h := fun h => by
      funext p
      unfold pO
      rw [e14]
      by_cases e : ix (x3 14 p) < 20
      · rw [if_pos e, if_pos e, d2 _ (by omega) (by omega)]
      · rw [if_neg e, if_neg e]
    refine ⟨?_, fun p h hp hh => ?_⟩
    · rw [eT, e14, d2 16 (by decide) (by decide)]
      exact c3.1
    · obtain ⟨c, hc, e⟩ := d0.1 p hp
      have e2 : ix (x3 14 p) = c := by rw [e, ix_nI (by omega)]
      rw [eT, e14, eO, d2 (108 + ix (x3 14 p)) (by omega) (by omega)]
      exact c3.2 p h hp hh
end
section
/-! the reference's order, starts and plays -/
def qc_n (f : Nat → Bool) : Nat → Nat
  | 0 => 0
  | n + 1 => qc_n f n + (if f n = true then 1 else 0)
def qc_b (x : aM) (c d : Nat) : Bool := decide ((x 11 c).toInt < (x 11 d).toInt ∨ ((x 11 c).toInt = (x 11 d).toInt ∧ ((x 12 c).toInt < (x 12 d).toInt ∨ ((x 12 c).toInt = (x 12 d).toInt ∧ c < d))))
theorem qc_b_iff {x : aM} {c d : Nat} : qc_b x c d = true ↔ qc_ah x c d := decide_eq_true_iff
theorem qc_n_le {f : Nat → Bool} : ∀ n, qc_n f n ≤ n
  | 0 => Nat.le_refl _
  | n + 1 => by
    have := qc_n_le (f := f) n
    unfold qc_n
    split <;> omega
theorem qc_n_zero {f : Nat → Bool} : ∀ n, (∀ d, d < n → ¬ f d = true) → qc_n f n = 0
  | 0, _ => rfl
  | n + 1, h => by
    unfold qc_n
    rw [if_neg (h n (Nat.lt_succ_self n)), qc_n_zero n (fun d hd => h d (by omega))]
theorem qc_n_congr {f g : Nat → Bool} : ∀ n, (∀ d, d < n → (f d = true ↔ g d = true)) → qc_n f n = qc_n g n
  | 0, _ => rfl
  | n + 1, h => by
    unfold qc_n
    rw [qc_n_congr n (fun d hd => h d (by omega))]
    by_cases e : g n = true
    · rw [if_pos e, if_pos ((h n (Nat.lt_succ_self n)).mpr e)]
    · rw [if_neg e, if_neg (fun q => e ((h n (Nat.lt_succ_self n)).mp q))]
theorem qc_n_ins {f g : Nat → Bool} {a : Nat} (ha : ¬ g a = true) : ∀ n, a < n → (∀ d, d < n → (f d = true ↔ g d = true ∨ d = a)) → qc_n f n = qc_n g n + 1
  | 0, h, _ => absurd h (Nat.not_lt_zero a)
  | n + 1, h, hf => by
    unfold qc_n
    by_cases e : a = n
    · subst e
      rw [if_pos ((hf a (Nat.lt_succ_self a)).mpr (Or.inr rfl)), if_neg ha, qc_n_congr (g := g) a (fun d hd => ⟨fun q => ((hf d (by omega)).mp q).resolve_right (by omega), fun q => (hf d (by omega)).mpr (Or.inl q)⟩)]
    · rw [qc_n_ins ha n (by omega) (fun d hd => hf d (by omega))]
      by_cases e2 : g n = true
      · rw [if_pos e2, if_pos ((hf n (Nat.lt_succ_self n)).mpr (Or.inl e2))]
      · rw [if_neg e2, if_neg (fun q => ((hf n (Nat.lt_succ_self n)).mp q).elim e2 (fun q2 => e q2.symm))]
theorem AO.cmp {k p r : Nat} {x : aM} (H : AO k x) (hp : p < k) (hr : r < k) : qc_ah x (ix (x 14 p)) (ix (x 14 r)) ↔ p < r := by
  refine ⟨fun q => ?_, fun q => H.2.1 p r q hr⟩
  by_cases h1 : p < r
  · exact h1
  · exfalso
    by_cases h2 : p = r
    · subst h2
      unfold qc_ah at q
      omega
    · have := H.2.1 r p (by omega) hp
      unfold qc_ah at q this
      omega
theorem AO.rank {k : Nat} {x : aM} (hk : k ≤ 20) (H : AO k x) : ∀ p, p < k → qc_n (fun d => qc_b x d (ix (x 14 p))) k = p := by
  have sur : ∀ d, d < k → ∃ r, r < k ∧ ix (x 14 r) = d := fun d hd => by
    obtain ⟨r, h1, h2⟩ := H.2.2 d hd
    exact ⟨r, h1, by rw [h2, ix_nI (by omega)]⟩
  intro p
  induction p with
  | zero =>
    intro hp
    refine qc_n_zero k (fun d hd q => ?_)
    obtain ⟨r, h1, h2⟩ := sur d hd
    rw [qc_b_iff, ← h2, H.cmp h1 hp] at q
    exact absurd q (Nat.not_lt_zero r)
  | succ p ih =>
    intro hp
    rw [qc_n_ins (g := fun d => qc_b x d (ix (x 14 p))) (a := ix (x 14 p)) ?_ k ?_ (fun d hd => ?_), ih (by omega)]
    · show ¬ qc_b x (ix (x 14 p)) (ix (x 14 p)) = true
      rw [qc_b_iff, H.cmp (by omega) (by omega)]
      omega
    · obtain ⟨c, hc, e⟩ := H.1 p (by omega)
      rw [e, ix_nI (by omega)]
      exact hc
    · obtain ⟨r, h1, h2⟩ := sur d hd
      show qc_b x d (ix (x 14 (p + 1))) = true ↔ qc_b x d (ix (x 14 p)) = true ∨ d = ix (x 14 p)
      rw [qc_b_iff, qc_b_iff, ← h2, H.cmp h1 hp, H.cmp h1 (by omega)]
      refine ⟨fun q => ?_, fun q => ?_⟩
      · by_cases e : r = p
        · exact Or.inr (by rw [e])
        · exact Or.inl (by omega)
      · rcases q with q | q
        · omega
        · by_cases e : r = p
          · omega
          · exact absurd q (H.ne h1 (by omega) e)
theorem m_isAhead {n k q g c d : Nat} {x m : aM} (H : QL n k q g x m) (hc : c < k) (hd : d < k) : f_X6_isAhead (nI c) (nI d) m = some (if qc_b x c d = true then 1 else 0, m) := by
  have hk := H.2.2.1.1.1
  have e34 := H.2.2.1.2.2.1
  have e35 := H.2.2.1.2.2.2.1
  unfold f_X6_isAhead
  simp only [if_pos (inb_nI (show c < 20 by omega) (show 20 < 2 ^ 31 by decide)), if_pos (inb_nI (show d < 20 by omega) (show 20 < 2 ^ 31 by decide)), ix_nI (show c < 2 ^ 31 by omega), ix_nI (show d < 2 ^ 31 by omega), e34, e35]
  by_cases hb : qc_b x c d = true
  · rw [if_pos hb]
    rw [qc_b_iff] at hb
    unfold qc_ah at hb
    by_cases h1 : x 11 c = x 11 d
    · have h1' := congrArg Int32.toInt h1
      rw [if_pos h1]
      by_cases h2 : x 12 c < x 12 d
      · rw [if_pos h2]
      · rw [if_neg h2]
        rw [Int32.lt_iff_toInt_lt] at h2
        have h3 : x 12 c = x 12 d := Int32.toInt_inj.mp (by omega)
        rw [if_neg (fun q => q h3), if_neg (nI_ge (show c < d by omega) (by omega))]
    · have h1' : ¬ (x 11 c).toInt = (x 11 d).toInt := fun q => h1 (Int32.toInt_inj.mp q)
      rw [if_neg h1]
      have h2 : ¬ x 11 d ≤ x 11 c := by
        rw [Int32.le_iff_toInt_le]
        omega
      rw [if_neg h2]
  · rw [if_neg hb]
    rw [qc_b_iff] at hb
    unfold qc_ah at hb
    by_cases h1 : x 11 c = x 11 d
    · have h1' := congrArg Int32.toInt h1
      rw [if_pos h1]
      have h2 : ¬ x 12 c < x 12 d := by
        rw [Int32.lt_iff_toInt_lt]
        omega
      rw [if_neg h2]
      by_cases h3 : x 12 c = x 12 d
      · have h3' := congrArg Int32.toInt h3
        rw [if_neg (fun q => q h3), if_pos (nI_le (show d ≤ c by omega) (by omega))]
      · rw [if_pos h3]
    · have h1' : ¬ (x 11 c).toInt = (x 11 d).toInt := fun q => h1 (Int32.toInt_inj.mp q)
      rw [if_neg h1]
      have h2 : x 11 d ≤ x 11 c := by
        rw [Int32.le_iff_toInt_le]
        omega
      rw [if_pos h2]
theorem m_rank {n k q g c : Nat} {x m : aM} (H : QL n k q g x m) (hc : c < k) (kk : Int32 → Int32 → aM → Option (Int32 × aM)) : l_X6_orders_14 (nI c) lf 0 0 m kk = kk (nI (qc_n (fun d => qc_b x d c) k)) (nI k) m := by
  have hk := H.2.2.1.1.1
  have e11 := H.2.2.1.2.1
  have key : l_X6_orders_14 (nI c) lf (nI (qc_n (fun d => qc_b x d c) 0)) (nI 0) m kk = kk (nI (qc_n (fun d => qc_b x d c) k)) (nI k) m := by
    refine qa_loop0 (fun fu i => l_X6_orders_14 (nI c) fu (nI (qc_n (fun d => qc_b x d c) i)) (nI i) m kk) k _ lf (lf_gt (by omega)) (fun i fu hi => ?_) (fun fu => ?_)
    · show l_X6_orders_14 (nI c) (fu + 1) (nI (qc_n (fun d => qc_b x d c) i)) (nI i) m kk = l_X6_orders_14 (nI c) fu (nI (qc_n (fun d => qc_b x d c) i + (if qc_b x i c = true then 1 else 0))) (nI (i + 1)) m kk
      rw [l_X6_orders_14, e11, if_neg (nI_ge hi (by omega)), m_isAhead H hi hc, nI_1, Int32.add_zero]
      simp only [bnd]
      by_cases e : i = c
      · subst e
        have hb : ¬ qc_b x i i = true := by
          rw [qc_b_iff]
          unfold qc_ah
          omega
        rw [if_pos rfl, if_neg hb]
        rfl
      · rw [if_neg (fun q => e ((nI_eq (by omega) (by omega)).mp q))]
        by_cases hb : qc_b x i c = true
        · rw [if_pos hb, if_pos hb, if_neg (show ¬ (1 : Int32) = 0 by decide), nI_1]
        · rw [if_neg hb, if_neg hb, if_pos rfl]
          rfl
    · show l_X6_orders_14 (nI c) (fu + 1) _ (nI k) m kk = _
      rw [l_X6_orders_14, e11, if_pos (q_le_self (by omega))]
  exact key
theorem m_orders {n k q g : Nat} {x m : aM} (H : QL n k q g x m) : ∃ m', f_X6_orders m = some (0, m') ∧ (∀ a, ¬ a = 47 → m' a = m a) ∧ ∀ p, p < k → m' 47 p = x 14 p := by
  have hk := H.2.2.1.1.1
  have hO := H.2.2.2.1.1
  have loop : ∀ (kk : Int32 → aM → Option (Int32 × aM)) d i fu y, i + d = k → d < fu → (∀ a, ¬ a = 47 → y a = m a) → (∀ p, p < k → ix (x 14 p) < i → y 47 p = x 14 p) → ∃ y', l_X6_orders_2 fu (nI i) y kk = kk (nI k) y' ∧ (∀ a, ¬ a = 47 → y' a = m a) ∧ (∀ p, p < k → ix (x 14 p) < k → y' 47 p = x 14 p) := by
    intro kk d
    induction d with
    | zero =>
      intro i fu y hi hf h1 h2
      obtain ⟨fu, rfl⟩ : ∃ z, fu = z + 1 := ⟨fu - 1, by omega⟩
      obtain rfl : i = k := by omega
      refine ⟨y, ?_, h1, h2⟩
      rw [l_X6_orders_2, h1 6 (by decide), H.2.2.1.2.1, if_pos (q_le_self (by omega))]
    | succ d ih =>
      intro i fu y hi hf h1 h2
      obtain ⟨fu, rfl⟩ : ∃ z, fu = z + 1 := ⟨fu - 1, by omega⟩
      have hKM : KM m y := ⟨fun a ha => h1 a (by omega), by rw [h1 6 (by decide)], by rw [h1 6 (by decide)], by rw [h1 6 (by decide)], by rw [h1 6 (by decide)]⟩
      obtain ⟨p, hp, e14⟩ := hO.2.2 i (by omega)
      have eix : ix (x 14 p) = i := by rw [e14, ix_nI (by omega)]
      have hrk : qc_n (fun d => qc_b x d i) k = p := by
        have := hO.rank hk p hp
        rw [eix] at this
        exact this
      rw [l_X6_orders_2, h1 6 (by decide), H.2.2.1.2.1, if_neg (nI_ge (by omega) (by omega)), m_rank (H.km hKM) (show i < k by omega), hrk, if_pos (inb_nI (show p < 20 by omega) (by decide)), ix_nI (show p < 2 ^ 31 by omega), nI_1]
      refine ih (i + 1) fu _ (by omega) (by omega) (fun a ha => (mput_ne ha).trans (h1 a ha)) (fun r hr hri => ?_)
      by_cases e : r = p
      · rw [e, mput_self, e14]
      · rw [mput_other e]
        refine h2 r hr ?_
        have := hO.ne hr hp e
        omega
  obtain ⟨m', e1, e2, e3⟩ := loop (fun v18 σ19 => some (0, σ19)) k 0 lf m (by omega) (lf_gt (by omega)) (fun _ _ => rfl) (fun p hp h => absurd h (Nat.not_lt_zero _))
  refine ⟨m', e1, e2, fun p hp => e3 p hp ?_⟩
  obtain ⟨c, hc, e⟩ := hO.1 p hp
  rw [e, ix_nI (by omega)]
  exact hc
theorem m_starts {n : Nat} {x m : aM} (H : RS n x m) (kk : Int32 → aM → Option (Int32 × aM)) : l_X6_plays_6 lf 0 m kk = kk (nI n) (mrow m 49 n (fun l => sa (x 7) (x 8) l)) := by
  obtain ⟨hn, -, e4, e29, e30, -, -⟩ := H
  have key : l_X6_plays_6 lf (nI 0) (mrow m 49 0 (fun l => sa (x 7) (x 8) l)) kk = kk (nI n) (mrow m 49 n (fun l => sa (x 7) (x 8) l)) := by
    refine qa_loop0 (fun fu i => l_X6_plays_6 fu (nI i) (mrow m 49 i (fun l => sa (x 7) (x 8) l)) kk) n _ lf (lf_gt (by omega)) (fun i fu hi => ?_) (fun fu => ?_)
    · show l_X6_plays_6 (fu + 1) (nI i) (mrow m 49 i (fun l => sa (x 7) (x 8) l)) kk = l_X6_plays_6 fu (nI (i + 1)) (mrow m 49 (i + 1) (fun l => sa (x 7) (x 8) l)) kk
      rw [l_X6_plays_6, mrow_ne (show ¬ 6 = 49 by decide), e4, if_neg (nI_ge hi (by omega)), nI_1, ← mrow_s (i := i)]
      match i, hi with
      | 0, hi =>
        rw [if_neg (fun q => q rfl), if_pos (inb_nI (show 0 < 30 by decide) (by decide)), ix_nI (show 0 < 2 ^ 31 by decide)]
        rfl
      | i + 1, hi =>
        rw [if_pos (nI_ne0 (by omega) (by omega)), nI_pred, mrow_ne (show ¬ 30 = 49 by decide), mrow_ne (show ¬ 29 = 49 by decide), e29, e30]
        simp only [if_pos (inb_nI (show i < 30 by omega) (show 30 < 2 ^ 31 by decide)), if_pos (inb_nI (show i + 1 < 30 by omega) (show 30 < 2 ^ 31 by decide)), ix_nI (show i < 2 ^ 31 by omega), ix_nI (show i + 1 < 2 ^ 31 by omega), mrow_at (show i < i + 1 by omega), Int32.add_zero]
        by_cases e : x 8 i = 0
        · rw [if_pos e, show sa (x 7) (x 8) (i + 1) = sa (x 7) (x 8) i + x 7 i by rw [sa, if_pos e]]
        · rw [if_neg e, show sa (x 7) (x 8) (i + 1) = sa (x 7) (x 8) i by rw [sa, if_neg e]]
    · show l_X6_plays_6 (fu + 1) (nI n) (mrow m 49 n (fun l => sa (x 7) (x 8) l)) kk = _
      rw [l_X6_plays_6, mrow_ne (show ¬ 6 = 49 by decide), e4, if_pos (q_le_self (by omega))]
  rw [mrow_0] at key
  exact key
theorem m_when {n k q g d : Nat} {x m : aM} (H : QL n k q g x m) (h49 : ∀ l, l < n → m 49 l = sa (x 7) (x 8) l) (hd : d < k) (hp : ¬ x 15 d = -1) : f_X6_when (nI d) m = some (x 15 d, m) := by
  have hk := H.2.2.1.1.1
  obtain ⟨L, hL1, hL2⟩ := H.2.2.1.1.2.2.1 d hd
  have hn := H.1.1
  unfold f_X6_when
  rw [if_pos (inb_nI (show d < 20 by omega) (by decide)), ix_nI (show d < 2 ^ 31 by omega), H.2.2.1.2.2.1, hL2, if_pos (inb_nI (show L < 30 by omega) (by decide)), if_pos (inb_nI (show d < 20 by omega) (by decide)), ix_nI (show L < 2 ^ 31 by omega), h49 L hL1, H.2.2.1.2.2.2.1]
  have h8 : x 8 (ix (x 11 d)) = 0 := Decidable.byContradiction fun q => hp ((m_played H hd).2.mpr q)
  have e15 := H.2.2.2.1.2.1 d hd
  unfold qc_t at e15
  rw [if_pos h8, hL2, ix_nI (by omega)] at e15
  rw [e15]
/-- one play is put in its place -/
theorem m_ins {n k q g z : Nat} {x m : aM} (H : QL n k q g x m) (hz : z < k) (hpz : ¬ pT x z = -1) (kk : Int32 → aM → Option (Int32 × aM)) : ∀ (a fu : Nat) (r : Nat → Nat) (y : aM) (N : Nat), a < N → N ≤ 20 → a < fu → KM m y → (∀ p, p < k → y 47 p = x 14 p) → (∀ l, l < n → y 49 l = sa (x 7) (x 8) l) → (∀ j, j < N → ¬ j = a → (r j < k ∧ ¬ pT x (r j) = -1) ∧ y 48 j = nI (r j)) → ∃ b y', b ≤ a ∧ l_X6_plays_99 (nI z) fu (nI a) y kk = kk (nI b) y' ∧ (∀ b, ¬ b = 48 → y' b = y b) ∧ ∀ j, j < N → mput y' 48 b (nI z) 48 j = nI (qc_I (pT x) z a r j) := by
  have hk := H.2.2.1.1.1
  have hO := H.2.2.2.1.1
  intro a
  induction a with
  | zero =>
    intro fu r y N ha hN hf hy h47 h49 hr
    obtain ⟨fu, rfl⟩ : ∃ z, fu = z + 1 := ⟨fu - 1, by omega⟩
    refine ⟨0, y, Nat.le_refl _, ?_, fun _ _ => rfl, fun j hj => ?_⟩
    · rw [l_X6_plays_99, if_pos (show nI 0 ≤ 0 from Int32.le_refl 0)]
    · show _ = nI (qc_u r 0 z j)
      by_cases e : j = 0
      · rw [e, mput_self, qc_u_at]
      · rw [mput_other e, qc_u_ne e]
        exact (hr j hj e).2
  | succ a ih =>
    intro fu r y N ha hN hf hy h47 h49 hr
    obtain ⟨fu, rfl⟩ : ∃ z, fu = z + 1 := ⟨fu - 1, by omega⟩
    obtain ⟨⟨h1, h0⟩, h2⟩ := hr a (by omega) (by omega)
    obtain ⟨d, hd, e14⟩ := hO.1 (r a) h1
    obtain ⟨c, hc, e14z⟩ := hO.1 z hz
    have eTz : pT x z = x 15 c := by
      unfold pT
      rw [e14z, ix_nI (by omega)]
    have eTa : pT x (r a) = x 15 d := by
      unfold pT
      rw [e14, ix_nI (by omega)]
    have w1 := m_when (H.km hy) h49 hd (eTa ▸ h0)
    have w2 := m_when (H.km hy) h49 hc (eTz ▸ hpz)
    rw [l_X6_plays_99, if_neg (nI_nle (by omega) (by omega)), nI_pred, if_pos (inb_nI (show a < 20 by omega) (by decide)), ix_nI (show a < 2 ^ 31 by omega), h2, if_pos (inb_nI (show r a < 20 by omega) (by decide)), ix_nI (show r a < 2 ^ 31 by omega), h47 _ h1, e14, w1]
    simp only [bnd]
    rw [if_pos (inb_nI (show z < 20 by omega) (by decide)), ix_nI (show z < 2 ^ 31 by omega), h47 z hz, e14z, w2]
    simp only []
    unfold qc_I
    rw [eTz, eTa]
    by_cases hle : x 15 d ≤ x 15 c
    · rw [if_pos hle]
      rw [Int32.le_iff_toInt_le] at hle
      rw [if_neg (show ¬ (x 15 c).toInt < (x 15 d).toInt by omega)]
      refine ⟨a + 1, y, Nat.le_refl _, rfl, fun _ _ => rfl, fun j hj => ?_⟩
      by_cases e : j = a + 1
      · rw [e, mput_self, qc_u_at]
      · rw [mput_other e, qc_u_ne e]
        exact (hr j hj e).2
    · rw [if_neg hle]
      rw [Int32.le_iff_toInt_le] at hle
      rw [if_pos (show (x 15 c).toInt < (x 15 d).toInt by omega), if_pos (inb_nI (show a < 20 by omega) (by decide)), if_pos (inb_nI (show a + 1 < 20 by omega) (by decide)), ix_nI (show a + 1 < 2 ^ 31 by omega), pk_m1, h2]
      obtain ⟨b, y', g1, g2, g3, g4⟩ := ih fu (qc_u r (a + 1) (r a)) (mput y 48 (a + 1) (nI (r a))) N (by omega) hN (by omega) (hy.tr (KM.put (by decide))) (fun p hp => (congrFun (mput_ne (by decide)) p).trans (h47 p hp)) (fun l hl => (congrFun (mput_ne (by decide)) l).trans (h49 l hl)) (fun j hj hja => by
        by_cases e : j = a + 1
        · rw [e, qc_u_at, mput_self]
          exact ⟨⟨h1, h0⟩, rfl⟩
        · rw [qc_u_ne e, mput_other e]
          exact hr j hj e)
      exact ⟨b, y', by omega, g2, fun b hb => (g3 b hb).trans (mput_ne hb), g4⟩
theorem m_plays {n k q g : Nat} {x m : aM} (H : QL n k q g x m) : ∃ m', f_X6_plays m = some (0, m') ∧ KM m m' ∧ (∀ a, ¬ (47 ≤ a ∧ a ≤ 49) → ¬ a = 6 → m' a = m a) ∧ m' 6 0 = m 6 0 ∧ PM n k x m' := by
  have hk := H.2.2.1.1.1
  have hO := H.2.2.2.1.1
  have hP := H.2.2.2.1.2.2.2
  obtain ⟨m1, a1, a2, a3⟩ := m_orders H
  have k1 : KM m m1 := ⟨fun a ha => a2 a (by omega), by rw [a2 6 (by decide)], by rw [a2 6 (by decide)], by rw [a2 6 (by decide)], by rw [a2 6 (by decide)]⟩
  have k2 : KM m1 (mrow m1 49 n (fun l => sa (x 7) (x 8) l)) := KM.row (by decide)
  have k3 : KM m (mput (mrow m1 49 n (fun l => sa (x 7) (x 8) l)) 6 25 0) := (k1.tr k2).tr (KM.fld (by decide))
  have loop : ∀ (kk : Int32 → aM → Option (Int32 × aM)) d p fu y, p + d = k → d < fu → KM m y → (∀ a, ¬ (47 ≤ a ∧ a ≤ 49) → ¬ a = 6 → y a = m a) → y 6 0 = m 6 0 → (∀ p, p < k → y 47 p = x 14 p) → (∀ l, l < n → y 49 l = sa (x 7) (x 8) l) → y 6 25 = nI (qc_P (pT x) p).1 → (∀ j, j < (qc_P (pT x) p).1 → y 48 j = nI ((qc_P (pT x) p).2 j)) → ∃ y', l_X6_plays_73 fu (nI p) y kk = kk (nI k) y' ∧ KM m y' ∧ (∀ a, ¬ (47 ≤ a ∧ a ≤ 49) → ¬ a = 6 → y' a = m a) ∧ y' 6 0 = m 6 0 ∧ (∀ p, p < k → y' 47 p = x 14 p) ∧ (∀ l, l < n → y' 49 l = sa (x 7) (x 8) l) ∧ y' 6 25 = nI (qc_P (pT x) k).1 ∧ (∀ j, j < (qc_P (pT x) k).1 → y' 48 j = nI ((qc_P (pT x) k).2 j)) := by
    intro kk d
    induction d with
    | zero =>
      intro p fu y hp hf h1 h2 h3 h4 h5 h6 h7
      obtain ⟨fu, rfl⟩ : ∃ z, fu = z + 1 := ⟨fu - 1, by omega⟩
      obtain rfl : p = k := by omega
      refine ⟨y, ?_, h1, h2, h3, h4, h5, h6, h7⟩
      rw [l_X6_plays_73, h1.2.2.1, H.2.2.1.2.1, if_pos (q_le_self (by omega))]
    | succ d ih =>
      intro p fu y hp hf h1 h2 h3 h4 h5 h6 h7
      obtain ⟨fu, rfl⟩ : ∃ z, fu = z + 1 := ⟨fu - 1, by omega⟩
      obtain ⟨c, hc, e14⟩ := hO.1 p (by omega)
      obtain ⟨f1, f2, f3⟩ := qc_P_facts (tm := pT x) p
      have eT : pT x p = x 15 c := by
        unfold pT
        rw [e14, ix_nI (by omega)]
      rw [l_X6_plays_73, h1.2.2.1, H.2.2.1.2.1, if_neg (nI_ge (by omega) (by omega)), if_pos (inb_nI (show p < 20 by omega) (by decide)), ix_nI (show p < 2 ^ 31 by omega), h4 p (by omega), e14, (m_played (H.km h1) hc).1, ← eT, nI_1]
      simp only [bnd]
      by_cases ht : pT x p = -1
      · have eP : qc_P (pT x) (p + 1) = qc_P (pT x) p := by rw [qc_P, if_pos ht]
        rw [if_pos ht, if_pos rfl]
        exact ih (p + 1) fu y (by omega) (by omega) h1 h2 h3 h4 h5 (by rw [eP]; exact h6) (by rw [eP]; exact h7)
      · have eP : qc_P (pT x) (p + 1) = ((qc_P (pT x) p).1 + 1, qc_I (pT x) p (qc_P (pT x) p).1 (qc_P (pT x) p).2) := by rw [qc_P, if_neg ht]
        rw [if_neg ht, if_neg (show ¬ (1 : Int32) = 0 by decide), h6]
        obtain ⟨b, y', g1, g2, g3, g4⟩ := m_ins H (show p < k by omega) ht (fun v41 σ42 => if inb v41 20 = true then l_X6_plays_73 fu (nI (p + 1)) (mput (mput σ42 48 (ix v41) (nI p)) 6 25 ((σ42 6 25) + 1)) kk else none) (qc_P (pT x) p).1 lf (qc_P (pT x) p).2 y ((qc_P (pT x) p).1 + 1) (Nat.lt_succ_self _) (by omega) (lf_gt (by omega)) h1 h4 h5 (fun j hj hj2 => ⟨⟨by have := (f2 j (by omega)).1; omega, (f2 j (by omega)).2⟩, h7 j (by omega)⟩)
        rw [g2, if_pos (inb_nI (show b < 20 by omega) (by decide)), ix_nI (show b < 2 ^ 31 by omega)]
        have ky : KM y y' := ⟨fun a ha => g3 a (by omega), by rw [g3 6 (by decide)], by rw [g3 6 (by decide)], by rw [g3 6 (by decide)], by rw [g3 6 (by decide)]⟩
        refine ih (p + 1) fu _ (by omega) (by omega) (((h1.tr ky).tr (KM.put (by decide))).tr (KM.fld (by decide))) (fun a ha hb => ?_) ?_ (fun r hr => ?_) (fun l hl => ?_) ?_ (fun j hj => ?_)
        · rw [mput_ne hb, mput_ne (by omega), g3 a (by omega)]
          exact h2 a ha hb
        · rw [mput_other (by decide), mput_ne (by decide), g3 6 (by decide)]
          exact h3
        · rw [mput_ne (by decide), mput_ne (by decide), g3 47 (by decide)]
          exact h4 r hr
        · rw [mput_ne (by decide), mput_ne (by decide), g3 49 (by decide)]
          exact h5 l hl
        · rw [mput_self, g3 6 (by decide), h6, eP, nI_1]
        · rw [eP] at hj ⊢
          rw [mput_ne (by decide)]
          exact g4 j hj
  obtain ⟨y, e1, e2, e3, e4, e5, e6, e7, e8⟩ := loop (fun v44 σ45 => some (0, σ45)) k 0 lf (mput (mrow m1 49 n (fun l => sa (x 7) (x 8) l)) 6 25 0) (by omega) (lf_gt (by omega)) k3 (fun a ha hb => by rw [mput_ne hb, mrow_ne (by omega), a2 a (by omega)]) (by rw [mput_other (by decide), mrow_ne (by decide), a2 6 (by decide)]) (fun p hp => by rw [mput_ne (by decide), mrow_ne (by decide)]; exact a3 p hp) (fun l hl => by rw [mput_ne (by decide), mrow_at hl]) mput_self (fun j hj => absurd hj (Nat.not_lt_zero j))
  refine ⟨y, ?_, e2, e3, e4, e7.trans hP.1.symm, e5, e6, e8⟩
  unfold f_X6_plays
  rw [a1]
  simp only [bnd]
  rw [m_starts (H.km k1).1]
  exact e1
theorem m_placeOf {n k q g p : Nat} {x m : aM} (H : QL n k q g x m) (h47 : ∀ p, p < k → m 47 p = x 14 p) (hp : p < k) : f_X6_placeOf (x 14 p) m = some (nI p, m) := by
  have hk := H.2.2.1.1.1
  have hO := H.2.2.2.1.1
  have key : l_X6_placeOf_2 (x 14 p) lf (nI 0) m (fun v6 σ7 => some (v6, σ7)) = some (nI p, m) := by
    refine qa_loop0 (fun fu i => l_X6_placeOf_2 (x 14 p) fu (nI i) m (fun v6 σ7 => some (v6, σ7))) p _ lf (lf_gt (by omega)) (fun i fu hi => ?_) (fun fu => ?_)
    · show l_X6_placeOf_2 (x 14 p) (fu + 1) (nI i) m _ = l_X6_placeOf_2 (x 14 p) fu (nI (i + 1)) m _
      rw [l_X6_placeOf_2, if_pos (inb_nI (show i < 20 by omega) (by decide)), ix_nI (show i < 2 ^ 31 by omega), h47 i (by omega), if_neg (fun q => hO.ne (show i < k by omega) hp (by omega) (congrArg ix q)), nI_1]
    · show l_X6_placeOf_2 (x 14 p) (fu + 1) (nI p) m _ = _
      rw [l_X6_placeOf_2, if_pos (inb_nI (show p < 20 by omega) (by decide)), ix_nI (show p < 2 ^ 31 by omega), h47 p hp, if_pos rfl]
  exact key
theorem m_folded {n k q g : Nat} {x m : aM} (H : QL n k q g x m) (h47 : ∀ p, p < k → m 47 p = x 14 p) (u : Int32) : ∀ (d p fu : Nat), p + d = k → d < fu → l_X6_foldedInto_32 u fu (nI p) m (fun v24 σ25 => if (σ25 6 11) ≤ v24 then some ((-1), σ25) else if inb v24 20 = true then some (σ25 47 (ix v24), σ25) else none) = some (qc_N (pT x) (x 14) k (k - p), m) := by
  have hk := H.2.2.1.1.1
  have hO := H.2.2.2.1.1
  have e11 := H.2.2.1.2.1
  intro d
  induction d with
  | zero =>
    intro p fu hp hf
    obtain ⟨fu, rfl⟩ : ∃ z, fu = z + 1 := ⟨fu - 1, by omega⟩
    obtain rfl : p = k := by omega
    rw [l_X6_foldedInto_32, e11, if_pos (q_le_self (by omega)), if_pos (q_le_self (by omega)), Nat.sub_self]
    rfl
  | succ d ih =>
    intro p fu hp hf
    obtain ⟨fu, rfl⟩ : ∃ z, fu = z + 1 := ⟨fu - 1, by omega⟩
    obtain ⟨c, hc, e14⟩ := hO.1 p (by omega)
    have eT : pT x p = x 15 c := by
      unfold pT
      rw [e14, ix_nI (by omega)]
    have hN : qc_N (pT x) (x 14) k (k - p) = if pT x p = -1 then qc_N (pT x) (x 14) k (k - (p + 1)) else x 14 p := by
      rw [show k - p = (k - (p + 1)) + 1 by omega, qc_N, show k - (k - (p + 1) + 1) = p by omega]
    rw [l_X6_foldedInto_32, e11, if_neg (nI_ge (show p < k by omega) (by omega)), if_pos (inb_nI (show p < 20 by omega) (by decide)), ix_nI (show p < 2 ^ 31 by omega), h47 p (by omega), e14, (m_played H hc).1, ← eT, nI_1, hN]
    simp only [bnd]
    by_cases ht : pT x p = -1
    · rw [if_pos ht, if_pos ht, if_neg (fun q => q rfl)]
      exact ih (p + 1) fu (by omega) (by omega)
    · rw [if_neg ht, if_neg ht, if_pos (show ¬ (1 : Int32) = 0 by decide), e11, if_neg (nI_ge (show p < k by omega) (by omega)), if_pos (inb_nI (show p < 20 by omega) (by decide)), h47 p (by omega)]
end
section
/-! what is short, how many lines; both systems -/
def lastS (x : aM) (l : Nat) : Int32 := sa (x 7) (x 8) l + x 7 l - 1
theorem KY.lastSe {x x' : aM} (h : KY x x') {l : Nat} : lastS x' l = lastS x l := by
  unfold lastS
  rw [h 7 (by omega), h 8 (by omega)]
theorem lastS_nat {n l : Nat} {x m : aM} (H : RS n x m) (hl : l < n) : ∃ t, t ≤ 1000 ∧ lastS x l = nI t := by
  have hn := H.1
  obtain ⟨T, h1, h2⟩ := sa_nat (x8 := x 8) H.2.2.2.2.2.1 l (by omega)
  obtain ⟨s, h3, h4, h5⟩ := H.2.2.2.2.2.1 l hl
  refine ⟨T + s - 1, by omega, ?_⟩
  unfold lastS
  rw [h2, h5, nI_add, show (1 : Int32) = nI 1 from rfl, pk_sub (by omega)]
theorem x_readEndOf {x : aM} {l : Nat} (H : QX x) (hl : l < 30) : f_X5_readEndOf (nI l) x = some (0, if x 8 l = 0 then mrow x (128 + l) 10 (fun h => LV x h (lastS x l)) else x) := by
  unfold f_X5_readEndOf f_X4_lastSecondOf
  rw [if_pos (inb_nI hl (by decide)), ix_nI (by omega), x_ahead (by omega)]
  simp only [bnd, if_pos (inb_nI hl (show 30 < 2 ^ 31 by decide))]
  rw [show sa (x 7) (x 8) l + x 7 l - 1 = lastS x l from rfl, x_fill H (kd_e hl) (ln_e hl) (Or.inr ⟨by omega, by omega⟩)]
  simp only []
  by_cases e : x 8 l = 0
  · rw [if_neg (fun q => q e), if_pos e]
  · rw [if_pos e, if_neg e]
/-- the ends of the first i lines are read -/
def mE (x : aM) (i : Nat) : aM := fun a => if 128 ≤ a ∧ a < 128 + i ∧ x 8 (a - 128) = 0 then (fun j => if j < 10 then LV x j (lastS x (a - 128)) else x a j) else x a
theorem mE_ne {x : aM} {i a : Nat} (h : ¬ (128 ≤ a ∧ a < 128 + i)) : mE x i a = x a := if_neg (fun q => h ⟨q.1, q.2.1⟩)
theorem mE_at {x : aM} {i l h : Nat} (hl : l < i) (h8 : x 8 l = 0) (hh : h < 10) : mE x i (128 + l) h = LV x h (lastS x l) := by
  unfold mE
  rw [Nat.add_sub_cancel_left, if_pos ⟨by omega, by omega, h8⟩]
  exact if_pos hh
theorem mE_0 {x : aM} : mE x 0 = x := by
  funext a
  exact mE_ne (by omega)
theorem KX.mEe {x : aM} {i : Nat} (h : i ≤ 30) : KX x (mE x i) := fun a ha => mE_ne (by omega)
theorem mE_s {x : aM} {i : Nat} (hi : i < 30) : (if mE x i 8 i = 0 then mrow (mE x i) (128 + i) 10 (fun h => LV (mE x i) h (lastS (mE x i) i)) else mE x i) = mE x (i + 1) := by
  have hK : KX x (mE x i) := KX.mEe (by omega)
  rw [hK.ky.lastSe, hK 8 (by omega)]
  funext a
  by_cases e8 : x 8 i = 0
  · rw [if_pos e8]
    by_cases e : a = 128 + i
    · subst e
      have e9 : mE x (i + 1) (128 + i) = fun j => if j < 10 then LV x j (lastS x i) else x (128 + i) j := by
        unfold mE
        rw [Nat.add_sub_cancel_left]
        exact if_pos ⟨by omega, by omega, e8⟩
      rw [e9]
      funext j
      unfold mrow
      rw [if_pos rfl]
      show (if j < 10 then LV (mE x i) j (lastS x i) else mE x i (128 + i) j) = _
      rw [hK.ky.LVe, mE_ne (by omega)]
    · rw [mrow_ne e]
      unfold mE
      by_cases h : 128 ≤ a ∧ a < 128 + i ∧ x 8 (a - 128) = 0
      · rw [if_pos h, if_pos ⟨h.1, by omega, h.2.2⟩]
      · rw [if_neg h, if_neg (fun q => h ⟨q.1, by omega, q.2.2⟩)]
  · rw [if_neg e8]
    unfold mE
    by_cases h : 128 ≤ a ∧ a < 128 + i ∧ x 8 (a - 128) = 0
    · rw [if_pos h, if_pos ⟨h.1, by omega, h.2.2⟩]
    · rw [if_neg h, if_neg (fun q => h ⟨q.1, by
        by_cases e : a = 128 + i
        · exfalso
          rw [e, Nat.add_sub_cancel_left] at q
          exact e8 q.2.2
        · omega, q.2.2⟩)]
theorem x_readEnds {x : aM} {n : Nat} (H : QX x) (hn : n ≤ 30) (h13 : x 1 3 = nI n) : f_X5_readEnds x = some (0, mE x n) := by
  have key : l_X5_readEnds_2 lf (nI 0) (mE x 0) (fun v7 σ8 => some (0, σ8)) = some (0, mE x n) := by
    refine qa_loop0 (fun fu i => l_X5_readEnds_2 fu (nI i) (mE x i) (fun v7 σ8 => some (0, σ8))) n _ lf (lf_gt (by omega)) (fun i fu hi => ?_) (fun fu => ?_)
    · show l_X5_readEnds_2 (fu + 1) (nI i) (mE x i) _ = l_X5_readEnds_2 fu (nI (i + 1)) (mE x (i + 1)) _
      have hK : KX x (mE x i) := KX.mEe (by omega)
      rw [l_X5_readEnds_2, hK 1 (by omega), h13, if_neg (nI_ge hi (by omega)), x_readEndOf (H.ky hK.ky) (by omega), mE_s (by omega)]
      simp only [bnd]
      rw [nI_1]
    · show l_X5_readEnds_2 (fu + 1) (nI n) (mE x n) _ = _
      rw [l_X5_readEnds_2, mE_ne (by omega), h13, if_pos (q_le_self (by omega))]
  rw [mE_0] at key
  exact key
def qd_S (lt nd : Nat → Int32) : Nat → Int32
  | 0 => 0
  | a + 1 => if lt a < nd a then qd_S lt nd a ||| (1 <<< (nI a &&& 31)) else qd_S lt nd a
def LD (q : Nat) (x : aM) (s : Int32) (h : Nat) : Int32 := qa_V q (x 22) (x 23) (x 20) s (x 9 h) (x 10 h)
def SH (q : Nat) (x : aM) (s : Int32) (l : Nat) : Int32 := if x 8 l = 0 then qd_S (fun a => qa_T q (x 22) (x 23) (x 21) (x 24) (LD q x s) (fun h => LV x h (lastS x l)) s (nI a)) (fun a => x (58 + l) a) 4 else 0
theorem x_short {x y : aM} {q l : Nat} {s : Int32} (hq : q ≤ 20) (h48 : x 4 8 = nI q) (hK : KY x y) (hl : l < 30) (h28 : ∀ h, h < 10 → y 28 h = LD q x s h) (he : x 8 l = 0 → ∀ h, h < 10 → y (128 + l) h = LV x h (lastS x l)) : f_X5_shortAreas s (nI l) y = some (SH q x s l, y) := by
  unfold f_X5_shortAreas SH
  rw [if_pos (inb_nI hl (by decide)), ix_nI (by omega), hK 8 (by omega)]
  by_cases e8 : x 8 l = 0
  · rw [if_pos e8, if_pos e8]
    have hlight : ∀ a, f_X3_lightOf s (nI a) 28 (128 + l) y = some (qa_T q (x 22) (x 23) (x 21) (x 24) (LD q x s) (fun h => LV x h (lastS x l)) s (nI a), y) := fun a => by
      rw [x_lightOf (q := q) (ld := LD q x s) (lv := fun h => LV x h (lastS x l)) hq (by rw [hK 4 (by omega)]; exact h48) (kd_e hl) (ln_e hl) h28 (he e8), hK 22 (by omega), hK 23 (by omega), hK 21 (by omega), hK 24 (by omega)]
    generalize hlt : (fun a => qa_T q (x 22) (x 23) (x 21) (x 24) (LD q x s) (fun h => LV x h (lastS x l)) s (nI a)) = lt
    have hlight2 : ∀ a, f_X3_lightOf s (nI a) 28 (128 + l) y = some (lt a, y) := fun a => by rw [hlight a, ← hlt]
    have key : l_X5_shortAreas_19 s (nI l) lf (qd_S lt (fun a => x (58 + l) a) 0) (nI 0) y (fun v16 v17 σ18 => some (v16, σ18)) = some (qd_S lt (fun a => x (58 + l) a) 4, y) := by
      refine qa_loop0 (fun fu i => l_X5_shortAreas_19 s (nI l) fu (qd_S lt (fun a => x (58 + l) a) i) (nI i) y (fun v16 v17 σ18 => some (v16, σ18))) 4 _ lf (lf_gt (by decide)) (fun i fu hi => ?_) (fun fu => ?_)
      · show l_X5_shortAreas_19 s (nI l) (fu + 1) (qd_S lt (fun a => x (58 + l) a) i) (nI i) y _ = l_X5_shortAreas_19 s (nI l) fu (qd_S lt (fun a => x (58 + l) a) (i + 1)) (nI (i + 1)) y _
        rw [l_X5_shortAreas_19, if_neg (q4_lt hi), if_pos (inb_nI hl (by decide)), ix_nI (show l < 2 ^ 31 by omega), hlight2]
        simp only [bnd]
        rw [if_pos (inb_nI hl (by decide)), if_pos (inb_nI hi (by decide)), ix_nI (show i < 2 ^ 31 by omega), hK (58 + l) (by omega), nI_1, qd_S]
        by_cases e : x (58 + l) i ≤ lt i
        · rw [if_pos e, if_neg (i_nlt.mpr e)]
        · rw [if_neg e, if_pos (i_nle.mp e)]
      · show l_X5_shortAreas_19 s (nI l) (fu + 1) _ (nI 4) y _ = _
        rw [l_X5_shortAreas_19, if_pos q4_ge]
    exact key
  · rw [if_neg e8, if_neg e8]
theorem m_short {n k q g l : Nat} {x m : aM} {s : Int32} (H : QL n k q g x m) (hM : PM n k x m) (hl : l < n) (h50 : ∀ h, h < 10 → m 50 h = LD q x s h) : f_X6_shorts s (nI l) m = some (SH q x s l, if x 8 l = 0 then mrow m 51 10 (fun h => LV x h (lastS x l)) else m) := by
  obtain ⟨hn, -, e4, e29, e30, -, e31⟩ := H.1
  obtain ⟨hq, -, e19, -, -, e40, e41, -, e43, e44⟩ := H.2.2.2.2.1
  unfold f_X6_shorts SH
  rw [if_pos (inb_nI (show l < 30 by omega) (by decide)), ix_nI (by omega), e30]
  by_cases e8 : x 8 l = 0
  · rw [if_pos e8, if_pos e8, if_pos e8, if_pos (inb_nI (show l < 30 by omega) (by decide)), if_pos (inb_nI (show l < 30 by omega) (by decide)), hM.2.2.1 l hl, e29]
    obtain ⟨t, ht, et⟩ := lastS_nat H.1 hl
    rw [show sa (x 7) (x 8) l + x 7 l - 1 = nI t from et, m_lights H hM (by omega), ← et]
    simp only [bnd]
    generalize hm1 : mrow m 51 10 (fun h => LV x h (lastS x l)) = m1
    have hlight : ∀ a, f_X6_lightNow s (nI a) m1 = some (qa_T q (x 22) (x 23) (x 21) (x 24) (LD q x s) (fun h => LV x h (lastS x l)) s (nI a), m1) := fun a => by
      rw [m_lightNow (q := q) (ld := LD q x s) (lv := fun h => LV x h (lastS x l)) hq (by rw [← hm1, mrow_ne (by decide)]; exact e19) (fun h hh => by rw [← hm1, mrow_ne (by decide)]; exact h50 h hh) (fun h hh => by rw [← hm1, mrow_at hh]), ← hm1, mrow_ne (show ¬ 40 = 51 by decide), mrow_ne (show ¬ 41 = 51 by decide), mrow_ne (show ¬ 43 = 51 by decide), mrow_ne (show ¬ 44 = 51 by decide), e40, e41, e43, e44]
    have hneed : ∀ a, a < 4 → m1 31 (4 * l + a) = x (58 + l) a := fun a ha => by
      rw [← hm1, mrow_ne (by decide)]
      exact e31 l a (by omega) ha
    generalize hlt : (fun a => qa_T q (x 22) (x 23) (x 21) (x 24) (LD q x s) (fun h => LV x h (lastS x l)) s (nI a)) = lt
    have hlight2 : ∀ a, f_X6_lightNow s (nI a) m1 = some (lt a, m1) := fun a => by rw [hlight a, ← hlt]
    have key : l_X6_shorts_35 s (nI l) lf (qd_S lt (fun a => x (58 + l) a) 0) (nI 0) m1 (fun v19 v20 σ21 => some (v19, σ21)) = some (qd_S lt (fun a => x (58 + l) a) 4, m1) := by
      refine qa_loop0 (fun fu i => l_X6_shorts_35 s (nI l) fu (qd_S lt (fun a => x (58 + l) a) i) (nI i) m1 (fun v19 v20 σ21 => some (v19, σ21))) 4 _ lf (lf_gt (by decide)) (fun i fu hi => ?_) (fun fu => ?_)
      · show l_X6_shorts_35 s (nI l) (fu + 1) (qd_S lt (fun a => x (58 + l) a) i) (nI i) m1 _ = l_X6_shorts_35 s (nI l) fu (qd_S lt (fun a => x (58 + l) a) (i + 1)) (nI (i + 1)) m1 _
        rw [l_X6_shorts_35, if_neg (q4_lt hi), hlight2]
        simp only [bnd]
        rw [show (4 : Int32) * nI l + nI i = nI (4 * l + i) by rw [show (4 : Int32) = nI 4 from rfl, pk_mul, nI_add], if_pos (inb_nI (show 4 * l + i < 120 by omega) (by decide)), ix_nI (show 4 * l + i < 2 ^ 31 by omega), hneed i hi, nI_1, qd_S, Int32.or_zero]
        by_cases e : x (58 + l) i ≤ lt i
        · rw [if_pos e, if_neg (i_nlt.mpr e)]
        · rw [if_neg e, if_pos (i_nle.mp e)]
      · show l_X6_shorts_35 s (nI l) (fu + 1) _ (nI 4) m1 _ = _
        rw [l_X6_shorts_35, if_pos q4_ge]
    rw [show qd_S lt (fun a => x (58 + l) a) 0 = 0 from rfl, nI_0] at key
    exact key
  · rw [if_neg e8, if_neg e8, if_neg e8]
def qd_n (f : Nat → Int32) : Nat → Nat
  | 0 => 0
  | l + 1 => if f l = 0 then qd_n f l else qd_n f l + 1
theorem qd_n_le {f : Nat → Int32} : ∀ n, qd_n f n ≤ n
  | 0 => Nat.le_refl _
  | n + 1 => by
    have := qd_n_le (f := f) n
    unfold qd_n
    split <;> omega
/-- the ends of all lines are read -/
def EN (n : Nat) (x y : aM) : Prop := ∀ l, l < n → x 8 l = 0 → ∀ h, h < 10 → y (128 + l) h = LV x h (lastS x l)
theorem EN.of {n : Nat} {x : aM} : EN n x (mE x n) := fun l hl h8 h hh => mE_at hl h8 hh
theorem x_lay2 {x y : aM} {q : Nat} {s : Int32} (hq : q ≤ 20) (h48 : x 4 8 = nI q) (hK : KY x y) : f_X3_lay s 28 y = some (0, mrow y 28 10 (LD q x s)) := by
  have e : LD q x s = fun h => qa_V q (y 22) (y 23) (y 20) s (y 9 h) (y 10 h) := by
    funext h
    unfold LD
    rw [hK 22 (by omega), hK 23 (by omega), hK 20 (by omega), hK 9 (by omega), hK 10 (by omega)]
  rw [e]
  exact x_lay hq (by rw [hK 4 (by omega)]; exact h48)
theorem x_count {x y : aM} {n q : Nat} {s : Int32} (hn : n ≤ 30) (h13 : x 1 3 = nI n) (hq : q ≤ 20) (h48 : x 4 8 = nI q) (hK : KY x y) (hE : EN n x y) : f_X5_countShort s y = some (nI (qd_n (SH q x s) n), mrow y 28 10 (LD q x s)) := by
  unfold f_X5_countShort
  rw [x_lay2 hq h48 hK]
  simp only [bnd]
  have hK2 : KY x (mrow y 28 10 (LD q x s)) := hK.tr (KY.row (by decide))
  have key : l_X5_countShort_20 s lf (nI (qd_n (SH q x s) 0)) (nI 0) (mrow y 28 10 (LD q x s)) (fun v13 v14 σ15 => some (v13, σ15)) = some (nI (qd_n (SH q x s) n), mrow y 28 10 (LD q x s)) := by
    refine qa_loop0 (fun fu i => l_X5_countShort_20 s fu (nI (qd_n (SH q x s) i)) (nI i) (mrow y 28 10 (LD q x s)) (fun v13 v14 σ15 => some (v13, σ15))) n _ lf (lf_gt (by omega)) (fun i fu hi => ?_) (fun fu => ?_)
    · show l_X5_countShort_20 s (fu + 1) (nI (qd_n (SH q x s) i)) (nI i) (mrow y 28 10 (LD q x s)) _ = l_X5_countShort_20 s fu (nI (qd_n (SH q x s) (i + 1))) (nI (i + 1)) (mrow y 28 10 (LD q x s)) _
      rw [l_X5_countShort_20, hK2 1 (by omega), h13, if_neg (nI_ge hi (by omega)), x_short hq h48 hK2 (by omega) (fun h hh => mrow_at hh) (fun h8 h hh => (congrFun (mrow_ne (by omega)) h).trans (hE i hi h8 h hh))]
      simp only [bnd]
      rw [nI_1, nI_1, qd_n]
      by_cases e : SH q x s i = 0
      · rw [if_pos e, if_pos e]
      · rw [if_neg e, if_neg e]
    · show l_X5_countShort_20 s (fu + 1) _ (nI n) (mrow y 28 10 (LD q x s)) _ = _
      rw [l_X5_countShort_20, hK2 1 (by omega), h13, if_pos (q_le_self (by omega))]
  rw [show nI (qd_n (SH q x s) 0) = 0 from rfl, nI_0] at key
  exact key
def E5 (m m' : aM) : Prop := ∀ a, ¬ a = 50 → ¬ a = 51 → m' a = m a
theorem E5.rf {m : aM} : E5 m m := fun _ _ _ => rfl
theorem E5.tr {x y z : aM} (h : E5 x y) (h2 : E5 y z) : E5 x z := fun a h3 h4 => (h2 a h3 h4).trans (h a h3 h4)
theorem E5.km {m m' : aM} (h : E5 m m') : KM m m' := ⟨fun a ha => h a (by omega) (by omega), by rw [h 6 (by decide) (by decide)], by rw [h 6 (by decide) (by decide)], by rw [h 6 (by decide) (by decide)], by rw [h 6 (by decide) (by decide)]⟩
theorem E5.pm {n k : Nat} {x m m' : aM} (h : E5 m m') (H : PM n k x m) : PM n k x m' := by
  unfold PM at H ⊢
  rw [h 6 (by decide) (by decide), h 47 (by decide) (by decide), h 48 (by decide) (by decide), h 49 (by decide) (by decide)]
  exact H
/-- the reference's scratch rows behind the first i lines -/
def mQ (x m : aM) : Nat → aM
  | 0 => m
  | i + 1 => if x 8 i = 0 then mrow (mQ x m i) 51 10 (fun h => LV x h (lastS x i)) else mQ x m i
theorem mQ_keep {x m : aM} : ∀ i a, ¬ a = 51 → mQ x m i a = m a
  | 0, _, _ => rfl
  | i + 1, a, h => by
    unfold mQ
    split
    · rw [mrow_ne h, mQ_keep i a h]
    · exact mQ_keep i a h
theorem m_lay2 {n k q g : Nat} {x m : aM} {s : Int32} (H : QL n k q g x m) : f_X6_laysAll s m = some (0, mrow m 50 10 (LD q x s)) := by
  obtain ⟨hq, -, e19, -, -, e40, e41, e42, -, -⟩ := H.2.2.2.2.1
  have e : LD q x s = fun h => qa_V q (m 40) (m 41) (m 42) s (m 32 h) (m 33 h) := by
    funext h
    unfold LD
    rw [e40, e41, e42, H.2.1.1, H.2.1.2]
  rw [e]
  exact m_laysAll hq e19
theorem m_count {n k q g : Nat} {x m : aM} {s : Int32} (H : QL n k q g x m) (hM : PM n k x m) : ∃ m', f_X6_shortLines s m = some (nI (qd_n (SH q x s) n), m') ∧ E5 m m' ∧ ∀ h, h < 10 → m' 50 h = LD q x s h := by
  have hn := H.1.1
  have e4 := H.1.2.2.1
  refine ⟨mQ x (mrow m 50 10 (LD q x s)) n, ?_, fun a h1 h2 => by rw [mQ_keep n a h2, mrow_ne h1], fun h hh => by rw [mQ_keep n 50 (by decide), mrow_at hh]⟩
  have hE : ∀ i, E5 m (mQ x (mrow m 50 10 (LD q x s)) i) := fun i a h1 h2 => by rw [mQ_keep i a h2, mrow_ne h1]
  unfold f_X6_shortLines
  rw [m_lay2 H]
  simp only [bnd]
  have key : l_X6_shortLines_9 s lf (nI (qd_n (SH q x s) 0)) (nI 0) (mQ x (mrow m 50 10 (LD q x s)) 0) (fun v13 v14 σ15 => some (v13, σ15)) = some (nI (qd_n (SH q x s) n), mQ x (mrow m 50 10 (LD q x s)) n) := by
    refine qa_loop0 (fun fu i => l_X6_shortLines_9 s fu (nI (qd_n (SH q x s) i)) (nI i) (mQ x (mrow m 50 10 (LD q x s)) i) (fun v13 v14 σ15 => some (v13, σ15))) n _ lf (lf_gt (by omega)) (fun i fu hi => ?_) (fun fu => ?_)
    · show l_X6_shortLines_9 s (fu + 1) (nI (qd_n (SH q x s) i)) (nI i) (mQ x (mrow m 50 10 (LD q x s)) i) _ = l_X6_shortLines_9 s fu (nI (qd_n (SH q x s) (i + 1))) (nI (i + 1)) (mQ x (mrow m 50 10 (LD q x s)) (i + 1)) _
      rw [l_X6_shortLines_9, (hE i) 6 (by decide) (by decide), e4, if_neg (nI_ge hi (by omega)), m_short (H.km (hE i).km) ((hE i).pm hM) hi (fun h hh => by rw [mQ_keep i 50 (by decide), mrow_at hh])]
      simp only [bnd]
      rw [nI_1, nI_1, qd_n, Int32.add_zero]
      show (if SH q x s i = 0 then l_X6_shortLines_9 s fu (nI (qd_n (SH q x s) i)) (nI (i + 1)) (mQ x (mrow m 50 10 (LD q x s)) (i + 1)) _ else l_X6_shortLines_9 s fu (nI (qd_n (SH q x s) i + 1)) (nI (i + 1)) (mQ x (mrow m 50 10 (LD q x s)) (i + 1)) _) = _
      by_cases e : SH q x s i = 0
      · rw [if_pos e, if_pos e]
      · rw [if_neg e, if_neg e]
    · show l_X6_shortLines_9 s (fu + 1) _ (nI n) (mQ x (mrow m 50 10 (LD q x s)) n) _ = _
      rw [l_X6_shortLines_9, (hE n) 6 (by decide) (by decide), e4, if_pos (q_le_self (by omega))]
  rw [show nI (qd_n (SH q x s) 0) = 0 from rfl, nI_0] at key
  exact key
end
section
/-! the calls: what both answer; first those that are small -/
theorem x_num_t {p : Int32} {n : Nat} (hn : n < 2 ^ 30) (h : inb p n = true) (σ : aM) : f_X5_checkNumber p (nI n) σ = some (0, 0, σ) := by rw [x_num hn, if_pos h]
theorem x_num_f {p : Int32} {n : Nat} (hn : n < 2 ^ 30) (h : ¬ inb p n = true) (σ : aM) : f_X5_checkNumber p (nI n) σ = some (1, 0, σ) := by rw [x_num hn, if_neg h]
theorem x_n4_t {p : Int32} (h : inb p 4 = true) (σ : aM) : f_X5_checkNumber p 4 σ = some (0, 0, σ) := x_num_t (n := 4) (by decide) h σ
theorem x_n4_f {p : Int32} (h : ¬ inb p 4 = true) (σ : aM) : f_X5_checkNumber p 4 σ = some (1, 0, σ) := x_num_f (n := 4) (by decide) h σ
theorem x_n10_t {p : Int32} (h : inb p 10 = true) (σ : aM) : f_X5_checkNumber p 10 σ = some (0, 0, σ) := x_num_t (n := 10) (by decide) h σ
theorem x_n10_f {p : Int32} (h : ¬ inb p 10 = true) (σ : aM) : f_X5_checkNumber p 10 σ = some (1, 0, σ) := x_num_f (n := 10) (by decide) h σ
theorem x_rng_t {p a b : Int32} (h : a ≤ p ∧ p ≤ b) (σ : aM) : f_X5_checkRange p a b σ = some (0, 0, σ) := by rw [x_rng, if_pos h]
theorem x_rng_f {p a b : Int32} (h : ¬ (a ≤ p ∧ p ≤ b)) (σ : aM) : f_X5_checkRange p a b σ = some (2, 0, σ) := by rw [x_rng, if_neg h]
theorem x_room_t {p a : Int32} (h : p < a) (σ : aM) : f_X5_checkRoom p a σ = some (0, 0, σ) := by rw [x_room, if_pos h]
theorem x_room_f {p a : Int32} (h : ¬ p < a) (σ : aM) : f_X5_checkRoom p a σ = some (3, 0, σ) := by rw [x_room, if_neg h]
theorem x_st_1 (σ : aM) : f_X5_checkState 1 σ = some (0, 0, σ) := by rw [x_state, if_neg (by decide)]
theorem x_st_0 (σ : aM) : f_X5_checkState 0 σ = some (3, 0, σ) := by rw [x_state, if_pos rfl]
theorem m_in_t {p a b : Int32} (h : a ≤ p ∧ p ≤ b) (σ : aM) : f_X6_isIn p a b σ = some (1, σ) := by rw [m_in, if_pos h]
theorem m_in_f {p a b : Int32} (h : ¬ (a ≤ p ∧ p ≤ b)) (σ : aM) : f_X6_isIn p a b σ = some (0, σ) := by rw [m_in, if_neg h]
theorem m_fine0 (σ : aM) : f_X6_isFine 0 σ = some (1, mput σ 6 0 0) := by rw [m_fine, if_pos rfl]
theorem m_fine1 (σ : aM) : f_X6_isFine 1 σ = some (0, mput σ 6 0 1) := by rw [m_fine, if_neg (by decide)]
theorem m_fine2 (σ : aM) : f_X6_isFine 2 σ = some (0, mput σ 6 0 2) := by rw [m_fine, if_neg (by decide)]
theorem m_fine3 (σ : aM) : f_X6_isFine 3 σ = some (0, mput σ 6 0 3) := by rw [m_fine, if_neg (by decide)]
theorem m_line_t {p : Int32} {n : Nat} {σ : aM} (hn : n < 2 ^ 30) (h : σ 6 4 = nI n) (hp : inb p n = true) : f_X6_isLine p σ = some (1, σ) := by rw [m_line hn h, if_pos hp]
theorem m_line_f {p : Int32} {n : Nat} {σ : aM} (hn : n < 2 ^ 30) (h : σ 6 4 = nI n) (hp : ¬ inb p n = true) : f_X6_isLine p σ = some (0, σ) := by rw [m_line hn h, if_neg hp]
theorem m_cue_t {p : Int32} {n : Nat} {σ : aM} (hn : n < 2 ^ 30) (h : σ 6 11 = nI n) (hp : inb p n = true) : f_X6_isCue p σ = some (1, σ) := by rw [m_cue hn h, if_pos hp]
theorem m_cue_f {p : Int32} {n : Nat} {σ : aM} (hn : n < 2 ^ 30) (h : σ 6 11 = nI n) (hp : ¬ inb p n = true) : f_X6_isCue p σ = some (0, σ) := by rw [m_cue hn h, if_neg hp]
theorem m_lamp_t {p : Int32} {n : Nat} {σ : aM} (hn : n < 2 ^ 30) (h : σ 6 19 = nI n) (hp : inb p n = true) : f_X6_isLamp p σ = some (1, σ) := by rw [m_lamp hn h, if_pos hp]
theorem m_lamp_f {p : Int32} {n : Nat} {σ : aM} (hn : n < 2 ^ 30) (h : σ 6 19 = nI n) (hp : ¬ inb p n = true) : f_X6_isLamp p σ = some (0, σ) := by rw [m_lamp hn h, if_neg hp]
theorem m_log_t {p : Int32} {n : Nat} {σ : aM} (hn : n < 2 ^ 30) (h : σ 6 22 = nI n) (hp : inb p n = true) : f_X6_isLog p σ = some (1, σ) := by rw [m_log hn h, if_pos hp]
theorem m_log_f {p : Int32} {n : Nat} {σ : aM} (hn : n < 2 ^ 30) (h : σ 6 22 = nI n) (hp : ¬ inb p n = true) : f_X6_isLog p σ = some (0, σ) := by rw [m_log hn h, if_neg hp]
theorem m_area_t {p : Int32} (h : inb p 4 = true) (σ : aM) : f_X6_isArea p σ = some (1, σ) := by rw [m_area, if_pos h]
theorem m_area_f {p : Int32} (h : ¬ inb p 4 = true) (σ : aM) : f_X6_isArea p σ = some (0, σ) := by rw [m_area, if_neg h]
theorem m_stage_t {p : Int32} (h : inb p 4 = true) (σ : aM) : f_X6_isStage p σ = some (1, σ) := by rw [m_stage, if_pos h]
theorem m_stage_f {p : Int32} (h : ¬ inb p 4 = true) (σ : aM) : f_X6_isStage p σ = some (0, σ) := by rw [m_stage, if_neg h]
theorem m_chan_t {p : Int32} (h : inb p 10 = true) (σ : aM) : f_X6_isChannel p σ = some (1, σ) := by rw [m_channel, if_pos h]
theorem m_chan_f {p : Int32} (h : ¬ inb p 10 = true) (σ : aM) : f_X6_isChannel p σ = some (0, σ) := by rw [m_channel, if_neg h]
theorem m_time_t {p : Int32} (h : 0 ≤ p ∧ p ≤ 2000) (σ : aM) : f_X6_isTime p σ = some (1, σ) := by rw [m_time, if_pos h]
theorem m_time_f {p : Int32} (h : ¬ (0 ≤ p ∧ p ≤ 2000)) (σ : aM) : f_X6_isTime p σ = some (0, σ) := by rw [m_time, if_neg h]
theorem m_fade_t {p r : Int32} (h : 0 ≤ p ∧ p ≤ 60) (h2 : 0 ≤ r ∧ r ≤ 60) (σ : aM) : f_X6_isFade p r σ = some (1, σ) := by rw [m_fade, if_pos ⟨h, h2⟩]
theorem m_fade_f {p r : Int32} (h : ¬ ((0 ≤ p ∧ p ≤ 60) ∧ (0 ≤ r ∧ r ≤ 60))) (σ : aM) : f_X6_isFade p r σ = some (0, σ) := by rw [m_fade, if_neg h]
theorem mput_row {σ : aM} {k i : Nat} {v : Int32} : mput σ k i v k = upd (σ k) i v := if_pos rfl
def CP (σ : aM) : Prop := ∃ n k q g, QL n k q g σ σ
def KR (x x' : aM) : Prop := ∀ a, (29 ≤ a ∧ a ≤ 46 ∨ a = 6) → x' a = x a
def KC (m m' : aM) : Prop := KX m m' ∧ m' 178 = m 178
theorem KR.km {x x' : aM} (h : KR x x') : KM x x' := ⟨fun a ha => h a (by omega), by rw [h 6 (by omega)], by rw [h 6 (by omega)], by rw [h 6 (by omega)], by rw [h 6 (by omega)]⟩
theorem KR.rf {x : aM} : KR x x := fun _ _ => rfl
theorem KR.tr {x y z : aM} (h : KR x y) (h2 : KR y z) : KR x z := fun a ha => (h2 a ha).trans (h a ha)
theorem KC.rf {m : aM} : KC m m := ⟨KX.rf, rfl⟩
theorem KC.tr {x y z : aM} (h : KC x y) (h2 : KC y z) : KC x z := ⟨h.1.tr h2.1, h2.2.trans h.2⟩
theorem KC.put {m : aM} {k i : Nat} {v : Int32} (h : ¬ (1 ≤ k ∧ k ≤ 5 ∨ 7 ≤ k ∧ k ≤ 24 ∨ k = 26 ∨ 58 ≤ k ∧ k < 128 ∨ 158 ≤ k ∧ k < 178) ∧ ¬ k = 178) : KC m (mput m k i v) := ⟨KX.put h.1, mput_ne (fun e => h.2 e.symm)⟩
theorem KC.row {m : aM} {k n : Nat} {f : Nat → Int32} (h : ¬ (1 ≤ k ∧ k ≤ 5 ∨ 7 ≤ k ∧ k ≤ 24 ∨ k = 26 ∨ 58 ≤ k ∧ k < 128 ∨ 158 ≤ k ∧ k < 178) ∧ ¬ k = 178) : KC m (mrow m k n f) := ⟨KX.row h.1, mrow_ne (fun e => h.2 e.symm)⟩
theorem KR.put {m : aM} {k i : Nat} {v : Int32} (h : ¬ (29 ≤ k ∧ k ≤ 46 ∨ k = 6)) : KR m (mput m k i v) := fun a ha => mput_ne (fun e => h (e ▸ ha))
theorem KR.row {m : aM} {k n : Nat} {f : Nat → Int32} (h : ¬ (29 ≤ k ∧ k ≤ 46 ∨ k = 6)) : KR m (mrow m k n f) := fun a ha => mrow_ne (fun e => h (e ▸ ha))
/-- a call that throws; a call that answers -/
def LT (X : aM → Option (Nat × Int32 × aM)) (hc : Nat → Option Int32) (M : aM → Option (Int32 × aM)) (n k q g : Nat) (x : aM) : Prop := ∃ (e : Nat) (v : Int32), X x = some (e, 0, x) ∧ ¬ e = 0 ∧ hc e = some v ∧ ¬ v = 0 ∧ ∀ m, QL n k q g x m → ∃ b m', M m = some (b, m') ∧ m' 6 0 = v ∧ KM m m' ∧ KC m m'
def LA (X : aM → Option (Nat × Int32 × aM)) (M : aM → Option (Int32 × aM)) (n k q g : Nat) (x : aM) : Prop := ∃ (r : Int32) (x' : aM), X x = some (0, r, x') ∧ KR x x' ∧ ∀ m, QL n k q g x m → ∃ m', M m = some (r, m') ∧ m' 6 0 = 0 ∧ KC m m' ∧ ∃ n' k' q' g', QL n' k' q' g' x' m'
def LK (X : aM → Option (Nat × Int32 × aM)) (hc : Nat → Option Int32) (M : aM → Option (Int32 × aM)) : Prop := ∀ n k q g x, QL n k q g x x → LT X hc M n k q g x ∨ LA X M n k q g x
theorem agW_of {X : aM → Option (Nat × Int32 × aM)} {hc : Nat → Option Int32} {M w : aM → Option (Int32 × aM)} (hw : ∀ σ, w σ = bnC (X σ) hc (fun r σ1 => some (0, mput σ1 178 (ix 0) r))) (H : LK X hc M) : agW CP w M := by
  intro σ hσ
  obtain ⟨n, k, q, g, R⟩ := hσ
  rcases H n k q g σ R with ⟨e, v, h1, h2, h3, h4, h5⟩ | ⟨r, x', h1, h2, h3⟩
  · obtain ⟨b, m', g1, g2, g3, g4⟩ := h5 σ R
    refine ⟨v, σ, b, m', ?_, g1, g2, fun q => absurd q h4, n, k, q, g, R.cg g4.1 g3⟩
    rw [hw, h1]
    unfold bnC
    simp only [if_neg h2, h3]
  · have hk : KM σ (mput x' 178 0 r) := h2.km.tr (KM.put (by decide))
    obtain ⟨m', g1, g2, g3, n', k', q', g', g4⟩ := h3 (mput x' 178 0 r) (R.km hk)
    have hx : KX x' (mput x' 178 0 r) := KX.put (by decide)
    refine ⟨0, mput x' 178 0 r, r, m', ?_, g1, g2, fun _ => ?_, n', k', q', g', g4.kx (hx.tr g3.1)⟩
    · rw [hw, h1]
      rfl
    · rw [g3.2, mput_self]
theorem LT.of {X : aM → Option (Nat × Int32 × aM)} {hc : Nat → Option Int32} {M : aM → Option (Int32 × aM)} {n k q g : Nat} {x : aM} (e : Nat) (v : Int32) (h1 : X x = some (e, 0, x)) (h2 : ¬ e = 0) (h3 : hc e = some v) (h4 : ¬ v = 0) (h5 : ∀ m, QL n k q g x m → M m = some (0, mput m 6 0 v)) : LT X hc M n k q g x :=
  ⟨e, v, h1, h2, h3, h4, fun m hm => ⟨0, mput m 6 0 v, h5 m hm, mput_self, KM.fld (by decide), KC.put (by decide)⟩⟩
/-- a call that only reads -/
theorem LA.ro {X : aM → Option (Nat × Int32 × aM)} {M : aM → Option (Int32 × aM)} {n k q g : Nat} {x x' : aM} (r : Int32) (R : QL n k q g x x) (h1 : X x = some (0, r, x')) (h2 : KX x x') (h3 : KR x x') (h4 : ∀ m, QL n k q g x m → ∃ m', M m = some (r, m') ∧ m' 6 0 = 0 ∧ KM m m' ∧ KC m m') : LA X M n k q g x :=
  ⟨r, x', h1, h3, fun m hm => by
    obtain ⟨m', g1, g2, g3, g4⟩ := h4 m hm
    exact ⟨m', g1, g2, g4, n, k, q, g, hm.cg h2 g3⟩⟩
theorem LA.get {X : aM → Option (Nat × Int32 × aM)} {M : aM → Option (Int32 × aM)} {n k q g : Nat} {x : aM} (r : Int32) (R : QL n k q g x x) (h1 : X x = some (0, r, x)) (h4 : ∀ m, QL n k q g x m → M m = some (r, mput m 6 0 0)) : LA X M n k q g x :=
  LA.ro r R h1 KX.rf KR.rf (fun m hm => ⟨_, h4 m hm, mput_self, KM.fld (by decide), KC.put (by decide)⟩)
theorem agD_of {X M : aM → Option (Int32 × aM)} (f : Nat → Nat → Nat → Nat → Int32) (h1 : ∀ n k q g x, QL n k q g x x → X x = some (f n k q g, x)) (h2 : ∀ n k q g x, QL n k q g x x → M x = some (f n k q g, mput x 6 0 0)) : agD CP X M := by
  intro σ hσ
  obtain ⟨n, k, q, g, R⟩ := hσ
  have K1 : KX σ (mput σ 6 0 0) := KX.put (by decide)
  exact ⟨f n k q g, σ, mput σ 6 0 0, h1 n k q g σ R, h2 n k q g σ R, n, k, q, g, R.cg K1 (KM.fld (by decide))⟩
theorem g_lines : agD CP f_X5_lines f_X6_lines := agD_of (fun n _ _ _ => nI n) (fun n k q g x R => by unfold f_X5_lines; rw [R.1.2.1]) (fun n k q g x R => by unfold f_X6_lines; rw [R.1.2.2.1])
theorem g_cues : agD CP f_X5_cues f_X6_cues := agD_of (fun _ k _ _ => nI k) (fun n k q g x R => by unfold f_X5_cues; rw [R.2.2.1.1.2.1]) (fun n k q g x R => by unfold f_X6_cues; rw [R.2.2.1.2.1])
theorem g_lamps : agD CP f_X5_lamps f_X6_lamps := agD_of (fun _ _ q _ => nI q) (fun n k q g x R => by unfold f_X5_lamps; rw [R.2.2.2.2.1.2.1]) (fun n k q g x R => by unfold f_X6_lamps; rw [R.2.2.2.2.1.2.2.1])
theorem g_logs : agD CP f_X5_logs f_X6_logs := agD_of (fun _ _ _ g => nI g) (fun n k q g x R => by unfold f_X5_logs; rw [R.2.2.2.2.2.2.1]) (fun n k q g x R => by unfold f_X6_logs; rw [R.2.2.2.2.2.2.2.1])
theorem x_total {n : Nat} {x m : aM} (R : RS n x m) {y : aM} (h1 : y 1 = x 1) (h7 : y 7 = x 7) (h8 : y 8 = x 8) : f_X4_total y = some (sa (x 7) (x 8) n, y) := by
  unfold f_X4_total
  rw [h1, R.2.1, x_ahead R.1, h7, h8]
  rfl
theorem m_total {n : Nat} {x m : aM} (R : RS n x m) {y : aM} (h4 : y 6 4 = m 6 4) (h29 : y 29 = m 29) (h30 : y 30 = m 30) : f_X6_ahead (y 6 4) y = some (sa (x 7) (x 8) n, y) := by
  rw [h4, R.2.2.1, m_ahead R.1, h29, h30, R.2.2.2.1, R.2.2.2.2.1]
theorem g_length : agD CP f_X5_length f_X6_length := by
  intro σ hσ
  obtain ⟨n, k, q, g, R⟩ := hσ
  have K1 : KX σ (mput σ 6 0 0) := KX.put (by decide)
  refine ⟨sa (σ 7) (σ 8) n, σ, mput σ 6 0 0, ?_, ?_, n, k, q, g, R.cg K1 (KM.fld (by decide))⟩
  · unfold f_X5_length
    rw [x_total R.1 rfl rfl rfl]
    rfl
  · unfold f_X6_length
    have h := m_total R.1 (y := mput σ 6 0 0) (mput_other (by decide)) (mput_ne (by decide)) (mput_ne (by decide))
    rw [mput_other (by decide)] at h
    rw [h]
    rfl
theorem q_1ne0 : ¬ (1 : Int32) = 0 := by decide
theorem q_n1 : ¬ (1 : Nat) = 0 := by decide
theorem q_n2 : ¬ (2 : Nat) = 0 := by decide
theorem q_n3 : ¬ (3 : Nat) = 0 := by decide
theorem q_clear {k : Nat} {σ : aM} {v : Int32} (h : ¬ k = 0) : mput σ 6 0 v 6 k = σ 6 k := mput_other h
theorem q_clr {a : Nat} {σ : aM} {v : Int32} (h : ¬ a = 6) : mput σ 6 0 v a = σ a := mput_ne h
theorem q_i30 {l : Nat} (h : l < 30) : inb (nI l) 30 = true := inb_nI h (by decide)
theorem q_i20 {l : Nat} (h : l < 20) : inb (nI l) 20 = true := inb_nI h (by decide)
theorem q_i10 {l : Nat} (h : l < 10) : inb (nI l) 10 = true := inb_nI h (by decide)
theorem q_i4 {l : Nat} (h : l < 4) : inb (nI l) 4 = true := inb_nI h (by decide)
theorem q_time {p : Int32} (h : 0 ≤ p ∧ p ≤ 2000) : ∃ t, t ≤ 2000 ∧ p = nI t := nI_of2 (M := 2000) (n := 2000) rfl (fun q => absurd h.1 (by rw [i_nle]; exact q)) h.2
theorem k_startOf (p0 : Int32) : LK (f_X5_startOf p0) hc_L_startOf (f_X6_startOf p0) := by
  intro n k q g x R
  have hn := R.1.1
  by_cases c1 : inb p0 n = true
  · obtain ⟨l, hl, rfl⟩ := inb_of c1 (by omega)
    refine Or.inr (LA.get (if x 8 l = 0 then sa (x 7) (x 8) l else -1) R ?_ (fun m hm => ?_))
    · simp only [f_X5_startOf, R.1.2.1, x_num_t (show n < 2 ^ 30 by omega) c1, q_i30 (show l < 30 by omega), ix_nI (show l < 2 ^ 31 by omega), x_ahead (show l ≤ 30 by omega), bnd, bnX, bnN, q_1ne0, q_n1, q_n2, q_n3, eq_self, not_true_eq_false, not_false_eq_true, ↓reduceIte]
      by_cases e : x 8 l = 0
      · rw [if_pos e, if_pos e]
      · rw [if_neg e, if_neg e]
    · simp only [f_X6_startOf, m_line_t (show n < 2 ^ 30 by omega) hm.1.2.2.1 c1, m_fine0, q_i30 (show l < 30 by omega), ix_nI (show l < 2 ^ 31 by omega), m_ahead (show l ≤ 30 by omega), q_clr (show ¬ 30 = 6 by decide), q_clr (show ¬ 29 = 6 by decide), hm.1.2.2.2.1, hm.1.2.2.2.2.1, bnd, bnX, bnN, q_1ne0, q_n1, q_n2, q_n3, eq_self, not_true_eq_false, not_false_eq_true, ↓reduceIte]
      by_cases e : x 8 l = 0
      · rw [if_pos e, if_pos e]
      · rw [if_neg e, if_neg e]
  · refine Or.inl (LT.of 1 1 ?_ (by decide) rfl (by decide) (fun m hm => ?_))
    · simp only [f_X5_startOf, R.1.2.1, x_num_f (show n < 2 ^ 30 by omega) c1, bnd, bnX, bnN, q_1ne0, q_n1, q_n2, q_n3, eq_self, not_true_eq_false, not_false_eq_true, ↓reduceIte]
    · simp only [f_X6_startOf, m_line_f (show n < 2 ^ 30 by omega) hm.1.2.2.1 c1, m_fine1, bnd, bnX, bnN, q_1ne0, q_n1, q_n2, q_n3, eq_self, not_true_eq_false, not_false_eq_true, ↓reduceIte]
theorem k_whereIs (p0 : Int32) : LK (f_X5_whereIs p0) hc_L_whereIs (f_X6_whereIs p0) := by
  intro n k q g x R
  have hq := R.2.2.2.2.1.1
  by_cases c1 : inb p0 q = true
  · obtain ⟨l, hl, rfl⟩ := inb_of c1 (by omega)
    refine Or.inr (LA.get (x 22 l) R ?_ (fun m hm => ?_))
    · simp only [f_X5_whereIs, R.2.2.2.2.1.2.1, x_num_t (show q < 2 ^ 30 by omega) c1, q_i20 (show l < 20 by omega), ix_nI (show l < 2 ^ 31 by omega), bnd, bnX, bnN, q_1ne0, q_n1, q_n2, q_n3, eq_self, not_true_eq_false, not_false_eq_true, ↓reduceIte]
    · simp only [f_X6_whereIs, m_lamp_t (show q < 2 ^ 30 by omega) hm.2.2.2.2.1.2.2.1 c1, m_fine0, q_i20 (show l < 20 by omega), ix_nI (show l < 2 ^ 31 by omega), q_clr (show ¬ 40 = 6 by decide), hm.2.2.2.2.1.2.2.2.2.2.1, bnd, bnX, bnN, q_1ne0, q_n1, q_n2, q_n3, eq_self, not_true_eq_false, not_false_eq_true, ↓reduceIte]
  · refine Or.inl (LT.of 1 1 ?_ (by decide) rfl (by decide) (fun m hm => ?_))
    · simp only [f_X5_whereIs, R.2.2.2.2.1.2.1, x_num_f (show q < 2 ^ 30 by omega) c1, bnd, bnX, bnN, q_1ne0, q_n1, q_n2, q_n3, eq_self, not_true_eq_false, not_false_eq_true, ↓reduceIte]
    · simp only [f_X6_whereIs, m_lamp_f (show q < 2 ^ 30 by omega) hm.2.2.2.2.1.2.2.1 c1, m_fine1, bnd, bnX, bnN, q_1ne0, q_n1, q_n2, q_n3, eq_self, not_true_eq_false, not_false_eq_true, ↓reduceIte]
theorem k_wear (p0 : Int32) : LK (f_X5_wear p0) hc_L_wear (f_X6_wear p0) := by
  intro n k q g x R
  have hq := R.2.2.2.2.1.1
  by_cases c1 : inb p0 q = true
  · obtain ⟨l, hl, rfl⟩ := inb_of c1 (by omega)
    refine Or.inr (LA.get (x 24 l) R ?_ (fun m hm => ?_))
    · simp only [f_X5_wear, R.2.2.2.2.1.2.1, x_num_t (show q < 2 ^ 30 by omega) c1, q_i20 (show l < 20 by omega), ix_nI (show l < 2 ^ 31 by omega), bnd, bnX, bnN, q_1ne0, q_n1, q_n2, q_n3, eq_self, not_true_eq_false, not_false_eq_true, ↓reduceIte]
    · simp only [f_X6_wear, m_lamp_t (show q < 2 ^ 30 by omega) hm.2.2.2.2.1.2.2.1 c1, m_fine0, q_i20 (show l < 20 by omega), ix_nI (show l < 2 ^ 31 by omega), q_clr (show ¬ 44 = 6 by decide), hm.2.2.2.2.1.2.2.2.2.2.2.2.2.2, bnd, bnX, bnN, q_1ne0, q_n1, q_n2, q_n3, eq_self, not_true_eq_false, not_false_eq_true, ↓reduceIte]
  · refine Or.inl (LT.of 1 1 ?_ (by decide) rfl (by decide) (fun m hm => ?_))
    · simp only [f_X5_wear, R.2.2.2.2.1.2.1, x_num_f (show q < 2 ^ 30 by omega) c1, bnd, bnX, bnN, q_1ne0, q_n1, q_n2, q_n3, eq_self, not_true_eq_false, not_false_eq_true, ↓reduceIte]
    · simp only [f_X6_wear, m_lamp_f (show q < 2 ^ 30 by omega) hm.2.2.2.2.1.2.2.1 c1, m_fine1, bnd, bnX, bnN, q_1ne0, q_n1, q_n2, q_n3, eq_self, not_true_eq_false, not_false_eq_true, ↓reduceIte]
theorem k_stageOf (p0 : Int32) : LK (f_X5_stageOf p0) hc_L_stageOf (f_X6_stageOf p0) := by
  intro n k q g x R
  have hg := R.2.2.2.2.2.1
  by_cases c1 : inb p0 g = true
  · obtain ⟨l, hl, rfl⟩ := inb_of c1 (by omega)
    refine Or.inr (LA.get (x 26 l) R ?_ (fun m hm => ?_))
    · simp only [f_X5_stageOf, R.2.2.2.2.2.2.1, x_num_t (show g < 2 ^ 30 by omega) c1, q_i20 (show l < 20 by omega), ix_nI (show l < 2 ^ 31 by omega), bnd, bnX, bnN, q_1ne0, q_n1, q_n2, q_n3, eq_self, not_true_eq_false, not_false_eq_true, ↓reduceIte]
    · simp only [f_X6_stageOf, m_log_t (show g < 2 ^ 30 by omega) hm.2.2.2.2.2.2.2.1 c1, m_fine0, q_i20 (show l < 20 by omega), ix_nI (show l < 2 ^ 31 by omega), q_clr (show ¬ 45 = 6 by decide), hm.2.2.2.2.2.2.2.2.1, bnd, bnX, bnN, q_1ne0, q_n1, q_n2, q_n3, eq_self, not_true_eq_false, not_false_eq_true, ↓reduceIte]
  · refine Or.inl (LT.of 1 1 ?_ (by decide) rfl (by decide) (fun m hm => ?_))
    · simp only [f_X5_stageOf, R.2.2.2.2.2.2.1, x_num_f (show g < 2 ^ 30 by omega) c1, bnd, bnX, bnN, q_1ne0, q_n1, q_n2, q_n3, eq_self, not_true_eq_false, not_false_eq_true, ↓reduceIte]
    · simp only [f_X6_stageOf, m_log_f (show g < 2 ^ 30 by omega) hm.2.2.2.2.2.2.2.1 c1, m_fine1, bnd, bnX, bnN, q_1ne0, q_n1, q_n2, q_n3, eq_self, not_true_eq_false, not_false_eq_true, ↓reduceIte]
theorem q_30 {u l : Nat} : (30 : Int32) * nI u + nI l = nI (30 * u + l) := by rw [show (30 : Int32) = nI 30 from rfl, pk_mul, nI_add]
theorem q_10 {u l : Nat} : (10 : Int32) * nI u + nI l = nI (10 * u + l) := by rw [show (10 : Int32) = nI 10 from rfl, pk_mul, nI_add]
theorem q_4 {u l : Nat} : (4 : Int32) * nI u + nI l = nI (4 * u + l) := by rw [show (4 : Int32) = nI 4 from rfl, pk_mul, nI_add]
theorem k_wasShortOf (p0 p1 : Int32) : LK (f_X5_wasShortOf p0 p1) hc_L_wasShortOf (f_X6_wasShortOf p0 p1) := by
  intro n k q g x R
  have hn := R.1.1
  have hg := R.2.2.2.2.2.1
  by_cases c1 : inb p0 g = true
  · by_cases c2 : inb p1 n = true
    · obtain ⟨u, hu, rfl⟩ := inb_of c1 (by omega)
      obtain ⟨l, hl, rfl⟩ := inb_of c2 (by omega)
      refine Or.inr (LA.get (x (158 + u) l) R ?_ (fun m hm => ?_))
      · simp only [f_X5_wasShortOf, R.2.2.2.2.2.2.1, R.1.2.1, x_num_t (show g < 2 ^ 30 by omega) c1, x_num_t (show n < 2 ^ 30 by omega) c2, q_i20 (show u < 20 by omega), q_i30 (show l < 30 by omega), ix_nI (show u < 2 ^ 31 by omega), ix_nI (show l < 2 ^ 31 by omega), bnd, bnX, bnN, q_1ne0, q_n1, q_n2, q_n3, eq_self, not_true_eq_false, not_false_eq_true, ↓reduceIte]
      · simp only [f_X6_wasShortOf, m_log_t (show g < 2 ^ 30 by omega) hm.2.2.2.2.2.2.2.1 c1, m_line_t (show n < 2 ^ 30 by omega) hm.1.2.2.1 c2, m_fine0, q_30, inb_nI (show 30 * u + l < 600 by omega) (show 600 < 2 ^ 31 by decide), ix_nI (show 30 * u + l < 2 ^ 31 by omega), q_clr (show ¬ 46 = 6 by decide), hm.2.2.2.2.2.2.2.2.2 u l (by omega) (by omega), bnd, bnX, bnN, q_1ne0, q_n1, q_n2, q_n3, eq_self, not_true_eq_false, not_false_eq_true, ↓reduceIte]
    · refine Or.inl (LT.of 1 1 ?_ (by decide) rfl (by decide) (fun m hm => ?_))
      · simp only [f_X5_wasShortOf, R.2.2.2.2.2.2.1, R.1.2.1, x_num_t (show g < 2 ^ 30 by omega) c1, x_num_f (show n < 2 ^ 30 by omega) c2, bnd, bnX, bnN, q_1ne0, q_n1, q_n2, q_n3, eq_self, not_true_eq_false, not_false_eq_true, ↓reduceIte]
      · simp only [f_X6_wasShortOf, m_log_t (show g < 2 ^ 30 by omega) hm.2.2.2.2.2.2.2.1 c1, m_line_f (show n < 2 ^ 30 by omega) hm.1.2.2.1 c2, m_fine1, bnd, bnX, bnN, q_1ne0, q_n1, q_n2, q_n3, eq_self, not_true_eq_false, not_false_eq_true, ↓reduceIte]
  · refine Or.inl (LT.of 1 1 ?_ (by decide) rfl (by decide) (fun m hm => ?_))
    · simp only [f_X5_wasShortOf, R.2.2.2.2.2.2.1, x_num_f (show g < 2 ^ 30 by omega) c1, bnd, bnX, bnN, q_1ne0, q_n1, q_n2, q_n3, eq_self, not_true_eq_false, not_false_eq_true, ↓reduceIte]
    · simp only [f_X6_wasShortOf, m_log_f (show g < 2 ^ 30 by omega) hm.2.2.2.2.2.2.2.1 c1, m_fine1, bnd, bnX, bnN, q_1ne0, q_n1, q_n2, q_n3, eq_self, not_true_eq_false, not_false_eq_true, ↓reduceIte]
def qe_n (x : aM) (l : Nat) : Nat → Int32
  | 0 => 0
  | u + 1 => if x (158 + u) l = 0 then qe_n x l u else qe_n x l u + 1
theorem x_times {x m : aM} {g l : Nat} (R : RB g x m) (hl : l < 30) : f_X0_countShortLogs (nI l) x = some (qe_n x l g, x) := by
  obtain ⟨hg, e5, -, -, -⟩ := R
  have key : l_X0_countShortLogs_4 (nI l) lf (qe_n x l 0) (nI 0) x (fun v9 v10 σ11 => some (v9, σ11)) = some (qe_n x l g, x) := by
    refine qa_loop0 (fun fu i => l_X0_countShortLogs_4 (nI l) fu (qe_n x l i) (nI i) x (fun v9 v10 σ11 => some (v9, σ11))) g _ lf (lf_gt (by omega)) (fun i fu hi => ?_) (fun fu => ?_)
    · show l_X0_countShortLogs_4 (nI l) (fu + 1) (qe_n x l i) (nI i) x _ = l_X0_countShortLogs_4 (nI l) fu (qe_n x l (i + 1)) (nI (i + 1)) x _
      rw [l_X0_countShortLogs_4, e5, if_neg (nI_ge hi (by omega)), if_pos (q_i20 (show i < 20 by omega)), if_pos (q_i30 hl), ix_nI (show i < 2 ^ 31 by omega), ix_nI (show l < 2 ^ 31 by omega), nI_1, qe_n]
      by_cases e : x (158 + i) l = 0
      · rw [if_pos e, if_pos e]
      · rw [if_neg e, if_neg e]
    · show l_X0_countShortLogs_4 (nI l) (fu + 1) _ (nI g) x _ = _
      rw [l_X0_countShortLogs_4, e5, if_pos (q_le_self (by omega))]
  exact key
theorem m_times {x m y : aM} {g l : Nat} (R : RB g x m) (hl : l < 30) (h6 : y 6 22 = m 6 22) (h46 : y 46 = m 46) : l_X6_timesShort_26 (nI l) lf 0 0 y (fun v16 v17 σ18 => some (v16, σ18)) = some (qe_n x l g, y) := by
  obtain ⟨hg, -, e22, -, e46⟩ := R
  have key : l_X6_timesShort_26 (nI l) lf (qe_n x l 0) (nI 0) y (fun v16 v17 σ18 => some (v16, σ18)) = some (qe_n x l g, y) := by
    refine qa_loop0 (fun fu i => l_X6_timesShort_26 (nI l) fu (qe_n x l i) (nI i) y (fun v16 v17 σ18 => some (v16, σ18))) g _ lf (lf_gt (by omega)) (fun i fu hi => ?_) (fun fu => ?_)
    · show l_X6_timesShort_26 (nI l) (fu + 1) (qe_n x l i) (nI i) y _ = l_X6_timesShort_26 (nI l) fu (qe_n x l (i + 1)) (nI (i + 1)) y _
      rw [l_X6_timesShort_26, h6, e22, if_neg (nI_ge hi (by omega)), q_30, if_pos (inb_nI (show 30 * i + l < 600 by omega) (by decide)), ix_nI (show 30 * i + l < 2 ^ 31 by omega), h46, e46 i l (by omega) hl, nI_1, Int32.add_zero, qe_n]
      by_cases e : x (158 + i) l = 0
      · rw [if_pos e, if_pos e]
      · rw [if_neg e, if_neg e]
    · show l_X6_timesShort_26 (nI l) (fu + 1) _ (nI g) y _ = _
      rw [l_X6_timesShort_26, h6, e22, if_pos (q_le_self (by omega))]
  exact key
theorem k_timesShort (p0 : Int32) : LK (f_X5_timesShort p0) hc_L_timesShort (f_X6_timesShort p0) := by
  intro n k q g x R
  have hn := R.1.1
  by_cases c1 : inb p0 n = true
  · obtain ⟨l, hl, rfl⟩ := inb_of c1 (by omega)
    refine Or.inr (LA.get (qe_n x l g) R ?_ (fun m hm => ?_))
    · simp only [f_X5_timesShort, R.1.2.1, x_num_t (show n < 2 ^ 30 by omega) c1, x_times R.2.2.2.2.2 (show l < 30 by omega), bnd, bnX, bnN, q_1ne0, q_n1, q_n2, q_n3, eq_self, not_true_eq_false, not_false_eq_true, ↓reduceIte]
    · simp only [f_X6_timesShort, m_line_t (show n < 2 ^ 30 by omega) hm.1.2.2.1 c1, m_fine0, m_times hm.2.2.2.2.2 (show l < 30 by omega) (mput_other (show ¬ 22 = 0 by decide)) (mput_ne (show ¬ 46 = 6 by decide)), bnd, bnX, bnN, q_1ne0, q_n1, q_n2, q_n3, eq_self, not_true_eq_false, not_false_eq_true, ↓reduceIte]
  · refine Or.inl (LT.of 1 1 ?_ (by decide) rfl (by decide) (fun m hm => ?_))
    · simp only [f_X5_timesShort, R.1.2.1, x_num_f (show n < 2 ^ 30 by omega) c1, bnd, bnX, bnN, q_1ne0, q_n1, q_n2, q_n3, eq_self, not_true_eq_false, not_false_eq_true, ↓reduceIte]
    · simp only [f_X6_timesShort, m_line_f (show n < 2 ^ 30 by omega) hm.1.2.2.1 c1, m_fine1, bnd, bnX, bnN, q_1ne0, q_n1, q_n2, q_n3, eq_self, not_true_eq_false, not_false_eq_true, ↓reduceIte]
theorem k_laidOn (p0 p1 : Int32) : LK (f_X5_laidOn p0 p1) hc_L_laidOn (f_X6_laidOn p0 p1) := by
  intro n k q g x R
  have hq := R.2.2.2.2.1.1
  by_cases c1 : inb p0 4 = true
  · by_cases c2 : inb p1 10 = true
    · obtain ⟨h, hh, rfl⟩ := inb_of c2 (by omega)
      refine Or.inr (LA.get (LD q x p0 h) R ?_ (fun m hm => ?_))
      · simp only [f_X5_laidOn, x_n4_t c1, x_n10_t c2, q_i10 hh, ix_nI (show h < 2 ^ 31 by omega), x_lampsFor hq R.2.2.2.2.1.2.1, bnd, bnX, bnN, q_1ne0, q_n1, q_n2, q_n3, eq_self, not_true_eq_false, not_false_eq_true, ↓reduceIte]
        rfl
      · obtain ⟨-, -, e19, -, -, e40, e41, e42, -, -⟩ := hm.2.2.2.2.1
        have h19 : mput m 6 0 0 6 19 = nI q := by rw [mput_other (by decide)]; exact e19
        simp only [f_X6_laidOn, m_stage_t c1, m_chan_t c2, m_fine0, m_lays hq h19 hh, q_clr (show ¬ 40 = 6 by decide), q_clr (show ¬ 41 = 6 by decide), q_clr (show ¬ 42 = 6 by decide), q_clr (show ¬ 32 = 6 by decide), q_clr (show ¬ 33 = 6 by decide), e40, e41, e42, hm.2.1.1, hm.2.1.2, bnd, bnX, bnN, q_1ne0, q_n1, q_n2, q_n3, eq_self, not_true_eq_false, not_false_eq_true, ↓reduceIte]
        rfl
    · refine Or.inl (LT.of 1 1 ?_ (by decide) rfl (by decide) (fun m hm => ?_))
      · simp only [f_X5_laidOn, x_n4_t c1, x_n10_f c2, bnd, bnX, bnN, q_1ne0, q_n1, q_n2, q_n3, eq_self, not_true_eq_false, not_false_eq_true, ↓reduceIte]
      · simp only [f_X6_laidOn, m_stage_t c1, m_chan_f c2, m_fine1, bnd, bnX, bnN, q_1ne0, q_n1, q_n2, q_n3, eq_self, not_true_eq_false, not_false_eq_true, ↓reduceIte]
  · refine Or.inl (LT.of 1 1 ?_ (by decide) rfl (by decide) (fun m hm => ?_))
    · simp only [f_X5_laidOn, x_n4_f c1, bnd, bnX, bnN, q_1ne0, q_n1, q_n2, q_n3, eq_self, not_true_eq_false, not_false_eq_true, ↓reduceIte]
    · simp only [f_X6_laidOn, m_stage_f c1, m_fine1, bnd, bnX, bnN, q_1ne0, q_n1, q_n2, q_n3, eq_self, not_true_eq_false, not_false_eq_true, ↓reduceIte]
theorem m0_R {n k q g : Nat} {x m : aM} (hm : QL n k q g x m) : QL n k q g x (mput m 6 0 0) := hm.km (KM.fld (by decide))
theorem a47_km {m m' : aM} (h : ∀ a, ¬ a = 47 → m' a = m a) : KM m m' ∧ KC m m' ∧ m' 6 0 = m 6 0 := ⟨⟨fun a ha => h a (by omega), by rw [h 6 (by decide)], by rw [h 6 (by decide)], by rw [h 6 (by decide)], by rw [h 6 (by decide)]⟩, ⟨fun a ha => h a (by omega), h 178 (by decide)⟩, by rw [h 6 (by decide)]⟩
theorem a0_km {m : aM} : KM m (mput m 6 0 0) ∧ KC m (mput m 6 0 0) := ⟨KM.fld (by decide), KC.put (by decide)⟩
theorem k_cueAt (p0 : Int32) : LK (f_X5_cueAt p0) hc_L_cueAt (f_X6_cueAt p0) := by
  intro n k q g x R
  have hk := R.2.2.1.1.1
  by_cases c1 : inb p0 k = true
  · have c1' := (m_inN (show k < 2 ^ 30 by omega)).mpr c1
    obtain ⟨p, hp, rfl⟩ := inb_of c1 (by omega)
    refine Or.inr (LA.ro (x' := x) (x 14 p) R ?_ KX.rf KR.rf (fun m hm => ?_))
    · simp only [f_X5_cueAt, R.2.2.1.1.2.1, x_num_t (show k < 2 ^ 30 by omega) c1, q_i20 (show p < 20 by omega), ix_nI (show p < 2 ^ 31 by omega), bnd, bnX, bnN, q_1ne0, q_n1, q_n2, q_n3, eq_self, not_true_eq_false, not_false_eq_true, ↓reduceIte]
    · obtain ⟨m', a1, a2, a3⟩ := m_orders (m0_R hm)
      obtain ⟨b1, b2, b3⟩ := a47_km a2
      refine ⟨m', ?_, b3.trans mput_self, a0_km.1.tr b1, a0_km.2.tr b2⟩
      simp only [f_X6_cueAt, hm.2.2.1.2.1, m_in_t c1', m_fine0, a1, q_i20 (show p < 20 by omega), ix_nI (show p < 2 ^ 31 by omega), a3 p hp, bnd, bnX, bnN, q_1ne0, q_n1, q_n2, q_n3, eq_self, not_true_eq_false, not_false_eq_true, ↓reduceIte]
  · have c1' : ¬ (0 ≤ p0 ∧ p0 ≤ nI k - 1) := fun q => c1 ((m_inN (show k < 2 ^ 30 by omega)).mp q)
    refine Or.inl (LT.of 1 1 ?_ (by decide) rfl (by decide) (fun m hm => ?_))
    · simp only [f_X5_cueAt, R.2.2.1.1.2.1, x_num_f (show k < 2 ^ 30 by omega) c1, bnd, bnX, bnN, q_1ne0, q_n1, q_n2, q_n3, eq_self, not_true_eq_false, not_false_eq_true, ↓reduceIte]
    · simp only [f_X6_cueAt, hm.2.2.1.2.1, m_in_f c1', m_fine1, bnd, bnX, bnN, q_1ne0, q_n1, q_n2, q_n3, eq_self, not_true_eq_false, not_false_eq_true, ↓reduceIte]
theorem k_timeOf (p0 : Int32) : LK (f_X5_timeOf p0) hc_L_timeOf (f_X6_timeOf p0) := by
  intro n k q g x R
  have hk := R.2.2.1.1.1
  have hn := R.1.1
  by_cases c1 : inb p0 k = true
  · obtain ⟨c, hc, rfl⟩ := inb_of c1 (by omega)
    refine Or.inr (LA.get (x 15 c) R ?_ (fun m hm => ?_))
    · simp only [f_X5_timeOf, R.2.2.1.1.2.1, x_num_t (show k < 2 ^ 30 by omega) c1, q_i20 (show c < 20 by omega), ix_nI (show c < 2 ^ 31 by omega), bnd, bnX, bnN, q_1ne0, q_n1, q_n2, q_n3, eq_self, not_true_eq_false, not_false_eq_true, ↓reduceIte]
    · obtain ⟨L, hL1, hL2⟩ := R.2.2.1.1.2.2.1 c hc
      have hpl := m_played (m0_R hm) hc
      have eT := R.2.2.2.1.2.1 c hc
      unfold qc_t at eT
      rw [hL2, ix_nI (show L < 2 ^ 31 by omega)] at hpl eT
      simp only [f_X6_timeOf, m_cue_t (show k < 2 ^ 30 by omega) hm.2.2.1.2.1 c1, m_fine0, hpl.1, q_i20 (show c < 20 by omega), ix_nI (show c < 2 ^ 31 by omega), q_clr (show ¬ 34 = 6 by decide), q_clr (show ¬ 35 = 6 by decide), hm.2.2.1.2.2.1, hm.2.2.1.2.2.2.1, hL2, m_ahead (show L ≤ 30 by omega), q_clr (show ¬ 29 = 6 by decide), q_clr (show ¬ 30 = 6 by decide), hm.1.2.2.2.1, hm.1.2.2.2.2.1, bnd, bnX, bnN, q_1ne0, q_n1, q_n2, q_n3, eq_self, not_true_eq_false, not_false_eq_true, ↓reduceIte]
      by_cases e : x 15 c = -1
      · rw [if_pos e, if_pos rfl, e]
      · have h8 : x 8 L = 0 := Decidable.byContradiction fun q => e (hpl.2.mpr q)
        rw [if_pos h8] at eT
        rw [if_neg e, if_neg q_1ne0, eT]
  · refine Or.inl (LT.of 1 1 ?_ (by decide) rfl (by decide) (fun m hm => ?_))
    · simp only [f_X5_timeOf, R.2.2.1.1.2.1, x_num_f (show k < 2 ^ 30 by omega) c1, bnd, bnX, bnN, q_1ne0, q_n1, q_n2, q_n3, eq_self, not_true_eq_false, not_false_eq_true, ↓reduceIte]
    · simp only [f_X6_timeOf, m_cue_f (show k < 2 ^ 30 by omega) hm.2.2.1.2.1 c1, m_fine1, bnd, bnX, bnN, q_1ne0, q_n1, q_n2, q_n3, eq_self, not_true_eq_false, not_false_eq_true, ↓reduceIte]
theorem k_foldedInto (p0 : Int32) : LK (f_X5_foldedInto p0) hc_L_foldedInto (f_X6_foldedInto p0) := by
  intro n k q g x R
  have hk := R.2.2.1.1.1
  by_cases c1 : inb p0 k = true
  · obtain ⟨c, hc, rfl⟩ := inb_of c1 (by omega)
    refine Or.inr (LA.ro (x' := x) (x 16 c) R ?_ KX.rf KR.rf (fun m hm => ?_))
    · simp only [f_X5_foldedInto, R.2.2.1.1.2.1, x_num_t (show k < 2 ^ 30 by omega) c1, q_i20 (show c < 20 by omega), ix_nI (show c < 2 ^ 31 by omega), bnd, bnX, bnN, q_1ne0, q_n1, q_n2, q_n3, eq_self, not_true_eq_false, not_false_eq_true, ↓reduceIte]
    · obtain ⟨m', a1, a2, a3⟩ := m_orders (m0_R hm)
      obtain ⟨b1, b2, b3⟩ := a47_km a2
      refine ⟨m', ?_, b3.trans mput_self, a0_km.1.tr b1, a0_km.2.tr b2⟩
      obtain ⟨p, hp, e14⟩ := R.2.2.2.1.1.2.2 c hc
      have R' := (m0_R hm).km b1
      have e1 := m_placeOf R' a3 hp
      have e2 := m_folded R' a3 (nI c) (k - p) p lf (by omega) (lf_gt (by omega))
      have e3 := R.2.2.2.1.2.2.1.1 p hp
      rw [e14] at e1
      rw [e14, ix_nI (show c < 2 ^ 31 by omega)] at e3
      simp only [f_X6_foldedInto, m_cue_t (show k < 2 ^ 30 by omega) hm.2.2.1.2.1 c1, m_fine0, a1, e1, bnd, bnX, bnN, q_1ne0, q_n1, q_n2, q_n3, eq_self, not_true_eq_false, not_false_eq_true, ↓reduceIte]
      rw [e2, e3]
  · refine Or.inl (LT.of 1 1 ?_ (by decide) rfl (by decide) (fun m hm => ?_))
    · simp only [f_X5_foldedInto, R.2.2.1.1.2.1, x_num_f (show k < 2 ^ 30 by omega) c1, bnd, bnX, bnN, q_1ne0, q_n1, q_n2, q_n3, eq_self, not_true_eq_false, not_false_eq_true, ↓reduceIte]
    · simp only [f_X6_foldedInto, m_cue_f (show k < 2 ^ 30 by omega) hm.2.2.1.2.1 c1, m_fine1, bnd, bnX, bnN, q_1ne0, q_n1, q_n2, q_n3, eq_self, not_true_eq_false, not_false_eq_true, ↓reduceIte]
theorem k_changes (p0 p1 : Int32) : LK (f_X5_changes p0 p1) hc_L_changes (f_X6_changes p0 p1) := by
  intro n k q g x R
  have hk := R.2.2.1.1.1
  by_cases c1 : inb p0 k = true
  · by_cases c2 : inb p1 10 = true
    · obtain ⟨c, hc, rfl⟩ := inb_of c1 (by omega)
      obtain ⟨h, hh, rfl⟩ := inb_of c2 (by omega)
      refine Or.inr (LA.ro (x' := x) (x (108 + c) h) R ?_ KX.rf KR.rf (fun m hm => ?_))
      · simp only [f_X5_changes, R.2.2.1.1.2.1, x_num_t (show k < 2 ^ 30 by omega) c1, x_n10_t c2, q_i20 (show c < 20 by omega), q_i10 hh, ix_nI (show c < 2 ^ 31 by omega), ix_nI (show h < 2 ^ 31 by omega), bnd, bnX, bnN, q_1ne0, q_n1, q_n2, q_n3, eq_self, not_true_eq_false, not_false_eq_true, ↓reduceIte]
      · obtain ⟨m', a1, a2, a3⟩ := m_orders (m0_R hm)
        obtain ⟨b1, b2, b3⟩ := a47_km a2
        refine ⟨m', ?_, b3.trans mput_self, a0_km.1.tr b1, a0_km.2.tr b2⟩
        obtain ⟨p, hp, e14⟩ := R.2.2.2.1.1.2.2 c hc
        have R' := (m0_R hm).km b1
        have e1 := m_placeOf R' a3 hp
        have e2 := m_changesAt R' a3 hh hp
        have e3 := R.2.2.2.1.2.2.1.2 p h hp hh
        have e4 := (m_played R' hc).1
        have eT : pT x p = x 15 c := by
          unfold pT
          rw [e14, ix_nI (by omega)]
        rw [e14] at e1
        rw [e14, ix_nI (show c < 2 ^ 31 by omega), eT] at e3
        simp only [f_X6_changes, m_cue_t (show k < 2 ^ 30 by omega) hm.2.2.1.2.1 c1, m_chan_t c2, m_fine0, a1, e1, e2, e4, bnd, bnX, bnN, q_1ne0, q_n1, q_n2, q_n3, eq_self, not_true_eq_false, not_false_eq_true, ↓reduceIte]
        rw [e3]
        by_cases e : x 15 c = -1
        · rw [if_pos e, if_pos e, if_pos rfl]
        · rw [if_neg e, if_neg e, if_neg q_1ne0]
    · refine Or.inl (LT.of 1 1 ?_ (by decide) rfl (by decide) (fun m hm => ?_))
      · simp only [f_X5_changes, R.2.2.1.1.2.1, x_num_t (show k < 2 ^ 30 by omega) c1, x_n10_f c2, bnd, bnX, bnN, q_1ne0, q_n1, q_n2, q_n3, eq_self, not_true_eq_false, not_false_eq_true, ↓reduceIte]
      · simp only [f_X6_changes, m_cue_t (show k < 2 ^ 30 by omega) hm.2.2.1.2.1 c1, m_chan_f c2, m_fine1, bnd, bnX, bnN, q_1ne0, q_n1, q_n2, q_n3, eq_self, not_true_eq_false, not_false_eq_true, ↓reduceIte]
  · refine Or.inl (LT.of 1 1 ?_ (by decide) rfl (by decide) (fun m hm => ?_))
    · simp only [f_X5_changes, R.2.2.1.1.2.1, x_num_f (show k < 2 ^ 30 by omega) c1, bnd, bnX, bnN, q_1ne0, q_n1, q_n2, q_n3, eq_self, not_true_eq_false, not_false_eq_true, ↓reduceIte]
    · simp only [f_X6_changes, m_cue_f (show k < 2 ^ 30 by omega) hm.2.2.1.2.1 c1, m_fine1, bnd, bnX, bnN, q_1ne0, q_n1, q_n2, q_n3, eq_self, not_true_eq_false, not_false_eq_true, ↓reduceIte]
theorem k_levelAt (p0 p1 : Int32) : LK (f_X5_levelAt p0 p1) hc_L_levelAt (f_X6_levelAt p0 p1) := by
  intro n k q g x R
  by_cases c1 : inb p0 10 = true
  · by_cases c2 : 0 ≤ p1 ∧ p1 ≤ 2000
    · obtain ⟨h, hh, rfl⟩ := inb_of c1 (by omega)
      obtain ⟨t, ht, rfl⟩ := q_time c2
      refine Or.inr (LA.ro (x' := x) (LV x h (nI t)) R ?_ KX.rf KR.rf (fun m hm => ?_))
      · simp only [f_X5_levelAt, x_n10_t c1, x_rng_t c2, x_fades R.px hh, bnd, bnX, bnN, q_1ne0, q_n1, q_n2, q_n3, eq_self, not_true_eq_false, not_false_eq_true, ↓reduceIte]
      · obtain ⟨m', a1, a2, a3, a4, a5⟩ := m_plays (m0_R hm)
        refine ⟨m', ?_, a4.trans mput_self, a0_km.1.tr a2, a0_km.2.tr ⟨fun a ha => a3 a (by omega) (by omega), a3 178 (by decide) (by decide)⟩⟩
        simp only [f_X6_levelAt, f_X6_levelNow, m_chan_t c1, m_time_t c2, m_fine0, a1, m_level ((m0_R hm).km a2) a5 hh (show t ≤ 5000 by omega), bnd, bnX, bnN, q_1ne0, q_n1, q_n2, q_n3, eq_self, not_true_eq_false, not_false_eq_true, ↓reduceIte]
    · refine Or.inl (LT.of 2 2 ?_ (by decide) rfl (by decide) (fun m hm => ?_))
      · simp only [f_X5_levelAt, x_n10_t c1, x_rng_f c2, bnd, bnX, bnN, q_1ne0, q_n1, q_n2, q_n3, eq_self, not_true_eq_false, not_false_eq_true, ↓reduceIte]
      · simp only [f_X6_levelAt, f_X6_levelNow, m_chan_t c1, m_time_f c2, m_fine2, bnd, bnX, bnN, q_1ne0, q_n1, q_n2, q_n3, eq_self, not_true_eq_false, not_false_eq_true, ↓reduceIte]
  · refine Or.inl (LT.of 1 1 ?_ (by decide) rfl (by decide) (fun m hm => ?_))
    · simp only [f_X5_levelAt, x_n10_f c1, bnd, bnX, bnN, q_1ne0, q_n1, q_n2, q_n3, eq_self, not_true_eq_false, not_false_eq_true, ↓reduceIte]
    · simp only [f_X6_levelAt, f_X6_levelNow, m_chan_f c1, m_fine1, bnd, bnX, bnN, q_1ne0, q_n1, q_n2, q_n3, eq_self, not_true_eq_false, not_false_eq_true, ↓reduceIte]
theorem k_levelBySeconds (p0 p1 : Int32) : LK (f_X5_levelBySeconds p0 p1) hc_L_levelBySeconds (f_X6_levelBySeconds p0 p1) := by
  intro n k q g x R
  by_cases c1 : inb p0 10 = true
  · by_cases c2 : 0 ≤ p1 ∧ p1 ≤ 2000
    · obtain ⟨h, hh, rfl⟩ := inb_of c1 (by omega)
      obtain ⟨t, ht, rfl⟩ := q_time c2
      refine Or.inr (LA.ro (x' := x) (LV x h (nI t)) R ?_ KX.rf KR.rf (fun m hm => ?_))
      · simp only [f_X5_levelBySeconds, x_n10_t c1, x_rng_t c2, x_ticks R.px hh ht, bnd, bnX, bnN, q_1ne0, q_n1, q_n2, q_n3, eq_self, not_true_eq_false, not_false_eq_true, ↓reduceIte]
      · obtain ⟨m', a1, a2, a3, a4, a5⟩ := m_plays (m0_R hm)
        refine ⟨m', ?_, a4.trans mput_self, a0_km.1.tr a2, a0_km.2.tr ⟨fun a ha => a3 a (by omega) (by omega), a3 178 (by decide) (by decide)⟩⟩
        simp only [f_X6_levelBySeconds, f_X6_levelNow, m_chan_t c1, m_time_t c2, m_fine0, a1, m_level ((m0_R hm).km a2) a5 hh (show t ≤ 5000 by omega), bnd, bnX, bnN, q_1ne0, q_n1, q_n2, q_n3, eq_self, not_true_eq_false, not_false_eq_true, ↓reduceIte]
    · refine Or.inl (LT.of 2 2 ?_ (by decide) rfl (by decide) (fun m hm => ?_))
      · simp only [f_X5_levelBySeconds, x_n10_t c1, x_rng_f c2, bnd, bnX, bnN, q_1ne0, q_n1, q_n2, q_n3, eq_self, not_true_eq_false, not_false_eq_true, ↓reduceIte]
      · simp only [f_X6_levelBySeconds, f_X6_levelNow, m_chan_t c1, m_time_f c2, m_fine2, bnd, bnX, bnN, q_1ne0, q_n1, q_n2, q_n3, eq_self, not_true_eq_false, not_false_eq_true, ↓reduceIte]
  · refine Or.inl (LT.of 1 1 ?_ (by decide) rfl (by decide) (fun m hm => ?_))
    · simp only [f_X5_levelBySeconds, x_n10_f c1, bnd, bnX, bnN, q_1ne0, q_n1, q_n2, q_n3, eq_self, not_true_eq_false, not_false_eq_true, ↓reduceIte]
    · simp only [f_X6_levelBySeconds, f_X6_levelNow, m_chan_f c1, m_fine1, bnd, bnX, bnN, q_1ne0, q_n1, q_n2, q_n3, eq_self, not_true_eq_false, not_false_eq_true, ↓reduceIte]
end
section
/-! the calls that change something -/
theorem q_sec {p : Int32} (h : 1 ≤ p ∧ p ≤ 30) : ∃ s, 1 ≤ s ∧ s ≤ 30 ∧ p = nI s := by
  have h1 : ¬ p < 0 := fun q => by
    have h2 := h.1
    rw [Int32.lt_iff_toInt_lt, show (0 : Int32).toInt = 0 from rfl] at q
    rw [Int32.le_iff_toInt_le, show (1 : Int32).toInt = 1 from rfl] at h2
    omega
  obtain ⟨s, hs, e⟩ := nI_of2 (M := 30) (n := 30) rfl h1 h.2
  refine ⟨s, ?_, hs, e⟩
  by_cases e0 : s = 0
  · exfalso
    subst e0
    rw [e] at h
    exact absurd h.1 (by decide)
  · omega
theorem q_60 {p : Int32} (h : 0 ≤ p ∧ p ≤ 60) : ∃ s, s ≤ 60 ∧ p = nI s := nI_of2 (M := 60) (n := 60) rfl (fun q => absurd h.1 (by rw [i_nle]; exact q)) h.2
theorem q_room {n N : Nat} (h : n < N) (hN : N < 2 ^ 30) : nI n < nI N := nI_lt h (by omega)
theorem q_noroom {n N : Nat} (h : ¬ n < N) (hn : n < 2 ^ 30) : ¬ nI n < nI N := nI_nlt (by omega) (by omega)
theorem sa_cg {a b o o' : Nat → Int32} {l : Nat} (h : ∀ i, i < l → a i = b i) (h2 : ∀ i, i < l → o i = o' i) : sa a o l = sa b o' l := sa_congr l (fun i hi => ⟨h i hi, h2 i hi⟩)
theorem k_addLine (p0 : Int32) : LK (f_X5_addLine p0) hc_L_addLine (f_X6_addLine p0) := by
  intro n k q g x R
  have hn := R.1.1
  by_cases c1 : 1 ≤ p0 ∧ p0 ≤ 30
  · by_cases c2 : n < 30
    · have c2x : nI n < 30 := q_room (N := 30) c2 (by decide)
      have c2m : ¬ nI n = 30 := fun e => absurd ((nI_eq (a := n) (b := 30) (by omega) (by decide)).mp e) (by omega)
      refine Or.inr ⟨nI (n + 1) - 1, mput (mput x 7 n p0) 1 3 (nI (n + 1)), ?_, ?_, fun m hm => ⟨mput (mput (mput m 6 0 0) 29 n p0) 6 4 (nI (n + 1)), ?_, ?_, ?_, n + 1, k, q, g, ?_⟩⟩
      · simp only [f_X5_addLine, x_rng_t c1, R.1.2.1, x_room_t c2x, f_X4_append, q_i30 c2, ix_nI (show n < 2 ^ 31 by omega), nI_1, bnd, bnX, bnN, q_1ne0, q_n1, q_n2, q_n3, eq_self, not_true_eq_false, not_false_eq_true, ↓reduceIte]
      · exact (KR.put (by decide)).tr (KR.put (by decide))
      · simp only [f_X6_addLine, m_in_t c1, hm.1.2.2.1, c2m, m_fine0, q_clear (show ¬ 4 = 0 by decide), q_i30 c2, ix_nI (show n < 2 ^ 31 by omega), nI_1, bnd, bnX, bnN, q_1ne0, q_n1, q_n2, q_n3, eq_self, not_true_eq_false, not_false_eq_true, ↓reduceIte]
      · rw [mput_other (by decide), mput_ne (by decide), mput_self]
      · exact ((KC.put (by decide)).tr (KC.put (by decide))).tr (KC.put (by decide))
      · obtain ⟨s, hs1, hs2, hs3⟩ := q_sec c1
        obtain ⟨⟨g1, g2, g3, g4, g5, g6, g7⟩, r2, r3, r4, r5, r6⟩ := hm
        have e7 : mput (mput x 7 n p0) 1 3 (nI (n + 1)) 7 = upd (x 7) n p0 := by rw [mput_ne (by decide), mput_row]
        refine ⟨⟨c2, mput_self, mput_self, ?_, ?_, fun l hl => ?_, fun l a hl ha => ?_⟩, r2.cg ?_ ?_ ?_ ?_, ⟨⟨r3.1.1, ?_, fun c hc => ?_, ?_, ?_⟩, ?_, ?_, ?_, ?_, fun c h hc hh => ?_⟩, r4.ka r3.1.1 (fun a ha => ?_) (fun c hc => ?_), r5.cg (fun a ha => ?_) ?_ (fun a ha => ?_), r6.cg (fun a ha => ?_) ?_ (fun a ha => ?_)⟩
        · rw [e7, mput_ne (by decide), mput_row, mput_ne (by decide), g4]
        · rw [mput_ne (by decide), mput_ne (by decide), mput_ne (by decide), mput_ne (by decide), mput_ne (by decide)]; exact g5
        · rw [e7]
          by_cases e : l = n
          · rw [e, pk_us]; exact ⟨s, hs1, hs2, hs3⟩
          · rw [pk_un e]; exact g6 l (by omega)
        · rw [mput_ne (by decide), mput_ne (by decide), mput_ne (by decide), mput_ne (by omega), mput_ne (by omega)]; exact g7 l a hl ha
        · rw [mput_ne (by decide), mput_ne (by decide)]
        · rw [mput_ne (by decide), mput_ne (by decide)]
        · rw [mput_ne (by decide), mput_ne (by decide), mput_ne (by decide)]
        · rw [mput_ne (by decide), mput_ne (by decide), mput_ne (by decide)]
        · rw [mput_ne (by decide), mput_ne (by decide)]; exact r3.1.2.1
        · rw [mput_ne (by decide), mput_ne (by decide)]
          obtain ⟨L, hL1, hL2⟩ := r3.1.2.2.1 c hc
          exact ⟨L, by omega, hL2⟩
        · rw [mput_ne (by decide), mput_ne (by decide)]; exact r3.1.2.2.2.1
        · rw [mput_ne (by decide), mput_ne (by decide)]; exact r3.1.2.2.2.2
        · rw [mput_other (by decide), mput_ne (by decide), mput_other (by decide)]; exact r3.2.1
        · rw [mput_ne (by decide), mput_ne (by decide), mput_ne (by decide), mput_ne (by decide), mput_ne (by decide)]; exact r3.2.2.1
        · rw [mput_ne (by decide), mput_ne (by decide), mput_ne (by decide), mput_ne (by decide), mput_ne (by decide)]; exact r3.2.2.2.1
        · rw [mput_ne (by decide), mput_ne (by decide), mput_ne (by decide), mput_ne (by decide), mput_ne (by decide)]; exact r3.2.2.2.2.1
        · rw [mput_ne (by decide), mput_ne (by decide), mput_ne (by decide), mput_ne (by omega), mput_ne (by omega)]; exact r3.2.2.2.2.2 c h hc hh
        · rw [mput_ne (by omega), mput_ne (by omega)]
        · obtain ⟨L, hL1, hL2⟩ := r3.1.2.2.1 c hc
          unfold qc_t
          rw [e7, mput_ne (show ¬ 8 = 1 by decide), mput_ne (show ¬ 8 = 7 by decide), mput_ne (show ¬ 11 = 1 by decide), mput_ne (show ¬ 11 = 7 by decide), mput_ne (show ¬ 12 = 1 by decide), mput_ne (show ¬ 12 = 7 by decide), hL2, ix_nI (by omega), sa_cg (a := upd (x 7) n p0) (b := x 7) (fun i hi => pk_un (by omega)) (fun _ _ => rfl)]
        · rw [mput_ne (by omega), mput_ne (by omega)]
        · rw [mput_other (by decide), mput_ne (by decide), mput_other (by decide)]
        · rw [mput_ne (by omega), mput_ne (by omega), mput_ne (by omega)]
        · rw [mput_ne (by omega), mput_ne (by omega)]
        · rw [mput_other (by decide), mput_ne (by decide), mput_other (by decide)]
        · rw [mput_ne (by omega), mput_ne (by omega), mput_ne (by omega)]
    · have c2x : ¬ nI n < 30 := q_noroom (N := 30) c2 (by omega)
      have c2m : nI n = 30 := by rw [show n = 30 by omega]; rfl
      refine Or.inl (LT.of 3 2 ?_ (by decide) rfl (by decide) (fun m hm => ?_))
      · simp only [f_X5_addLine, x_rng_t c1, R.1.2.1, x_room_f c2x, bnd, bnX, bnN, q_1ne0, q_n1, q_n2, q_n3, eq_self, not_true_eq_false, not_false_eq_true, ↓reduceIte]
      · simp only [f_X6_addLine, m_in_t c1, hm.1.2.2.1, c2m, m_fine2, bnd, bnX, bnN, q_1ne0, q_n1, q_n2, q_n3, eq_self, not_true_eq_false, not_false_eq_true, ↓reduceIte]
  · refine Or.inl (LT.of 2 1 ?_ (by decide) rfl (by decide) (fun m hm => ?_))
    · simp only [f_X5_addLine, x_rng_f c1, bnd, bnX, bnN, q_1ne0, q_n1, q_n2, q_n3, eq_self, not_true_eq_false, not_false_eq_true, ↓reduceIte]
    · simp only [f_X6_addLine, m_in_f c1, m_fine1, bnd, bnX, bnN, q_1ne0, q_n1, q_n2, q_n3, eq_self, not_true_eq_false, not_false_eq_true, ↓reduceIte]
theorem k_need (p0 p1 p2 : Int32) : LK (f_X5_need p0 p1 p2) hc_L_need (f_X6_need p0 p1 p2) := by
  intro n k q g x R
  have hn := R.1.1
  by_cases c1 : inb p0 n = true
  · by_cases c2 : inb p1 4 = true
    · by_cases c3 : 0 ≤ p2 ∧ p2 ≤ 100
      · obtain ⟨l, hl, rfl⟩ := inb_of c1 (by omega)
        obtain ⟨a, ha, rfl⟩ := inb_of c2 (by omega)
        refine Or.inr ⟨x (58 + l) a, mput x (58 + l) a p2, ?_, KR.put (by omega), fun m hm => ⟨mput (mput m 6 0 0) 31 (4 * l + a) p2, ?_, ?_, (KC.put (by decide)).tr (KC.put (by decide)), n, k, q, g, ?_⟩⟩
        · simp only [f_X5_need, R.1.2.1, x_num_t (show n < 2 ^ 30 by omega) c1, x_n4_t c2, x_rng_t c3, q_i30 (show l < 30 by omega), q_i4 ha, ix_nI (show l < 2 ^ 31 by omega), ix_nI (show a < 2 ^ 31 by omega), bnd, bnX, bnN, q_1ne0, q_n1, q_n2, q_n3, eq_self, not_true_eq_false, not_false_eq_true, ↓reduceIte]
        · simp only [f_X6_need, m_line_t (show n < 2 ^ 30 by omega) hm.1.2.2.1 c1, m_area_t c2, m_in_t c3, m_fine0, q_4, inb_nI (show 4 * l + a < 120 by omega) (show 120 < 2 ^ 31 by decide), ix_nI (show 4 * l + a < 2 ^ 31 by omega), q_clr (show ¬ 31 = 6 by decide), hm.1.2.2.2.2.2.2 l a (by omega) ha, bnd, bnX, bnN, q_1ne0, q_n1, q_n2, q_n3, eq_self, not_true_eq_false, not_false_eq_true, ↓reduceIte]
        · rw [mput_ne (by decide), mput_self]
        · obtain ⟨⟨g1, g2, g3, g4, g5, g6, g7⟩, r2, r3, r4, r5, r6⟩ := hm
          refine ⟨⟨g1, ?_, ?_, ?_, ?_, ?_, fun l' a' hl' ha' => ?_⟩, r2.cg ?_ ?_ ?_ ?_, r3.cg ?_ (fun a ha => ?_) ?_ (fun a ha => ?_), r4.ka r3.1.1 (fun a ha => ?_) (fun c hc => qc_t_eq ?_ ?_ ?_ ?_), r5.cg (fun a ha => ?_) ?_ (fun a ha => ?_), r6.cg (fun a ha => ?_) ?_ (fun a ha => ?_)⟩
          · rw [mput_ne (by omega)]; exact g2
          · rw [mput_ne (by omega), mput_other (by decide)]; exact g3
          · rw [mput_ne (by omega), mput_ne (by omega), mput_ne (by omega)]; exact g4
          · rw [mput_ne (by omega), mput_ne (by omega), mput_ne (by omega)]; exact g5
          · rw [mput_ne (by omega)]; exact g6
          · by_cases e : l' = l ∧ a' = a
            · rw [e.1, e.2, mput_self, mput_self]
            · rw [mput_other (by omega), mput_ne (by decide), g7 l' a' hl' ha']
              by_cases e2 : l' = l
              · rw [e2, mput_other (by omega)]
              · rw [mput_ne (by omega)]
          · rw [mput_ne (by omega)]
          · rw [mput_ne (by omega)]
          · rw [mput_ne (by omega), mput_ne (by omega)]
          · rw [mput_ne (by omega), mput_ne (by omega)]
          · rw [mput_ne (by omega)]
          · rw [mput_ne (by omega)]
          · rw [mput_ne (by omega), mput_other (by decide)]
          · rw [mput_ne (by omega), mput_ne (by omega)]
          · rw [mput_ne (by omega)]
          · rw [mput_ne (by omega)]
          · rw [mput_ne (by omega)]
          · rw [mput_ne (by omega)]
          · rw [mput_ne (by omega)]
          · rw [mput_ne (by omega)]
          · rw [mput_ne (by omega), mput_other (by decide)]
          · rw [mput_ne (by omega), mput_ne (by omega)]
          · rw [mput_ne (by omega)]
          · rw [mput_ne (by omega), mput_other (by decide)]
          · rw [mput_ne (by omega), mput_ne (by omega)]
      · refine Or.inl (LT.of 2 2 ?_ (by decide) rfl (by decide) (fun m hm => ?_))
        · simp only [f_X5_need, R.1.2.1, x_num_t (show n < 2 ^ 30 by omega) c1, x_n4_t c2, x_rng_f c3, bnd, bnX, bnN, q_1ne0, q_n1, q_n2, q_n3, eq_self, not_true_eq_false, not_false_eq_true, ↓reduceIte]
        · simp only [f_X6_need, m_line_t (show n < 2 ^ 30 by omega) hm.1.2.2.1 c1, m_area_t c2, m_in_f c3, m_fine2, bnd, bnX, bnN, q_1ne0, q_n1, q_n2, q_n3, eq_self, not_true_eq_false, not_false_eq_true, ↓reduceIte]
    · refine Or.inl (LT.of 1 1 ?_ (by decide) rfl (by decide) (fun m hm => ?_))
      · simp only [f_X5_need, R.1.2.1, x_num_t (show n < 2 ^ 30 by omega) c1, x_n4_f c2, bnd, bnX, bnN, q_1ne0, q_n1, q_n2, q_n3, eq_self, not_true_eq_false, not_false_eq_true, ↓reduceIte]
      · simp only [f_X6_need, m_line_t (show n < 2 ^ 30 by omega) hm.1.2.2.1 c1, m_area_f c2, m_fine1, bnd, bnX, bnN, q_1ne0, q_n1, q_n2, q_n3, eq_self, not_true_eq_false, not_false_eq_true, ↓reduceIte]
  · refine Or.inl (LT.of 1 1 ?_ (by decide) rfl (by decide) (fun m hm => ?_))
    · simp only [f_X5_need, R.1.2.1, x_num_f (show n < 2 ^ 30 by omega) c1, bnd, bnX, bnN, q_1ne0, q_n1, q_n2, q_n3, eq_self, not_true_eq_false, not_false_eq_true, ↓reduceIte]
    · simp only [f_X6_need, m_line_f (show n < 2 ^ 30 by omega) hm.1.2.2.1 c1, m_fine1, bnd, bnX, bnN, q_1ne0, q_n1, q_n2, q_n3, eq_self, not_true_eq_false, not_false_eq_true, ↓reduceIte]
theorem k_setChannel (p0 p1 p2 : Int32) : LK (f_X5_setChannel p0 p1 p2) hc_L_setChannel (f_X6_setChannel p0 p1 p2) := by
  intro n k q g x R
  by_cases c1 : inb p0 10 = true
  · by_cases c2 : inb p1 4 = true
    · by_cases c3 : 0 ≤ p2 ∧ p2 ≤ 2
      · obtain ⟨l, hl, rfl⟩ := inb_of c1 (by omega)
        refine Or.inr ⟨10 * x 9 l + x 10 l, mput (mput x 9 l p1) 10 l p2, ?_, (KR.put (by decide)).tr (KR.put (by decide)), fun m hm => ⟨mput (mput (mput m 6 0 0) 32 l p1) 33 l p2, ?_, ?_, ((KC.put (by decide)).tr (KC.put (by decide))).tr (KC.put (by decide)), n, k, q, g, ?_⟩⟩
        · simp only [f_X5_setChannel, x_n10_t c1, x_n4_t c2, x_rng_t c3, q_i10 hl, ix_nI (show l < 2 ^ 31 by omega), bnd, bnX, bnN, q_1ne0, q_n1, q_n2, q_n3, eq_self, not_true_eq_false, not_false_eq_true, ↓reduceIte]
        · simp only [f_X6_setChannel, m_chan_t c1, m_area_t c2, m_in_t c3, m_fine0, q_i10 hl, ix_nI (show l < 2 ^ 31 by omega), q_clr (show ¬ 32 = 6 by decide), q_clr (show ¬ 33 = 6 by decide), hm.2.1.1, hm.2.1.2, bnd, bnX, bnN, q_1ne0, q_n1, q_n2, q_n3, eq_self, not_true_eq_false, not_false_eq_true, ↓reduceIte]
        · rw [mput_ne (by decide), mput_ne (by decide), mput_self]
        · obtain ⟨r1, r2, r3, r4, r5, r6⟩ := hm
          refine ⟨r1.cg (fun a ha => ?_) ?_ (fun a ha => ?_), ⟨?_, ?_⟩, r3.cg ?_ (fun a ha => ?_) ?_ (fun a ha => ?_), r4.ka r3.1.1 (fun a ha => ?_) (fun c hc => qc_t_eq ?_ ?_ ?_ ?_), r5.cg (fun a ha => ?_) ?_ (fun a ha => ?_), r6.cg (fun a ha => ?_) ?_ (fun a ha => ?_)⟩
          · rw [mput_ne (by omega), mput_ne (by omega)]
          · rw [mput_ne (by omega), mput_ne (by omega), mput_other (by decide)]
          · rw [mput_ne (by omega), mput_ne (by omega), mput_ne (by omega)]
          · rw [mput_ne (by decide), mput_row, mput_ne (by decide), mput_ne (by decide), mput_row, r2.1]
          · rw [mput_row, mput_ne (by decide), mput_ne (by decide), mput_row, mput_ne (by decide), r2.2]
          · rw [mput_ne (by omega), mput_ne (by omega)]
          · rw [mput_ne (by omega), mput_ne (by omega)]
          · rw [mput_ne (by omega), mput_ne (by omega), mput_other (by decide)]
          · rw [mput_ne (by omega), mput_ne (by omega), mput_ne (by omega)]
          · rw [mput_ne (by omega), mput_ne (by omega)]
          · rw [mput_ne (by omega), mput_ne (by omega)]
          · rw [mput_ne (by omega), mput_ne (by omega)]
          · rw [mput_ne (by omega), mput_ne (by omega)]
          · rw [mput_ne (by omega), mput_ne (by omega)]
          · rw [mput_ne (by omega), mput_ne (by omega)]
          · rw [mput_ne (by omega), mput_ne (by omega), mput_other (by decide)]
          · rw [mput_ne (by omega), mput_ne (by omega), mput_ne (by omega)]
          · rw [mput_ne (by omega), mput_ne (by omega)]
          · rw [mput_ne (by omega), mput_ne (by omega), mput_other (by decide)]
          · rw [mput_ne (by omega), mput_ne (by omega), mput_ne (by omega)]
      · refine Or.inl (LT.of 2 2 ?_ (by decide) rfl (by decide) (fun m hm => ?_))
        · simp only [f_X5_setChannel, x_n10_t c1, x_n4_t c2, x_rng_f c3, bnd, bnX, bnN, q_1ne0, q_n1, q_n2, q_n3, eq_self, not_true_eq_false, not_false_eq_true, ↓reduceIte]
        · simp only [f_X6_setChannel, m_chan_t c1, m_area_t c2, m_in_f c3, m_fine2, bnd, bnX, bnN, q_1ne0, q_n1, q_n2, q_n3, eq_self, not_true_eq_false, not_false_eq_true, ↓reduceIte]
    · refine Or.inl (LT.of 1 1 ?_ (by decide) rfl (by decide) (fun m hm => ?_))
      · simp only [f_X5_setChannel, x_n10_t c1, x_n4_f c2, bnd, bnX, bnN, q_1ne0, q_n1, q_n2, q_n3, eq_self, not_true_eq_false, not_false_eq_true, ↓reduceIte]
      · simp only [f_X6_setChannel, m_chan_t c1, m_area_f c2, m_fine1, bnd, bnX, bnN, q_1ne0, q_n1, q_n2, q_n3, eq_self, not_true_eq_false, not_false_eq_true, ↓reduceIte]
  · refine Or.inl (LT.of 1 1 ?_ (by decide) rfl (by decide) (fun m hm => ?_))
    · simp only [f_X5_setChannel, x_n10_f c1, bnd, bnX, bnN, q_1ne0, q_n1, q_n2, q_n3, eq_self, not_true_eq_false, not_false_eq_true, ↓reduceIte]
    · simp only [f_X6_setChannel, m_chan_f c1, m_fine1, bnd, bnX, bnN, q_1ne0, q_n1, q_n2, q_n3, eq_self, not_true_eq_false, not_false_eq_true, ↓reduceIte]
end
section
/-! the calls of the lamps that change something -/
/-- only the lamps' rows changed -/
theorem QL.lamps {n k q q' g : Nat} {x x' m m' : aM} (H : QL n k q g x m) (hx : ∀ a, (1 ≤ a ∧ a ≤ 3 ∨ a = 5 ∨ 7 ≤ a ∧ a ≤ 17 ∨ a = 26 ∨ 58 ≤ a ∧ a < 128 ∨ 158 ≤ a ∧ a < 178) → x' a = x a) (hm : ∀ a, (29 ≤ a ∧ a ≤ 37 ∨ 45 ≤ a ∧ a ≤ 46) → m' a = m a) (h4 : m' 6 4 = m 6 4) (h11 : m' 6 11 = m 6 11) (h22 : m' 6 22 = m 6 22) (hG : RG q' x' m') : QL n k q' g x' m' := by
  obtain ⟨r1, r2, r3, r4, r5, r6⟩ := H
  exact ⟨r1.cg (fun a ha => hx a (by omega)) h4 (fun a ha => hm a (by omega)), r2.cg (hx 9 (by omega)) (hx 10 (by omega)) (hm 32 (by omega)) (hm 33 (by omega)), r3.cg (by rw [hx 3 (by omega)]) (fun a ha => hx a (by omega)) h11 (fun a ha => hm a (by omega)), r4.ka r3.1.1 (fun a ha => hx a (by omega)) (fun c _ => qc_t_eq (hx 7 (by omega)) (hx 8 (by omega)) (hx 11 (by omega)) (hx 12 (by omega))), hG, r6.cg (fun a ha => hx a (by omega)) h22 (fun a ha => hm a (by omega))⟩
theorem x_appendLamp {x : aM} {q : Nat} {p0 p1 p2 p3 : Int32} (hq : q < 20) (h48 : x 4 8 = nI q) : f_X3_append p0 p1 p2 p3 x = some (nI q, mput (mput (mput (mput (mput (mput (mput x 18 q p0) 19 q p1) 20 q p2) 21 q p3) 4 8 (nI (q + 1))) 22 q p0) 23 q p1) := by
  unfold f_X3_append f_X3_putHome f_X3_put
  rw [h48]
  simp only [q_i20 hq, ix_nI (show q < 2 ^ 31 by omega), nI_1, ↓reduceIte, bnd]
  rw [mput_ne (show ¬ 18 = 4 by decide), mput_ne (show ¬ 18 = 21 by decide), mput_ne (show ¬ 18 = 20 by decide), mput_ne (show ¬ 18 = 19 by decide), mput_self, mput_ne (show ¬ 19 = 4 by decide), mput_ne (show ¬ 19 = 21 by decide), mput_ne (show ¬ 19 = 20 by decide), mput_self]
theorem k_addLamp (p0 p1 p2 p3 : Int32) : LK (f_X5_addLamp p0 p1 p2 p3) hc_L_addLamp (f_X6_addLamp p0 p1 p2 p3) := by
  intro n k q g x R
  have hq := R.2.2.2.2.1.1
  by_cases c1 : inb p0 4 = true
  · by_cases c2 : inb p1 4 = true
    · by_cases c3 : 0 ≤ p2 ∧ p2 ≤ 2
      · by_cases c4 : 1 ≤ p3 ∧ p3 ≤ 100
        · by_cases c5 : q < 20
          · have c5x : nI q < 20 := q_room (N := 20) c5 (by decide)
            have c5m : ¬ nI q = 20 := fun e => absurd ((nI_eq (a := q) (b := 20) (by omega) (by decide)).mp e) (by omega)
            refine Or.inr ⟨nI q, mput (mput (mput (mput (mput (mput (mput x 18 q p0) 19 q p1) 20 q p2) 21 q p3) 4 8 (nI (q + 1))) 22 q p0) 23 q p1, ?_, (((((((KR.put (by decide)).tr (KR.put (by decide))).tr (KR.put (by decide))).tr (KR.put (by decide))).tr (KR.put (by decide))).tr (KR.put (by decide))).tr (KR.put (by decide))), fun m hm => ⟨mput (mput (mput (mput (mput (mput (mput (mput m 6 0 0) 38 q p0) 39 q p1) 40 q p0) 41 q p1) 42 q p2) 43 q p3) 6 19 (nI (q + 1)), ?_, ?_, ((((((((KC.put (by decide)).tr (KC.put (by decide))).tr (KC.put (by decide))).tr (KC.put (by decide))).tr (KC.put (by decide))).tr (KC.put (by decide))).tr (KC.put (by decide))).tr (KC.put (by decide))), n, k, q + 1, g, hm.lamps (fun a ha => ?_) (fun a ha => ?_) ?_ ?_ ?_ ?_⟩⟩
            · simp only [f_X5_addLamp, x_n4_t c1, x_n4_t c2, x_rng_t c3, x_rng_t c4, R.2.2.2.2.1.2.1, x_room_t c5x, x_appendLamp c5 R.2.2.2.2.1.2.1, bnd, bnX, bnN, q_1ne0, q_n1, q_n2, q_n3, eq_self, not_true_eq_false, not_false_eq_true, ↓reduceIte]
            · simp only [f_X6_addLamp, m_stage_t c1, m_area_t c2, m_in_t c3, m_in_t c4, hm.2.2.2.2.1.2.2.1, c5m, m_fine0, q_clear (show ¬ 19 = 0 by decide), q_i20 c5, ix_nI (show q < 2 ^ 31 by omega), nI_1, nI_pred, bnd, bnX, bnN, q_1ne0, q_n1, q_n2, q_n3, eq_self, not_true_eq_false, not_false_eq_true, ↓reduceIte]
            · rw [mput_other (by decide), mput_ne (by decide), mput_ne (by decide), mput_ne (by decide), mput_ne (by decide), mput_ne (by decide), mput_ne (by decide), mput_self]
            · rw [mput_ne (by omega), mput_ne (by omega), mput_ne (by omega), mput_ne (by omega), mput_ne (by omega), mput_ne (by omega), mput_ne (by omega)]
            · rw [mput_ne (by omega), mput_ne (by omega), mput_ne (by omega), mput_ne (by omega), mput_ne (by omega), mput_ne (by omega), mput_ne (by omega), mput_ne (by omega)]
            · rw [mput_other (by decide), mput_ne (by decide), mput_ne (by decide), mput_ne (by decide), mput_ne (by decide), mput_ne (by decide), mput_ne (by decide), mput_other (by decide)]
            · rw [mput_other (by decide), mput_ne (by decide), mput_ne (by decide), mput_ne (by decide), mput_ne (by decide), mput_ne (by decide), mput_ne (by decide), mput_other (by decide)]
            · rw [mput_other (by decide), mput_ne (by decide), mput_ne (by decide), mput_ne (by decide), mput_ne (by decide), mput_ne (by decide), mput_ne (by decide), mput_other (by decide)]
            · obtain ⟨-, -, -, e38, e39, e40, e41, e42, e43, e44⟩ := hm.2.2.2.2.1
              refine ⟨c5, ?_, mput_self, ?_, ?_, ?_, ?_, ?_, ?_, ?_⟩
              · rw [mput_ne (by decide), mput_ne (by decide), mput_self]
              · simp [mput_ne, mput_row, e38]
              · simp [mput_ne, mput_row, e39]
              · simp [mput_ne, mput_row, e40]
              · simp [mput_ne, mput_row, e41]
              · simp [mput_ne, mput_row, e42]
              · simp [mput_ne, mput_row, e43]
              · simp [mput_ne, e44]
          · have c5x : ¬ nI q < 20 := q_noroom (N := 20) c5 (by omega)
            have c5m : nI q = 20 := by rw [show q = 20 by omega]; rfl
            refine Or.inl (LT.of 3 3 ?_ (by decide) rfl (by decide) (fun m hm => ?_))
            · simp only [f_X5_addLamp, x_n4_t c1, x_n4_t c2, x_rng_t c3, x_rng_t c4, R.2.2.2.2.1.2.1, x_room_f c5x, bnd, bnX, bnN, q_1ne0, q_n1, q_n2, q_n3, eq_self, not_true_eq_false, not_false_eq_true, ↓reduceIte]
            · simp only [f_X6_addLamp, m_stage_t c1, m_area_t c2, m_in_t c3, m_in_t c4, hm.2.2.2.2.1.2.2.1, c5m, m_fine3, bnd, bnX, bnN, q_1ne0, q_n1, q_n2, q_n3, eq_self, not_true_eq_false, not_false_eq_true, ↓reduceIte]
        · refine Or.inl (LT.of 2 2 ?_ (by decide) rfl (by decide) (fun m hm => ?_))
          · simp only [f_X5_addLamp, x_n4_t c1, x_n4_t c2, x_rng_t c3, x_rng_f c4, bnd, bnX, bnN, q_1ne0, q_n1, q_n2, q_n3, eq_self, not_true_eq_false, not_false_eq_true, ↓reduceIte]
          · simp only [f_X6_addLamp, m_stage_t c1, m_area_t c2, m_in_t c3, m_in_f c4, m_fine2, bnd, bnX, bnN, q_1ne0, q_n1, q_n2, q_n3, eq_self, not_true_eq_false, not_false_eq_true, ↓reduceIte]
      · have c4' : True := trivial
        refine Or.inl (LT.of 2 2 ?_ (by decide) rfl (by decide) (fun m hm => ?_))
        · simp only [f_X5_addLamp, x_n4_t c1, x_n4_t c2, x_rng_f c3, bnd, bnX, bnN, q_1ne0, q_n1, q_n2, q_n3, eq_self, not_true_eq_false, not_false_eq_true, ↓reduceIte]
        · simp only [f_X6_addLamp, m_stage_t c1, m_area_t c2, m_in_f c3, m_fine2, bnd, bnX, bnN, q_1ne0, q_n1, q_n2, q_n3, eq_self, not_true_eq_false, not_false_eq_true, ↓reduceIte]
    · refine Or.inl (LT.of 1 1 ?_ (by decide) rfl (by decide) (fun m hm => ?_))
      · simp only [f_X5_addLamp, x_n4_t c1, x_n4_f c2, bnd, bnX, bnN, q_1ne0, q_n1, q_n2, q_n3, eq_self, not_true_eq_false, not_false_eq_true, ↓reduceIte]
      · by_cases c3 : 0 ≤ p2 ∧ p2 ≤ 2
        · by_cases c4 : 1 ≤ p3 ∧ p3 ≤ 100
          · simp only [f_X6_addLamp, m_stage_t c1, m_area_f c2, m_in_t c3, m_in_t c4, m_fine1, bnd, bnX, bnN, q_1ne0, q_n1, q_n2, q_n3, eq_self, not_true_eq_false, not_false_eq_true, ↓reduceIte]
          · simp only [f_X6_addLamp, m_stage_t c1, m_area_f c2, m_in_t c3, m_in_f c4, m_fine1, bnd, bnX, bnN, q_1ne0, q_n1, q_n2, q_n3, eq_self, not_true_eq_false, not_false_eq_true, ↓reduceIte]
        · simp only [f_X6_addLamp, m_stage_t c1, m_area_f c2, m_in_f c3, m_fine1, bnd, bnX, bnN, q_1ne0, q_n1, q_n2, q_n3, eq_self, not_true_eq_false, not_false_eq_true, ↓reduceIte]
  · refine Or.inl (LT.of 1 1 ?_ (by decide) rfl (by decide) (fun m hm => ?_))
    · simp only [f_X5_addLamp, x_n4_f c1, bnd, bnX, bnN, q_1ne0, q_n1, q_n2, q_n3, eq_self, not_true_eq_false, not_false_eq_true, ↓reduceIte]
    · by_cases c3 : 0 ≤ p2 ∧ p2 ≤ 2
      · by_cases c4 : 1 ≤ p3 ∧ p3 ≤ 100
        · simp only [f_X6_addLamp, m_stage_f c1, m_in_t c3, m_in_t c4, m_fine1, bnd, bnX, bnN, q_1ne0, q_n1, q_n2, q_n3, eq_self, not_true_eq_false, not_false_eq_true, ↓reduceIte]
        · simp only [f_X6_addLamp, m_stage_f c1, m_in_t c3, m_in_f c4, m_fine1, bnd, bnX, bnN, q_1ne0, q_n1, q_n2, q_n3, eq_self, not_true_eq_false, not_false_eq_true, ↓reduceIte]
      · simp only [f_X6_addLamp, m_stage_f c1, m_in_f c3, m_fine1, bnd, bnX, bnN, q_1ne0, q_n1, q_n2, q_n3, eq_self, not_true_eq_false, not_false_eq_true, ↓reduceIte]
theorem x_home {x : aM} {l : Nat} (hl : l < 20) : f_X3_isHome (nI l) x = some (if x 22 l = x 18 l then 1 else 0, x) := by
  unfold f_X3_isHome
  rw [if_pos (q_i20 hl), if_pos (q_i20 hl), ix_nI (by omega)]
  by_cases e : x 22 l = x 18 l
  · rw [if_neg (fun q => q e), if_pos e]
  · rw [if_pos e, if_neg e]
theorem x_can {x : aM} {l : Nat} {s : Int32} (hl : l < 20) : f_X3_canGo (nI l) s x = some (if x 22 l = x 18 l ∧ ¬ x 18 l = s then 1 else 0, x) := by
  unfold f_X3_canGo
  rw [x_home hl]
  simp only [bnd]
  rw [if_pos (q_i20 hl), ix_nI (by omega)]
  by_cases e : x 22 l = x 18 l
  · rw [if_pos e, if_neg q_1ne0]
    by_cases e2 : x 18 l = s
    · rw [if_pos e2, if_neg (fun q => q.2 e2)]
    · rw [if_neg e2, if_pos ⟨e, e2⟩]
  · rw [if_neg e, if_pos rfl, if_neg (fun q => e q.1)]
theorem m_home {n k q g l : Nat} {x m y : aM} (H : RG q x m) (h40 : y 40 = m 40) (h38 : y 38 = m 38) (hl : l < 20) : f_X6_isHome (nI l) y = some (if x 22 l = x 18 l then 1 else 0, y) := by
  unfold f_X6_isHome
  rw [if_pos (q_i20 hl), if_pos (q_i20 hl), ix_nI (by omega), h40, h38, H.2.2.2.1, H.2.2.2.2.2.1]
  by_cases e : x 22 l = x 18 l
  · rw [if_neg (fun q => q e), if_pos e]
  · rw [if_pos e, if_neg e]
theorem RG.put {q l : Nat} {x m : aM} {a b : Int32} (H : RG q x m) : RG q (mput (mput x 22 l a) 23 l b) (mput (mput m 40 l a) 41 l b) := by
  obtain ⟨g1, g2, g3, e38, e39, e40, e41, e42, e43, e44⟩ := H
  refine ⟨g1, ?_, ?_, ?_, ?_, ?_, ?_, ?_, ?_, ?_⟩
  · simp [mput_ne, g2]
  · simp [mput_ne, g3]
  · simp [mput_ne, e38]
  · simp [mput_ne, e39]
  · simp [mput_ne, mput_row, e40]
  · simp [mput_ne, mput_row, e41]
  · simp [mput_ne, e42]
  · simp [mput_ne, e43]
  · simp [mput_ne, e44]
/-- a lamp is put somewhere in both -/
theorem QL.put {n k q g l : Nat} {x m : aM} {a b : Int32} (H : QL n k q g x m) : QL n k q g (mput (mput x 22 l a) 23 l b) (mput (mput m 40 l a) 41 l b) := by
  refine H.lamps (fun a ha => ?_) (fun a ha => ?_) ?_ ?_ ?_ H.2.2.2.2.1.put
  · rw [mput_ne (by omega), mput_ne (by omega)]
  · rw [mput_ne (by omega), mput_ne (by omega)]
  · rw [mput_ne (by decide), mput_ne (by decide)]
  · rw [mput_ne (by decide), mput_ne (by decide)]
  · rw [mput_ne (by decide), mput_ne (by decide)]
theorem k_borrow (p0 p1 p2 : Int32) : LK (f_X5_borrow p0 p1 p2) hc_L_borrow (f_X6_borrow p0 p1 p2) := by
  intro n k q g x R
  have hq := R.2.2.2.2.1.1
  by_cases c1 : inb p0 q = true
  · by_cases c2 : inb p1 4 = true
    · by_cases c3 : inb p2 4 = true
      · obtain ⟨l, hl, rfl⟩ := inb_of c1 (by omega)
        by_cases c4 : x 22 l = x 18 l ∧ ¬ x 18 l = p1
        · refine Or.inr ⟨x 18 l, mput (mput x 22 l p1) 23 l p2, ?_, (KR.put (by decide)).tr (KR.put (by decide)), fun m hm => ⟨mput (mput (mput m 6 0 0) 40 l p1) 41 l p2, ?_, ?_, ((KC.put (by decide)).tr (KC.put (by decide))).tr (KC.put (by decide)), n, k, q, g, (m0_R hm).put⟩⟩
          · have e18 : mput (mput x 22 l p1) 23 l p2 18 l = x 18 l := by rw [mput_ne (by decide), mput_ne (by decide)]
            simp only [f_X5_borrow, R.2.2.2.2.1.2.1, x_num_t (show q < 2 ^ 30 by omega) c1, x_n4_t c2, x_n4_t c3, x_can (show l < 20 by omega), if_pos c4, x_st_1, f_X3_put, q_i20 (show l < 20 by omega), ix_nI (show l < 2 ^ 31 by omega), e18, bnd, bnX, bnN, q_1ne0, q_n1, q_n2, q_n3, eq_self, not_true_eq_false, not_false_eq_true, ↓reduceIte]
          · have c4b : ¬ p1 = x 18 l := fun e => c4.2 e.symm
            simp only [f_X6_borrow, m_lamp_t (show q < 2 ^ 30 by omega) hm.2.2.2.2.1.2.2.1 c1, m_stage_t c2, m_area_t c3, m_home (n := n) (k := k) (g := g) (y := m) hm.2.2.2.2.1 rfl rfl (show l < 20 by omega), if_pos c4.1, q_i20 (show l < 20 by omega), ix_nI (show l < 2 ^ 31 by omega), hm.2.2.2.2.1.2.2.2.1, c4b, m_fine0, q_clr (show ¬ 38 = 6 by decide), bnd, bnX, bnN, q_1ne0, q_n1, q_n2, q_n3, eq_self, not_true_eq_false, not_false_eq_true, ↓reduceIte]
          · rw [mput_ne (by decide), mput_ne (by decide), mput_self]
        · refine Or.inl (LT.of 3 2 ?_ (by decide) rfl (by decide) (fun m hm => ?_))
          · simp only [f_X5_borrow, R.2.2.2.2.1.2.1, x_num_t (show q < 2 ^ 30 by omega) c1, x_n4_t c2, x_n4_t c3, x_can (show l < 20 by omega), if_neg c4, x_st_0, bnd, bnX, bnN, q_1ne0, q_n1, q_n2, q_n3, eq_self, not_true_eq_false, not_false_eq_true, ↓reduceIte]
          · by_cases c5 : x 22 l = x 18 l
            · have c6 : x 18 l = p1 := Decidable.byContradiction fun e => c4 ⟨c5, e⟩
              have c7 : x 22 l = p1 := c5.trans c6
              simp only [f_X6_borrow, m_lamp_t (show q < 2 ^ 30 by omega) hm.2.2.2.2.1.2.2.1 c1, m_stage_t c2, m_area_t c3, m_home (n := n) (k := k) (g := g) (y := m) hm.2.2.2.2.1 rfl rfl (show l < 20 by omega), if_pos c5, if_pos c7, q_i20 (show l < 20 by omega), ix_nI (show l < 2 ^ 31 by omega), hm.2.2.2.2.1.2.2.2.1, c6, m_fine2, bnd, bnX, bnN, q_1ne0, q_n1, q_n2, q_n3, eq_self, not_true_eq_false, not_false_eq_true, ↓reduceIte]
            · simp only [f_X6_borrow, m_lamp_t (show q < 2 ^ 30 by omega) hm.2.2.2.2.1.2.2.1 c1, m_stage_t c2, m_area_t c3, m_home (n := n) (k := k) (g := g) (y := m) hm.2.2.2.2.1 rfl rfl (show l < 20 by omega), if_neg c5, m_fine2, bnd, bnX, bnN, q_1ne0, q_n1, q_n2, q_n3, eq_self, not_true_eq_false, not_false_eq_true, ↓reduceIte]
      · refine Or.inl (LT.of 1 1 ?_ (by decide) rfl (by decide) (fun m hm => ?_))
        · simp only [f_X5_borrow, R.2.2.2.2.1.2.1, x_num_t (show q < 2 ^ 30 by omega) c1, x_n4_t c2, x_n4_f c3, bnd, bnX, bnN, q_1ne0, q_n1, q_n2, q_n3, eq_self, not_true_eq_false, not_false_eq_true, ↓reduceIte]
        · simp only [f_X6_borrow, m_lamp_t (show q < 2 ^ 30 by omega) hm.2.2.2.2.1.2.2.1 c1, m_stage_t c2, m_area_f c3, m_fine1, bnd, bnX, bnN, q_1ne0, q_n1, q_n2, q_n3, eq_self, not_true_eq_false, not_false_eq_true, ↓reduceIte]
    · refine Or.inl (LT.of 1 1 ?_ (by decide) rfl (by decide) (fun m hm => ?_))
      · simp only [f_X5_borrow, R.2.2.2.2.1.2.1, x_num_t (show q < 2 ^ 30 by omega) c1, x_n4_f c2, bnd, bnX, bnN, q_1ne0, q_n1, q_n2, q_n3, eq_self, not_true_eq_false, not_false_eq_true, ↓reduceIte]
      · simp only [f_X6_borrow, m_lamp_t (show q < 2 ^ 30 by omega) hm.2.2.2.2.1.2.2.1 c1, m_stage_f c2, m_fine1, bnd, bnX, bnN, q_1ne0, q_n1, q_n2, q_n3, eq_self, not_true_eq_false, not_false_eq_true, ↓reduceIte]
  · refine Or.inl (LT.of 1 1 ?_ (by decide) rfl (by decide) (fun m hm => ?_))
    · simp only [f_X5_borrow, R.2.2.2.2.1.2.1, x_num_f (show q < 2 ^ 30 by omega) c1, bnd, bnX, bnN, q_1ne0, q_n1, q_n2, q_n3, eq_self, not_true_eq_false, not_false_eq_true, ↓reduceIte]
    · simp only [f_X6_borrow, m_lamp_f (show q < 2 ^ 30 by omega) hm.2.2.2.2.1.2.2.1 c1, m_fine1, bnd, bnX, bnN, q_1ne0, q_n1, q_n2, q_n3, eq_self, not_true_eq_false, not_false_eq_true, ↓reduceIte]
theorem x_putHome {x : aM} {l : Nat} (hl : l < 20) : f_X3_putHome (nI l) x = some (0, mput (mput x 22 l (x 18 l)) 23 l (x 19 l)) := by
  unfold f_X3_putHome f_X3_put
  simp only [q_i20 hl, ix_nI (show l < 2 ^ 31 by omega), ↓reduceIte, bnd]
theorem k_bringBack (p0 : Int32) : LK (f_X5_bringBack p0) hc_L_bringBack (f_X6_bringBack p0) := by
  intro n k q g x R
  have hq := R.2.2.2.2.1.1
  by_cases c1 : inb p0 q = true
  · obtain ⟨l, hl, rfl⟩ := inb_of c1 (by omega)
    by_cases c4 : x 22 l = x 18 l
    · refine Or.inl (LT.of 3 2 ?_ (by decide) rfl (by decide) (fun m hm => ?_))
      · simp only [f_X5_bringBack, R.2.2.2.2.1.2.1, x_num_t (show q < 2 ^ 30 by omega) c1, x_home (show l < 20 by omega), if_pos c4, x_st_0, bnd, bnX, bnN, q_1ne0, q_n1, q_n2, q_n3, eq_self, not_true_eq_false, not_false_eq_true, ↓reduceIte]
      · simp only [f_X6_bringBack, m_lamp_t (show q < 2 ^ 30 by omega) hm.2.2.2.2.1.2.2.1 c1, m_home (n := n) (k := k) (g := g) (y := m) hm.2.2.2.2.1 rfl rfl (show l < 20 by omega), if_pos c4, m_fine2, bnd, bnX, bnN, q_1ne0, q_n1, q_n2, q_n3, eq_self, not_true_eq_false, not_false_eq_true, ↓reduceIte]
    · refine Or.inr ⟨x 22 l, mput (mput x 22 l (x 18 l)) 23 l (x 19 l), ?_, (KR.put (by decide)).tr (KR.put (by decide)), fun m hm => ⟨mput (mput (mput m 6 0 0) 40 l (x 18 l)) 41 l (x 19 l), ?_, ?_, ((KC.put (by decide)).tr (KC.put (by decide))).tr (KC.put (by decide)), n, k, q, g, (m0_R hm).put⟩⟩
      · simp only [f_X5_bringBack, R.2.2.2.2.1.2.1, x_num_t (show q < 2 ^ 30 by omega) c1, x_home (show l < 20 by omega), if_neg c4, x_st_1, q_i20 (show l < 20 by omega), ix_nI (show l < 2 ^ 31 by omega), x_putHome (show l < 20 by omega), bnd, bnX, bnN, q_1ne0, q_n1, q_n2, q_n3, eq_self, not_true_eq_false, not_false_eq_true, ↓reduceIte]
      · obtain ⟨-, -, -, e38, e39, e40, -, -, -, -⟩ := hm.2.2.2.2.1
        have e39' : mput (mput m 6 0 0) 40 l (x 18 l) 39 l = x 19 l := by rw [mput_ne (by decide), mput_ne (by decide), e39]
        simp only [f_X6_bringBack, m_lamp_t (show q < 2 ^ 30 by omega) hm.2.2.2.2.1.2.2.1 c1, m_home (n := n) (k := k) (g := g) (y := m) hm.2.2.2.2.1 rfl rfl (show l < 20 by omega), if_neg c4, m_fine0, q_i20 (show l < 20 by omega), ix_nI (show l < 2 ^ 31 by omega), q_clr (show ¬ 38 = 6 by decide), q_clr (show ¬ 39 = 6 by decide), q_clr (show ¬ 40 = 6 by decide), e38, e39, e40, bnd, bnX, bnN, q_1ne0, q_n1, q_n2, q_n3, eq_self, not_true_eq_false, not_false_eq_true, ↓reduceIte]
      · rw [mput_ne (by decide), mput_ne (by decide), mput_self]
  · refine Or.inl (LT.of 1 1 ?_ (by decide) rfl (by decide) (fun m hm => ?_))
    · simp only [f_X5_bringBack, R.2.2.2.2.1.2.1, x_num_f (show q < 2 ^ 30 by omega) c1, bnd, bnX, bnN, q_1ne0, q_n1, q_n2, q_n3, eq_self, not_true_eq_false, not_false_eq_true, ↓reduceIte]
    · simp only [f_X6_bringBack, m_lamp_f (show q < 2 ^ 30 by omega) hm.2.2.2.2.1.2.2.1 c1, m_fine1, bnd, bnX, bnN, q_1ne0, q_n1, q_n2, q_n3, eq_self, not_true_eq_false, not_false_eq_true, ↓reduceIte]
theorem k_replace (p0 : Int32) : LK (f_X5_replace p0) hc_L_replace (f_X6_replace p0) := by
  intro n k q g x R
  have hq := R.2.2.2.2.1.1
  by_cases c1 : inb p0 q = true
  · obtain ⟨l, hl, rfl⟩ := inb_of c1 (by omega)
    refine Or.inr ⟨x 24 l, mput x 24 l 0, ?_, KR.put (by decide), fun m hm => ⟨mput (mput m 6 0 0) 44 l 0, ?_, ?_, (KC.put (by decide)).tr (KC.put (by decide)), n, k, q, g, hm.lamps (fun a ha => ?_) (fun a ha => ?_) ?_ ?_ ?_ ?_⟩⟩
    · simp only [f_X5_replace, R.2.2.2.2.1.2.1, x_num_t (show q < 2 ^ 30 by omega) c1, q_i20 (show l < 20 by omega), ix_nI (show l < 2 ^ 31 by omega), bnd, bnX, bnN, q_1ne0, q_n1, q_n2, q_n3, eq_self, not_true_eq_false, not_false_eq_true, ↓reduceIte]
    · simp only [f_X6_replace, m_lamp_t (show q < 2 ^ 30 by omega) hm.2.2.2.2.1.2.2.1 c1, m_fine0, q_i20 (show l < 20 by omega), ix_nI (show l < 2 ^ 31 by omega), q_clr (show ¬ 44 = 6 by decide), hm.2.2.2.2.1.2.2.2.2.2.2.2.2.2, bnd, bnX, bnN, q_1ne0, q_n1, q_n2, q_n3, eq_self, not_true_eq_false, not_false_eq_true, ↓reduceIte]
    · rw [mput_ne (by decide), mput_self]
    · rw [mput_ne (by omega)]
    · rw [mput_ne (by omega), mput_ne (by omega)]
    · rw [mput_ne (by decide), mput_other (by decide)]
    · rw [mput_ne (by decide), mput_other (by decide)]
    · rw [mput_ne (by decide), mput_other (by decide)]
    · obtain ⟨g1, g2, g3, e38, e39, e40, e41, e42, e43, e44⟩ := hm.2.2.2.2.1
      refine ⟨g1, ?_, ?_, ?_, ?_, ?_, ?_, ?_, ?_, ?_⟩
      · simp [mput_ne, g2]
      · simp [mput_ne, mput_other, g3]
      · simp [mput_ne, e38]
      · simp [mput_ne, e39]
      · simp [mput_ne, e40]
      · simp [mput_ne, e41]
      · simp [mput_ne, e42]
      · simp [mput_ne, e43]
      · simp [mput_ne, mput_row, e44]
  · refine Or.inl (LT.of 1 1 ?_ (by decide) rfl (by decide) (fun m hm => ?_))
    · simp only [f_X5_replace, R.2.2.2.2.1.2.1, x_num_f (show q < 2 ^ 30 by omega) c1, bnd, bnX, bnN, q_1ne0, q_n1, q_n2, q_n3, eq_self, not_true_eq_false, not_false_eq_true, ↓reduceIte]
    · simp only [f_X6_replace, m_lamp_f (show q < 2 ^ 30 by omega) hm.2.2.2.2.1.2.2.1 c1, m_fine1, bnd, bnX, bnN, q_1ne0, q_n1, q_n2, q_n3, eq_self, not_true_eq_false, not_false_eq_true, ↓reduceIte]
end
section
/-! the calls that arrange the cues anew -/
theorem QL.of_arr {n k q g : Nat} {x1 x' m1 : aM} (keep : ∀ a, ¬ (14 ≤ a ∧ a ≤ 17) → ¬ (108 ≤ a ∧ a < 128) → ¬ a = 3 → x' a = x1 a) (k3 : ∀ j, ¬ j = 10 → x' 3 j = x1 3 j) (hA : AR k x') (r1 : RS n x1 m1) (r2 : RP x1 m1) (r3 : RC n k x1 m1) (r5 : RG q x1 m1) (r6 : RB g x1 m1) : QL n k q g x' m1 :=
  ⟨r1.cg (fun a ha => keep a (by omega) (by omega) (by omega)) rfl (fun _ _ => rfl), r2.cg (keep 9 (by decide) (by decide) (by decide)) (keep 10 (by decide) (by decide) (by decide)) rfl rfl, r3.cg (k3 4 (by decide)) (fun a ha => keep a (by omega) (by omega) (by omega)) rfl (fun _ _ => rfl), hA, r5.cg (fun a ha => keep a (by omega) (by omega) (by omega)) rfl (fun _ _ => rfl), r6.cg (fun a ha => keep a (by omega) (by omega) (by omega)) rfl (fun _ _ => rfl)⟩
theorem KR.of_arr {x1 x' : aM} (keep : ∀ a, ¬ (14 ≤ a ∧ a ≤ 17) → ¬ (108 ≤ a ∧ a < 128) → ¬ a = 3 → x' a = x1 a) : KR x1 x' := fun a ha => keep a (by omega) (by omega) (by omega)
theorem q_bool {p : Int32} (h : p = 0 ∨ p = 1) : (p = 0 ∨ p = 1) = True := eq_true h
theorem k_cut (p0 p1 : Int32) (hp : p1 = 0 ∨ p1 = 1) : LK (f_X5_cut p0 p1) hc_L_cut (f_X6_cut p0 p1) := by
  intro n k q g x R
  have hn := R.1.1
  by_cases c1 : inb p0 n = true
  · obtain ⟨l, hl, rfl⟩ := inb_of c1 (by omega)
    have hC : RC0 n k (mput x 8 l p1) := R.2.2.1.1.cg (by rw [mput_ne (by decide)]) (fun a ha => mput_ne (by omega))
    obtain ⟨x', a1, keep, k3, hA⟩ := x_arrange hn hC
    have rs : ∀ m, QL n k q g x m → RS n (mput x 8 l p1) (mput (mput m 6 0 0) 30 l p1) := fun m hm => by
      obtain ⟨g1, g2, g3, g4, g5, g6, g7⟩ := hm.1
      refine ⟨g1, ?_, ?_, ?_, ?_, ?_, fun l' a' hl' ha' => ?_⟩
      · rw [mput_ne (by decide)]; exact g2
      · rw [mput_ne (by decide), mput_other (by decide)]; exact g3
      · rw [mput_ne (by decide), mput_ne (by decide), mput_ne (by decide)]; exact g4
      · rw [mput_row, mput_row, mput_ne (by decide), g5]
      · rw [mput_ne (by decide)]; exact g6
      · rw [mput_ne (by decide), mput_ne (by decide), mput_ne (by omega)]; exact g7 l' a' hl' ha'
    have rs' : ∀ m, QL n k q g x m → RS n x' (mput (mput m 6 0 0) 30 l p1) := fun m hm => (rs m hm).cg (fun a ha => keep a (by omega) (by omega) (by omega)) rfl (fun _ _ => rfl)
    refine Or.inr ⟨sa (x' 7) (x' 8) n, x', ?_, (KR.put (by decide)).tr (KR.of_arr keep), fun m hm => ⟨mput (mput m 6 0 0) 30 l p1, ?_, ?_, (KC.put (by decide)).tr (KC.put (by decide)), n, k, q, g, ?_⟩⟩
    · have e := x_total (rs' x R) (y := x') rfl rfl rfl
      simp only [f_X5_cut, R.1.2.1, x_num_t (show n < 2 ^ 30 by omega) c1, q_i30 (show l < 30 by omega), ix_nI (show l < 2 ^ 31 by omega), q_bool hp, a1, e, bnd, bnX, bnN, q_1ne0, q_n1, q_n2, q_n3, eq_self, not_true_eq_false, not_false_eq_true, ↓reduceIte]
    · have e := m_total (rs' m hm) (y := mput (mput m 6 0 0) 30 l p1) rfl rfl rfl
      have e4 : mput (mput m 6 0 0) 30 l p1 6 4 = m 6 4 := by rw [mput_ne (by decide), mput_other (by decide)]
      rw [e4] at e
      simp only [f_X6_cut, m_line_t (show n < 2 ^ 30 by omega) hm.1.2.2.1 c1, m_fine0, q_i30 (show l < 30 by omega), ix_nI (show l < 2 ^ 31 by omega), q_bool hp, q_clear (show ¬ 4 = 0 by decide), e, bnd, bnX, bnN, q_1ne0, q_n1, q_n2, q_n3, eq_self, not_true_eq_false, not_false_eq_true, ↓reduceIte]
    · rw [mput_ne (by decide), mput_self]
    · refine QL.of_arr keep k3 hA (rs m hm) (hm.2.1.cg ?_ ?_ ?_ ?_) (hm.2.2.1.cg ?_ (fun a ha => ?_) ?_ (fun a ha => ?_)) (hm.2.2.2.2.1.cg (fun a ha => ?_) ?_ (fun a ha => ?_)) (hm.2.2.2.2.2.cg (fun a ha => ?_) ?_ (fun a ha => ?_))
      · rw [mput_ne (by omega)]
      · rw [mput_ne (by omega)]
      · rw [mput_ne (by omega), mput_ne (by omega)]
      · rw [mput_ne (by omega), mput_ne (by omega)]
      · rw [mput_ne (by omega)]
      · rw [mput_ne (by omega)]
      · rw [mput_ne (by omega), mput_other (by decide)]
      · rw [mput_ne (by omega), mput_ne (by omega)]
      · rw [mput_ne (by omega)]
      · rw [mput_ne (by omega), mput_other (by decide)]
      · rw [mput_ne (by omega), mput_ne (by omega)]
      · rw [mput_ne (by omega)]
      · rw [mput_ne (by omega), mput_other (by decide)]
      · rw [mput_ne (by omega), mput_ne (by omega)]
  · refine Or.inl (LT.of 1 1 ?_ (by decide) rfl (by decide) (fun m hm => ?_))
    · simp only [f_X5_cut, R.1.2.1, x_num_f (show n < 2 ^ 30 by omega) c1, bnd, bnX, bnN, q_1ne0, q_n1, q_n2, q_n3, eq_self, not_true_eq_false, not_false_eq_true, ↓reduceIte]
    · simp only [f_X6_cut, m_line_f (show n < 2 ^ 30 by omega) hm.1.2.2.1 c1, m_fine1, bnd, bnX, bnN, q_1ne0, q_n1, q_n2, q_n3, eq_self, not_true_eq_false, not_false_eq_true, ↓reduceIte]
theorem k_change (p0 p1 p2 : Int32) : LK (f_X5_change p0 p1 p2) hc_L_change (f_X6_change p0 p1 p2) := by
  intro n k q g x R
  have hn := R.1.1
  have hk := R.2.2.1.1.1
  by_cases c1 : inb p0 k = true
  · by_cases c2 : inb p1 10 = true
    · by_cases c3 : -1 ≤ p2 ∧ p2 ≤ 100
      · obtain ⟨c, hc, rfl⟩ := inb_of c1 (by omega)
        obtain ⟨h, hh, rfl⟩ := inb_of c2 (by omega)
        have hC : RC0 n k (mput x (88 + c) h p2) := R.2.2.1.1.cg (by rw [mput_ne (by omega)]) (fun a ha => mput_ne (by omega))
        obtain ⟨x', a1, keep, k3, hA⟩ := x_arrange hn hC
        refine Or.inr ⟨x (88 + c) h, x', ?_, (KR.put (by omega)).tr (KR.of_arr keep), fun m hm => ⟨mput (mput m 6 0 0) 37 (10 * c + h) p2, ?_, ?_, (KC.put (by decide)).tr (KC.put (by decide)), n, k, q, g, ?_⟩⟩
        · simp only [f_X5_change, R.2.2.1.1.2.1, x_num_t (show k < 2 ^ 30 by omega) c1, x_n10_t c2, x_rng_t c3, q_i20 (show c < 20 by omega), q_i10 hh, ix_nI (show c < 2 ^ 31 by omega), ix_nI (show h < 2 ^ 31 by omega), a1, bnd, bnX, bnN, q_1ne0, q_n1, q_n2, q_n3, eq_self, not_true_eq_false, not_false_eq_true, ↓reduceIte]
        · simp only [f_X6_change, m_cue_t (show k < 2 ^ 30 by omega) hm.2.2.1.2.1 c1, m_chan_t c2, m_in_t c3, m_fine0, q_10, inb_nI (show 10 * c + h < 200 by omega) (show 200 < 2 ^ 31 by decide), ix_nI (show 10 * c + h < 2 ^ 31 by omega), q_clr (show ¬ 37 = 6 by decide), hm.2.2.1.2.2.2.2.2 c h (by omega) hh, bnd, bnX, bnN, q_1ne0, q_n1, q_n2, q_n3, eq_self, not_true_eq_false, not_false_eq_true, ↓reduceIte]
        · rw [mput_ne (by decide), mput_self]
        · refine QL.of_arr keep k3 hA (hm.1.cg (fun a ha => ?_) ?_ (fun a ha => ?_)) (hm.2.1.cg ?_ ?_ ?_ ?_) ⟨hC, ?_, ?_, ?_, ?_, fun c' h' hc' hh' => ?_⟩ (hm.2.2.2.2.1.cg (fun a ha => ?_) ?_ (fun a ha => ?_)) (hm.2.2.2.2.2.cg (fun a ha => ?_) ?_ (fun a ha => ?_))
          · rw [mput_ne (by omega)]
          · rw [mput_ne (by omega), mput_other (by decide)]
          · rw [mput_ne (by omega), mput_ne (by omega)]
          · rw [mput_ne (by omega)]
          · rw [mput_ne (by omega)]
          · rw [mput_ne (by omega), mput_ne (by omega)]
          · rw [mput_ne (by omega), mput_ne (by omega)]
          · rw [mput_ne (by omega), mput_other (by decide)]; exact hm.2.2.1.2.1
          · rw [mput_ne (by omega), mput_ne (by omega), mput_ne (by omega)]; exact hm.2.2.1.2.2.1
          · rw [mput_ne (by omega), mput_ne (by omega), mput_ne (by omega)]; exact hm.2.2.1.2.2.2.1
          · rw [mput_ne (by omega), mput_ne (by omega), mput_ne (by omega)]; exact hm.2.2.1.2.2.2.2.1
          · by_cases e : c' = c ∧ h' = h
            · rw [e.1, e.2, mput_self, mput_self]
            · rw [mput_other (by omega), mput_ne (by decide), hm.2.2.1.2.2.2.2.2 c' h' hc' hh']
              by_cases e2 : c' = c
              · rw [e2, mput_other (by omega)]
              · rw [mput_ne (by omega)]
          · rw [mput_ne (by omega)]
          · rw [mput_ne (by omega), mput_other (by decide)]
          · rw [mput_ne (by omega), mput_ne (by omega)]
          · rw [mput_ne (by omega)]
          · rw [mput_ne (by omega), mput_other (by decide)]
          · rw [mput_ne (by omega), mput_ne (by omega)]
      · refine Or.inl (LT.of 2 2 ?_ (by decide) rfl (by decide) (fun m hm => ?_))
        · simp only [f_X5_change, R.2.2.1.1.2.1, x_num_t (show k < 2 ^ 30 by omega) c1, x_n10_t c2, x_rng_f c3, bnd, bnX, bnN, q_1ne0, q_n1, q_n2, q_n3, eq_self, not_true_eq_false, not_false_eq_true, ↓reduceIte]
        · simp only [f_X6_change, m_cue_t (show k < 2 ^ 30 by omega) hm.2.2.1.2.1 c1, m_chan_t c2, m_in_f c3, m_fine2, bnd, bnX, bnN, q_1ne0, q_n1, q_n2, q_n3, eq_self, not_true_eq_false, not_false_eq_true, ↓reduceIte]
    · refine Or.inl (LT.of 1 1 ?_ (by decide) rfl (by decide) (fun m hm => ?_))
      · simp only [f_X5_change, R.2.2.1.1.2.1, x_num_t (show k < 2 ^ 30 by omega) c1, x_n10_f c2, bnd, bnX, bnN, q_1ne0, q_n1, q_n2, q_n3, eq_self, not_true_eq_false, not_false_eq_true, ↓reduceIte]
      · simp only [f_X6_change, m_cue_t (show k < 2 ^ 30 by omega) hm.2.2.1.2.1 c1, m_chan_f c2, m_fine1, bnd, bnX, bnN, q_1ne0, q_n1, q_n2, q_n3, eq_self, not_true_eq_false, not_false_eq_true, ↓reduceIte]
  · refine Or.inl (LT.of 1 1 ?_ (by decide) rfl (by decide) (fun m hm => ?_))
    · simp only [f_X5_change, R.2.2.1.1.2.1, x_num_f (show k < 2 ^ 30 by omega) c1, bnd, bnX, bnN, q_1ne0, q_n1, q_n2, q_n3, eq_self, not_true_eq_false, not_false_eq_true, ↓reduceIte]
    · simp only [f_X6_change, m_cue_f (show k < 2 ^ 30 by omega) hm.2.2.1.2.1 c1, m_fine1, bnd, bnX, bnN, q_1ne0, q_n1, q_n2, q_n3, eq_self, not_true_eq_false, not_false_eq_true, ↓reduceIte]
theorem x_place {x : aM} {c : Nat} {a b d : Int32} (hc : c < 20) : f_X1_place (nI c) a b d x = some (0, mput (mput (mput x 11 c a) 12 c b) 13 c d) := by
  unfold f_X1_place
  simp only [q_i20 hc, ix_nI (show c < 2 ^ 31 by omega), ↓reduceIte]
theorem RC0.place {n k c L o f : Nat} {x : aM} (H : RC0 n k x) (hL : L < n) (ho : o ≤ 60) (hf : f ≤ 60) : RC0 n k (mput (mput (mput x 11 c (nI L)) 12 c (nI o)) 13 c (nI f)) := by
  obtain ⟨h1, h2, h3, h4, h5⟩ := H
  refine ⟨h1, ?_, fun d hd => ?_, fun d hd => ?_, fun d hd => ?_⟩
  · rw [mput_ne (by decide), mput_ne (by decide), mput_ne (by decide)]; exact h2
  · rw [mput_ne (by decide), mput_ne (by decide), mput_row]
    by_cases e : d = c
    · rw [e, pk_us]; exact ⟨L, hL, rfl⟩
    · rw [pk_un e]; exact h3 d hd
  · rw [mput_ne (by decide), mput_row, mput_ne (by decide)]
    by_cases e : d = c
    · rw [e, pk_us]; exact ⟨o, ho, rfl⟩
    · rw [pk_un e]; exact h4 d hd
  · rw [mput_row, mput_ne (by decide), mput_ne (by decide)]
    by_cases e : d = c
    · rw [e, pk_us]; exact ⟨f, hf, rfl⟩
    · rw [pk_un e]; exact h5 d hd
theorem k_move (p0 p1 p2 p3 : Int32) : LK (f_X5_move p0 p1 p2 p3) hc_L_move (f_X6_move p0 p1 p2 p3) := by
  intro n k q g x R
  have hn := R.1.1
  have hk := R.2.2.1.1.1
  by_cases c1 : inb p0 k = true
  · by_cases c2 : inb p1 n = true
    · by_cases c3 : 0 ≤ p2 ∧ p2 ≤ 60
      · by_cases c4 : 0 ≤ p3 ∧ p3 ≤ 60
        · obtain ⟨c, hc, rfl⟩ := inb_of c1 (by omega)
          obtain ⟨L, hL, rfl⟩ := inb_of c2 (by omega)
          obtain ⟨o, ho, rfl⟩ := q_60 c3
          obtain ⟨f, hf, rfl⟩ := q_60 c4
          have hC : RC0 n k (mput (mput (mput x 11 c (nI L)) 12 c (nI o)) 13 c (nI f)) := R.2.2.1.1.place hL ho hf
          obtain ⟨x', a1, keep, k3, hA⟩ := x_arrange hn hC
          refine Or.inr ⟨x 11 c, x', ?_, (((KR.put (by decide)).tr (KR.put (by decide))).tr (KR.put (by decide))).tr (KR.of_arr keep), fun m hm => ⟨mput (mput (mput (mput m 6 0 0) 34 c (nI L)) 35 c (nI o)) 36 c (nI f), ?_, ?_, (((KC.put (by decide)).tr (KC.put (by decide))).tr (KC.put (by decide))).tr (KC.put (by decide)), n, k, q, g, ?_⟩⟩
          · simp only [f_X5_move, R.2.2.1.1.2.1, R.1.2.1, x_num_t (show k < 2 ^ 30 by omega) c1, x_num_t (show n < 2 ^ 30 by omega) c2, x_rng_t c3, x_rng_t c4, q_i20 (show c < 20 by omega), ix_nI (show c < 2 ^ 31 by omega), x_place (show c < 20 by omega), a1, bnd, bnX, bnN, q_1ne0, q_n1, q_n2, q_n3, eq_self, not_true_eq_false, not_false_eq_true, ↓reduceIte]
          · simp only [f_X6_move, m_cue_t (show k < 2 ^ 30 by omega) hm.2.2.1.2.1 c1, m_line_t (show n < 2 ^ 30 by omega) hm.1.2.2.1 c2, m_fade_t c3 c4, m_fine0, q_i20 (show c < 20 by omega), ix_nI (show c < 2 ^ 31 by omega), q_clr (show ¬ 34 = 6 by decide), hm.2.2.1.2.2.1, bnd, bnX, bnN, q_1ne0, q_n1, q_n2, q_n3, eq_self, not_true_eq_false, not_false_eq_true, ↓reduceIte]
          · rw [mput_ne (by decide), mput_ne (by decide), mput_ne (by decide), mput_self]
          · refine QL.of_arr keep k3 hA (hm.1.cg (fun a ha => ?_) ?_ (fun a ha => ?_)) (hm.2.1.cg ?_ ?_ ?_ ?_) ⟨hC, ?_, ?_, ?_, ?_, fun c' h' hc' hh' => ?_⟩ (hm.2.2.2.2.1.cg (fun a ha => ?_) ?_ (fun a ha => ?_)) (hm.2.2.2.2.2.cg (fun a ha => ?_) ?_ (fun a ha => ?_))
            · rw [mput_ne (by omega), mput_ne (by omega), mput_ne (by omega)]
            · rw [mput_ne (by omega), mput_ne (by omega), mput_ne (by omega), mput_other (by decide)]
            · rw [mput_ne (by omega), mput_ne (by omega), mput_ne (by omega), mput_ne (by omega)]
            · rw [mput_ne (by omega), mput_ne (by omega), mput_ne (by omega)]
            · rw [mput_ne (by omega), mput_ne (by omega), mput_ne (by omega)]
            · rw [mput_ne (by omega), mput_ne (by omega), mput_ne (by omega), mput_ne (by omega)]
            · rw [mput_ne (by omega), mput_ne (by omega), mput_ne (by omega), mput_ne (by omega)]
            · rw [mput_ne (by omega), mput_ne (by omega), mput_ne (by omega), mput_other (by decide)]; exact hm.2.2.1.2.1
            · simp [mput_ne, mput_row, hm.2.2.1.2.2.1]
            · simp [mput_ne, mput_row, hm.2.2.1.2.2.2.1]
            · simp [mput_ne, mput_row, hm.2.2.1.2.2.2.2.1]
            · rw [mput_ne (by omega), mput_ne (by omega), mput_ne (by omega), mput_ne (by omega), mput_ne (by omega), mput_ne (by omega), mput_ne (by omega)]; exact hm.2.2.1.2.2.2.2.2 c' h' hc' hh'
            · rw [mput_ne (by omega), mput_ne (by omega), mput_ne (by omega)]
            · rw [mput_ne (by omega), mput_ne (by omega), mput_ne (by omega), mput_other (by decide)]
            · rw [mput_ne (by omega), mput_ne (by omega), mput_ne (by omega), mput_ne (by omega)]
            · rw [mput_ne (by omega), mput_ne (by omega), mput_ne (by omega)]
            · rw [mput_ne (by omega), mput_ne (by omega), mput_ne (by omega), mput_other (by decide)]
            · rw [mput_ne (by omega), mput_ne (by omega), mput_ne (by omega), mput_ne (by omega)]
        · refine Or.inl (LT.of 2 2 ?_ (by decide) rfl (by decide) (fun m hm => ?_))
          · simp only [f_X5_move, R.2.2.1.1.2.1, R.1.2.1, x_num_t (show k < 2 ^ 30 by omega) c1, x_num_t (show n < 2 ^ 30 by omega) c2, x_rng_t c3, x_rng_f c4, bnd, bnX, bnN, q_1ne0, q_n1, q_n2, q_n3, eq_self, not_true_eq_false, not_false_eq_true, ↓reduceIte]
          · simp only [f_X6_move, m_cue_t (show k < 2 ^ 30 by omega) hm.2.2.1.2.1 c1, m_line_t (show n < 2 ^ 30 by omega) hm.1.2.2.1 c2, m_fade_f (fun z => c4 z.2), m_fine2, bnd, bnX, bnN, q_1ne0, q_n1, q_n2, q_n3, eq_self, not_true_eq_false, not_false_eq_true, ↓reduceIte]
      · refine Or.inl (LT.of 2 2 ?_ (by decide) rfl (by decide) (fun m hm => ?_))
        · simp only [f_X5_move, R.2.2.1.1.2.1, R.1.2.1, x_num_t (show k < 2 ^ 30 by omega) c1, x_num_t (show n < 2 ^ 30 by omega) c2, x_rng_f c3, bnd, bnX, bnN, q_1ne0, q_n1, q_n2, q_n3, eq_self, not_true_eq_false, not_false_eq_true, ↓reduceIte]
        · simp only [f_X6_move, m_cue_t (show k < 2 ^ 30 by omega) hm.2.2.1.2.1 c1, m_line_t (show n < 2 ^ 30 by omega) hm.1.2.2.1 c2, m_fade_f (fun z => c3 z.1), m_fine2, bnd, bnX, bnN, q_1ne0, q_n1, q_n2, q_n3, eq_self, not_true_eq_false, not_false_eq_true, ↓reduceIte]
    · refine Or.inl (LT.of 1 1 ?_ (by decide) rfl (by decide) (fun m hm => ?_))
      · simp only [f_X5_move, R.2.2.1.1.2.1, R.1.2.1, x_num_t (show k < 2 ^ 30 by omega) c1, x_num_f (show n < 2 ^ 30 by omega) c2, bnd, bnX, bnN, q_1ne0, q_n1, q_n2, q_n3, eq_self, not_true_eq_false, not_false_eq_true, ↓reduceIte]
      · simp only [f_X6_move, m_cue_t (show k < 2 ^ 30 by omega) hm.2.2.1.2.1 c1, m_line_f (show n < 2 ^ 30 by omega) hm.1.2.2.1 c2, m_fine1, bnd, bnX, bnN, q_1ne0, q_n1, q_n2, q_n3, eq_self, not_true_eq_false, not_false_eq_true, ↓reduceIte]
  · refine Or.inl (LT.of 1 1 ?_ (by decide) rfl (by decide) (fun m hm => ?_))
    · simp only [f_X5_move, R.2.2.1.1.2.1, x_num_f (show k < 2 ^ 30 by omega) c1, bnd, bnX, bnN, q_1ne0, q_n1, q_n2, q_n3, eq_self, not_true_eq_false, not_false_eq_true, ↓reduceIte]
    · simp only [f_X6_move, m_cue_f (show k < 2 ^ 30 by omega) hm.2.2.1.2.1 c1, m_fine1, bnd, bnX, bnN, q_1ne0, q_n1, q_n2, q_n3, eq_self, not_true_eq_false, not_false_eq_true, ↓reduceIte]
theorem x_appendCue {x : aM} {k : Nat} (hk : k < 20) (h34 : x 3 4 = nI k) : f_X1_append x = some (nI k, mput (mrow x (88 + k) 10 (fun _ => -1)) 3 4 (nI (k + 1))) := by
  have hl : ∀ kk : Int32 → aM → Option (Int32 × aM), l_X1_append_2 lf 0 x kk = kk (nI 10) (mrow x (88 + k) 10 (fun _ => -1)) := by
    intro kk
    have key : l_X1_append_2 lf (nI 0) (mrow x (88 + k) 0 (fun _ => -1)) kk = kk (nI 10) (mrow x (88 + k) 10 (fun _ => -1)) := by
      refine qa_loop0 (fun fu i => l_X1_append_2 fu (nI i) (mrow x (88 + k) i (fun _ => -1)) kk) 10 _ lf (lf_gt (by decide)) (fun i fu hi => ?_) (fun fu => ?_)
      · show l_X1_append_2 (fu + 1) (nI i) (mrow x (88 + k) i (fun _ => -1)) kk = l_X1_append_2 fu (nI (i + 1)) (mrow x (88 + k) (i + 1) (fun _ => -1)) kk
        rw [l_X1_append_2, if_neg (q10_lt hi), mrow_ne (show ¬ 3 = 88 + k by omega), h34, if_pos (q_i20 hk), if_pos (q_i10 hi), ix_nI (show k < 2 ^ 31 by omega), ix_nI (show i < 2 ^ 31 by omega), nI_1, ← mrow_s (i := i)]
      · show l_X1_append_2 (fu + 1) (nI 10) _ kk = _
        rw [l_X1_append_2, if_pos q10_ge]
    rw [mrow_0] at key
    exact key
  unfold f_X1_append
  rw [hl]
  simp only [mrow_ne (show ¬ 3 = 88 + k by omega), h34, nI_1, nI_pred]
/-- the reference's row of a new cue -/
def mN (m : aM) (k i : Nat) : aM := fun a => if a = 37 then (fun j => if 10 * k ≤ j ∧ j < 10 * k + i then -1 else m 37 j) else m a
theorem mN_ne {m : aM} {k i a : Nat} (h : ¬ a = 37) : mN m k i a = m a := if_neg h
theorem mN_at {m : aM} {k i j : Nat} : mN m k i 37 j = if 10 * k ≤ j ∧ j < 10 * k + i then -1 else m 37 j := rfl
theorem mN_0 {m : aM} {k : Nat} : mN m k 0 = m := by
  funext a j
  by_cases h : a = 37
  · subst h
    rw [mN_at, if_neg (by omega)]
  · rw [mN_ne h]
theorem mN_s {m : aM} {k i : Nat} : mput (mN m k i) 37 (10 * k + i) (-1) = mN m k (i + 1) := by
  funext a j
  by_cases h : a = 37
  · subst h
    rw [mput_at, mN_at, mN_at]
    by_cases e : j = 10 * k + i
    · rw [if_pos e, if_pos (by omega)]
    · rw [if_neg e]
      by_cases e2 : 10 * k ≤ j ∧ j < 10 * k + i
      · rw [if_pos e2, if_pos (by omega)]
      · rw [if_neg e2, if_neg (by omega)]
  · rw [mput_ne h, mN_ne h, mN_ne h]
theorem m_newCue {m : aM} {k : Nat} {a b c : Int32} (hk : k < 20) (h11 : m 6 11 = nI k) (kk : Int32 → aM → Option (Int32 × aM)) : l_X6_addCue_80 a b c lf 0 m kk = kk (nI 10) (mN m k 10) := by
  have key : l_X6_addCue_80 a b c lf (nI 0) (mN m k 0) kk = kk (nI 10) (mN m k 10) := by
    refine qa_loop0 (fun fu i => l_X6_addCue_80 a b c fu (nI i) (mN m k i) kk) 10 _ lf (lf_gt (by decide)) (fun i fu hi => ?_) (fun fu => ?_)
    · show l_X6_addCue_80 a b c (fu + 1) (nI i) (mN m k i) kk = l_X6_addCue_80 a b c fu (nI (i + 1)) (mN m k (i + 1)) kk
      rw [l_X6_addCue_80, if_neg (q10_lt hi), mN_ne (by decide), h11, q_10, if_pos (inb_nI (show 10 * k + i < 200 by omega) (by decide)), ix_nI (show 10 * k + i < 2 ^ 31 by omega), nI_1, mN_s]
    · show l_X6_addCue_80 a b c (fu + 1) (nI 10) _ kk = _
      rw [l_X6_addCue_80, if_pos q10_ge]
  rw [mN_0] at key
  exact key
theorem k_addCue (p0 p1 p2 : Int32) : LK (f_X5_addCue p0 p1 p2) hc_L_addCue (f_X6_addCue p0 p1 p2) := by
  intro n k q g x R
  have hn := R.1.1
  have hk := R.2.2.1.1.1
  by_cases c1 : inb p0 n = true
  · by_cases c2 : 0 ≤ p1 ∧ p1 ≤ 60
    · by_cases c3 : 0 ≤ p2 ∧ p2 ≤ 60
      · by_cases c4 : k < 20
        · have c4x : nI k < 20 := q_room (N := 20) c4 (by decide)
          have c4m : ¬ nI k = 20 := fun e => absurd ((nI_eq (a := k) (b := 20) (by omega) (by decide)).mp e) (by omega)
          obtain ⟨L, hL, rfl⟩ := inb_of c1 (by omega)
          obtain ⟨o, ho, rfl⟩ := q_60 c2
          obtain ⟨f, hf, rfl⟩ := q_60 c3
          have hC : RC0 n (k + 1) (mput (mput (mput (mput (mrow x (88 + k) 10 (fun _ => -1)) 3 4 (nI (k + 1))) 11 k (nI L)) 12 k (nI o)) 13 k (nI f)) := by
            obtain ⟨h1, h2, h3, h4, h5⟩ := R.2.2.1.1
            refine ⟨c4, ?_, fun d hd => ?_, fun d hd => ?_, fun d hd => ?_⟩
            · rw [mput_ne (by decide), mput_ne (by decide), mput_ne (by decide), mput_self]
            · rw [mput_ne (by decide), mput_ne (by decide), mput_row, mput_ne (by decide), mrow_ne (by omega)]
              by_cases e : d = k
              · rw [e, pk_us]; exact ⟨L, hL, rfl⟩
              · rw [pk_un e]; exact h3 d (by omega)
            · rw [mput_ne (by decide), mput_row, mput_ne (by decide), mput_ne (by decide), mrow_ne (by omega)]
              by_cases e : d = k
              · rw [e, pk_us]; exact ⟨o, ho, rfl⟩
              · rw [pk_un e]; exact h4 d (by omega)
            · rw [mput_row, mput_ne (by decide), mput_ne (by decide), mput_ne (by decide), mrow_ne (by omega)]
              by_cases e : d = k
              · rw [e, pk_us]; exact ⟨f, hf, rfl⟩
              · rw [pk_un e]; exact h5 d (by omega)
          obtain ⟨x', a1, keep, k3, hA⟩ := x_arrange hn hC
          refine Or.inr ⟨nI k, x', ?_, (((((KR.row (by omega)).tr (KR.put (by decide))).tr (KR.put (by decide))).tr (KR.put (by decide))).tr (KR.put (by decide))).tr (KR.of_arr keep), fun m hm => ⟨mput (mN (mput (mput (mput (mput m 6 0 0) 34 k (nI L)) 35 k (nI o)) 36 k (nI f)) k 10) 6 11 (nI (k + 1)), ?_, ?_, ?_, n, k + 1, q, g, ?_⟩⟩
          · simp only [f_X5_addCue, R.1.2.1, R.2.2.1.1.2.1, x_num_t (show n < 2 ^ 30 by omega) c1, x_rng_t c2, x_rng_t c3, x_room_t c4x, x_appendCue c4 R.2.2.1.1.2.1, x_place c4, a1, bnd, bnX, bnN, q_1ne0, q_n1, q_n2, q_n3, eq_self, not_true_eq_false, not_false_eq_true, ↓reduceIte]
          · have e11 : mput (mput (mput (mput m 6 0 0) 34 k (nI L)) 35 k (nI o)) 36 k (nI f) 6 11 = nI k := by rw [mput_ne (by decide), mput_ne (by decide), mput_ne (by decide), mput_other (by decide)]; exact hm.2.2.1.2.1
            simp only [f_X6_addCue, m_line_t (show n < 2 ^ 30 by omega) hm.1.2.2.1 c1, m_fade_t c2 c3, hm.2.2.1.2.1, c4m, m_fine0, q_clear (show ¬ 11 = 0 by decide), q_i20 c4, ix_nI (show k < 2 ^ 31 by omega), m_newCue c4 e11, mN_ne (show ¬ 6 = 37 by decide), e11, nI_1, nI_pred, bnd, bnX, bnN, q_1ne0, q_n1, q_n2, q_n3, eq_self, not_true_eq_false, not_false_eq_true, ↓reduceIte]
          · rw [mput_other (by decide), mN_ne (by decide), mput_ne (by decide), mput_ne (by decide), mput_ne (by decide), mput_self]
          · refine ⟨fun a ha => ?_, ?_⟩
            · rw [mput_ne (by omega), mN_ne (by omega), mput_ne (by omega), mput_ne (by omega), mput_ne (by omega), mput_ne (by omega)]
            · rw [mput_ne (by omega), mN_ne (by omega), mput_ne (by omega), mput_ne (by omega), mput_ne (by omega), mput_ne (by omega)]
          · refine QL.of_arr keep k3 hA (hm.1.cg (fun a ha => ?_) ?_ (fun a ha => ?_)) (hm.2.1.cg ?_ ?_ ?_ ?_) ⟨hC, mput_self, ?_, ?_, ?_, fun c' h' hc' hh' => ?_⟩ (hm.2.2.2.2.1.cg (fun a ha => ?_) ?_ (fun a ha => ?_)) (hm.2.2.2.2.2.cg (fun a ha => ?_) ?_ (fun a ha => ?_))
            · rw [mput_ne (by omega), mput_ne (by omega), mput_ne (by omega), mput_ne (by omega), mrow_ne (by omega)]
            · rw [mput_other (by decide), mN_ne (by decide), mput_ne (by omega), mput_ne (by omega), mput_ne (by omega), mput_other (by decide)]
            · rw [mput_ne (by omega), mN_ne (by omega), mput_ne (by omega), mput_ne (by omega), mput_ne (by omega), mput_ne (by omega)]
            · rw [mput_ne (by omega), mput_ne (by omega), mput_ne (by omega), mput_ne (by omega), mrow_ne (by omega)]
            · rw [mput_ne (by omega), mput_ne (by omega), mput_ne (by omega), mput_ne (by omega), mrow_ne (by omega)]
            · rw [mput_ne (by omega), mN_ne (by omega), mput_ne (by omega), mput_ne (by omega), mput_ne (by omega), mput_ne (by omega)]
            · rw [mput_ne (by omega), mN_ne (by omega), mput_ne (by omega), mput_ne (by omega), mput_ne (by omega), mput_ne (by omega)]
            · rw [mput_ne (by decide), mN_ne (by decide), mput_ne (by decide), mput_ne (by decide), mput_row, mput_ne (by decide), hm.2.2.1.2.2.1, mput_ne (by decide), mput_ne (by decide), mput_row, mput_ne (by decide), mrow_ne (by omega)]
            · rw [mput_ne (by decide), mN_ne (by decide), mput_ne (by decide), mput_row, mput_ne (by decide), mput_ne (by decide), hm.2.2.1.2.2.2.1, mput_ne (by decide), mput_row, mput_ne (by decide), mput_ne (by decide), mrow_ne (by omega)]
            · rw [mput_ne (by decide), mN_ne (by decide), mput_row, mput_ne (by decide), mput_ne (by decide), mput_ne (by decide), hm.2.2.1.2.2.2.2.1, mput_row, mput_ne (by decide), mput_ne (by decide), mput_ne (by decide), mrow_ne (by omega)]
            · rw [mput_ne (by omega), mN_at, mput_ne (by omega), mput_ne (by omega), mput_ne (by omega), mput_ne (by omega), mput_ne (by omega), mput_ne (by omega), mput_ne (by omega), mput_ne (by omega)]
              by_cases e : c' = k
              · rw [if_pos (by omega), e, mrow_at hh']
              · rw [if_neg (by omega), mrow_ne (by omega)]
                exact hm.2.2.1.2.2.2.2.2 c' h' hc' hh'
            · rw [mput_ne (by omega), mput_ne (by omega), mput_ne (by omega), mput_ne (by omega), mrow_ne (by omega)]
            · rw [mput_other (by decide), mN_ne (by decide), mput_ne (by omega), mput_ne (by omega), mput_ne (by omega), mput_other (by decide)]
            · rw [mput_ne (by omega), mN_ne (by omega), mput_ne (by omega), mput_ne (by omega), mput_ne (by omega), mput_ne (by omega)]
            · rw [mput_ne (by omega), mput_ne (by omega), mput_ne (by omega), mput_ne (by omega), mrow_ne (by omega)]
            · rw [mput_other (by decide), mN_ne (by decide), mput_ne (by omega), mput_ne (by omega), mput_ne (by omega), mput_other (by decide)]
            · rw [mput_ne (by omega), mN_ne (by omega), mput_ne (by omega), mput_ne (by omega), mput_ne (by omega), mput_ne (by omega)]
        · have c4x : ¬ nI k < 20 := q_noroom (N := 20) c4 (by omega)
          have c4m : nI k = 20 := by rw [show k = 20 by omega]; rfl
          refine Or.inl (LT.of 3 3 ?_ (by decide) rfl (by decide) (fun m hm => ?_))
          · simp only [f_X5_addCue, R.1.2.1, R.2.2.1.1.2.1, x_num_t (show n < 2 ^ 30 by omega) c1, x_rng_t c2, x_rng_t c3, x_room_f c4x, bnd, bnX, bnN, q_1ne0, q_n1, q_n2, q_n3, eq_self, not_true_eq_false, not_false_eq_true, ↓reduceIte]
          · simp only [f_X6_addCue, m_line_t (show n < 2 ^ 30 by omega) hm.1.2.2.1 c1, m_fade_t c2 c3, hm.2.2.1.2.1, c4m, m_fine3, bnd, bnX, bnN, q_1ne0, q_n1, q_n2, q_n3, eq_self, not_true_eq_false, not_false_eq_true, ↓reduceIte]
      · refine Or.inl (LT.of 2 2 ?_ (by decide) rfl (by decide) (fun m hm => ?_))
        · simp only [f_X5_addCue, R.1.2.1, x_num_t (show n < 2 ^ 30 by omega) c1, x_rng_t c2, x_rng_f c3, bnd, bnX, bnN, q_1ne0, q_n1, q_n2, q_n3, eq_self, not_true_eq_false, not_false_eq_true, ↓reduceIte]
        · simp only [f_X6_addCue, m_line_t (show n < 2 ^ 30 by omega) hm.1.2.2.1 c1, m_fade_f (fun z => c3 z.2), m_fine2, bnd, bnX, bnN, q_1ne0, q_n1, q_n2, q_n3, eq_self, not_true_eq_false, not_false_eq_true, ↓reduceIte]
    · refine Or.inl (LT.of 2 2 ?_ (by decide) rfl (by decide) (fun m hm => ?_))
      · simp only [f_X5_addCue, R.1.2.1, x_num_t (show n < 2 ^ 30 by omega) c1, x_rng_f c2, bnd, bnX, bnN, q_1ne0, q_n1, q_n2, q_n3, eq_self, not_true_eq_false, not_false_eq_true, ↓reduceIte]
      · simp only [f_X6_addCue, m_line_t (show n < 2 ^ 30 by omega) hm.1.2.2.1 c1, m_fade_f (fun z => c2 z.1), m_fine2, bnd, bnX, bnN, q_1ne0, q_n1, q_n2, q_n3, eq_self, not_true_eq_false, not_false_eq_true, ↓reduceIte]
  · refine Or.inl (LT.of 1 1 ?_ (by decide) rfl (by decide) (fun m hm => ?_))
    · simp only [f_X5_addCue, R.1.2.1, x_num_f (show n < 2 ^ 30 by omega) c1, bnd, bnX, bnN, q_1ne0, q_n1, q_n2, q_n3, eq_self, not_true_eq_false, not_false_eq_true, ↓reduceIte]
    · simp only [f_X6_addCue, m_line_f (show n < 2 ^ 30 by omega) hm.1.2.2.1 c1, m_fine1, bnd, bnX, bnN, q_1ne0, q_n1, q_n2, q_n3, eq_self, not_true_eq_false, not_false_eq_true, ↓reduceIte]
end
section
/-! the calls that light the stages -/
/-- what the levels alone read is kept -/
def KV (x x' : aM) : Prop := ∀ a, (a = 3 ∨ 7 ≤ a ∧ a ≤ 8 ∨ 13 ≤ a ∧ a ≤ 17 ∨ 108 ≤ a ∧ a < 128) → x' a = x a
theorem KY.kv {x x' : aM} (h : KY x x') : KV x x' := fun a ha => h a (by omega)
theorem KV.LVe {x x' : aM} (h : KV x x') {c : Nat} {t : Int32} : LV x' c t = LV x c t := by
  have e1 : tX x' = tX x := by
    funext p
    unfold tX
    rw [h 15 (by omega), h 17 (by omega)]
  have e2 : fX x' = fX x := by
    funext p
    unfold fX
    rw [h 13 (by omega), h 17 (by omega)]
  have e3 : mX x' c = mX x c := by
    funext p
    unfold mX
    rw [h 17 (by omega)]
    by_cases e : ix (x 17 p) < 20
    · rw [if_pos e, if_pos e, h _ (by omega)]
    · rw [if_neg e, if_neg e]
  unfold LV
  rw [e1, e2, e3, h 3 (by omega)]
theorem KV.lastSe {x x' : aM} (h : KV x x') {l : Nat} : lastS x' l = lastS x l := by
  unfold lastS
  rw [h 7 (by omega), h 8 (by omega)]
theorem PM.kv {n k : Nat} {x x' m : aM} (h : KV x x') (H : PM n k x m) : PM n k x' m := by
  have e : pT x' = pT x := by
    funext p
    unfold pT
    rw [h 15 (by omega), h 14 (by omega)]
  unfold PM at H ⊢
  rw [e, h 3 (by omega), h 14 (by omega), h 7 (by omega), h 8 (by omega)]
  exact H
theorem EN.kv {n : Nat} {x x' y y' : aM} (h : KV x x') (h2 : ∀ l, l < n → y' (128 + l) = y (128 + l)) (H : EN n x y) : EN n x' y' := fun l hl h8 c hc => by
  rw [h2 l hl, h.LVe, h.lastSe]
  refine H l hl ?_ c hc
  rw [← h 8 (by omega)]
  exact h8
theorem E5.kc {m m' : aM} (h : E5 m m') : KC m m' := ⟨fun a ha => h a (by omega) (by omega), h 178 (by decide) (by decide)⟩
/-- the reference behind its plays(), thrown cleared -/
theorem m_begin {n k q g : Nat} {x m : aM} (hm : QL n k q g x m) : ∃ m', f_X6_plays (mput m 6 0 0) = some (0, m') ∧ m' 6 0 = 0 ∧ KM m m' ∧ KC m m' ∧ QL n k q g x m' ∧ PM n k x m' := by
  obtain ⟨m', a1, a2, a3, a4, a5⟩ := m_plays (m0_R hm)
  exact ⟨m', a1, a4.trans mput_self, a0_km.1.tr a2, a0_km.2.tr ⟨fun a ha => a3 a (by omega) (by omega), a3 178 (by decide) (by decide)⟩, (m0_R hm).km a2, a5⟩
theorem k_lampLevel (p0 p1 : Int32) : LK (f_X5_lampLevel p0 p1) hc_L_lampLevel (f_X6_lampLevel p0 p1) := by
  intro n k q g x R
  have hq := R.2.2.2.2.1.1
  by_cases c1 : inb p0 q = true
  · by_cases c2 : 0 ≤ p1 ∧ p1 ≤ 2000
    · obtain ⟨l, hl, rfl⟩ := inb_of c1 (by omega)
      obtain ⟨t, ht, rfl⟩ := q_time c2
      have h48 := R.2.2.2.2.1.2.1
      have hK : KY x (mrow x 28 10 (LD q x (x 22 l))) := KY.row (by decide)
      have b1 := x_lay2 (s := x 22 l) hq h48 KY.rf
      have b2 := x_fill (t := nI t) (a := 27) (R.px.ky hK) (by decide) (by decide) (Or.inl rfl)
      have b3 := x_levelOf (x := mrow (mrow x 28 10 (LD q x (x 22 l))) 27 10 (fun h => LV (mrow x 28 10 (LD q x (x 22 l))) h (nI t))) (l := l) (a5 := 27) (ld := LD q x (x 22 l)) (lv := fun h => LV x h (nI t)) (by omega) (by decide) (by decide) (fun h hh => by rw [mrow_ne (by decide), mrow_at hh]) (fun h hh => by rw [mrow_at hh, hK.LVe])
      refine Or.inr (LA.ro (x' := mrow (mrow x 28 10 (LD q x (x 22 l))) 27 10 (fun h => LV (mrow x 28 10 (LD q x (x 22 l))) h (nI t))) (qa_L (x 24) (LD q x (x 22 l)) (fun h => LV x h (nI t)) l) R ?_ ((KX.row (by decide)).tr (KX.row (by decide))) ((KR.row (by decide)).tr (KR.row (by decide))) (fun m hm => ?_))
      · simp only [f_X5_lampLevel, R.2.2.2.2.1.2.1, x_num_t (show q < 2 ^ 30 by omega) c1, x_rng_t c2, q_i20 (show l < 20 by omega), ix_nI (show l < 2 ^ 31 by omega), b1, b2, b3, bnd, bnX, bnN, q_1ne0, q_n1, q_n2, q_n3, eq_self, not_true_eq_false, not_false_eq_true, ↓reduceIte]
        rw [mrow_ne (by decide), mrow_ne (by decide)]
      · obtain ⟨m', d1, d2, d3, d4, d5, d6⟩ := m_begin hm
        have e40 : m' 40 l = x 22 l := congrFun d5.2.2.2.2.1.2.2.2.2.2.1 l
        have hK1 : KM m' (mrow m' 50 10 (LD q x (x 22 l))) := KM.row (by decide)
        have f1 := m_lay2 (s := x 22 l) d5
        have f2 := m_lights (d5.km hK1) (d6.row (by decide)) (show t ≤ 5000 by omega)
        have f3 := m_lampNow (m := mrow (mrow m' 50 10 (LD q x (x 22 l))) 51 10 (fun h => LV x h (nI t))) (l := l) (ld := LD q x (x 22 l)) (lv := fun h => LV x h (nI t)) (by omega) (fun h hh => by rw [mrow_ne (by decide), mrow_at hh]) (fun h hh => by rw [mrow_at hh])
        refine ⟨mrow (mrow m' 50 10 (LD q x (x 22 l))) 51 10 (fun h => LV x h (nI t)), ?_, ?_, (d3.tr hK1).tr (KM.row (k := 51) (by decide)), (d4.tr (KC.row (by decide))).tr (KC.row (k := 51) (by decide))⟩
        · simp only [f_X6_lampLevel, m_lamp_t (show q < 2 ^ 30 by omega) hm.2.2.2.2.1.2.2.1 c1, m_time_t c2, m_fine0, d1, q_i20 (show l < 20 by omega), ix_nI (show l < 2 ^ 31 by omega), e40, f1, f2, f3, bnd, bnX, bnN, q_1ne0, q_n1, q_n2, q_n3, eq_self, not_true_eq_false, not_false_eq_true, ↓reduceIte]
          rw [mrow_ne (by decide), mrow_ne (by decide), d5.2.2.2.2.1.2.2.2.2.2.2.2.2.2]
        · rw [mrow_ne (by decide), mrow_ne (by decide)]
          exact d2
    · refine Or.inl (LT.of 2 2 ?_ (by decide) rfl (by decide) (fun m hm => ?_))
      · simp only [f_X5_lampLevel, R.2.2.2.2.1.2.1, x_num_t (show q < 2 ^ 30 by omega) c1, x_rng_f c2, bnd, bnX, bnN, q_1ne0, q_n1, q_n2, q_n3, eq_self, not_true_eq_false, not_false_eq_true, ↓reduceIte]
      · simp only [f_X6_lampLevel, m_lamp_t (show q < 2 ^ 30 by omega) hm.2.2.2.2.1.2.2.1 c1, m_time_f c2, m_fine2, bnd, bnX, bnN, q_1ne0, q_n1, q_n2, q_n3, eq_self, not_true_eq_false, not_false_eq_true, ↓reduceIte]
  · refine Or.inl (LT.of 1 1 ?_ (by decide) rfl (by decide) (fun m hm => ?_))
    · simp only [f_X5_lampLevel, R.2.2.2.2.1.2.1, x_num_f (show q < 2 ^ 30 by omega) c1, bnd, bnX, bnN, q_1ne0, q_n1, q_n2, q_n3, eq_self, not_true_eq_false, not_false_eq_true, ↓reduceIte]
    · simp only [f_X6_lampLevel, m_lamp_f (show q < 2 ^ 30 by omega) hm.2.2.2.2.1.2.2.1 c1, m_fine1, bnd, bnX, bnN, q_1ne0, q_n1, q_n2, q_n3, eq_self, not_true_eq_false, not_false_eq_true, ↓reduceIte]
theorem k_light (p0 p1 p2 : Int32) : LK (f_X5_light p0 p1 p2) hc_L_light (f_X6_light p0 p1 p2) := by
  intro n k q g x R
  have hq := R.2.2.2.2.1.1
  by_cases c1 : inb p0 4 = true
  · by_cases c3 : inb p1 4 = true
    · by_cases c2 : 0 ≤ p2 ∧ p2 ≤ 2000
      · obtain ⟨t, ht, rfl⟩ := q_time c2
        have h48 := R.2.2.2.2.1.2.1
        have hK : KY x (mrow x 28 10 (LD q x p0)) := KY.row (by decide)
        have b1 := x_lay2 (s := p0) hq h48 KY.rf
        have b2 := x_fill (t := nI t) (a := 27) (R.px.ky hK) (by decide) (by decide) (Or.inl rfl)
        have b3 := x_lightOf (x := mrow (mrow x 28 10 (LD q x p0)) 27 10 (fun h => LV (mrow x 28 10 (LD q x p0)) h (nI t))) (q := q) (s := p0) (a := p1) (a5 := 27) (ld := LD q x p0) (lv := fun h => LV x h (nI t)) hq (by rw [mrow_ne (by decide), mrow_ne (by decide)]; exact h48) (by decide) (by decide) (fun h hh => by rw [mrow_ne (by decide), mrow_at hh]) (fun h hh => by rw [mrow_at hh, hK.LVe])
        refine Or.inr (LA.ro (x' := mrow (mrow x 28 10 (LD q x p0)) 27 10 (fun h => LV (mrow x 28 10 (LD q x p0)) h (nI t))) (qa_T q (x 22) (x 23) (x 21) (x 24) (LD q x p0) (fun h => LV x h (nI t)) p0 p1) R ?_ ((KX.row (by decide)).tr (KX.row (by decide))) ((KR.row (by decide)).tr (KR.row (by decide))) (fun m hm => ?_))
        · simp only [f_X5_light, x_n4_t c1, x_n4_t c3, x_rng_t c2, b1, b2, b3, bnd, bnX, bnN, q_1ne0, q_n1, q_n2, q_n3, eq_self, not_true_eq_false, not_false_eq_true, ↓reduceIte]
          simp only [mrow_ne (show ¬ 22 = 27 by decide), mrow_ne (show ¬ 22 = 28 by decide), mrow_ne (show ¬ 23 = 27 by decide), mrow_ne (show ¬ 23 = 28 by decide), mrow_ne (show ¬ 21 = 27 by decide), mrow_ne (show ¬ 21 = 28 by decide), mrow_ne (show ¬ 24 = 27 by decide), mrow_ne (show ¬ 24 = 28 by decide)]
        · obtain ⟨m', d1, d2, d3, d4, d5, d6⟩ := m_begin hm
          have hK1 : KM m' (mrow m' 50 10 (LD q x p0)) := KM.row (by decide)
          obtain ⟨-, -, e19, -, -, e40, e41, -, e43, e44⟩ := d5.2.2.2.2.1
          have f1 := m_lay2 (s := p0) d5
          have f2 := m_lights (d5.km hK1) (d6.row (by decide)) (show t ≤ 5000 by omega)
          have f3 := m_lightNow (m := mrow (mrow m' 50 10 (LD q x p0)) 51 10 (fun h => LV x h (nI t))) (q := q) (s := p0) (a := p1) (ld := LD q x p0) (lv := fun h => LV x h (nI t)) hq (by rw [mrow_ne (by decide), mrow_ne (by decide)]; exact e19) (fun h hh => by rw [mrow_ne (by decide), mrow_at hh]) (fun h hh => by rw [mrow_at hh])
          refine ⟨mrow (mrow m' 50 10 (LD q x p0)) 51 10 (fun h => LV x h (nI t)), ?_, ?_, (d3.tr hK1).tr (KM.row (k := 51) (by decide)), (d4.tr (KC.row (by decide))).tr (KC.row (k := 51) (by decide))⟩
          · simp only [f_X6_light, m_stage_t c1, m_area_t c3, m_time_t c2, m_fine0, d1, f1, f2, f3, bnd, bnX, bnN, q_1ne0, q_n1, q_n2, q_n3, eq_self, not_true_eq_false, not_false_eq_true, ↓reduceIte]
            simp only [mrow_ne (show ¬ 40 = 51 by decide), mrow_ne (show ¬ 40 = 50 by decide), mrow_ne (show ¬ 41 = 51 by decide), mrow_ne (show ¬ 41 = 50 by decide), mrow_ne (show ¬ 43 = 51 by decide), mrow_ne (show ¬ 43 = 50 by decide), mrow_ne (show ¬ 44 = 51 by decide), mrow_ne (show ¬ 44 = 50 by decide), e40, e41, e43, e44]
          · rw [mrow_ne (by decide), mrow_ne (by decide)]
            exact d2
      · refine Or.inl (LT.of 2 2 ?_ (by decide) rfl (by decide) (fun m hm => ?_))
        · simp only [f_X5_light, x_n4_t c1, x_n4_t c3, x_rng_f c2, bnd, bnX, bnN, q_1ne0, q_n1, q_n2, q_n3, eq_self, not_true_eq_false, not_false_eq_true, ↓reduceIte]
        · simp only [f_X6_light, m_stage_t c1, m_area_t c3, m_time_f c2, m_fine2, bnd, bnX, bnN, q_1ne0, q_n1, q_n2, q_n3, eq_self, not_true_eq_false, not_false_eq_true, ↓reduceIte]
    · refine Or.inl (LT.of 1 1 ?_ (by decide) rfl (by decide) (fun m hm => ?_))
      · simp only [f_X5_light, x_n4_t c1, x_n4_f c3, bnd, bnX, bnN, q_1ne0, q_n1, q_n2, q_n3, eq_self, not_true_eq_false, not_false_eq_true, ↓reduceIte]
      · simp only [f_X6_light, m_stage_t c1, m_area_f c3, m_fine1, bnd, bnX, bnN, q_1ne0, q_n1, q_n2, q_n3, eq_self, not_true_eq_false, not_false_eq_true, ↓reduceIte]
  · refine Or.inl (LT.of 1 1 ?_ (by decide) rfl (by decide) (fun m hm => ?_))
    · simp only [f_X5_light, x_n4_f c1, bnd, bnX, bnN, q_1ne0, q_n1, q_n2, q_n3, eq_self, not_true_eq_false, not_false_eq_true, ↓reduceIte]
    · simp only [f_X6_light, m_stage_f c1, m_fine1, bnd, bnX, bnN, q_1ne0, q_n1, q_n2, q_n3, eq_self, not_true_eq_false, not_false_eq_true, ↓reduceIte]
theorem k_shortOf (p0 p1 : Int32) : LK (f_X5_shortOf p0 p1) hc_L_shortOf (f_X6_shortOf p0 p1) := by
  intro n k q g x R
  have hq := R.2.2.2.2.1.1
  have hn := R.1.1
  by_cases c1 : inb p0 4 = true
  · by_cases c2 : inb p1 n = true
    · obtain ⟨l, hl, rfl⟩ := inb_of c2 (by omega)
      have h48 := R.2.2.2.2.1.2.1
      have hK : KY x (mrow x 28 10 (LD q x p0)) := KY.row (by decide)
      have b1 := x_lay2 (s := p0) hq h48 KY.rf
      have b2 := x_readEndOf (l := l) (R.px.ky hK) (by omega)
      generalize hx1 : mrow x 28 10 (LD q x p0) = x1 at hK b1 b2
      have hx28 : ∀ h, h < 10 → x1 28 h = LD q x p0 h := fun h hh => by rw [← hx1, mrow_at hh]
      have hKX1 : KX x x1 := by rw [← hx1]; exact KX.row (by decide)
      have hKR1 : KR x x1 := by rw [← hx1]; exact KR.row (by decide)
      have hx2 : KY x1 (if x1 8 l = 0 then mrow x1 (128 + l) 10 (fun h => LV x1 h (lastS x1 l)) else x1) ∧ KX x1 (if x1 8 l = 0 then mrow x1 (128 + l) 10 (fun h => LV x1 h (lastS x1 l)) else x1) ∧ KR x1 (if x1 8 l = 0 then mrow x1 (128 + l) 10 (fun h => LV x1 h (lastS x1 l)) else x1) ∧ (if x1 8 l = 0 then mrow x1 (128 + l) 10 (fun h => LV x1 h (lastS x1 l)) else x1) 28 = x1 28 ∧ (x1 8 l = 0 → ∀ h, h < 10 → (if x1 8 l = 0 then mrow x1 (128 + l) 10 (fun h => LV x1 h (lastS x1 l)) else x1) (128 + l) h = LV x1 h (lastS x1 l)) := by
        by_cases e : x1 8 l = 0
        · rw [if_pos e]
          exact ⟨KY.row (by omega), KX.row (by omega), KR.row (by omega), mrow_ne (by omega), fun _ h hh => mrow_at hh⟩
        · rw [if_neg e]
          exact ⟨KY.rf, KX.rf, KR.rf, rfl, fun q9 => absurd q9 e⟩
      generalize hxx2 : (if x1 8 l = 0 then mrow x1 (128 + l) 10 (fun h => LV x1 h (lastS x1 l)) else x1) = x2 at hx2 b2
      obtain ⟨j1, j2, j3, j4, j5⟩ := hx2
      have b3 := x_short (x := x) (y := x2) (l := l) (s := p0) hq h48 (hK.tr j1) (by omega) (fun h hh => by rw [j4]; exact hx28 h hh) (fun h8 h hh => by
        rw [j5 (by rw [hK 8 (by omega)]; exact h8) h hh, hK.LVe, hK.lastSe])
      refine Or.inr (LA.ro (x' := x2) (SH q x p0 l) R ?_ (hKX1.tr j2) (hKR1.tr j3) (fun m hm => ?_))
      · simp only [f_X5_shortOf, x_n4_t c1, R.1.2.1, x_num_t (show n < 2 ^ 30 by omega) c2, b1, b2, b3, bnd, bnX, bnN, q_1ne0, q_n1, q_n2, q_n3, eq_self, not_true_eq_false, not_false_eq_true, ↓reduceIte]
      · obtain ⟨m', d1, d2, d3, d4, d5, d6⟩ := m_begin hm
        have hK1 : KM m' (mrow m' 50 10 (LD q x p0)) := KM.row (by decide)
        have f1 := m_lay2 (s := p0) d5
        have f2 := m_short (s := p0) (l := l) (d5.km hK1) (d6.row (by decide)) hl (fun h hh => mrow_at hh)
        have f3 : E5 m' (if x 8 l = 0 then mrow (mrow m' 50 10 (LD q x p0)) 51 10 (fun h => LV x h (lastS x l)) else mrow m' 50 10 (LD q x p0)) := fun a h1 h2 => by
          split
          · rw [mrow_ne h2, mrow_ne h1]
          · rw [mrow_ne h1]
        refine ⟨_, ?_, (congrFun (f3 6 (by decide) (by decide)) 0).trans d2, d3.tr f3.km, d4.tr f3.kc⟩
        simp only [f_X6_shortOf, m_stage_t c1, m_line_t (show n < 2 ^ 30 by omega) hm.1.2.2.1 c2, m_fine0, d1, f1, f2, bnd, bnX, bnN, q_1ne0, q_n1, q_n2, q_n3, eq_self, not_true_eq_false, not_false_eq_true, ↓reduceIte]
    · refine Or.inl (LT.of 1 1 ?_ (by decide) rfl (by decide) (fun m hm => ?_))
      · simp only [f_X5_shortOf, x_n4_t c1, R.1.2.1, x_num_f (show n < 2 ^ 30 by omega) c2, bnd, bnX, bnN, q_1ne0, q_n1, q_n2, q_n3, eq_self, not_true_eq_false, not_false_eq_true, ↓reduceIte]
      · simp only [f_X6_shortOf, m_stage_t c1, m_line_f (show n < 2 ^ 30 by omega) hm.1.2.2.1 c2, m_fine1, bnd, bnX, bnN, q_1ne0, q_n1, q_n2, q_n3, eq_self, not_true_eq_false, not_false_eq_true, ↓reduceIte]
  · refine Or.inl (LT.of 1 1 ?_ (by decide) rfl (by decide) (fun m hm => ?_))
    · simp only [f_X5_shortOf, x_n4_f c1, bnd, bnX, bnN, q_1ne0, q_n1, q_n2, q_n3, eq_self, not_true_eq_false, not_false_eq_true, ↓reduceIte]
    · simp only [f_X6_shortOf, m_stage_f c1, m_fine1, bnd, bnX, bnN, q_1ne0, q_n1, q_n2, q_n3, eq_self, not_true_eq_false, not_false_eq_true, ↓reduceIte]
def qf_b (c : Nat → Int32) : Nat → Int32 × Int32
  | 0 => (0, c 0)
  | i + 1 => if (qf_b c i).2 ≤ c (i + 1) then qf_b c i else (nI (i + 1), c (i + 1))
theorem x_best {x : aM} {n q : Nat} (hn : n ≤ 30) (h13 : x 1 3 = nI n) (hq : q ≤ 20) (h48 : x 4 8 = nI q) (kk : Int32 → Int32 → Int32 → aM → Option (Int32 × aM)) : ∀ (d i fu : Nat) (y : aM), i + d = 3 → d < fu → KX x y → KR x y → EN n x y → ∃ y', l_X5_bestStage_14 fu (qf_b (fun s => nI (qd_n (SH q x (nI s)) n)) i).1 (qf_b (fun s => nI (qd_n (SH q x (nI s)) n)) i).2 (nI (i + 1)) y kk = kk (qf_b (fun s => nI (qd_n (SH q x (nI s)) n)) 3).1 (qf_b (fun s => nI (qd_n (SH q x (nI s)) n)) 3).2 (nI 4) y' ∧ KX x y' ∧ KR x y' := by
  intro d
  induction d with
  | zero =>
    intro i fu y hi hf h1 h2 h3
    obtain ⟨fu, rfl⟩ : ∃ z, fu = z + 1 := ⟨fu - 1, by omega⟩
    obtain rfl : i = 3 := by omega
    exact ⟨y, by rw [l_X5_bestStage_14, if_pos q4_ge], h1, h2⟩
  | succ d ih =>
    intro i fu y hi hf h1 h2 h3
    obtain ⟨fu, rfl⟩ : ∃ z, fu = z + 1 := ⟨fu - 1, by omega⟩
    have hc := x_count (s := nI (i + 1)) hn h13 hq h48 h1.ky h3
    obtain ⟨y', g1, g2, g3⟩ := ih (i + 1) fu (mrow y 28 10 (LD q x (nI (i + 1)))) (by omega) (by omega) (h1.tr (KX.row (by decide))) (h2.tr (KR.row (by decide))) (fun l hl h8 c hh => (congrFun (mrow_ne (by omega)) c).trans (h3 l hl h8 c hh))
    refine ⟨y', ?_, g2, g3⟩
    rw [← g1, l_X5_bestStage_14, if_neg (q4_lt (by omega)), hc]
    simp only [bnd]
    rw [nI_1, qf_b]
    by_cases e : (qf_b (fun s => nI (qd_n (SH q x (nI s)) n)) i).2 ≤ nI (qd_n (SH q x (nI (i + 1))) n)
    · rw [if_pos e, if_pos e]
    · rw [if_neg e, if_neg e]
theorem m_best {n k q g : Nat} {x m : aM} (H : QL n k q g x m) (hM : PM n k x m) (kk : Int32 → Int32 → Int32 → aM → Option (Int32 × aM)) : ∀ (d i fu : Nat) (y : aM), i + d = 3 → d < fu → E5 m y → ∃ y', l_X6_bestStage_19 fu (qf_b (fun s => nI (qd_n (SH q x (nI s)) n)) i).1 (qf_b (fun s => nI (qd_n (SH q x (nI s)) n)) i).2 (nI (i + 1)) y kk = kk (qf_b (fun s => nI (qd_n (SH q x (nI s)) n)) 3).1 (qf_b (fun s => nI (qd_n (SH q x (nI s)) n)) 3).2 (nI 4) y' ∧ E5 m y' := by
  intro d
  induction d with
  | zero =>
    intro i fu y hi hf h1
    obtain ⟨fu, rfl⟩ : ∃ z, fu = z + 1 := ⟨fu - 1, by omega⟩
    obtain rfl : i = 3 := by omega
    exact ⟨y, by rw [l_X6_bestStage_19, if_pos q4_ge], h1⟩
  | succ d ih =>
    intro i fu y hi hf h1
    obtain ⟨fu, rfl⟩ : ∃ z, fu = z + 1 := ⟨fu - 1, by omega⟩
    obtain ⟨y1, b1, b2, -⟩ := m_count (s := nI (i + 1)) (H.km h1.km) (h1.pm hM)
    obtain ⟨y', g1, g2⟩ := ih (i + 1) fu y1 (by omega) (by omega) (h1.tr b2)
    refine ⟨y', ?_, g2⟩
    rw [← g1, l_X6_bestStage_19, if_neg (q4_lt (by omega)), b1]
    simp only [bnd]
    rw [nI_1, qf_b]
    by_cases e : (qf_b (fun s => nI (qd_n (SH q x (nI s)) n)) i).2 ≤ nI (qd_n (SH q x (nI (i + 1))) n)
    · rw [if_pos e, if_pos e, if_pos e]
    · rw [if_neg e, if_neg e, if_neg e]
theorem g_bestStage : agD CP f_X5_bestStage f_X6_bestStage := by
  intro σ hσ
  obtain ⟨n, k, q, g, R⟩ := hσ
  have hn := R.1.1
  have hq := R.2.2.2.2.1.1
  have h48 := R.2.2.2.2.1.2.1
  have hE : KX σ (mE σ n) := KX.mEe hn
  have hER : KR σ (mE σ n) := fun a ha => mE_ne (by omega)
  have b1 := x_readEnds R.px hn R.1.2.1
  have b2 := x_count (s := nI 0) hn R.1.2.1 hq h48 hE.ky EN.of
  obtain ⟨y', b3, b4, b5⟩ := x_best hn R.1.2.1 hq h48 (fun v16 v17 v18 σ19 => some (v16, σ19)) 3 0 lf (mrow (mE σ n) 28 10 (LD q σ (nI 0))) (by omega) (lf_gt (by omega)) (hE.tr (KX.row (by decide))) (hER.tr (KR.row (by decide))) (fun l hl h8 c hh => (congrFun (mrow_ne (by omega)) c).trans (EN.of l hl h8 c hh))
  have R' : QL n k q g y' y' := R.cg b4 b5.km
  have Rm : QL n k q g σ y' := R.km b5.km
  obtain ⟨m', d1, d2, d3, d4, d5, d6⟩ := m_begin Rm
  obtain ⟨m1, f1, f2, -⟩ := m_count (s := nI 0) d5 d6
  obtain ⟨m2, f3, f4⟩ := m_best d5 d6 (fun v18 v19 v20 σ21 => some (v18, σ21)) 3 0 lf m1 (by omega) (lf_gt (by omega)) f2
  refine ⟨(qf_b (fun s => nI (qd_n (SH q σ (nI s)) n)) 3).1, y', m2, ?_, ?_, n, k, q, g, R'.cg (d4.tr f4.kc).1 (d3.tr f4.km)⟩
  · unfold f_X5_bestStage
    rw [b1]
    simp only [bnd]
    rw [show (0 : Int32) = nI 0 from rfl, b2]
    exact b3
  · unfold f_X6_bestStage
    rw [d1]
    simp only [bnd]
    rw [show f_X6_shortLines 0 m' = f_X6_shortLines (nI 0) m' from rfl, f1]
    exact f3
end
section
/-! the best lamp to borrow: each in turn is put on the stage, and put home -/
def vS (s a : Int32) (x : aM) (i : Nat) : aM := mput (mput x 22 i s) 23 i a
def vN (s a : Int32) (x : aM) (i : Nat) : aM := mput (mput (vS s a x i) 22 i (x 18 i)) 23 i (x 19 i)
def vw (s a : Int32) (x : aM) : Nat → aM
  | 0 => x
  | i + 1 => if vw s a x i 22 i = vw s a x i 18 i ∧ ¬ vw s a x i 18 i = s then vN s a (vw s a x i) i else vw s a x i
def bt (n q : Nat) (s a : Int32) (x : aM) : Nat → Int32 × Int32
  | 0 => (-1, nI (qd_n (SH q x s) n))
  | i + 1 => if vw s a x i 22 i = vw s a x i 18 i ∧ ¬ vw s a x i 18 i = s then (if (bt n q s a x i).2 ≤ nI (qd_n (SH q (vS s a (vw s a x i) i) s) n) then bt n q s a x i else (nI i, nI (qd_n (SH q (vS s a (vw s a x i) i) s) n))) else bt n q s a x i
theorem vS_ne {s a : Int32} {x : aM} {i b : Nat} (h : ¬ b = 22) (h2 : ¬ b = 23) : vS s a x i b = x b := (mput_ne h2).trans (mput_ne h)
theorem vN_ne {s a : Int32} {x : aM} {i b : Nat} (h : ¬ b = 22) (h2 : ¬ b = 23) : vN s a x i b = x b := (mput_ne h2).trans ((mput_ne h).trans (vS_ne h h2))
theorem vw_ne {s a : Int32} {x : aM} {b : Nat} (h : ¬ b = 22) (h2 : ¬ b = 23) : ∀ i, vw s a x i b = x b
  | 0 => rfl
  | i + 1 => by
    unfold vw
    split
    · exact (vN_ne h h2).trans (vw_ne h h2 i)
    · exact vw_ne h h2 i
theorem KX.both {v y : aM} {k i : Nat} {c : Int32} (h : KX v y) (hk : 18 ≤ k ∧ k ≤ 24) : KX (mput v k i c) (mput y k i c) := fun a ha => by
  by_cases e : a = k
  · rw [e, mput_row, mput_row, h k (by omega)]
  · rw [mput_ne e, mput_ne e]
    exact h a ha
theorem x_cw {v y : aM} {n q i : Nat} {s a : Int32} (hn : n ≤ 30) (h13 : v 1 3 = nI n) (hq : q ≤ 20) (h48 : v 4 8 = nI q) (hi : i < 20) (hK : KX v y) (hE : EN n v y) : ∃ y2, f_X5_countShortWith (nI i) s a y = some (nI (qd_n (SH q (vS s a v i) s) n), y2) ∧ KX (vN s a v i) y2 ∧ EN n (vN s a v i) y2 ∧ KR y y2 := by
  have k1 : KX (vS s a v i) (vS s a y i) := (hK.both (by decide)).both (by decide)
  have e1 : EN n (vS s a v i) (vS s a y i) := hE.kv (fun a ha => vS_ne (by omega) (by omega)) (fun l hl => vS_ne (by omega) (by omega))
  have b1 := x_count (x := vS s a v i) (y := vS s a y i) (s := s) hn (by rw [vS_ne (by decide) (by decide)]; exact h13) hq (by rw [vS_ne (by decide) (by decide)]; exact h48) k1.ky e1
  have e18 : mrow (vS s a y i) 28 10 (LD q (vS s a v i) s) 18 i = v 18 i := by rw [mrow_ne (by decide), vS_ne (by decide) (by decide), hK 18 (by omega)]
  have e19 : mrow (vS s a y i) 28 10 (LD q (vS s a v i) s) 19 i = v 19 i := by rw [mrow_ne (by decide), vS_ne (by decide) (by decide), hK 19 (by omega)]
  refine ⟨mput (mput (mrow (vS s a y i) 28 10 (LD q (vS s a v i) s)) 22 i (v 18 i)) 23 i (v 19 i), ?_, ?_, ?_, ?_⟩
  · unfold f_X5_countShortWith f_X3_put
    simp only [q_i20 hi, ix_nI (show i < 2 ^ 31 by omega), ↓reduceIte, bnd]
    rw [show mput (mput y 22 i s) 23 i a = vS s a y i from rfl, b1]
    simp only []
    rw [x_putHome hi, e18, e19]
  · exact ((k1.tr (KX.row (by decide))).both (by decide)).both (by decide)
  · refine e1.kv (fun b hb => ?_) (fun l hl => ?_)
    · unfold vN
      rw [mput_ne (by omega), mput_ne (by omega)]
    · rw [mput_ne (by omega), mput_ne (by omega), mrow_ne (by omega)]
  · exact ((((KR.put (by decide)).tr (KR.put (by decide))).tr (KR.row (by decide))).tr (KR.put (by decide))).tr (KR.put (by decide))
theorem x_btb {x : aM} {n q : Nat} {s a : Int32} (hn : n ≤ 30) (h13 : x 1 3 = nI n) (hq : q ≤ 20) (h48 : x 4 8 = nI q) (kk : Int32 → Int32 → Int32 → aM → Option (Nat × Int32 × aM)) : ∀ (d i fu : Nat) (y : aM), i + d = q → d < fu → KX (vw s a x i) y → EN n (vw s a x i) y → ∃ y', l_X5_bestToBorrow_26 s a fu (bt n q s a x i).1 (bt n q s a x i).2 (nI i) y kk = kk (bt n q s a x q).1 (bt n q s a x q).2 (nI q) y' ∧ KX (vw s a x q) y' ∧ KR y y' := by
  intro d
  induction d with
  | zero =>
    intro i fu y hi hf h1 h2
    obtain ⟨fu, rfl⟩ : ∃ z, fu = z + 1 := ⟨fu - 1, by omega⟩
    obtain rfl : i = q := by omega
    refine ⟨y, ?_, h1, KR.rf⟩
    rw [l_X5_bestToBorrow_26, h1 4 (by omega), vw_ne (by decide) (by decide), h48, if_pos (q_le_self (by omega))]
  | succ d ih =>
    intro i fu y hi hf h1 h2
    obtain ⟨fu, rfl⟩ : ∃ z, fu = z + 1 := ⟨fu - 1, by omega⟩
    have e48 : y 4 8 = nI q := by rw [h1 4 (by omega), vw_ne (by decide) (by decide)]; exact h48
    have ec := x_can (x := y) (l := i) (s := s) (by omega)
    rw [h1 22 (by omega), h1 18 (by omega)] at ec
    by_cases hc : vw s a x i 22 i = vw s a x i 18 i ∧ ¬ vw s a x i 18 i = s
    · obtain ⟨y2, g1, g2, g3, g4⟩ := x_cw (v := vw s a x i) (y := y) (s := s) (a := a) (i := i) hn (by rw [vw_ne (by decide) (by decide)]; exact h13) hq (by rw [vw_ne (by decide) (by decide)]; exact h48) (by omega) h1 h2
      have ev : vw s a x (i + 1) = vN s a (vw s a x i) i := by rw [vw, if_pos hc]
      obtain ⟨y', j1, j2, j3⟩ := ih (i + 1) fu y2 (by omega) (by omega) (by rw [ev]; exact g2) (by rw [ev]; exact g3)
      refine ⟨y', ?_, j2, g4.tr j3⟩
      rw [← j1, l_X5_bestToBorrow_26, e48, if_neg (nI_ge (by omega) (by omega)), ec, if_pos hc]
      simp only [bnN]
      rw [if_neg q_1ne0, g1]
      simp only []
      rw [nI_1, bt, if_pos hc]
      by_cases e : (bt n q s a x i).2 ≤ nI (qd_n (SH q (vS s a (vw s a x i) i) s) n)
      · rw [if_pos e, if_pos e]
      · rw [if_neg e, if_neg e]
    · have ev : vw s a x (i + 1) = vw s a x i := by rw [vw, if_neg hc]
      obtain ⟨y', j1, j2, j3⟩ := ih (i + 1) fu y (by omega) (by omega) (by rw [ev]; exact h1) (by rw [ev]; exact h2)
      refine ⟨y', ?_, j2, j3⟩
      rw [← j1, l_X5_bestToBorrow_26, e48, if_neg (nI_ge (by omega) (by omega)), ec, if_neg hc]
      simp only [bnN, ↓reduceIte]
      rw [nI_1, bt, if_neg hc]
theorem PM.mc {n k : Nat} {x m m' : aM} (h6 : m' 6 = m 6) (h47 : m' 47 = m 47) (h48 : m' 48 = m 48) (h49 : m' 49 = m 49) (H : PM n k x m) : PM n k x m' := by
  unfold PM at H ⊢
  rw [h6, h47, h48, h49]
  exact H
theorem m_btb {n k q g : Nat} {x : aM} {s a : Int32} (kk : Int32 → Int32 → Int32 → aM → Option (Int32 × aM)) : ∀ (d i fu : Nat) (y : aM), i + d = q → d < fu → QL n k q g (vw s a x i) y → PM n k (vw s a x i) y → ∃ y', l_X6_bestToBorrow_44 s a fu (bt n q s a x i).1 (bt n q s a x i).2 (nI i) y kk = kk (bt n q s a x q).1 (bt n q s a x q).2 (nI q) y' ∧ QL n k q g (vw s a x q) y' ∧ y' 6 0 = y 6 0 ∧ KC y y' := by
  intro d
  induction d with
  | zero =>
    intro i fu y hi hf H hM
    obtain ⟨fu, rfl⟩ : ∃ z, fu = z + 1 := ⟨fu - 1, by omega⟩
    obtain rfl : i = q := by omega
    refine ⟨y, ?_, H, rfl, KC.rf⟩
    rw [l_X6_bestToBorrow_44, H.2.2.2.2.1.2.2.1, if_pos (q_le_self (by have := H.2.2.2.2.1.1; omega))]
  | succ d ih =>
    intro i fu y hi hf H hM
    obtain ⟨fu, rfl⟩ : ∃ z, fu = z + 1 := ⟨fu - 1, by omega⟩
    have hq := H.2.2.2.2.1.1
    have e19 := H.2.2.2.2.1.2.2.1
    have e38 := H.2.2.2.2.1.2.2.2.1
    have eh := m_home (n := n) (k := k) (g := g) (y := y) H.2.2.2.2.1 rfl rfl (show i < 20 by omega)
    by_cases hc : vw s a x i 22 i = vw s a x i 18 i ∧ ¬ vw s a x i 18 i = s
    · have R1 : QL n k q g (vS s a (vw s a x i) i) (mput (mput y 40 i s) 41 i a) := H.put
      have M1 : PM n k (vS s a (vw s a x i) i) (mput (mput y 40 i s) 41 i a) := (hM.kv (fun b hb => vS_ne (by omega) (by omega))).mc (by rw [mput_ne (by decide), mput_ne (by decide)]) (by rw [mput_ne (by decide), mput_ne (by decide)]) (by rw [mput_ne (by decide), mput_ne (by decide)]) (by rw [mput_ne (by decide), mput_ne (by decide)])
      obtain ⟨y1, b1, b2, -⟩ := m_count (s := s) R1 M1
      have f38 : y1 38 i = vw s a x i 18 i := by rw [b2 38 (by decide) (by decide), mput_ne (by decide), mput_ne (by decide), e38]
      have f39 : y1 39 i = vw s a x i 19 i := by rw [b2 39 (by decide) (by decide), mput_ne (by decide), mput_ne (by decide), H.2.2.2.2.1.2.2.2.2.1]
      have ev : vw s a x (i + 1) = vN s a (vw s a x i) i := by rw [vw, if_pos hc]
      have R2 : QL n k q g (vN s a (vw s a x i) i) (mput (mput y1 40 i (vw s a x i 18 i)) 41 i (vw s a x i 19 i)) := (R1.km b2.km).put
      have M2 : PM n k (vN s a (vw s a x i) i) (mput (mput y1 40 i (vw s a x i 18 i)) 41 i (vw s a x i 19 i)) := ((b2.pm M1).kv (fun b hb => by unfold vN; rw [mput_ne (by omega), mput_ne (by omega)])).mc (by rw [mput_ne (by decide), mput_ne (by decide)]) (by rw [mput_ne (by decide), mput_ne (by decide)]) (by rw [mput_ne (by decide), mput_ne (by decide)]) (by rw [mput_ne (by decide), mput_ne (by decide)])
      obtain ⟨y', j1, j2, j3, j4⟩ := ih (i + 1) fu (mput (mput y1 40 i (vw s a x i 18 i)) 41 i (vw s a x i 19 i)) (by omega) (by omega) (by rw [ev]; exact R2) (by rw [ev]; exact M2)
      refine ⟨y', ?_, j2, ?_, ?_⟩
      · rw [← j1, l_X6_bestToBorrow_44, e19, if_neg (nI_ge (by omega) (by omega)), eh, if_pos hc.1]
        simp only [bnd]
        rw [if_neg q_1ne0]
        simp only [if_pos (q_i20 (show i < 20 by omega)), ix_nI (show i < 2 ^ 31 by omega)]
        rw [e38, if_neg hc.2, b1]
        simp only []
        rw [f38, f39, nI_1, bt, if_pos hc]
        by_cases e : (bt n q s a x i).2 ≤ nI (qd_n (SH q (vS s a (vw s a x i) i) s) n)
        · rw [if_pos e, if_pos e, if_pos e]
        · rw [if_neg e, if_neg e, if_neg e]
      · rw [j3, mput_ne (by decide), mput_ne (by decide), b2 6 (by decide) (by decide), mput_ne (by decide), mput_ne (by decide)]
      · exact (((((KC.put (by decide)).tr (KC.put (by decide))).tr b2.kc).tr (KC.put (by decide))).tr (KC.put (by decide))).tr j4
    · have ev : vw s a x (i + 1) = vw s a x i := by rw [vw, if_neg hc]
      obtain ⟨y', j1, j2, j3, j4⟩ := ih (i + 1) fu y (by omega) (by omega) (by rw [ev]; exact H) (by rw [ev]; exact hM)
      refine ⟨y', ?_, j2, j3, j4⟩
      rw [← j1, l_X6_bestToBorrow_44, e19, if_neg (nI_ge (by omega) (by omega)), eh, bt, if_neg hc]
      simp only [bnd]
      by_cases h1 : vw s a x i 22 i = vw s a x i 18 i
      · have h2 : vw s a x i 18 i = s := Decidable.byContradiction fun e => hc ⟨h1, e⟩
        rw [if_pos h1, if_neg q_1ne0, if_pos (q_i20 (show i < 20 by omega)), ix_nI (show i < 2 ^ 31 by omega), e38, if_pos h2, nI_1]
      · rw [if_neg h1, if_pos rfl, nI_1]
theorem k_bestToBorrow (p0 p1 : Int32) : LK (f_X5_bestToBorrow p0 p1) hc_L_bestToBorrow (f_X6_bestToBorrow p0 p1) := by
  intro n k q g x R
  have hq := R.2.2.2.2.1.1
  have hn := R.1.1
  by_cases c1 : inb p0 4 = true
  · by_cases c2 : inb p1 4 = true
    · have h48 := R.2.2.2.2.1.2.1
      have hE : KX x (mE x n) := KX.mEe hn
      have hER : KR x (mE x n) := fun a ha => mE_ne (by omega)
      have b1 := x_readEnds R.px hn R.1.2.1
      have b2 := x_count (s := p0) hn R.1.2.1 hq h48 hE.ky EN.of
      obtain ⟨y', b3, b4, b5⟩ := x_btb (s := p0) (a := p1) hn R.1.2.1 hq h48 (fun v32 v33 v34 σ35 => some (0, v32, σ35)) q 0 lf (mrow (mE x n) 28 10 (LD q x p0)) (by omega) (lf_gt (by omega)) (hE.tr (KX.row (by decide))) (fun l hl h8 c hh => (congrFun (mrow_ne (by omega)) c).trans (EN.of l hl h8 c hh))
      refine Or.inr ⟨(bt n q p0 p1 x q).1, y', ?_, (hER.tr (KR.row (by decide))).tr b5, fun m hm => ?_⟩
      · simp only [f_X5_bestToBorrow, x_n4_t c1, x_n4_t c2, b1, b2, bnd, bnX, bnN, q_1ne0, q_n1, q_n2, q_n3, eq_self, not_true_eq_false, not_false_eq_true, ↓reduceIte]
        exact b3
      · obtain ⟨m', d1, d2, d3, d4, d5, d6⟩ := m_begin hm
        obtain ⟨m1, f1, f2, -⟩ := m_count (s := p0) d5 d6
        obtain ⟨m2, f3, f4, f5, f6⟩ := m_btb (n := n) (k := k) (q := q) (g := g) (x := x) (s := p0) (a := p1) (fun v40 v41 v42 σ43 => some (v40, σ43)) q 0 lf m1 (by omega) (lf_gt (by omega)) (d5.km f2.km) (f2.pm d6)
        refine ⟨m2, ?_, f5.trans ((congrFun (f2 6 (by decide) (by decide)) 0).trans d2), (d4.tr f2.kc).tr f6, n, k, q, g, f4.kx b4⟩
        simp only [f_X6_bestToBorrow, m_stage_t c1, m_area_t c2, m_fine0, d1, f1, bnd, bnX, bnN, q_1ne0, q_n1, q_n2, q_n3, eq_self, not_true_eq_false, not_false_eq_true, ↓reduceIte]
        exact f3
    · refine Or.inl (LT.of 1 1 ?_ (by decide) rfl (by decide) (fun m hm => ?_))
      · simp only [f_X5_bestToBorrow, x_n4_t c1, x_n4_f c2, bnd, bnX, bnN, q_1ne0, q_n1, q_n2, q_n3, eq_self, not_true_eq_false, not_false_eq_true, ↓reduceIte]
      · simp only [f_X6_bestToBorrow, m_stage_t c1, m_area_f c2, m_fine1, bnd, bnX, bnN, q_1ne0, q_n1, q_n2, q_n3, eq_self, not_true_eq_false, not_false_eq_true, ↓reduceIte]
  · refine Or.inl (LT.of 1 1 ?_ (by decide) rfl (by decide) (fun m hm => ?_))
    · simp only [f_X5_bestToBorrow, x_n4_f c1, bnd, bnX, bnN, q_1ne0, q_n1, q_n2, q_n3, eq_self, not_true_eq_false, not_false_eq_true, ↓reduceIte]
    · simp only [f_X6_bestToBorrow, m_stage_f c1, m_fine1, bnd, bnX, bnN, q_1ne0, q_n1, q_n2, q_n3, eq_self, not_true_eq_false, not_false_eq_true, ↓reduceIte]
end
section
/-! a performance: the log, and the wear -/
theorem KX.bothP {v y : aM} {k i : Nat} {c : Int32} (h : KX v y) : KX (mput v k i c) (mput y k i c) := fun a ha => by
  by_cases e : a = k
  · subst e
    rw [mput_row, mput_row, h a ha]
  · rw [mput_ne e, mput_ne e]
    exact h a ha
theorem mrow_row {v : aM} {k n : Nat} {f : Nat → Int32} : mrow v k n f k = fun j => if j < n then f j else v k j := if_pos rfl
theorem KX.bothR {v y : aM} {k n : Nat} {f : Nat → Int32} (h : KX v y) : KX (mrow v k n f) (mrow y k n f) := fun a ha => by
  by_cases e : a = k
  · subst e
    rw [mrow_row, mrow_row, h a ha]
  · rw [mrow_ne e, mrow_ne e]
    exact h a ha
theorem mrow_cg {v : aM} {k n : Nat} {f f' : Nat → Int32} (h : ∀ j, j < n → f j = f' j) : mrow v k n f = mrow v k n f' := by
  funext a j
  by_cases e : a = k
  · subst e
    by_cases e2 : j < n
    · rw [mrow_at e2, mrow_at e2, h j e2]
    · rw [mrow_out e2, mrow_out e2]
  · rw [mrow_ne e, mrow_ne e]
theorem mput_mrow {v : aM} {k n a i : Nat} {f : Nat → Int32} {c : Int32} (h : ¬ a = k) : mput (mrow v k n f) a i c = mrow (mput v a i c) k n f := by
  funext b j
  by_cases e : b = a
  · subst e
    rw [mput_row, mrow_ne h, mrow_ne h, mput_row]
  · rw [mput_ne e]
    by_cases e2 : b = k
    · subst e2
      rw [mrow_row, mrow_row, mput_ne e]
    · rw [mrow_ne e2, mrow_ne e2, mput_ne e]
theorem SH_ky {x x' : aM} {q l : Nat} {s : Int32} (h : KY x x') (hl : l < 30) : SH q x' s l = SH q x s l := by
  have e : LD q x' s = LD q x s := by
    funext c
    unfold LD
    rw [h 22 (by omega), h 23 (by omega), h 20 (by omega), h 9 (by omega), h 10 (by omega)]
  have e2 : (fun c => LV x' c (lastS x' l)) = fun c => LV x c (lastS x l) := by
    funext c
    rw [h.LVe, h.lastSe]
  unfold SH
  rw [e, e2, h 8 (by omega), h 22 (by omega), h 23 (by omega), h 21 (by omega), h 24 (by omega), h (58 + l) (by omega)]
theorem LD_ky {x x' : aM} {q c : Nat} {s : Int32} (h : KY x x') : LD q x' s c = LD q x s c := by
  unfold LD
  rw [h 22 (by omega), h 23 (by omega), h 20 (by omega), h 9 (by omega), h 10 (by omega)]
/-- for how many seconds a lamp has burnt -/
def qg_B (x : aM) (q : Nat) (s : Int32) (l : Nat) : Nat → Int32
  | 0 => 0
  | t + 1 => if x 22 l = s ∧ 0 < qa_L (x 24) (LD q x s) (fun h => LV x h (nI t)) l then qg_B x q s l t + 1 else qg_B x q s l t
theorem x_burn {x w : aM} {q t : Nat} {s : Int32} (hq : q ≤ 20) (h48 : x 4 8 = nI q) (hK : KY x w) (h28 : ∀ h, h < 10 → w 28 h = LD q x s h) (h27 : ∀ h, h < 10 → w 27 h = LV x h (nI t)) (h25 : ∀ l, l < q → w 25 l = qg_B x q s l t) : f_X3_burn s 28 27 w = some (0, mrow w 25 q (fun l => qg_B x q s l (t + 1))) := by
  have hl : ∀ kk : Int32 → aM → Option (Int32 × aM), l_X3_burn_3 s 28 27 lf 0 w kk = kk (nI q) (mrow w 25 q (fun l => qg_B x q s l (t + 1))) := by
    intro kk
    have key : l_X3_burn_3 s 28 27 lf (nI 0) (mrow w 25 0 (fun l => qg_B x q s l (t + 1))) kk = kk (nI q) (mrow w 25 q (fun l => qg_B x q s l (t + 1))) := by
      refine qa_loop0 (fun fu i => l_X3_burn_3 s 28 27 fu (nI i) (mrow w 25 i (fun l => qg_B x q s l (t + 1))) kk) q _ lf (lf_gt (by omega)) (fun i fu hi => ?_) (fun fu => ?_)
      · show l_X3_burn_3 s 28 27 (fu + 1) (nI i) (mrow w 25 i (fun l => qg_B x q s l (t + 1))) kk = l_X3_burn_3 s 28 27 fu (nI (i + 1)) (mrow w 25 (i + 1) (fun l => qg_B x q s l (t + 1))) kk
        have hlv := x_levelOf (x := mrow w 25 i (fun l => qg_B x q s l (t + 1))) (l := i) (a5 := 27) (ld := LD q x s) (lv := fun h => LV x h (nI t)) (by omega) (by decide) (by decide) (fun h hh => by rw [mrow_ne (by decide)]; exact h28 h hh) (fun h hh => by rw [mrow_ne (by decide)]; exact h27 h hh)
        rw [l_X3_burn_3, mrow_ne (show ¬ 4 = 25 by decide), hK 4 (by omega), h48, if_neg (nI_ge hi (by omega)), if_pos (q_i20 (show i < 20 by omega)), hlv, mrow_ne (show ¬ 22 = 25 by decide), mrow_ne (show ¬ 24 = 25 by decide), hK 22 (by omega), hK 24 (by omega), ix_nI (show i < 2 ^ 31 by omega), nI_1]
        simp only [bnd, if_pos (q_i20 (show i < 20 by omega))]
        by_cases e1 : x 22 i = s
        · rw [if_neg (fun z => z e1)]
          by_cases e2 : qa_L (x 24) (LD q x s) (fun h => LV x h (nI t)) i ≤ 0
          · have e3 : qg_B x q s i (t + 1) = qg_B x q s i t := by rw [qg_B, if_neg (fun z => i_nlt.mpr e2 z.2)]
            rw [if_pos e2, mrow_same (by rw [e3, h25 i hi])]
          · have e3 : qg_B x q s i (t + 1) = qg_B x q s i t + 1 := by rw [qg_B, if_pos ⟨e1, i_nle.mp e2⟩]
            rw [if_neg e2, mrow_out (Nat.lt_irrefl i), h25 i hi, ← e3, ← mrow_s (i := i)]
        · have e3 : qg_B x q s i (t + 1) = qg_B x q s i t := by rw [qg_B, if_neg (fun z => e1 z.1)]
          rw [if_pos e1, mrow_same (by rw [e3, h25 i hi])]
      · show l_X3_burn_3 s 28 27 (fu + 1) (nI q) _ kk = _
        rw [l_X3_burn_3, mrow_ne (show ¬ 4 = 25 by decide), hK 4 (by omega), h48, if_pos (q_le_self (by omega))]
    rw [mrow_0] at key
    exact key
  unfold f_X3_burn
  rw [hl]
theorem x_start {w : aM} {q : Nat} (hq : q ≤ 20) (h48 : w 4 8 = nI q) : f_X3_startBurning w = some (0, mrow w 25 q (fun _ => 0)) := by
  have hl : ∀ kk : Int32 → aM → Option (Int32 × aM), l_X3_startBurning_2 lf 0 w kk = kk (nI q) (mrow w 25 q (fun _ => 0)) := by
    intro kk
    have key : l_X3_startBurning_2 lf (nI 0) (mrow w 25 0 (fun _ => 0)) kk = kk (nI q) (mrow w 25 q (fun _ => 0)) := by
      refine qa_loop0 (fun fu i => l_X3_startBurning_2 fu (nI i) (mrow w 25 i (fun _ => 0)) kk) q _ lf (lf_gt (by omega)) (fun i fu hi => ?_) (fun fu => ?_)
      · show l_X3_startBurning_2 (fu + 1) (nI i) (mrow w 25 i (fun _ => 0)) kk = l_X3_startBurning_2 fu (nI (i + 1)) (mrow w 25 (i + 1) (fun _ => 0)) kk
        rw [l_X3_startBurning_2, mrow_ne (show ¬ 4 = 25 by decide), h48, if_neg (nI_ge hi (by omega)), if_pos (q_i20 (show i < 20 by omega)), ix_nI (show i < 2 ^ 31 by omega), nI_1, ← mrow_s (i := i)]
      · show l_X3_startBurning_2 (fu + 1) (nI q) _ kk = _
        rw [l_X3_startBurning_2, mrow_ne (show ¬ 4 = 25 by decide), h48, if_pos (q_le_self (by omega))]
    rw [mrow_0] at key
    exact key
  unfold f_X3_startBurning
  rw [hl]
theorem x_addBurnt {z : aM} {q : Nat} (hq : q ≤ 20) (h48 : z 4 8 = nI q) : f_X3_addBurnt z = some (0, mrow z 24 q (fun l => z 24 l + z 25 l)) := by
  have hl : ∀ kk : Int32 → aM → Option (Int32 × aM), l_X3_addBurnt_2 lf 0 z kk = kk (nI q) (mrow z 24 q (fun l => z 24 l + z 25 l)) := by
    intro kk
    have key : l_X3_addBurnt_2 lf (nI 0) (mrow z 24 0 (fun l => z 24 l + z 25 l)) kk = kk (nI q) (mrow z 24 q (fun l => z 24 l + z 25 l)) := by
      refine qa_loop0 (fun fu i => l_X3_addBurnt_2 fu (nI i) (mrow z 24 i (fun l => z 24 l + z 25 l)) kk) q _ lf (lf_gt (by omega)) (fun i fu hi => ?_) (fun fu => ?_)
      · show l_X3_addBurnt_2 (fu + 1) (nI i) (mrow z 24 i (fun l => z 24 l + z 25 l)) kk = l_X3_addBurnt_2 fu (nI (i + 1)) (mrow z 24 (i + 1) (fun l => z 24 l + z 25 l)) kk
        rw [l_X3_addBurnt_2, mrow_ne (show ¬ 4 = 24 by decide), h48, if_neg (nI_ge hi (by omega)), if_pos (q_i20 (show i < 20 by omega)), if_pos (q_i20 (show i < 20 by omega)), if_pos (q_i20 (show i < 20 by omega)), ix_nI (show i < 2 ^ 31 by omega), mrow_out (Nat.lt_irrefl i), mrow_ne (show ¬ 25 = 24 by decide), nI_1, ← mrow_s (i := i)]
      · show l_X3_addBurnt_2 (fu + 1) (nI q) _ kk = _
        rw [l_X3_addBurnt_2, mrow_ne (show ¬ 4 = 24 by decide), h48, if_pos (q_le_self (by omega))]
    rw [mrow_0] at key
    exact key
  unfold f_X3_addBurnt
  rw [hl]
/-- CueTour's rows behind t seconds -/
def zC (x b : aM) (q : Nat) (s : Int32) : Nat → aM
  | 0 => mrow b 25 q (fun _ => 0)
  | t + 1 => mrow (mrow (zC x b q s t) 27 10 (fun h => LV x h (nI t))) 25 q (fun l => qg_B x q s l (t + 1))
theorem zC_ne {x b : aM} {q a : Nat} {s : Int32} (h : ¬ a = 25) (h2 : ¬ a = 27) : ∀ t, zC x b q s t a = b a
  | 0 => mrow_ne h
  | t + 1 => by
    unfold zC
    rw [mrow_ne h, mrow_ne h2, zC_ne h h2 t]
theorem zC_25 {x b : aM} {q l : Nat} {s : Int32} (hl : l < q) : ∀ t, zC x b q s t 25 l = qg_B x q s l t
  | 0 => by
    unfold zC
    rw [mrow_at hl]
    rfl
  | t + 1 => by
    unfold zC
    rw [mrow_at hl]
theorem x_wearOut {x b : aM} {n q T : Nat} {s : Int32} (hn : n ≤ 30) (h13 : x 1 3 = nI n) (hq : q ≤ 20) (h48 : x 4 8 = nI q) (hPX : QX x) (hK : KY x b) (h28 : ∀ h, h < 10 → b 28 h = LD q x s h) (hT : sa (x 7) (x 8) n = nI T) (hT2 : T ≤ 1000) : f_X5_wearOut s b = some (0, mrow (zC x b q s T) 24 q (fun l => x 24 l + qg_B x q s l T)) := by
  have hz : ∀ t, KY x (zC x b q s t) := fun t a ha => (zC_ne (by omega) (by omega) t).trans (hK a ha)
  have e48 : ∀ t, zC x b q s t 4 8 = nI q := fun t => by rw [hz t 4 (by omega)]; exact h48
  have hl : ∀ kk : Int32 → aM → Option (Int32 × aM), l_X5_wearOut_17 s (nI T) lf 0 (mrow b 25 q (fun _ => 0)) kk = kk (nI T) (zC x b q s T) := by
    intro kk
    have key : l_X5_wearOut_17 s (nI T) lf (nI 0) (zC x b q s 0) kk = kk (nI T) (zC x b q s T) := by
      refine qa_loop0 (fun fu t => l_X5_wearOut_17 s (nI T) fu (nI t) (zC x b q s t) kk) T _ lf (lf_gt (by omega)) (fun t fu ht => ?_) (fun fu => ?_)
      · show l_X5_wearOut_17 s (nI T) (fu + 1) (nI t) (zC x b q s t) kk = l_X5_wearOut_17 s (nI T) fu (nI (t + 1)) (zC x b q s (t + 1)) kk
        have b1 := x_fill (x := zC x b q s t) (a := 27) (t := nI t) (hPX.ky (hz t)) (by decide) (by decide) (Or.inl rfl)
        have e1 : (fun h => LV (zC x b q s t) h (nI t)) = fun h => LV x h (nI t) := by
          funext h
          rw [(hz t).LVe]
        rw [e1] at b1
        have b2 := x_burn (x := x) (w := mrow (zC x b q s t) 27 10 (fun h => LV x h (nI t))) (q := q) (t := t) (s := s) hq h48 ((hz t).tr (KY.row (by decide))) (fun h hh => by rw [mrow_ne (by decide), zC_ne (by decide) (by decide) t]; exact h28 h hh) (fun h hh => by rw [mrow_at hh]) (fun l hl => by rw [mrow_ne (by decide), zC_25 hl t])
        rw [l_X5_wearOut_17, if_neg (nI_ge ht (by omega)), b1]
        simp only [bnd]
        rw [b2]
        simp only []
        rw [nI_1]
        rfl
      · show l_X5_wearOut_17 s (nI T) (fu + 1) (nI T) _ kk = _
        rw [l_X5_wearOut_17, if_pos (q_le_self (by omega))]
    exact key
  unfold f_X5_wearOut f_X4_total
  rw [hK 1 (by omega), h13, x_ahead hn, hK 7 (by omega), hK 8 (by omega), hT]
  simp only [bnd]
  rw [x_start hq (by rw [hK 4 (by omega)]; exact h48)]
  simp only []
  rw [hl]
  rw [x_addBurnt hq (e48 T)]
  simp only []
  rw [mrow_cg (f' := fun l => x 24 l + qg_B x q s l T) (fun l hl => by rw [hz T 24 (by omega), zC_25 hl T])]
theorem x_writeLog {x y : aM} {n q g : Nat} {s : Int32} (hn : n ≤ 30) (h13 : x 1 3 = nI n) (hq : q ≤ 20) (h48 : x 4 8 = nI q) (hg : g < 20) (h52 : y 5 2 = nI g) (hK : KY x y) (h28 : ∀ h, h < 10 → y 28 h = LD q x s h) (hE : EN n x y) : f_X5_writeLog s y = some (0, mrow (mput (mput y 26 g s) 5 2 (nI (g + 1))) (158 + g) n (SH q x s)) := by
  generalize hw : mput (mput y 26 g s) 5 2 (nI (g + 1)) = w
  have hKw : KY x w := by rw [← hw]; exact (hK.tr (KY.put (by decide))).tr (KY.put (by decide))
  have w28 : ∀ h, h < 10 → w 28 h = LD q x s h := fun h hh => by rw [← hw, mput_ne (by decide), mput_ne (by decide)]; exact h28 h hh
  have wE : EN n x w := fun l hl h8 h hh => by rw [← hw, mput_ne (by omega), mput_ne (by omega)]; exact hE l hl h8 h hh
  have hl : ∀ kk : Int32 → aM → Option (Int32 × aM), l_X5_writeLog_11 s (nI g) lf 0 w kk = kk (nI n) (mrow w (158 + g) n (SH q x s)) := by
    intro kk
    have key : l_X5_writeLog_11 s (nI g) lf (nI 0) (mrow w (158 + g) 0 (SH q x s)) kk = kk (nI n) (mrow w (158 + g) n (SH q x s)) := by
      refine qa_loop0 (fun fu i => l_X5_writeLog_11 s (nI g) fu (nI i) (mrow w (158 + g) i (SH q x s)) kk) n _ lf (lf_gt (by omega)) (fun i fu hi => ?_) (fun fu => ?_)
      · show l_X5_writeLog_11 s (nI g) (fu + 1) (nI i) (mrow w (158 + g) i (SH q x s)) kk = l_X5_writeLog_11 s (nI g) fu (nI (i + 1)) (mrow w (158 + g) (i + 1) (SH q x s)) kk
        have hKi : KY x (mrow w (158 + g) i (SH q x s)) := hKw.tr (KY.row (by omega))
        rw [l_X5_writeLog_11, hKi 1 (by omega), h13, if_neg (nI_ge hi (by omega)), if_pos (q_i20 hg), x_short hq h48 hKi (by omega) (fun h hh => by rw [mrow_ne (by omega)]; exact w28 h hh) (fun h8 h hh => by rw [mrow_ne (by omega)]; exact wE i hi h8 h hh)]
        simp only [bnd]
        rw [if_pos (q_i30 (show i < 30 by omega)), ix_nI (show g < 2 ^ 31 by omega), ix_nI (show i < 2 ^ 31 by omega), nI_1, ← mrow_s (i := i)]
      · show l_X5_writeLog_11 s (nI g) (fu + 1) (nI n) _ kk = _
        rw [l_X5_writeLog_11, mrow_ne (by omega), hKw 1 (by omega), h13, if_pos (q_le_self (by omega))]
    rw [mrow_0] at key
    exact key
  unfold f_X5_writeLog f_X0_append
  rw [h52, if_pos (q_i20 hg), ix_nI (show g < 2 ^ 31 by omega), nI_1, nI_pred]
  simp only [bnd]
  rw [hw, hl]
end
section
/-! a performance: the reference; both -/
def xv (x : aM) (q g : Nat) (s : Int32) (i : Nat) : aM := mrow (mput x 26 g s) (158 + g) i (SH q x s)
theorem KY.xve {x : aM} {q g i : Nat} {s : Int32} (hg : g < 20) : KY x (xv x q g s i) := (KY.put (by decide)).tr (KY.row (by omega))
/-- one line is written into both logs -/
theorem QL.log {n k q g i : Nat} {v y : aM} {w : Int32} (H : QL n k q g v y) (hg : g < 20) (hi : i < 30) : QL n k q g (mput v (158 + g) i w) (mput y 46 (30 * g + i) w) := by
  obtain ⟨r1, r2, r3, r4, r5, ⟨g1, g2, g3, g4, g5⟩⟩ := H
  refine ⟨r1.cg (fun a ha => mput_ne (by omega)) (by rw [mput_ne (by decide)]) (fun a ha => mput_ne (by omega)), r2.cg (mput_ne (by omega)) (mput_ne (by omega)) (mput_ne (by omega)) (mput_ne (by omega)), r3.cg (by rw [mput_ne (by omega)]) (fun a ha => mput_ne (by omega)) (by rw [mput_ne (by decide)]) (fun a ha => mput_ne (by omega)), r4.ka r3.1.1 (fun a ha => mput_ne (by omega)) (fun c _ => qc_t_eq (mput_ne (by omega)) (mput_ne (by omega)) (mput_ne (by omega)) (mput_ne (by omega))), r5.cg (fun a ha => mput_ne (by omega)) (by rw [mput_ne (by decide)]) (fun a ha => mput_ne (by omega)), g1, ?_, ?_, ?_, fun u l hu hl => ?_⟩
  · rw [mput_ne (by omega)]; exact g2
  · rw [mput_ne (by decide)]; exact g3
  · rw [mput_ne (by decide), mput_ne (by omega)]; exact g4
  · by_cases e : u = g ∧ l = i
    · rw [e.1, e.2, mput_self, mput_self]
    · rw [mput_other (by omega), g5 u l hu hl]
      by_cases e2 : u = g
      · rw [e2, mput_other (by omega)]
      · rw [mput_ne (by omega)]
/-- the stage is written into both logs -/
theorem QL.stg {n k q g : Nat} {v y : aM} {w : Int32} (H : QL n k q g v y) : QL n k q g (mput v 26 g w) (mput y 45 g w) := by
  obtain ⟨r1, r2, r3, r4, r5, ⟨g1, g2, g3, g4, g5⟩⟩ := H
  refine ⟨r1.cg (fun a ha => mput_ne (by omega)) (by rw [mput_ne (by decide)]) (fun a ha => mput_ne (by omega)), r2.cg (mput_ne (by omega)) (mput_ne (by omega)) (mput_ne (by omega)) (mput_ne (by omega)), r3.cg (by rw [mput_ne (by omega)]) (fun a ha => mput_ne (by omega)) (by rw [mput_ne (by decide)]) (fun a ha => mput_ne (by omega)), r4.ka r3.1.1 (fun a ha => mput_ne (by omega)) (fun c _ => qc_t_eq (mput_ne (by omega)) (mput_ne (by omega)) (mput_ne (by omega)) (mput_ne (by omega))), r5.cg (fun a ha => mput_ne (by omega)) (by rw [mput_ne (by decide)]) (fun a ha => mput_ne (by omega)), g1, ?_, ?_, ?_, fun u l hu hl => ?_⟩
  · rw [mput_ne (by omega)]; exact g2
  · rw [mput_ne (by decide)]; exact g3
  · rw [mput_row, mput_row, g4]
  · rw [mput_ne (by decide), mput_ne (by omega)]; exact g5 u l hu hl
/-- one log more in both -/
theorem QL.cnt {n k q g : Nat} {v y : aM} (H : QL n k q g v y) (hg : g < 20) : QL n k q (g + 1) (mput v 5 2 (nI (g + 1))) (mput y 6 22 (nI (g + 1))) := by
  obtain ⟨r1, r2, r3, r4, r5, ⟨g1, g2, g3, g4, g5⟩⟩ := H
  refine ⟨r1.cg (fun a ha => mput_ne (by omega)) (by rw [mput_other (by decide)]) (fun a ha => mput_ne (by omega)), r2.cg (mput_ne (by omega)) (mput_ne (by omega)) (mput_ne (by omega)) (mput_ne (by omega)), r3.cg (by rw [mput_ne (by omega)]) (fun a ha => mput_ne (by omega)) (by rw [mput_other (by decide)]) (fun a ha => mput_ne (by omega)), r4.ka r3.1.1 (fun a ha => mput_ne (by omega)) (fun c _ => qc_t_eq (mput_ne (by omega)) (mput_ne (by omega)) (mput_ne (by omega)) (mput_ne (by omega))), r5.cg (fun a ha => mput_ne (by omega)) (by rw [mput_other (by decide)]) (fun a ha => mput_ne (by omega)), hg, mput_self, mput_self, ?_, fun u l hu hl => ?_⟩
  · rw [mput_ne (by decide), mput_ne (by omega)]; exact g4
  · rw [mput_ne (by decide), mput_ne (by omega)]; exact g5 u l hu hl
theorem m_plog {n k q g : Nat} {x : aM} {s r0 : Int32} (hg : g < 20) (kk : Int32 → Int32 → aM → Option (Int32 × aM)) : ∀ (d i fu : Nat) (y : aM), i + d = n → d < fu → QL n k q g (xv x q g s i) y → PM n k x y → (∀ h, h < 10 → y 50 h = LD q x s h) → ∃ y', l_X6_perform_71 s r0 fu (nI (qd_n (SH q x s) i)) (nI i) y kk = kk (nI (qd_n (SH q x s) n)) (nI n) y' ∧ QL n k q g (xv x q g s n) y' ∧ PM n k x y' ∧ (∀ h, h < 10 → y' 50 h = LD q x s h) ∧ y' 6 0 = y 6 0 ∧ KC y y' := by
  intro d
  induction d with
  | zero =>
    intro i fu y hi hf H hM h50
    obtain ⟨fu, rfl⟩ : ∃ z, fu = z + 1 := ⟨fu - 1, by omega⟩
    obtain rfl : i = n := by omega
    have hn := H.1.1
    refine ⟨y, ?_, H, hM, h50, rfl, KC.rf⟩
    rw [l_X6_perform_71, H.1.2.2.1, if_pos (q_le_self (by omega))]
  | succ d ih =>
    intro i fu y hi hf H hM h50
    obtain ⟨fu, rfl⟩ : ∃ z, fu = z + 1 := ⟨fu - 1, by omega⟩
    have hn := H.1.1
    have hY : KY x (xv x q g s i) := KY.xve hg
    have b1 := m_short (s := s) H (hM.kv hY.kv) (show i < n by omega) (fun h hh => by rw [h50 h hh, LD_ky hY])
    rw [SH_ky hY (by omega)] at b1
    have hE : E5 y (if xv x q g s i 8 i = 0 then mrow y 51 10 (fun h => LV (xv x q g s i) h (lastS (xv x q g s i) i)) else y) ∧ (if xv x q g s i 8 i = 0 then mrow y 51 10 (fun h => LV (xv x q g s i) h (lastS (xv x q g s i) i)) else y) 50 = y 50 := by
      split
      · exact ⟨fun a h1 h2 => mrow_ne h2, mrow_ne (by decide)⟩
      · exact ⟨E5.rf, rfl⟩
    generalize hy1 : (if xv x q g s i 8 i = 0 then mrow y 51 10 (fun h => LV (xv x q g s i) h (lastS (xv x q g s i) i)) else y) = y1 at b1 hE
    have R1 : QL n k q g (xv x q g s (i + 1)) (mput y1 46 (30 * g + i) (SH q x s i)) := by
      have := (H.km hE.1.km).log (i := i) (w := SH q x s i) hg (by omega)
      unfold xv at this ⊢
      rw [mrow_s] at this
      exact this
    have M1 : PM n k x (mput y1 46 (30 * g + i) (SH q x s i)) := (hE.1.pm hM).mc (mput_ne (by decide)) (mput_ne (by decide)) (mput_ne (by decide)) (mput_ne (by decide))
    obtain ⟨y', j1, j2, j3, j4, j5, j6⟩ := ih (i + 1) fu (mput y1 46 (30 * g + i) (SH q x s i)) (by omega) (by omega) R1 M1 (fun h hh => by rw [mput_ne (by decide), hE.2]; exact h50 h hh)
    refine ⟨y', ?_, j2, j3, j4, ?_, (hE.1.kc.tr (KC.put (by decide))).tr j6⟩
    · rw [← j1, l_X6_perform_71, H.1.2.2.1, if_neg (nI_ge (by omega) (by omega)), b1]
      simp only [bnd]
      rw [hE.1 6 (by decide) (by decide), H.2.2.2.2.2.2.2.1, q_30, if_pos (inb_nI (show 30 * g + i < 600 by omega) (by decide)), ix_nI (show 30 * g + i < 2 ^ 31 by omega), nI_1, nI_1, Int32.add_zero, qd_n]
      by_cases e : SH q x s i = 0
      · rw [if_pos e, if_pos e]
      · rw [if_neg e, if_neg e]
    · rw [j5, mput_ne (by decide), hE.1 6 (by decide) (by decide)]
/-- the reference's rows behind t seconds -/
def zM (x b : aM) (q : Nat) (s : Int32) : Nat → aM
  | 0 => mrow b 52 q (fun _ => 0)
  | t + 1 => mrow (mrow (zM x b q s t) 51 10 (fun h => LV x h (nI t))) 52 q (fun l => qg_B x q s l (t + 1))
theorem zM_ne {x b : aM} {q a : Nat} {s : Int32} (h : ¬ a = 52) (h2 : ¬ a = 51) : ∀ t, zM x b q s t a = b a
  | 0 => mrow_ne h
  | t + 1 => by
    unfold zM
    rw [mrow_ne h, mrow_ne h2, zM_ne h h2 t]
theorem zM_52 {x b : aM} {q l : Nat} {s : Int32} (hl : l < q) : ∀ t, zM x b q s t 52 l = qg_B x q s l t
  | 0 => by
    unfold zM
    rw [mrow_at hl]
    rfl
  | t + 1 => by
    unfold zM
    rw [mrow_at hl]
theorem m_burns {x w : aM} {q t : Nat} {s a b : Int32} (hq : q ≤ 20) (h19 : w 6 19 = nI q) (e40 : w 40 = x 22) (e44 : w 44 = x 24) (h50 : ∀ h, h < 10 → w 50 h = LD q x s h) (h51 : ∀ h, h < 10 → w 51 h = LV x h (nI t)) (h52 : ∀ l, l < q → w 52 l = qg_B x q s l t) (kk : Int32 → aM → Option (Int32 × aM)) : l_X6_wears_47 s a b lf 0 w kk = kk (nI q) (mrow w 52 q (fun l => qg_B x q s l (t + 1))) := by
  have key : l_X6_wears_47 s a b lf (nI 0) (mrow w 52 0 (fun l => qg_B x q s l (t + 1))) kk = kk (nI q) (mrow w 52 q (fun l => qg_B x q s l (t + 1))) := by
    refine qa_loop0 (fun fu i => l_X6_wears_47 s a b fu (nI i) (mrow w 52 i (fun l => qg_B x q s l (t + 1))) kk) q _ lf (lf_gt (by omega)) (fun i fu hi => ?_) (fun fu => ?_)
    · show l_X6_wears_47 s a b (fu + 1) (nI i) (mrow w 52 i (fun l => qg_B x q s l (t + 1))) kk = l_X6_wears_47 s a b fu (nI (i + 1)) (mrow w 52 (i + 1) (fun l => qg_B x q s l (t + 1))) kk
      have hlv := m_lampNow (m := mrow w 52 i (fun l => qg_B x q s l (t + 1))) (l := i) (ld := LD q x s) (lv := fun h => LV x h (nI t)) (by omega) (fun h hh => by rw [mrow_ne (by decide)]; exact h50 h hh) (fun h hh => by rw [mrow_ne (by decide)]; exact h51 h hh)
      rw [l_X6_wears_47, mrow_ne (show ¬ 6 = 52 by decide), h19, if_neg (nI_ge hi (by omega)), hlv, mrow_ne (show ¬ 40 = 52 by decide), mrow_ne (show ¬ 44 = 52 by decide), e40, e44, ix_nI (show i < 2 ^ 31 by omega), nI_1]
      simp only [bnd, if_pos (q_i20 (show i < 20 by omega)), mrow_out (Nat.lt_irrefl i), h52 i hi, Int32.add_zero]
      rw [← mrow_s (i := i)]
      by_cases e1 : x 22 i = s
      · rw [if_neg (fun z => z e1)]
        by_cases e2 : qa_L (x 24) (LD q x s) (fun h => LV x h (nI t)) i ≤ 0
        · have e3 : qg_B x q s i (t + 1) = qg_B x q s i t := by rw [qg_B, if_neg (fun z => i_nlt.mpr e2 z.2)]
          rw [if_pos e2, e3]
        · have e3 : qg_B x q s i (t + 1) = qg_B x q s i t + 1 := by rw [qg_B, if_pos ⟨e1, i_nle.mp e2⟩]
          rw [if_neg e2, e3]
      · have e3 : qg_B x q s i (t + 1) = qg_B x q s i t := by rw [qg_B, if_neg (fun z => e1 z.1)]
        rw [if_pos e1, e3]
    · show l_X6_wears_47 s a b (fu + 1) (nI q) _ kk = _
      rw [l_X6_wears_47, mrow_ne (show ¬ 6 = 52 by decide), h19, if_pos (q_le_self (by omega))]
  rw [mrow_0] at key
  exact key
theorem m_wear0 {w : aM} {q : Nat} {s : Int32} (hq : q ≤ 20) (h19 : w 6 19 = nI q) (kk : Int32 → aM → Option (Int32 × aM)) : l_X6_wears_2 s lf 0 w kk = kk (nI q) (mrow w 52 q (fun _ => 0)) := by
  have key : l_X6_wears_2 s lf (nI 0) (mrow w 52 0 (fun _ => 0)) kk = kk (nI q) (mrow w 52 q (fun _ => 0)) := by
    refine qa_loop0 (fun fu i => l_X6_wears_2 s fu (nI i) (mrow w 52 i (fun _ => 0)) kk) q _ lf (lf_gt (by omega)) (fun i fu hi => ?_) (fun fu => ?_)
    · show l_X6_wears_2 s (fu + 1) (nI i) (mrow w 52 i (fun _ => 0)) kk = l_X6_wears_2 s fu (nI (i + 1)) (mrow w 52 (i + 1) (fun _ => 0)) kk
      rw [l_X6_wears_2, mrow_ne (show ¬ 6 = 52 by decide), h19, if_neg (nI_ge hi (by omega)), if_pos (q_i20 (show i < 20 by omega)), ix_nI (show i < 2 ^ 31 by omega), nI_1, ← mrow_s (i := i)]
    · show l_X6_wears_2 s (fu + 1) (nI q) _ kk = _
      rw [l_X6_wears_2, mrow_ne (show ¬ 6 = 52 by decide), h19, if_pos (q_le_self (by omega))]
  rw [mrow_0] at key
  exact key
theorem m_wear2 {z : aM} {q : Nat} {s a : Int32} (hq : q ≤ 20) (h19 : z 6 19 = nI q) (kk : Int32 → aM → Option (Int32 × aM)) : l_X6_wears_105 s a lf 0 z kk = kk (nI q) (mrow z 44 q (fun l => z 44 l + z 52 l)) := by
  have key : l_X6_wears_105 s a lf (nI 0) (mrow z 44 0 (fun l => z 44 l + z 52 l)) kk = kk (nI q) (mrow z 44 q (fun l => z 44 l + z 52 l)) := by
    refine qa_loop0 (fun fu i => l_X6_wears_105 s a fu (nI i) (mrow z 44 i (fun l => z 44 l + z 52 l)) kk) q _ lf (lf_gt (by omega)) (fun i fu hi => ?_) (fun fu => ?_)
    · show l_X6_wears_105 s a (fu + 1) (nI i) (mrow z 44 i (fun l => z 44 l + z 52 l)) kk = l_X6_wears_105 s a fu (nI (i + 1)) (mrow z 44 (i + 1) (fun l => z 44 l + z 52 l)) kk
      rw [l_X6_wears_105, mrow_ne (show ¬ 6 = 44 by decide), h19, if_neg (nI_ge hi (by omega)), if_pos (q_i20 (show i < 20 by omega)), if_pos (q_i20 (show i < 20 by omega)), if_pos (q_i20 (show i < 20 by omega)), ix_nI (show i < 2 ^ 31 by omega), mrow_out (Nat.lt_irrefl i), mrow_ne (show ¬ 52 = 44 by decide), nI_1, ← mrow_s (i := i)]
    · show l_X6_wears_105 s a (fu + 1) (nI q) _ kk = _
      rw [l_X6_wears_105, mrow_ne (show ¬ 6 = 44 by decide), h19, if_pos (q_le_self (by omega))]
  rw [mrow_0] at key
  exact key
theorem m_wears {n k q g T : Nat} {x v b : aM} {s : Int32} (H : QL n k q g v b) (hY : KY x v) (hM : PM n k x b) (h50 : ∀ h, h < 10 → b 50 h = LD q x s h) (hT : sa (x 7) (x 8) n = nI T) (hT2 : T ≤ 1000) : f_X6_wears s b = some (0, mrow (zM x b q s T) 44 q (fun l => x 24 l + qg_B x q s l T)) := by
  obtain ⟨hq, -, e19, -, -, e40, -, -, -, e44⟩ := H.2.2.2.2.1
  have kz : ∀ t, KM b (zM x b q s t) := fun t => ⟨fun a ha => zM_ne (by omega) (by omega) t, by rw [zM_ne (by decide) (by decide) t], by rw [zM_ne (by decide) (by decide) t], by rw [zM_ne (by decide) (by decide) t], by rw [zM_ne (by decide) (by decide) t]⟩
  have mz : ∀ t, PM n k x (zM x b q s t) := fun t => hM.mc (zM_ne (by decide) (by decide) t) (zM_ne (by decide) (by decide) t) (zM_ne (by decide) (by decide) t) (zM_ne (by decide) (by decide) t)
  have hl : ∀ kk : Int32 → aM → Option (Int32 × aM), l_X6_wears_34 s (nI T) lf 0 (mrow b 52 q (fun _ => 0)) kk = kk (nI T) (zM x b q s T) := by
    intro kk
    have key : l_X6_wears_34 s (nI T) lf (nI 0) (zM x b q s 0) kk = kk (nI T) (zM x b q s T) := by
      refine qa_loop0 (fun fu t => l_X6_wears_34 s (nI T) fu (nI t) (zM x b q s t) kk) T _ lf (lf_gt (by omega)) (fun t fu ht => ?_) (fun fu => ?_)
      · show l_X6_wears_34 s (nI T) (fu + 1) (nI t) (zM x b q s t) kk = l_X6_wears_34 s (nI T) fu (nI (t + 1)) (zM x b q s (t + 1)) kk
        have b1 := m_lights (t := t) (H.km (kz t)) ((mz t).kv hY.kv) (by omega)
        have e1 : (fun h => LV v h (nI t)) = fun h => LV x h (nI t) := by
          funext h
          rw [hY.LVe]
        rw [e1] at b1
        rw [l_X6_wears_34, if_neg (nI_ge ht (by omega)), b1]
        simp only [bnd]
        rw [m_burns (x := x) (w := mrow (zM x b q s t) 51 10 (fun h => LV x h (nI t))) (q := q) (t := t) hq (by rw [mrow_ne (by decide), (kz t).2.2.2.1]; exact e19) (by rw [mrow_ne (by decide), (kz t).1 40 (by omega), e40, hY 22 (by omega)]) (by rw [mrow_ne (by decide), (kz t).1 44 (by omega), e44, hY 24 (by omega)]) (fun h hh => by rw [mrow_ne (by decide), zM_ne (by decide) (by decide) t]; exact h50 h hh) (fun h hh => by rw [mrow_at hh]) (fun l hl => by rw [mrow_ne (by decide), zM_52 hl t])]
        rw [nI_1]
        rfl
      · show l_X6_wears_34 s (nI T) (fu + 1) (nI T) _ kk = _
        rw [l_X6_wears_34, if_pos (q_le_self (by omega))]
    exact key
  unfold f_X6_wears
  rw [m_wear0 hq e19]
  have e9 : f_X6_ahead (mrow b 52 q (fun _ => 0) 6 4) (mrow b 52 q (fun _ => 0)) = some (nI T, mrow b 52 q (fun _ => 0)) := by
    have h := m_total H.1 (y := mrow b 52 q (fun _ => 0)) (by rw [mrow_ne (by decide)]) (mrow_ne (by decide)) (mrow_ne (by decide))
    rw [h, hY 7 (by omega), hY 8 (by omega), hT]
  rw [e9]
  simp only [bnd]
  rw [hl, m_wear2 hq (by rw [(kz T).2.2.2.1]; exact e19)]
  rw [mrow_cg (f' := fun l => x 24 l + qg_B x q s l T) (fun l hl => by rw [(kz T).1 44 (by omega), e44, hY 24 (by omega), zM_52 hl T])]
theorem k_perform (p0 : Int32) : LK (f_X5_perform p0) hc_L_perform (f_X6_perform p0) := by
  intro n k q g x R
  have hq := R.2.2.2.2.1.1
  have hn := R.1.1
  have hg0 := R.2.2.2.2.2.1
  obtain ⟨T, hT1, hT⟩ := sa_nat (x8 := x 8) R.1.2.2.2.2.2.1 n (Nat.le_refl n)
  have hT2 : T ≤ 1000 := by omega
  have xt : f_X4_total x = some (nI T, x) := by rw [x_total R.1 rfl rfl rfl, hT]
  have mt : ∀ m, QL n k q g x m → f_X6_ahead (nI n) m = some (nI T, m) := fun m hm => by
    have h := m_total hm.1 (y := m) rfl rfl rfl
    rw [hm.1.2.2.1, hT] at h
    exact h
  by_cases c1 : inb p0 4 = true
  · by_cases c2 : T = 0
    · have e1 : nI T ≤ 0 := by rw [c2]; exact Int32.le_refl 0
      have e2 : nI T = 0 := by rw [c2]; rfl
      refine Or.inl (LT.of 3 2 ?_ (by decide) rfl (by decide) (fun m hm => ?_))
      · simp only [f_X5_perform, x_n4_t c1, xt, if_pos e1, x_st_0, bnd, bnX, bnN, q_1ne0, q_n1, q_n2, q_n3, eq_self, not_true_eq_false, not_false_eq_true, ↓reduceIte]
      · simp only [f_X6_perform, m_stage_t c1, hm.1.2.2.1, mt m hm, if_pos e2, m_fine2, bnd, bnX, bnN, q_1ne0, q_n1, q_n2, q_n3, eq_self, not_true_eq_false, not_false_eq_true, ↓reduceIte]
    · have e1 : ¬ nI T ≤ 0 := nI_nle (by omega) (by omega)
      have e2 : ¬ nI T = 0 := nI_ne0 (by omega) (by omega)
      by_cases c3 : g < 20
      · have c3x : nI g < 20 := q_room (N := 20) c3 (by decide)
        have c3m : ¬ nI g = 20 := fun e => absurd ((nI_eq (a := g) (b := 20) (by omega) (by decide)).mp e) (by omega)
        have h48 := R.2.2.2.2.1.2.1
        have h52 := R.2.2.2.2.2.2.1
        have hE : KX x (mE x n) := KX.mEe hn
        have hER : KR x (mE x n) := fun a ha => mE_ne (by omega)
        have b1 := x_readEnds R.px hn R.1.2.1
        have b2 := x_count (s := p0) hn R.1.2.1 hq h48 hE.ky EN.of
        have hC : KX x (mrow (mE x n) 28 10 (LD q x p0)) := hE.tr (KX.row (by decide))
        have hCR : KR x (mrow (mE x n) 28 10 (LD q x p0)) := hER.tr (KR.row (by decide))
        have hC28 : ∀ h, h < 10 → mrow (mE x n) 28 10 (LD q x p0) 28 h = LD q x p0 h := fun h hh => mrow_at hh
        have hCE : EN n x (mrow (mE x n) 28 10 (LD q x p0)) := fun l hl h8 c hh => (congrFun (mrow_ne (by omega)) c).trans (EN.of l hl h8 c hh)
        generalize hxC : mrow (mE x n) 28 10 (LD q x p0) = xC at b2 hC hCR hC28 hCE
        have b3 := x_writeLog (s := p0) hn R.1.2.1 hq h48 c3 (by rw [hC 5 (by omega)]; exact h52) hC.ky hC28 hCE
        have hW : KX (mrow (mput (mput x 26 g p0) 5 2 (nI (g + 1))) (158 + g) n (SH q x p0)) (mrow (mput (mput xC 26 g p0) 5 2 (nI (g + 1))) (158 + g) n (SH q x p0)) := hC.bothP.bothP.bothR
        have hWR : KR x (mrow (mput (mput xC 26 g p0) 5 2 (nI (g + 1))) (158 + g) n (SH q x p0)) := ((hCR.tr (KR.put (by decide))).tr (KR.put (by decide))).tr (KR.row (by omega))
        have hWY : KY x (mrow (mput (mput xC 26 g p0) 5 2 (nI (g + 1))) (158 + g) n (SH q x p0)) := ((hC.ky.tr (KY.put (by decide))).tr (KY.put (by decide))).tr (KY.row (by omega))
        have hW28 : ∀ h, h < 10 → mrow (mput (mput xC 26 g p0) 5 2 (nI (g + 1))) (158 + g) n (SH q x p0) 28 h = LD q x p0 h := fun h hh => by
          rw [mrow_ne (by omega), mput_ne (by decide), mput_ne (by decide)]
          exact hC28 h hh
        generalize hxW : mrow (mput (mput xC 26 g p0) 5 2 (nI (g + 1))) (158 + g) n (SH q x p0) = xW at b3 hW hWR hWY hW28
        have b4 := x_wearOut (x := x) (b := xW) (s := p0) (T := T) hn R.1.2.1 hq h48 R.px hWY hW28 hT hT2
        have hZ : KX xW (zC x xW q p0 T) := fun a ha => zC_ne (by omega) (by omega) T
        have hZR : KR xW (zC x xW q p0 T) := fun a ha => zC_ne (by omega) (by omega) T
        refine Or.inr ⟨nI (qd_n (SH q x p0) n), mrow (zC x xW q p0 T) 24 q (fun l => x 24 l + qg_B x q p0 l T), ?_, (hWR.tr hZR).tr (KR.row (by decide)), fun m hm => ?_⟩
        · have e13 : mE x n 5 2 = nI g := by rw [hE 5 (by omega)]; exact h52
          simp only [f_X5_perform, x_n4_t c1, xt, if_neg e1, x_st_1, h52, x_room_t c3x, b1, b2, b3, b4, bnd, bnX, bnN, q_1ne0, q_n1, q_n2, q_n3, eq_self, not_true_eq_false, not_false_eq_true, ↓reduceIte]
        · obtain ⟨m', d1, d2, d3, d4, d5, d6⟩ := m_begin hm
          have f1 := m_lay2 (s := p0) d5
          have hK1 : KM m' (mrow m' 50 10 (LD q x p0)) := KM.row (by decide)
          have R0 : QL n k q g (xv x q g p0 0) (mput (mrow m' 50 10 (LD q x p0)) 45 g p0) := by
            have := (d5.km hK1).stg (w := p0)
            unfold xv
            rw [mrow_0]
            exact this
          have M0 : PM n k x (mput (mrow m' 50 10 (LD q x p0)) 45 g p0) := (d6.row (a := 50) (i := 10) (f := LD q x p0) (by decide)).mc (mput_ne (by decide)) (mput_ne (by decide)) (mput_ne (by decide)) (mput_ne (by decide))
          obtain ⟨y, g1, g2, g3, g4, g5, g6⟩ := m_plog (n := n) (k := k) (q := q) (x := x) (s := p0) (r0 := 1) c3 (fun v49 v50 σ51 => bnd (f_X6_wears p0 (mput σ51 6 22 ((σ51 6 22) + 1))) (fun r52 σ53 => some (v49, σ53))) n 0 lf (mput (mrow m' 50 10 (LD q x p0)) 45 g p0) (by omega) (lf_gt (by omega)) R0 M0 (fun h hh => by rw [mput_ne (by decide), mrow_at hh])
          have e22 : mrow m' 50 10 (LD q x p0) 6 22 = nI g := by rw [mrow_ne (by decide)]; exact d5.2.2.2.2.2.2.2.1
          have R1 : QL n k q (g + 1) (mput (xv x q g p0 n) 5 2 (nI (g + 1))) (mput y 6 22 (nI (g + 1))) := g2.cnt c3
          have hY1 : KY x (mput (xv x q g p0 n) 5 2 (nI (g + 1))) := (KY.xve c3).tr (KY.put (by decide))
          have M1 : PM n k x (mput y 6 22 (nI (g + 1))) := by
            obtain ⟨z1, z2, z3, z4⟩ := g3
            refine ⟨?_, fun p hp => ?_, fun l hl => ?_, fun j hj => ?_⟩
            · rw [mput_other (by decide)]; exact z1
            · rw [mput_ne (by decide)]; exact z2 p hp
            · rw [mput_ne (by decide)]; exact z3 l hl
            · rw [mput_ne (by decide)]; exact z4 j hj
          have f2 := m_wears (s := p0) R1 hY1 M1 (fun h hh => by rw [mput_ne (by decide)]; exact g4 h hh) hT hT2
          have kz : KM (mput y 6 22 (nI (g + 1))) (zM x (mput y 6 22 (nI (g + 1))) q p0 T) := ⟨fun a ha => zM_ne (by omega) (by omega) T, by rw [zM_ne (by decide) (by decide) T], by rw [zM_ne (by decide) (by decide) T], by rw [zM_ne (by decide) (by decide) T], by rw [zM_ne (by decide) (by decide) T]⟩
          have R2 := R1.km kz
          generalize hyT : zM x (mput y 6 22 (nI (g + 1))) q p0 T = yT at f2 kz R2
          have hyTne : ∀ a, ¬ a = 52 → ¬ a = 51 → yT a = mput y 6 22 (nI (g + 1)) a := fun a h1 h2 => by rw [← hyT]; exact zM_ne h1 h2 T
          have R3 : QL n k q (g + 1) (mrow (mput (xv x q g p0 n) 5 2 (nI (g + 1))) 24 q (fun l => x 24 l + qg_B x q p0 l T)) (mrow yT 44 q (fun l => x 24 l + qg_B x q p0 l T)) := by
            refine R2.lamps (fun a ha => mrow_ne (by omega)) (fun a ha => mrow_ne (by omega)) (by rw [mrow_ne (by decide)]) (by rw [mrow_ne (by decide)]) (by rw [mrow_ne (by decide)]) ?_
            obtain ⟨z1, z2, z3, e38, e39, e40, e41, e42, e43, e44⟩ := R2.2.2.2.2.1
            refine ⟨z1, ?_, ?_, ?_, ?_, ?_, ?_, ?_, ?_, ?_⟩
            · rw [mrow_ne (by decide)]; exact z2
            · rw [mrow_ne (by decide)]; exact z3
            · rw [mrow_ne (by decide), mrow_ne (by decide)]; exact e38
            · rw [mrow_ne (by decide), mrow_ne (by decide)]; exact e39
            · rw [mrow_ne (by decide), mrow_ne (by decide)]; exact e40
            · rw [mrow_ne (by decide), mrow_ne (by decide)]; exact e41
            · rw [mrow_ne (by decide), mrow_ne (by decide)]; exact e42
            · rw [mrow_ne (by decide), mrow_ne (by decide)]; exact e43
            · rw [mrow_row, mrow_row, e44]
          refine ⟨mrow yT 44 q (fun l => x 24 l + qg_B x q p0 l T), ?_, ?_, ?_, n, k, q, g + 1, R3.kx ?_⟩
          · simp only [f_X6_perform, m_stage_t c1, hm.1.2.2.1, mt m hm, if_neg e2, hm.2.2.2.2.2.2.2.1, c3m, m_fine0, d1, f1, e22, q_i20 c3, ix_nI (show g < 2 ^ 31 by omega), bnd, bnX, bnN, q_1ne0, q_n1, q_n2, q_n3, eq_self, not_true_eq_false, not_false_eq_true, ↓reduceIte]
            rw [show nI (qd_n (SH q x p0) 0) = 0 from rfl, nI_0] at g1
            simp only [bnd] at g1
            rw [g1, g2.2.2.2.2.2.2.2.1, nI_1, f2]
          · rw [mrow_ne (by decide), hyTne 6 (by decide) (by decide), mput_other (by decide), g5, mput_ne (by decide), mrow_ne (by decide)]
            exact d2
          · have kT : KC (mput y 6 22 (nI (g + 1))) yT := ⟨fun a ha => hyTne a (by omega) (by omega), hyTne 178 (by decide) (by decide)⟩
            exact (((((d4.tr (KC.row (by decide))).tr (KC.put (by decide))).tr g6).tr (KC.put (by decide))).tr kT).tr (KC.row (by decide))
          · unfold xv
            rw [mput_mrow (by omega)]
            exact (hW.tr hZ).bothR
      · have c3x : ¬ nI g < 20 := q_noroom (N := 20) c3 (by omega)
        have c3m : nI g = 20 := by rw [show g = 20 by omega]; rfl
        refine Or.inl (LT.of 3 2 ?_ (by decide) rfl (by decide) (fun m hm => ?_))
        · simp only [f_X5_perform, x_n4_t c1, xt, if_neg e1, x_st_1, R.2.2.2.2.2.2.1, x_room_f c3x, bnd, bnX, bnN, q_1ne0, q_n1, q_n2, q_n3, eq_self, not_true_eq_false, not_false_eq_true, ↓reduceIte]
        · simp only [f_X6_perform, m_stage_t c1, hm.1.2.2.1, mt m hm, if_neg e2, hm.2.2.2.2.2.2.2.1, c3m, m_fine2, bnd, bnX, bnN, q_1ne0, q_n1, q_n2, q_n3, eq_self, not_true_eq_false, not_false_eq_true, ↓reduceIte]
  · refine Or.inl (LT.of 1 1 ?_ (by decide) rfl (by decide) (fun m hm => ?_))
    · simp only [f_X5_perform, x_n4_f c1, bnd, bnX, bnN, q_1ne0, q_n1, q_n2, q_n3, eq_self, not_true_eq_false, not_false_eq_true, ↓reduceIte]
    · simp only [f_X6_perform, m_stage_f c1, m_fine1, bnd, bnX, bnN, q_1ne0, q_n1, q_n2, q_n3, eq_self, not_true_eq_false, not_false_eq_true, ↓reduceIte]
end
section
/-! the 35 agreements together -/
theorem σ0_z {a : Nat} (h : ¬ a = 9) (h2 : ¬ a = 32) : σ0 a = fun _ => 0 := by
  unfold σ0
  have e1 : Nat.beq a 9 = false := by
    cases e : Nat.beq a 9 with
    | false => rfl
    | true => exact absurd (Nat.eq_of_beq_eq_true e) h
  have e2 : Nat.beq a 32 = false := by
    cases e : Nat.beq a 32 with
    | false => rfl
    | true => exact absurd (Nat.eq_of_beq_eq_true e) h2
  rw [e1, e2]
  rfl
theorem CP_0 : CP σ0 := by
  have z : ∀ a i, ¬ a = 9 → ¬ a = 32 → σ0 a i = 0 := fun a i h h2 => by rw [σ0_z h h2]
  have no : ∀ i : Nat, ¬ i < 0 := fun i => Nat.not_lt_zero i
  refine ⟨0, 0, 0, 0, ⟨by decide, z 1 3 (by decide) (by decide), z 6 4 (by decide) (by decide), ?_, ?_, fun l h => absurd h (no l), fun l a hl ha => ?_⟩, ⟨rfl, ?_⟩, ⟨⟨by decide, z 3 4 (by decide) (by decide), fun c h => absurd h (no c), fun c h => absurd h (no c), fun c h => absurd h (no c)⟩, z 6 11 (by decide) (by decide), ?_, ?_, ?_, fun c h hc hh => ?_⟩, ⟨⟨fun p h => absurd h (no p), fun p r _ h => absurd h (no r), fun p h => absurd h (no p)⟩, fun c h => absurd h (no c), ⟨fun p h => absurd h (no p), fun p _ h => absurd h (no p)⟩, z 3 10 (by decide) (by decide), fun j h => absurd h (no j)⟩, ⟨by decide, z 4 8 (by decide) (by decide), z 6 19 (by decide) (by decide), ?_, ?_, ?_, ?_, ?_, ?_, ?_⟩, ⟨by decide, z 5 2 (by decide) (by decide), z 6 22 (by decide) (by decide), ?_, fun u l hu hl => ?_⟩⟩
  · rw [σ0_z (a := 29) (by decide) (by decide), σ0_z (a := 7) (by decide) (by decide)]
  · rw [σ0_z (a := 30) (by decide) (by decide), σ0_z (a := 8) (by decide) (by decide)]
  · rw [z 31 _ (by decide) (by decide), z (58 + l) _ (by omega) (by omega)]
  · rw [σ0_z (a := 33) (by decide) (by decide), σ0_z (a := 10) (by decide) (by decide)]
  · rw [σ0_z (a := 34) (by decide) (by decide), σ0_z (a := 11) (by decide) (by decide)]
  · rw [σ0_z (a := 35) (by decide) (by decide), σ0_z (a := 12) (by decide) (by decide)]
  · rw [σ0_z (a := 36) (by decide) (by decide), σ0_z (a := 13) (by decide) (by decide)]
  · rw [z 37 _ (by decide) (by decide), z (88 + c) _ (by omega) (by omega)]
  · rw [σ0_z (a := 38) (by decide) (by decide), σ0_z (a := 18) (by decide) (by decide)]
  · rw [σ0_z (a := 39) (by decide) (by decide), σ0_z (a := 19) (by decide) (by decide)]
  · rw [σ0_z (a := 40) (by decide) (by decide), σ0_z (a := 22) (by decide) (by decide)]
  · rw [σ0_z (a := 41) (by decide) (by decide), σ0_z (a := 23) (by decide) (by decide)]
  · rw [σ0_z (a := 42) (by decide) (by decide), σ0_z (a := 20) (by decide) (by decide)]
  · rw [σ0_z (a := 43) (by decide) (by decide), σ0_z (a := 21) (by decide) (by decide)]
  · rw [σ0_z (a := 44) (by decide) (by decide), σ0_z (a := 24) (by decide) (by decide)]
  · rw [σ0_z (a := 45) (by decide) (by decide), σ0_z (a := 26) (by decide) (by decide)]
  · rw [z 46 _ (by decide) (by decide), z (158 + u) _ (by omega) (by omega)]
theorem AG_CP : AG CP :=
  ⟨fun p0 => agW_of (fun _ => rfl) (k_addLine p0), fun p0 p1 p2 => agW_of (fun _ => rfl) (k_need p0 p1 p2), fun p0 p1 h => agW_of (fun _ => rfl) (k_cut p0 p1 h), g_lines, fun p0 => agW_of (fun _ => rfl) (k_startOf p0), g_length, fun p0 p1 p2 => agW_of (fun _ => rfl) (k_setChannel p0 p1 p2), fun p0 p1 p2 => agW_of (fun _ => rfl) (k_addCue p0 p1 p2), fun p0 p1 p2 p3 => agW_of (fun _ => rfl) (k_move p0 p1 p2 p3), fun p0 p1 p2 => agW_of (fun _ => rfl) (k_change p0 p1 p2), g_cues, fun p0 => agW_of (fun _ => rfl) (k_cueAt p0), fun p0 => agW_of (fun _ => rfl) (k_timeOf p0), fun p0 => agW_of (fun _ => rfl) (k_foldedInto p0), fun p0 p1 => agW_of (fun _ => rfl) (k_changes p0 p1), fun p0 p1 => agW_of (fun _ => rfl) (k_levelAt p0 p1), fun p0 p1 => agW_of (fun _ => rfl) (k_levelBySeconds p0 p1), fun p0 p1 p2 p3 => agW_of (fun _ => rfl) (k_addLamp p0 p1 p2 p3), fun p0 p1 p2 => agW_of (fun _ => rfl) (k_borrow p0 p1 p2), fun p0 => agW_of (fun _ => rfl) (k_bringBack p0), fun p0 => agW_of (fun _ => rfl) (k_replace p0), g_lamps, fun p0 => agW_of (fun _ => rfl) (k_whereIs p0), fun p0 => agW_of (fun _ => rfl) (k_wear p0), fun p0 p1 => agW_of (fun _ => rfl) (k_laidOn p0 p1), fun p0 p1 => agW_of (fun _ => rfl) (k_lampLevel p0 p1), fun p0 p1 p2 => agW_of (fun _ => rfl) (k_light p0 p1 p2), fun p0 p1 => agW_of (fun _ => rfl) (k_shortOf p0 p1), g_bestStage, fun p0 p1 => agW_of (fun _ => rfl) (k_bestToBorrow p0 p1), fun p0 => agW_of (fun _ => rfl) (k_perform p0), g_logs, fun p0 => agW_of (fun _ => rfl) (k_stageOf p0), fun p0 p1 => agW_of (fun _ => rfl) (k_wasShortOf p0 p1), fun p0 => agW_of (fun _ => rfl) (k_timesShort p0)⟩
theorem all_ag : ∃ CP : aM → Prop, AG CP ∧ CP σ0 := ⟨CP, AG_CP, CP_0⟩
end
