/-! the two systems as their constructors lay them, by numbers -/
def σ0 : aM := fun k => bif (Nat.beq k 9 || Nat.beq k 32) then ai 10 else fun _ => 0
def adF (q : List Nat) (r0 r1 r2 r3 r4 : Nat → Nat) (qL b : Nat) : Nat → Nat := fun k => if k < 58 then q.getD k 0 else if k < 88 then r0 (k - 58) else if k < 108 then r1 (k - 88) else if k < 128 then r2 (k - 108) else if k < 158 then r3 (k - 128) else if k < 178 then r4 (k - 158) else if k = 178 then qL else b
theorem adF_58 {q : List Nat} {r0 r1 r2 r3 r4 : Nat → Nat} {qL b i : Nat} (h : i < 30) : adF q r0 r1 r2 r3 r4 qL b (58 + i) = r0 i := by
  unfold adF
  rw [if_neg (by omega), if_pos (by omega), show 58 + i - 58 = i by omega]
theorem adF_88 {q : List Nat} {r0 r1 r2 r3 r4 : Nat → Nat} {qL b i : Nat} (h : i < 20) : adF q r0 r1 r2 r3 r4 qL b (88 + i) = r1 i := by
  unfold adF
  rw [if_neg (by omega), if_neg (by omega), if_pos (by omega), show 88 + i - 88 = i by omega]
theorem adF_108 {q : List Nat} {r0 r1 r2 r3 r4 : Nat → Nat} {qL b i : Nat} (h : i < 20) : adF q r0 r1 r2 r3 r4 qL b (108 + i) = r2 i := by
  unfold adF
  rw [if_neg (by omega), if_neg (by omega), if_neg (by omega), if_pos (by omega), show 108 + i - 108 = i by omega]
theorem adF_128 {q : List Nat} {r0 r1 r2 r3 r4 : Nat → Nat} {qL b i : Nat} (h : i < 30) : adF q r0 r1 r2 r3 r4 qL b (128 + i) = r3 i := by
  unfold adF
  rw [if_neg (by omega), if_neg (by omega), if_neg (by omega), if_neg (by omega), if_pos (by omega), show 128 + i - 128 = i by omega]
theorem adF_158 {q : List Nat} {r0 r1 r2 r3 r4 : Nat → Nat} {qL b i : Nat} (h : i < 20) : adF q r0 r1 r2 r3 r4 qL b (158 + i) = r4 i := by
  unfold adF
  rw [if_neg (by omega), if_neg (by omega), if_neg (by omega), if_neg (by omega), if_neg (by omega), if_pos (by omega), show 158 + i - 158 = i by omega]
section LAYW
variable {cI cZ cA cL : ClassId} {ad : Nat → Nat}
abbrev cF (cI cZ cA cL : ClassId) (ad : Nat → Nat) (k : Nat) : Nat × va_E := (ad k, cellE cI cZ cA cL ad σ0 k)
theorem cF_7 : ((ad 7, .inl (cI, 30, .inl (fun _ => 0))) : Nat × va_E) = cF cI cZ cA cL ad 7 := rfl
theorem cF_8 : ((ad 8, .inl (cZ, 30, .inl (fun _ => 0))) : Nat × va_E) = cF cI cZ cA cL ad 8 := rfl
theorem cF_9 : ((ad 9, .inl (cI, 10, .inl (ai 10))) : Nat × va_E) = cF cI cZ cA cL ad 9 := rfl
theorem cF_10 : ((ad 10, .inl (cI, 10, .inl (fun _ => 0))) : Nat × va_E) = cF cI cZ cA cL ad 10 := rfl
theorem cF_11 : ((ad 11, .inl (cI, 20, .inl (fun _ => 0))) : Nat × va_E) = cF cI cZ cA cL ad 11 := rfl
theorem cF_12 : ((ad 12, .inl (cI, 20, .inl (fun _ => 0))) : Nat × va_E) = cF cI cZ cA cL ad 12 := rfl
theorem cF_13 : ((ad 13, .inl (cI, 20, .inl (fun _ => 0))) : Nat × va_E) = cF cI cZ cA cL ad 13 := rfl
theorem cF_14 : ((ad 14, .inl (cI, 20, .inl (fun _ => 0))) : Nat × va_E) = cF cI cZ cA cL ad 14 := rfl
theorem cF_15 : ((ad 15, .inl (cI, 20, .inl (fun _ => 0))) : Nat × va_E) = cF cI cZ cA cL ad 15 := rfl
theorem cF_16 : ((ad 16, .inl (cI, 20, .inl (fun _ => 0))) : Nat × va_E) = cF cI cZ cA cL ad 16 := rfl
theorem cF_17 : ((ad 17, .inl (cI, 20, .inl (fun _ => 0))) : Nat × va_E) = cF cI cZ cA cL ad 17 := rfl
theorem cF_18 : ((ad 18, .inl (cI, 20, .inl (fun _ => 0))) : Nat × va_E) = cF cI cZ cA cL ad 18 := rfl
theorem cF_19 : ((ad 19, .inl (cI, 20, .inl (fun _ => 0))) : Nat × va_E) = cF cI cZ cA cL ad 19 := rfl
theorem cF_20 : ((ad 20, .inl (cI, 20, .inl (fun _ => 0))) : Nat × va_E) = cF cI cZ cA cL ad 20 := rfl
theorem cF_21 : ((ad 21, .inl (cI, 20, .inl (fun _ => 0))) : Nat × va_E) = cF cI cZ cA cL ad 21 := rfl
theorem cF_22 : ((ad 22, .inl (cI, 20, .inl (fun _ => 0))) : Nat × va_E) = cF cI cZ cA cL ad 22 := rfl
theorem cF_23 : ((ad 23, .inl (cI, 20, .inl (fun _ => 0))) : Nat × va_E) = cF cI cZ cA cL ad 23 := rfl
theorem cF_24 : ((ad 24, .inl (cI, 20, .inl (fun _ => 0))) : Nat × va_E) = cF cI cZ cA cL ad 24 := rfl
theorem cF_25 : ((ad 25, .inl (cI, 20, .inl (fun _ => 0))) : Nat × va_E) = cF cI cZ cA cL ad 25 := rfl
theorem cF_26 : ((ad 26, .inl (cI, 20, .inl (fun _ => 0))) : Nat × va_E) = cF cI cZ cA cL ad 26 := rfl
theorem cF_27 : ((ad 27, .inl (cI, 10, .inl (fun _ => 0))) : Nat × va_E) = cF cI cZ cA cL ad 27 := rfl
theorem cF_28 : ((ad 28, .inl (cI, 10, .inl (fun _ => 0))) : Nat × va_E) = cF cI cZ cA cL ad 28 := rfl
theorem cF_29 : ((ad 29, .inl (cI, 30, .inl (fun _ => 0))) : Nat × va_E) = cF cI cZ cA cL ad 29 := rfl
theorem cF_30 : ((ad 30, .inl (cZ, 30, .inl (fun _ => 0))) : Nat × va_E) = cF cI cZ cA cL ad 30 := rfl
theorem cF_31 : ((ad 31, .inl (cI, 120, .inl (fun _ => 0))) : Nat × va_E) = cF cI cZ cA cL ad 31 := rfl
theorem cF_32 : ((ad 32, .inl (cI, 10, .inl (ai 10))) : Nat × va_E) = cF cI cZ cA cL ad 32 := rfl
theorem cF_33 : ((ad 33, .inl (cI, 10, .inl (fun _ => 0))) : Nat × va_E) = cF cI cZ cA cL ad 33 := rfl
theorem cF_34 : ((ad 34, .inl (cI, 20, .inl (fun _ => 0))) : Nat × va_E) = cF cI cZ cA cL ad 34 := rfl
theorem cF_35 : ((ad 35, .inl (cI, 20, .inl (fun _ => 0))) : Nat × va_E) = cF cI cZ cA cL ad 35 := rfl
theorem cF_36 : ((ad 36, .inl (cI, 20, .inl (fun _ => 0))) : Nat × va_E) = cF cI cZ cA cL ad 36 := rfl
theorem cF_37 : ((ad 37, .inl (cI, 200, .inl (fun _ => 0))) : Nat × va_E) = cF cI cZ cA cL ad 37 := rfl
theorem cF_38 : ((ad 38, .inl (cI, 20, .inl (fun _ => 0))) : Nat × va_E) = cF cI cZ cA cL ad 38 := rfl
theorem cF_39 : ((ad 39, .inl (cI, 20, .inl (fun _ => 0))) : Nat × va_E) = cF cI cZ cA cL ad 39 := rfl
theorem cF_40 : ((ad 40, .inl (cI, 20, .inl (fun _ => 0))) : Nat × va_E) = cF cI cZ cA cL ad 40 := rfl
theorem cF_41 : ((ad 41, .inl (cI, 20, .inl (fun _ => 0))) : Nat × va_E) = cF cI cZ cA cL ad 41 := rfl
theorem cF_42 : ((ad 42, .inl (cI, 20, .inl (fun _ => 0))) : Nat × va_E) = cF cI cZ cA cL ad 42 := rfl
theorem cF_43 : ((ad 43, .inl (cI, 20, .inl (fun _ => 0))) : Nat × va_E) = cF cI cZ cA cL ad 43 := rfl
theorem cF_44 : ((ad 44, .inl (cI, 20, .inl (fun _ => 0))) : Nat × va_E) = cF cI cZ cA cL ad 44 := rfl
theorem cF_45 : ((ad 45, .inl (cI, 20, .inl (fun _ => 0))) : Nat × va_E) = cF cI cZ cA cL ad 45 := rfl
theorem cF_46 : ((ad 46, .inl (cI, 600, .inl (fun _ => 0))) : Nat × va_E) = cF cI cZ cA cL ad 46 := rfl
theorem cF_47 : ((ad 47, .inl (cI, 20, .inl (fun _ => 0))) : Nat × va_E) = cF cI cZ cA cL ad 47 := rfl
theorem cF_48 : ((ad 48, .inl (cI, 20, .inl (fun _ => 0))) : Nat × va_E) = cF cI cZ cA cL ad 48 := rfl
theorem cF_49 : ((ad 49, .inl (cI, 30, .inl (fun _ => 0))) : Nat × va_E) = cF cI cZ cA cL ad 49 := rfl
theorem cF_50 : ((ad 50, .inl (cI, 10, .inl (fun _ => 0))) : Nat × va_E) = cF cI cZ cA cL ad 50 := rfl
theorem cF_51 : ((ad 51, .inl (cI, 10, .inl (fun _ => 0))) : Nat × va_E) = cF cI cZ cA cL ad 51 := rfl
theorem cF_52 : ((ad 52, .inl (cI, 20, .inl (fun _ => 0))) : Nat × va_E) = cF cI cZ cA cL ad 52 := rfl
theorem cF_53 {r : Nat → Nat} (h : ∀ i, i < 30 → r i = ad (58 + i)) : ((ad 53, .inl (cA, 30, .inr (.inr (.inr (.inr (fun i => if i < 30 then some (r i) else none)))))) : Nat × va_E) = cF cI cZ cA cL ad 53 := by
  have e : (fun i => if i < 30 then some (r i) else none) = (fun i => if i < 30 then some (ad (58 + i)) else none) := by
    funext i
    by_cases hi : i < 30
    · rw [if_pos hi, if_pos hi, h i hi]
    · rw [if_neg hi, if_neg hi]
  rw [e]
  rfl
theorem cR_53 {r : Nat → Nat} (h : ∀ i, i < 30 → r i = ad (58 + i)) : (List.range 30).map (fun i => ((r i, .inl (cI, 4, .inl (fun _ => 0))) : Nat × va_E)) = (List.range 30).map (fun i => cF cI cZ cA cL ad (58 + i)) := by
  refine List.map_congr_left fun i hi => ?_
  have hi : i < 30 := List.mem_range.mp hi
  have e1 : kd (58 + i) = 1 := by
    unfold kd
    rw [if_neg (by omega), if_neg (by omega), if_neg (by omega), if_neg (by omega), if_pos (by omega)]
  have e2 : ln (58 + i) = 4 := by
    unfold ln
    rw [if_neg (by omega), if_pos (by omega)]
  have e3 : σ0 (58 + i) = fun _ => 0 := by
    unfold σ0
    rw [show (Nat.beq (58 + i) 9 || Nat.beq (58 + i) 32) = false from by rw [Bool.or_eq_false_iff]; exact ⟨Bool.eq_false_iff.mpr (fun h => by have := Nat.eq_of_beq_eq_true h; omega), Bool.eq_false_iff.mpr (fun h => by have := Nat.eq_of_beq_eq_true h; omega)⟩]
    rfl
  show _ = (ad (58 + i), cellE cI cZ cA cL ad σ0 (58 + i))
  rw [cellE_int e1, e2, e3, h i hi]
theorem cF_54 {r : Nat → Nat} (h : ∀ i, i < 20 → r i = ad (88 + i)) : ((ad 54, .inl (cA, 20, .inr (.inr (.inr (.inr (fun i => if i < 20 then some (r i) else none)))))) : Nat × va_E) = cF cI cZ cA cL ad 54 := by
  have e : (fun i => if i < 20 then some (r i) else none) = (fun i => if i < 20 then some (ad (88 + i)) else none) := by
    funext i
    by_cases hi : i < 20
    · rw [if_pos hi, if_pos hi, h i hi]
    · rw [if_neg hi, if_neg hi]
  rw [e]
  rfl
theorem cR_54 {r : Nat → Nat} (h : ∀ i, i < 20 → r i = ad (88 + i)) : (List.range 20).map (fun i => ((r i, .inl (cI, 10, .inl (fun _ => 0))) : Nat × va_E)) = (List.range 20).map (fun i => cF cI cZ cA cL ad (88 + i)) := by
  refine List.map_congr_left fun i hi => ?_
  have hi : i < 20 := List.mem_range.mp hi
  have e1 : kd (88 + i) = 1 := by
    unfold kd
    rw [if_neg (by omega), if_neg (by omega), if_neg (by omega), if_neg (by omega), if_pos (by omega)]
  have e2 : ln (88 + i) = 10 := by
    unfold ln
    rw [if_neg (by omega), if_neg (by omega), if_pos (by omega)]
  have e3 : σ0 (88 + i) = fun _ => 0 := by
    unfold σ0
    rw [show (Nat.beq (88 + i) 9 || Nat.beq (88 + i) 32) = false from by rw [Bool.or_eq_false_iff]; exact ⟨Bool.eq_false_iff.mpr (fun h => by have := Nat.eq_of_beq_eq_true h; omega), Bool.eq_false_iff.mpr (fun h => by have := Nat.eq_of_beq_eq_true h; omega)⟩]
    rfl
  show _ = (ad (88 + i), cellE cI cZ cA cL ad σ0 (88 + i))
  rw [cellE_int e1, e2, e3, h i hi]
theorem cF_55 {r : Nat → Nat} (h : ∀ i, i < 20 → r i = ad (108 + i)) : ((ad 55, .inl (cA, 20, .inr (.inr (.inr (.inr (fun i => if i < 20 then some (r i) else none)))))) : Nat × va_E) = cF cI cZ cA cL ad 55 := by
  have e : (fun i => if i < 20 then some (r i) else none) = (fun i => if i < 20 then some (ad (108 + i)) else none) := by
    funext i
    by_cases hi : i < 20
    · rw [if_pos hi, if_pos hi, h i hi]
    · rw [if_neg hi, if_neg hi]
  rw [e]
  rfl
theorem cR_55 {r : Nat → Nat} (h : ∀ i, i < 20 → r i = ad (108 + i)) : (List.range 20).map (fun i => ((r i, .inl (cI, 10, .inl (fun _ => 0))) : Nat × va_E)) = (List.range 20).map (fun i => cF cI cZ cA cL ad (108 + i)) := by
  refine List.map_congr_left fun i hi => ?_
  have hi : i < 20 := List.mem_range.mp hi
  have e1 : kd (108 + i) = 1 := by
    unfold kd
    rw [if_neg (by omega), if_neg (by omega), if_neg (by omega), if_neg (by omega), if_pos (by omega)]
  have e2 : ln (108 + i) = 10 := by
    unfold ln
    rw [if_neg (by omega), if_neg (by omega), if_pos (by omega)]
  have e3 : σ0 (108 + i) = fun _ => 0 := by
    unfold σ0
    rw [show (Nat.beq (108 + i) 9 || Nat.beq (108 + i) 32) = false from by rw [Bool.or_eq_false_iff]; exact ⟨Bool.eq_false_iff.mpr (fun h => by have := Nat.eq_of_beq_eq_true h; omega), Bool.eq_false_iff.mpr (fun h => by have := Nat.eq_of_beq_eq_true h; omega)⟩]
    rfl
  show _ = (ad (108 + i), cellE cI cZ cA cL ad σ0 (108 + i))
  rw [cellE_int e1, e2, e3, h i hi]
theorem cF_56 {r : Nat → Nat} (h : ∀ i, i < 30 → r i = ad (128 + i)) : ((ad 56, .inl (cA, 30, .inr (.inr (.inr (.inr (fun i => if i < 30 then some (r i) else none)))))) : Nat × va_E) = cF cI cZ cA cL ad 56 := by
  have e : (fun i => if i < 30 then some (r i) else none) = (fun i => if i < 30 then some (ad (128 + i)) else none) := by
    funext i
    by_cases hi : i < 30
    · rw [if_pos hi, if_pos hi, h i hi]
    · rw [if_neg hi, if_neg hi]
  rw [e]
  rfl
theorem cR_56 {r : Nat → Nat} (h : ∀ i, i < 30 → r i = ad (128 + i)) : (List.range 30).map (fun i => ((r i, .inl (cI, 10, .inl (fun _ => 0))) : Nat × va_E)) = (List.range 30).map (fun i => cF cI cZ cA cL ad (128 + i)) := by
  refine List.map_congr_left fun i hi => ?_
  have hi : i < 30 := List.mem_range.mp hi
  have e1 : kd (128 + i) = 1 := by
    unfold kd
    rw [if_neg (by omega), if_neg (by omega), if_neg (by omega), if_neg (by omega), if_pos (by omega)]
  have e2 : ln (128 + i) = 10 := by
    unfold ln
    rw [if_neg (by omega), if_neg (by omega), if_pos (by omega)]
  have e3 : σ0 (128 + i) = fun _ => 0 := by
    unfold σ0
    rw [show (Nat.beq (128 + i) 9 || Nat.beq (128 + i) 32) = false from by rw [Bool.or_eq_false_iff]; exact ⟨Bool.eq_false_iff.mpr (fun h => by have := Nat.eq_of_beq_eq_true h; omega), Bool.eq_false_iff.mpr (fun h => by have := Nat.eq_of_beq_eq_true h; omega)⟩]
    rfl
  show _ = (ad (128 + i), cellE cI cZ cA cL ad σ0 (128 + i))
  rw [cellE_int e1, e2, e3, h i hi]
theorem cF_57 {r : Nat → Nat} (h : ∀ i, i < 20 → r i = ad (158 + i)) : ((ad 57, .inl (cA, 20, .inr (.inr (.inr (.inr (fun i => if i < 20 then some (r i) else none)))))) : Nat × va_E) = cF cI cZ cA cL ad 57 := by
  have e : (fun i => if i < 20 then some (r i) else none) = (fun i => if i < 20 then some (ad (158 + i)) else none) := by
    funext i
    by_cases hi : i < 20
    · rw [if_pos hi, if_pos hi, h i hi]
    · rw [if_neg hi, if_neg hi]
  rw [e]
  rfl
theorem cR_57 {r : Nat → Nat} (h : ∀ i, i < 20 → r i = ad (158 + i)) : (List.range 20).map (fun i => ((r i, .inl (cI, 30, .inl (fun _ => 0))) : Nat × va_E)) = (List.range 20).map (fun i => cF cI cZ cA cL ad (158 + i)) := by
  refine List.map_congr_left fun i hi => ?_
  have hi : i < 20 := List.mem_range.mp hi
  have e1 : kd (158 + i) = 1 := by
    unfold kd
    rw [if_neg (by omega), if_neg (by omega), if_neg (by omega), if_neg (by omega), if_pos (by omega)]
  have e2 : ln (158 + i) = 30 := by
    unfold ln
    rw [if_neg (by omega), if_neg (by omega), if_neg (by omega), if_pos (by omega)]
  have e3 : σ0 (158 + i) = fun _ => 0 := by
    unfold σ0
    rw [show (Nat.beq (158 + i) 9 || Nat.beq (158 + i) 32) = false from by rw [Bool.or_eq_false_iff]; exact ⟨Bool.eq_false_iff.mpr (fun h => by have := Nat.eq_of_beq_eq_true h; omega), Bool.eq_false_iff.mpr (fun h => by have := Nat.eq_of_beq_eq_true h; omega)⟩]
    rfl
  show _ = (ad (158 + i), cellE cI cZ cA cL ad σ0 (158 + i))
  rw [cellE_int e1, e2, e3, h i hi]
theorem cF_178 : ((ad 178, .inl (cL, 1, .inr (.inl (fun _ => 0)))) : Nat × va_E) = cF cI cZ cA cL ad 178 := by
  have e : (fun _ : Nat => (0 : Int64)) = (fun j => (σ0 178 j).toInt64) := by
    funext j
    show (0 : Int64) = (0 : Int32).toInt64
    decide
  rw [e]
  rfl
theorem cF_0 : ((ad 0, .inr (5, [.ref (ad 1), .ref (ad 2), .ref (ad 3), .ref (ad 4), .ref (ad 5), .ref (ad 27), .ref (ad 28), .ref (ad 56)])) : Nat × va_E) = cF cI cZ cA cL ad 0 := rfl
theorem cF_1 : ((ad 1, .inr (4, [.ref (ad 7), .ref (ad 8), .ref (ad 53), .int 0])) : Nat × va_E) = cF cI cZ cA cL ad 1 := rfl
theorem cF_2 : ((ad 2, .inr (2, [.ref (ad 9), .ref (ad 10)])) : Nat × va_E) = cF cI cZ cA cL ad 2 := rfl
theorem cF_3 : ((ad 3, .inr (1, [.ref (ad 11), .ref (ad 12), .ref (ad 13), .ref (ad 54), .int 0, .ref (ad 14), .ref (ad 15), .ref (ad 16), .ref (ad 55), .ref (ad 17), .int 0])) : Nat × va_E) = cF cI cZ cA cL ad 3 := rfl
theorem cF_4 : ((ad 4, .inr (3, [.ref (ad 18), .ref (ad 19), .ref (ad 20), .ref (ad 21), .ref (ad 22), .ref (ad 23), .ref (ad 24), .ref (ad 25), .int 0])) : Nat × va_E) = cF cI cZ cA cL ad 4 := rfl
theorem cF_5 : ((ad 5, .inr (0, [.ref (ad 26), .ref (ad 57), .int 0])) : Nat × va_E) = cF cI cZ cA cL ad 5 := rfl
theorem cF_6 : ((ad 6, .inr (6, [.int 0, .ref (ad 29), .ref (ad 30), .ref (ad 31), .int 0, .ref (ad 32), .ref (ad 33), .ref (ad 34), .ref (ad 35), .ref (ad 36), .ref (ad 37), .int 0, .ref (ad 38), .ref (ad 39), .ref (ad 40), .ref (ad 41), .ref (ad 42), .ref (ad 43), .ref (ad 44), .int 0, .ref (ad 45), .ref (ad 46), .int 0, .ref (ad 47), .ref (ad 48), .int 0, .ref (ad 49), .ref (ad 50), .ref (ad 51), .ref (ad 52)])) : Nat × va_E) = cF cI cZ cA cL ad 6 := rfl
theorem cB_1 {r2 : Nat → Nat} (h2 : ∀ i, i < 30 → r2 i = ad (58 + i)) : (((ad 1, .inr (4, [.ref (ad 7), .ref (ad 8), .ref (ad 53), .int 0])) :: ([] ++ [(ad 7, .inl (cI, 30, .inl (fun _ => 0)))] ++ [(ad 8, .inl (cZ, 30, .inl (fun _ => 0)))] ++ ((ad 53, .inl (cA, 30, .inr (.inr (.inr (.inr (fun i => if i < 30 then some (r2 i) else none)))))) :: (List.range 30).map (fun i => (r2 i, .inl (cI, 4, .inl (fun _ => 0))))))) : va_W) = cF cI cZ cA cL ad 1 :: ([] ++ [cF cI cZ cA cL ad 7] ++ [cF cI cZ cA cL ad 8] ++ (cF cI cZ cA cL ad 53 :: (List.range 30).map (fun i => cF cI cZ cA cL ad (58 + i)))) := by
  rw [cF_1 (cI := cI) (cZ := cZ) (cA := cA) (cL := cL) (ad := ad), cF_7 (cI := cI) (cZ := cZ) (cA := cA) (cL := cL) (ad := ad), cF_8 (cI := cI) (cZ := cZ) (cA := cA) (cL := cL) (ad := ad), cF_53 (cI := cI) (cZ := cZ) (cL := cL) h2, cR_53 (cZ := cZ) (cA := cA) (cL := cL) h2]
theorem cB_2  : (((ad 2, .inr (2, [.ref (ad 9), .ref (ad 10)])) :: ([] ++ [(ad 9, .inl (cI, 10, .inl (ai 10)))] ++ [(ad 10, .inl (cI, 10, .inl (fun _ => 0)))])) : va_W) = cF cI cZ cA cL ad 2 :: ([] ++ [cF cI cZ cA cL ad 9] ++ [cF cI cZ cA cL ad 10]) := by
  rw [cF_2 (cI := cI) (cZ := cZ) (cA := cA) (cL := cL) (ad := ad), cF_9 (cI := cI) (cZ := cZ) (cA := cA) (cL := cL) (ad := ad), cF_10 (cI := cI) (cZ := cZ) (cA := cA) (cL := cL) (ad := ad)]
theorem cB_3 {r3 : Nat → Nat} (h3 : ∀ i, i < 20 → r3 i = ad (88 + i)) {r8 : Nat → Nat} (h8 : ∀ i, i < 20 → r8 i = ad (108 + i)) : (((ad 3, .inr (1, [.ref (ad 11), .ref (ad 12), .ref (ad 13), .ref (ad 54), .int 0, .ref (ad 14), .ref (ad 15), .ref (ad 16), .ref (ad 55), .ref (ad 17), .int 0])) :: ([] ++ [(ad 11, .inl (cI, 20, .inl (fun _ => 0)))] ++ [(ad 12, .inl (cI, 20, .inl (fun _ => 0)))] ++ [(ad 13, .inl (cI, 20, .inl (fun _ => 0)))] ++ ((ad 54, .inl (cA, 20, .inr (.inr (.inr (.inr (fun i => if i < 20 then some (r3 i) else none)))))) :: (List.range 20).map (fun i => (r3 i, .inl (cI, 10, .inl (fun _ => 0))))) ++ [(ad 14, .inl (cI, 20, .inl (fun _ => 0)))] ++ [(ad 15, .inl (cI, 20, .inl (fun _ => 0)))] ++ [(ad 16, .inl (cI, 20, .inl (fun _ => 0)))] ++ ((ad 55, .inl (cA, 20, .inr (.inr (.inr (.inr (fun i => if i < 20 then some (r8 i) else none)))))) :: (List.range 20).map (fun i => (r8 i, .inl (cI, 10, .inl (fun _ => 0))))) ++ [(ad 17, .inl (cI, 20, .inl (fun _ => 0)))])) : va_W) = cF cI cZ cA cL ad 3 :: ([] ++ [cF cI cZ cA cL ad 11] ++ [cF cI cZ cA cL ad 12] ++ [cF cI cZ cA cL ad 13] ++ (cF cI cZ cA cL ad 54 :: (List.range 20).map (fun i => cF cI cZ cA cL ad (88 + i))) ++ [cF cI cZ cA cL ad 14] ++ [cF cI cZ cA cL ad 15] ++ [cF cI cZ cA cL ad 16] ++ (cF cI cZ cA cL ad 55 :: (List.range 20).map (fun i => cF cI cZ cA cL ad (108 + i))) ++ [cF cI cZ cA cL ad 17]) := by
  rw [cF_3 (cI := cI) (cZ := cZ) (cA := cA) (cL := cL) (ad := ad), cF_11 (cI := cI) (cZ := cZ) (cA := cA) (cL := cL) (ad := ad), cF_12 (cI := cI) (cZ := cZ) (cA := cA) (cL := cL) (ad := ad), cF_13 (cI := cI) (cZ := cZ) (cA := cA) (cL := cL) (ad := ad), cF_54 (cI := cI) (cZ := cZ) (cL := cL) h3, cR_54 (cZ := cZ) (cA := cA) (cL := cL) h3, cF_14 (cI := cI) (cZ := cZ) (cA := cA) (cL := cL) (ad := ad), cF_15 (cI := cI) (cZ := cZ) (cA := cA) (cL := cL) (ad := ad), cF_16 (cI := cI) (cZ := cZ) (cA := cA) (cL := cL) (ad := ad), cF_55 (cI := cI) (cZ := cZ) (cL := cL) h8, cR_55 (cZ := cZ) (cA := cA) (cL := cL) h8, cF_17 (cI := cI) (cZ := cZ) (cA := cA) (cL := cL) (ad := ad)]
theorem cB_4  : (((ad 4, .inr (3, [.ref (ad 18), .ref (ad 19), .ref (ad 20), .ref (ad 21), .ref (ad 22), .ref (ad 23), .ref (ad 24), .ref (ad 25), .int 0])) :: ([] ++ [(ad 18, .inl (cI, 20, .inl (fun _ => 0)))] ++ [(ad 19, .inl (cI, 20, .inl (fun _ => 0)))] ++ [(ad 20, .inl (cI, 20, .inl (fun _ => 0)))] ++ [(ad 21, .inl (cI, 20, .inl (fun _ => 0)))] ++ [(ad 22, .inl (cI, 20, .inl (fun _ => 0)))] ++ [(ad 23, .inl (cI, 20, .inl (fun _ => 0)))] ++ [(ad 24, .inl (cI, 20, .inl (fun _ => 0)))] ++ [(ad 25, .inl (cI, 20, .inl (fun _ => 0)))])) : va_W) = cF cI cZ cA cL ad 4 :: ([] ++ [cF cI cZ cA cL ad 18] ++ [cF cI cZ cA cL ad 19] ++ [cF cI cZ cA cL ad 20] ++ [cF cI cZ cA cL ad 21] ++ [cF cI cZ cA cL ad 22] ++ [cF cI cZ cA cL ad 23] ++ [cF cI cZ cA cL ad 24] ++ [cF cI cZ cA cL ad 25]) := by
  rw [cF_4 (cI := cI) (cZ := cZ) (cA := cA) (cL := cL) (ad := ad), cF_18 (cI := cI) (cZ := cZ) (cA := cA) (cL := cL) (ad := ad), cF_19 (cI := cI) (cZ := cZ) (cA := cA) (cL := cL) (ad := ad), cF_20 (cI := cI) (cZ := cZ) (cA := cA) (cL := cL) (ad := ad), cF_21 (cI := cI) (cZ := cZ) (cA := cA) (cL := cL) (ad := ad), cF_22 (cI := cI) (cZ := cZ) (cA := cA) (cL := cL) (ad := ad), cF_23 (cI := cI) (cZ := cZ) (cA := cA) (cL := cL) (ad := ad), cF_24 (cI := cI) (cZ := cZ) (cA := cA) (cL := cL) (ad := ad), cF_25 (cI := cI) (cZ := cZ) (cA := cA) (cL := cL) (ad := ad)]
theorem cB_5 {r1 : Nat → Nat} (h1 : ∀ i, i < 20 → r1 i = ad (158 + i)) : (((ad 5, .inr (0, [.ref (ad 26), .ref (ad 57), .int 0])) :: ([] ++ [(ad 26, .inl (cI, 20, .inl (fun _ => 0)))] ++ ((ad 57, .inl (cA, 20, .inr (.inr (.inr (.inr (fun i => if i < 20 then some (r1 i) else none)))))) :: (List.range 20).map (fun i => (r1 i, .inl (cI, 30, .inl (fun _ => 0))))))) : va_W) = cF cI cZ cA cL ad 5 :: ([] ++ [cF cI cZ cA cL ad 26] ++ (cF cI cZ cA cL ad 57 :: (List.range 20).map (fun i => cF cI cZ cA cL ad (158 + i)))) := by
  rw [cF_5 (cI := cI) (cZ := cZ) (cA := cA) (cL := cL) (ad := ad), cF_26 (cI := cI) (cZ := cZ) (cA := cA) (cL := cL) (ad := ad), cF_57 (cI := cI) (cZ := cZ) (cL := cL) h1, cR_57 (cZ := cZ) (cA := cA) (cL := cL) h1]
theorem cB_6 : ((ad 6, .inr (6, [.int 0, .ref (ad 29), .ref (ad 30), .ref (ad 31), .int 0, .ref (ad 32), .ref (ad 33), .ref (ad 34), .ref (ad 35), .ref (ad 36), .ref (ad 37), .int 0, .ref (ad 38), .ref (ad 39), .ref (ad 40), .ref (ad 41), .ref (ad 42), .ref (ad 43), .ref (ad 44), .int 0, .ref (ad 45), .ref (ad 46), .int 0, .ref (ad 47), .ref (ad 48), .int 0, .ref (ad 49), .ref (ad 50), .ref (ad 51), .ref (ad 52)])) :: (ad 29, .inl (cI, 30, .inl (fun _ => 0))) :: (ad 30, .inl (cZ, 30, .inl (fun _ => 0))) :: (ad 31, .inl (cI, 120, .inl (fun _ => 0))) :: (ad 32, .inl (cI, 10, .inl (ai 10))) :: (ad 33, .inl (cI, 10, .inl (fun _ => 0))) :: (ad 34, .inl (cI, 20, .inl (fun _ => 0))) :: (ad 35, .inl (cI, 20, .inl (fun _ => 0))) :: (ad 36, .inl (cI, 20, .inl (fun _ => 0))) :: (ad 37, .inl (cI, 200, .inl (fun _ => 0))) :: (ad 38, .inl (cI, 20, .inl (fun _ => 0))) :: (ad 39, .inl (cI, 20, .inl (fun _ => 0))) :: (ad 40, .inl (cI, 20, .inl (fun _ => 0))) :: (ad 41, .inl (cI, 20, .inl (fun _ => 0))) :: (ad 42, .inl (cI, 20, .inl (fun _ => 0))) :: (ad 43, .inl (cI, 20, .inl (fun _ => 0))) :: (ad 44, .inl (cI, 20, .inl (fun _ => 0))) :: (ad 45, .inl (cI, 20, .inl (fun _ => 0))) :: (ad 46, .inl (cI, 600, .inl (fun _ => 0))) :: (ad 47, .inl (cI, 20, .inl (fun _ => 0))) :: (ad 48, .inl (cI, 20, .inl (fun _ => 0))) :: (ad 49, .inl (cI, 30, .inl (fun _ => 0))) :: (ad 50, .inl (cI, 10, .inl (fun _ => 0))) :: (ad 51, .inl (cI, 10, .inl (fun _ => 0))) :: (ad 52, .inl (cI, 20, .inl (fun _ => 0))) :: [] : va_W) = cF cI cZ cA cL ad 6 :: cF cI cZ cA cL ad 29 :: cF cI cZ cA cL ad 30 :: cF cI cZ cA cL ad 31 :: cF cI cZ cA cL ad 32 :: cF cI cZ cA cL ad 33 :: cF cI cZ cA cL ad 34 :: cF cI cZ cA cL ad 35 :: cF cI cZ cA cL ad 36 :: cF cI cZ cA cL ad 37 :: cF cI cZ cA cL ad 38 :: cF cI cZ cA cL ad 39 :: cF cI cZ cA cL ad 40 :: cF cI cZ cA cL ad 41 :: cF cI cZ cA cL ad 42 :: cF cI cZ cA cL ad 43 :: cF cI cZ cA cL ad 44 :: cF cI cZ cA cL ad 45 :: cF cI cZ cA cL ad 46 :: cF cI cZ cA cL ad 47 :: cF cI cZ cA cL ad 48 :: cF cI cZ cA cL ad 49 :: cF cI cZ cA cL ad 50 :: cF cI cZ cA cL ad 51 :: cF cI cZ cA cL ad 52 :: [] := by
  rw [cF_6 (cI := cI) (cZ := cZ) (cA := cA) (cL := cL) (ad := ad), cF_29 (cI := cI) (cZ := cZ) (cA := cA) (cL := cL) (ad := ad), cF_30 (cI := cI) (cZ := cZ) (cA := cA) (cL := cL) (ad := ad), cF_31 (cI := cI) (cZ := cZ) (cA := cA) (cL := cL) (ad := ad), cF_32 (cI := cI) (cZ := cZ) (cA := cA) (cL := cL) (ad := ad), cF_33 (cI := cI) (cZ := cZ) (cA := cA) (cL := cL) (ad := ad), cF_34 (cI := cI) (cZ := cZ) (cA := cA) (cL := cL) (ad := ad), cF_35 (cI := cI) (cZ := cZ) (cA := cA) (cL := cL) (ad := ad), cF_36 (cI := cI) (cZ := cZ) (cA := cA) (cL := cL) (ad := ad), cF_37 (cI := cI) (cZ := cZ) (cA := cA) (cL := cL) (ad := ad), cF_38 (cI := cI) (cZ := cZ) (cA := cA) (cL := cL) (ad := ad), cF_39 (cI := cI) (cZ := cZ) (cA := cA) (cL := cL) (ad := ad), cF_40 (cI := cI) (cZ := cZ) (cA := cA) (cL := cL) (ad := ad), cF_41 (cI := cI) (cZ := cZ) (cA := cA) (cL := cL) (ad := ad), cF_42 (cI := cI) (cZ := cZ) (cA := cA) (cL := cL) (ad := ad), cF_43 (cI := cI) (cZ := cZ) (cA := cA) (cL := cL) (ad := ad), cF_44 (cI := cI) (cZ := cZ) (cA := cA) (cL := cL) (ad := ad), cF_45 (cI := cI) (cZ := cZ) (cA := cA) (cL := cL) (ad := ad), cF_46 (cI := cI) (cZ := cZ) (cA := cA) (cL := cL) (ad := ad), cF_47 (cI := cI) (cZ := cZ) (cA := cA) (cL := cL) (ad := ad), cF_48 (cI := cI) (cZ := cZ) (cA := cA) (cL := cL) (ad := ad), cF_49 (cI := cI) (cZ := cZ) (cA := cA) (cL := cL) (ad := ad), cF_50 (cI := cI) (cZ := cZ) (cA := cA) (cL := cL) (ad := ad), cF_51 (cI := cI) (cZ := cZ) (cA := cA) (cL := cL) (ad := ad), cF_52 (cI := cI) (cZ := cZ) (cA := cA) (cL := cL) (ad := ad)]
def permL : List Nat := (0 :: ([] ++ (1 :: ([] ++ [7] ++ [8] ++ (53 :: (List.range 30).map (fun i => 58 + i)))) ++ (2 :: ([] ++ [9] ++ [10])) ++ (3 :: ([] ++ [11] ++ [12] ++ [13] ++ (54 :: (List.range 20).map (fun i => 88 + i)) ++ [14] ++ [15] ++ [16] ++ (55 :: (List.range 20).map (fun i => 108 + i)) ++ [17])) ++ (4 :: ([] ++ [18] ++ [19] ++ [20] ++ [21] ++ [22] ++ [23] ++ [24] ++ [25])) ++ (5 :: ([] ++ [26] ++ (57 :: (List.range 20).map (fun i => 158 + i)))) ++ [27] ++ [28] ++ (56 :: (List.range 30).map (fun i => 128 + i)))) ++ (6 :: 29 :: 30 :: 31 :: 32 :: 33 :: 34 :: 35 :: 36 :: 37 :: 38 :: 39 :: 40 :: 41 :: 42 :: 43 :: 44 :: 45 :: 46 :: 47 :: 48 :: 49 :: 50 :: 51 :: 52 :: []) ++ [178]
def permW (cI cZ cA cL : ClassId) (ad : Nat → Nat) : va_W := (cF cI cZ cA cL ad 0 :: ([] ++ (cF cI cZ cA cL ad 1 :: ([] ++ [cF cI cZ cA cL ad 7] ++ [cF cI cZ cA cL ad 8] ++ (cF cI cZ cA cL ad 53 :: (List.range 30).map (fun i => cF cI cZ cA cL ad (58 + i))))) ++ (cF cI cZ cA cL ad 2 :: ([] ++ [cF cI cZ cA cL ad 9] ++ [cF cI cZ cA cL ad 10])) ++ (cF cI cZ cA cL ad 3 :: ([] ++ [cF cI cZ cA cL ad 11] ++ [cF cI cZ cA cL ad 12] ++ [cF cI cZ cA cL ad 13] ++ (cF cI cZ cA cL ad 54 :: (List.range 20).map (fun i => cF cI cZ cA cL ad (88 + i))) ++ [cF cI cZ cA cL ad 14] ++ [cF cI cZ cA cL ad 15] ++ [cF cI cZ cA cL ad 16] ++ (cF cI cZ cA cL ad 55 :: (List.range 20).map (fun i => cF cI cZ cA cL ad (108 + i))) ++ [cF cI cZ cA cL ad 17])) ++ (cF cI cZ cA cL ad 4 :: ([] ++ [cF cI cZ cA cL ad 18] ++ [cF cI cZ cA cL ad 19] ++ [cF cI cZ cA cL ad 20] ++ [cF cI cZ cA cL ad 21] ++ [cF cI cZ cA cL ad 22] ++ [cF cI cZ cA cL ad 23] ++ [cF cI cZ cA cL ad 24] ++ [cF cI cZ cA cL ad 25])) ++ (cF cI cZ cA cL ad 5 :: ([] ++ [cF cI cZ cA cL ad 26] ++ (cF cI cZ cA cL ad 57 :: (List.range 20).map (fun i => cF cI cZ cA cL ad (158 + i))))) ++ [cF cI cZ cA cL ad 27] ++ [cF cI cZ cA cL ad 28] ++ (cF cI cZ cA cL ad 56 :: (List.range 30).map (fun i => cF cI cZ cA cL ad (128 + i))))) ++ (cF cI cZ cA cL ad 6 :: cF cI cZ cA cL ad 29 :: cF cI cZ cA cL ad 30 :: cF cI cZ cA cL ad 31 :: cF cI cZ cA cL ad 32 :: cF cI cZ cA cL ad 33 :: cF cI cZ cA cL ad 34 :: cF cI cZ cA cL ad 35 :: cF cI cZ cA cL ad 36 :: cF cI cZ cA cL ad 37 :: cF cI cZ cA cL ad 38 :: cF cI cZ cA cL ad 39 :: cF cI cZ cA cL ad 40 :: cF cI cZ cA cL ad 41 :: cF cI cZ cA cL ad 42 :: cF cI cZ cA cL ad 43 :: cF cI cZ cA cL ad 44 :: cF cI cZ cA cL ad 45 :: cF cI cZ cA cL ad 46 :: cF cI cZ cA cL ad 47 :: cF cI cZ cA cL ad 48 :: cF cI cZ cA cL ad 49 :: cF cI cZ cA cL ad 50 :: cF cI cZ cA cL ad 51 :: cF cI cZ cA cL ad 52 :: []) ++ [cF cI cZ cA cL ad 178]
theorem permW_eq : permW cI cZ cA cL ad = permL.map (cF cI cZ cA cL ad) := by
  unfold permW permL
  simp only [List.map_append, List.map_cons, List.map_map, List.map_nil, Function.comp_def]
theorem permL_nd : permL.Nodup := by decide +kernel
theorem permL_in : ∀ k, k < 179 → k ∈ permL := by decide +kernel
theorem permL_lt : ∀ k ∈ permL, k < 179 := by decide +kernel
theorem perm_at {k : Nat} (h : k < 179) : ∃ j : Nat, permL[j]? = some k ∧ (permW cI cZ cA cL ad)[j]? = some (cF cI cZ cA cL ad k) := by
  obtain ⟨j, hj, e⟩ := List.getElem_of_mem (permL_in k h)
  refine ⟨j, by rw [List.getElem?_eq_getElem hj, e], ?_⟩
  rw [permW_eq, List.getElem?_map, List.getElem?_eq_getElem hj, e]
  rfl
theorem perm_P {D : va_G} {H : Heap} (h : va_P D vwCl (permW cI cZ cA cL ad) H) : va_P D vwCl (wl cI cZ cA cL ad σ0) H := by
  intro k q hk
  have hk9 : k < 179 := by
    have := (List.getElem?_eq_some_iff.mp hk).1
    simpa [wl] using this
  rw [wl_at hk9] at hk
  cases hk
  obtain ⟨j, _, e⟩ := perm_at (cI := cI) (cZ := cZ) (cA := cA) (cL := cL) (ad := ad) hk9
  exact h j _ e
theorem perm_adI {A : Nat → Prop} (h : va_D A (permW cI cZ cA cL ad)) : adI ad := by
  intro i j hi hj e
  obtain ⟨a, a1, a2⟩ := perm_at (cI := cI) (cZ := cZ) (cA := cA) (cL := cL) (ad := ad) hi
  obtain ⟨b, b1, b2⟩ := perm_at (cI := cI) (cZ := cZ) (cA := cA) (cL := cL) (ad := ad) hj
  have := h.1 a b _ _ a2 b2 e
  subst this
  rw [a1] at b1
  exact Option.some.inj b1
theorem perm_A {A : Nat → Prop} (h : va_D A (permW cI cZ cA cL ad)) : ∀ k, k < 179 → A (ad k) := by
  intro k hk
  obtain ⟨a, _, a2⟩ := perm_at (cI := cI) (cZ := cZ) (cA := cA) (cL := cL) (ad := ad) hk
  exact h.2 a _ a2
end LAYW
set_option maxHeartbeats 2000000 in
set_option maxRecDepth 100000 in
theorem lay_all {cI cZ cA cL : ClassId} {h0 h6 qL b : Nat} {u5 u6 : va_W} (H5 : N_X5 cI cZ cA h0 u5) (H6 : M_X6 cI cZ h6 u6) : ∃ ad : Nat → Nat, ad 200 = b ∧ ad 0 = h0 ∧ ad 6 = h6 ∧ ad 178 = qL ∧ u5 ++ u6 ++ [(qL, .inl (cL, 1, .inr (.inl (fun _ => 0))))] = permW cI cZ cA cL ad := by
  obtain ⟨p0, u0, p1, u1, p2, u2, p3, u3, p4, u4, p5, p6, p7, t7, rfl, H0, H1, H2, H3, H4⟩ := H5
  obtain ⟨a0, a1, a2, a2r, rfl⟩ := H0
  obtain ⟨b0, b1, rfl⟩ := H1
  obtain ⟨c0, c1, c2, c3, c3r, c5, c6, c7, c8, c8r, c9, rfl⟩ := H2
  obtain ⟨d0, d1, d2, d3, d4, d5, d6, d7, rfl⟩ := H3
  obtain ⟨e0, e1, e1r, rfl⟩ := H4
  obtain ⟨f1, f2, f3, f5, f6, f7, f8, f9, f10, f12, f13, f14, f15, f16, f17, f18, f20, f21, f23, f24, f26, f27, f28, f29, rfl⟩ := H6
  refine ⟨adF [h0, p0, p1, p2, p3, p4, h6, a0, a1, b0, b1, c0, c1, c2, c5, c6, c7, c9, d0, d1, d2, d3, d4, d5, d6, d7, e0, p5, p6, f1, f2, f3, f5, f6, f7, f8, f9, f10, f12, f13, f14, f15, f16, f17, f18, f20, f21, f23, f24, f26, f27, f28, f29, a2, c3, c8, p7, e1] a2r c3r c8r t7 e1r qL b, rfl, rfl, rfl, rfl, ?_⟩
  have k58 : ∀ i, i < 30 → a2r i = (adF [h0, p0, p1, p2, p3, p4, h6, a0, a1, b0, b1, c0, c1, c2, c5, c6, c7, c9, d0, d1, d2, d3, d4, d5, d6, d7, e0, p5, p6, f1, f2, f3, f5, f6, f7, f8, f9, f10, f12, f13, f14, f15, f16, f17, f18, f20, f21, f23, f24, f26, f27, f28, f29, a2, c3, c8, p7, e1] a2r c3r c8r t7 e1r qL b) (58 + i) := fun i hi => (adF_58 hi).symm
  have k88 : ∀ i, i < 20 → c3r i = (adF [h0, p0, p1, p2, p3, p4, h6, a0, a1, b0, b1, c0, c1, c2, c5, c6, c7, c9, d0, d1, d2, d3, d4, d5, d6, d7, e0, p5, p6, f1, f2, f3, f5, f6, f7, f8, f9, f10, f12, f13, f14, f15, f16, f17, f18, f20, f21, f23, f24, f26, f27, f28, f29, a2, c3, c8, p7, e1] a2r c3r c8r t7 e1r qL b) (88 + i) := fun i hi => (adF_88 hi).symm
  have k108 : ∀ i, i < 20 → c8r i = (adF [h0, p0, p1, p2, p3, p4, h6, a0, a1, b0, b1, c0, c1, c2, c5, c6, c7, c9, d0, d1, d2, d3, d4, d5, d6, d7, e0, p5, p6, f1, f2, f3, f5, f6, f7, f8, f9, f10, f12, f13, f14, f15, f16, f17, f18, f20, f21, f23, f24, f26, f27, f28, f29, a2, c3, c8, p7, e1] a2r c3r c8r t7 e1r qL b) (108 + i) := fun i hi => (adF_108 hi).symm
  have k128 : ∀ i, i < 30 → t7 i = (adF [h0, p0, p1, p2, p3, p4, h6, a0, a1, b0, b1, c0, c1, c2, c5, c6, c7, c9, d0, d1, d2, d3, d4, d5, d6, d7, e0, p5, p6, f1, f2, f3, f5, f6, f7, f8, f9, f10, f12, f13, f14, f15, f16, f17, f18, f20, f21, f23, f24, f26, f27, f28, f29, a2, c3, c8, p7, e1] a2r c3r c8r t7 e1r qL b) (128 + i) := fun i hi => (adF_128 hi).symm
  have k158 : ∀ i, i < 20 → e1r i = (adF [h0, p0, p1, p2, p3, p4, h6, a0, a1, b0, b1, c0, c1, c2, c5, c6, c7, c9, d0, d1, d2, d3, d4, d5, d6, d7, e0, p5, p6, f1, f2, f3, f5, f6, f7, f8, f9, f10, f12, f13, f14, f15, f16, f17, f18, f20, f21, f23, f24, f26, f27, f28, f29, a2, c3, c8, p7, e1] a2r c3r c8r t7 e1r qL b) (158 + i) := fun i hi => (adF_158 hi).symm
  generalize ea : adF [h0, p0, p1, p2, p3, p4, h6, a0, a1, b0, b1, c0, c1, c2, c5, c6, c7, c9, d0, d1, d2, d3, d4, d5, d6, d7, e0, p5, p6, f1, f2, f3, f5, f6, f7, f8, f9, f10, f12, f13, f14, f15, f16, f17, f18, f20, f21, f23, f24, f26, f27, f28, f29, a2, c3, c8, p7, e1] a2r c3r c8r t7 e1r qL b = ad at *
  have n0 : h0 = ad 0 := by rw [← ea]; rfl
  have n1 : p0 = ad 1 := by rw [← ea]; rfl
  have n2 : p1 = ad 2 := by rw [← ea]; rfl
  have n3 : p2 = ad 3 := by rw [← ea]; rfl
  have n4 : p3 = ad 4 := by rw [← ea]; rfl
  have n5 : p4 = ad 5 := by rw [← ea]; rfl
  have n6 : h6 = ad 6 := by rw [← ea]; rfl
  have n7 : a0 = ad 7 := by rw [← ea]; rfl
  have n8 : a1 = ad 8 := by rw [← ea]; rfl
  have n9 : b0 = ad 9 := by rw [← ea]; rfl
  have n10 : b1 = ad 10 := by rw [← ea]; rfl
  have n11 : c0 = ad 11 := by rw [← ea]; rfl
  have n12 : c1 = ad 12 := by rw [← ea]; rfl
  have n13 : c2 = ad 13 := by rw [← ea]; rfl
  have n14 : c5 = ad 14 := by rw [← ea]; rfl
  have n15 : c6 = ad 15 := by rw [← ea]; rfl
  have n16 : c7 = ad 16 := by rw [← ea]; rfl
  have n17 : c9 = ad 17 := by rw [← ea]; rfl
  have n18 : d0 = ad 18 := by rw [← ea]; rfl
  have n19 : d1 = ad 19 := by rw [← ea]; rfl
  have n20 : d2 = ad 20 := by rw [← ea]; rfl
  have n21 : d3 = ad 21 := by rw [← ea]; rfl
  have n22 : d4 = ad 22 := by rw [← ea]; rfl
  have n23 : d5 = ad 23 := by rw [← ea]; rfl
  have n24 : d6 = ad 24 := by rw [← ea]; rfl
  have n25 : d7 = ad 25 := by rw [← ea]; rfl
  have n26 : e0 = ad 26 := by rw [← ea]; rfl
  have n27 : p5 = ad 27 := by rw [← ea]; rfl
  have n28 : p6 = ad 28 := by rw [← ea]; rfl
  have n29 : f1 = ad 29 := by rw [← ea]; rfl
  have n30 : f2 = ad 30 := by rw [← ea]; rfl
  have n31 : f3 = ad 31 := by rw [← ea]; rfl
  have n32 : f5 = ad 32 := by rw [← ea]; rfl
  have n33 : f6 = ad 33 := by rw [← ea]; rfl
  have n34 : f7 = ad 34 := by rw [← ea]; rfl
  have n35 : f8 = ad 35 := by rw [← ea]; rfl
  have n36 : f9 = ad 36 := by rw [← ea]; rfl
  have n37 : f10 = ad 37 := by rw [← ea]; rfl
  have n38 : f12 = ad 38 := by rw [← ea]; rfl
  have n39 : f13 = ad 39 := by rw [← ea]; rfl
  have n40 : f14 = ad 40 := by rw [← ea]; rfl
  have n41 : f15 = ad 41 := by rw [← ea]; rfl
  have n42 : f16 = ad 42 := by rw [← ea]; rfl
  have n43 : f17 = ad 43 := by rw [← ea]; rfl
  have n44 : f18 = ad 44 := by rw [← ea]; rfl
  have n45 : f20 = ad 45 := by rw [← ea]; rfl
  have n46 : f21 = ad 46 := by rw [← ea]; rfl
  have n47 : f23 = ad 47 := by rw [← ea]; rfl
  have n48 : f24 = ad 48 := by rw [← ea]; rfl
  have n49 : f26 = ad 49 := by rw [← ea]; rfl
  have n50 : f27 = ad 50 := by rw [← ea]; rfl
  have n51 : f28 = ad 51 := by rw [← ea]; rfl
  have n52 : f29 = ad 52 := by rw [← ea]; rfl
  have n53 : a2 = ad 53 := by rw [← ea]; rfl
  have n54 : c3 = ad 54 := by rw [← ea]; rfl
  have n55 : c8 = ad 55 := by rw [← ea]; rfl
  have n56 : p7 = ad 56 := by rw [← ea]; rfl
  have n57 : e1 = ad 57 := by rw [← ea]; rfl
  have n178 : qL = ad 178 := by rw [← ea]; rfl
  clear ea
  subst n0
  subst n1
  subst n2
  subst n3
  subst n4
  subst n5
  subst n6
  subst n7
  subst n8
  subst n9
  subst n10
  subst n11
  subst n12
  subst n13
  subst n14
  subst n15
  subst n16
  subst n17
  subst n18
  subst n19
  subst n20
  subst n21
  subst n22
  subst n23
  subst n24
  subst n25
  subst n26
  subst n27
  subst n28
  subst n29
  subst n30
  subst n31
  subst n32
  subst n33
  subst n34
  subst n35
  subst n36
  subst n37
  subst n38
  subst n39
  subst n40
  subst n41
  subst n42
  subst n43
  subst n44
  subst n45
  subst n46
  subst n47
  subst n48
  subst n49
  subst n50
  subst n51
  subst n52
  subst n53
  subst n54
  subst n55
  subst n56
  subst n57
  subst n178
  rw [cB_1 (cL := cL) k58, cB_2 (cZ := cZ) (cA := cA) (cL := cL), cB_3 (cZ := cZ) (cL := cL) k88 k108, cB_4 (cZ := cZ) (cA := cA) (cL := cL), cB_5 (cZ := cZ) (cL := cL) k158, cB_6 (cA := cA) (cL := cL), cF_0 (cI := cI) (cZ := cZ) (cA := cA) (cL := cL), cF_27 (cZ := cZ) (cA := cA) (cL := cL), cF_28 (cZ := cZ) (cA := cA) (cL := cL), cF_56 (cI := cI) (cZ := cZ) (cL := cL) k128, cR_56 (cZ := cZ) (cA := cA) (cL := cL) k128, cF_178 (cI := cI) (cZ := cZ) (cA := cA)]
  rfl
