/-! small things for the functions of the methods -/
def lf : Nat := 4000
def bnd (o : Option (Int32 × aM)) (f : Int32 → aM → Option (Int32 × aM)) : Option (Int32 × aM) := match o with
  | none => none
  | some (r, s) => f r s
theorem bnd_some {o : Option (Int32 × aM)} {f : Int32 → aM → Option (Int32 × aM)} {y : Int32 × aM} (h : bnd o f = some y) : ∃ r s, o = some (r, s) ∧ f r s = some y := by
  unfold bnd at h
  split at h
  · cases h
  · exact ⟨_, _, rfl, h⟩
theorem bnd_of {o : Option (Int32 × aM)} {f : Int32 → aM → Option (Int32 × aM)} {r : Int32} {s : aM} (h : o = some (r, s)) : bnd o f = f r s := by
  rw [h]; rfl
theorem ite_some {c : Prop} [Decidable c] {X : Option (Int32 × aM)} {y : Int32 × aM} (h : (if c then X else none) = some y) : c ∧ X = some y := by
  split at h
  · exact ⟨by assumption, h⟩
  · cases h
theorem ite_cases {c : Prop} [Decidable c] {X Y : Option (Int32 × aM)} {y : Int32 × aM} (h : (if c then X else Y) = some y) : (c ∧ X = some y) ∨ (¬ c ∧ Y = some y) := by
  split at h
  · exact Or.inl ⟨by assumption, h⟩
  · exact Or.inr ⟨by assumption, h⟩
theorem ruL_c {P : aI → Nat → Prop} {n n2 : Nat} {i : aI} {t : List aI} (e : n + 1 = n2) (h1 : P i n) (h2 : ruL P n2 t) : ruL P n (i :: t) := by
  subst e
  exact ⟨h1, h2⟩
theorem inb_lt {i : Int32} {n : Nat} (h : inb i n = true) : ix i < n := Nat.not_le.mp fun q => inb_in h (Or.inr q)
theorem row53_kd {i : Int32} (h : inb i 30 = true) : kd (58 + ix i) = 1 := by
  have := inb_lt h
  unfold kd
  rw [if_neg (by omega), if_neg (by omega), if_neg (by omega), if_neg (by omega), if_pos (by omega)]
theorem row54_kd {i : Int32} (h : inb i 20 = true) : kd (88 + ix i) = 1 := by
  have := inb_lt h
  unfold kd
  rw [if_neg (by omega), if_neg (by omega), if_neg (by omega), if_neg (by omega), if_pos (by omega)]
theorem row55_kd {i : Int32} (h : inb i 20 = true) : kd (108 + ix i) = 1 := by
  have := inb_lt h
  unfold kd
  rw [if_neg (by omega), if_neg (by omega), if_neg (by omega), if_neg (by omega), if_pos (by omega)]
theorem row56_kd {i : Int32} (h : inb i 30 = true) : kd (128 + ix i) = 1 := by
  have := inb_lt h
  unfold kd
  rw [if_neg (by omega), if_neg (by omega), if_neg (by omega), if_neg (by omega), if_pos (by omega)]
theorem row57_kd {i : Int32} (h : inb i 20 = true) : kd (158 + ix i) = 1 := by
  have := inb_lt h
  unfold kd
  rw [if_neg (by omega), if_neg (by omega), if_neg (by omega), if_neg (by omega), if_pos (by omega)]
theorem row53_ln {i : Int32} (h : inb i 30 = true) : ln (58 + ix i) = 4 := by
  have := inb_lt h
  unfold ln
  rw [if_neg (by omega), if_pos (by omega)]
theorem row54_ln {i : Int32} (h : inb i 20 = true) : ln (88 + ix i) = 10 := by
  have := inb_lt h
  unfold ln
  rw [if_neg (by omega), if_neg (by omega), if_pos (by omega)]
theorem row55_ln {i : Int32} (h : inb i 20 = true) : ln (108 + ix i) = 10 := by
  have := inb_lt h
  unfold ln
  rw [if_neg (by omega), if_neg (by omega), if_pos (by omega)]
theorem row56_ln {i : Int32} (h : inb i 30 = true) : ln (128 + ix i) = 10 := by
  have := inb_lt h
  unfold ln
  rw [if_neg (by omega), if_neg (by omega), if_pos (by omega)]
theorem row57_ln {i : Int32} (h : inb i 20 = true) : ln (158 + ix i) = 30 := by
  have := inb_lt h
  unfold ln
  rw [if_neg (by omega), if_neg (by omega), if_neg (by omega), if_pos (by omega)]
