/-! numbers: places, ranges, writing -/
theorem ix_nI {k : Nat} (h : k < 2 ^ 31) : ix (nI k) = k := nI_clamp h
theorem inb_nI {k n : Nat} (h : k < n) (hn : n < 2 ^ 31) : inb (nI k) n = true := by
  simp only [inb, Bool.and_eq_true, decide_eq_true_eq, nI_toInt (show k < 2 ^ 31 by omega)]
  omega
theorem inb_of {x : Int32} {n : Nat} (h : inb x n = true) (hn : n < 2 ^ 31) : ∃ k, k < n ∧ x = nI k := vp_in_of (inb_in h) hn
theorem inb_le {x : Int32} {n m : Nat} (h : inb x n = true) (hm : n ≤ m) : inb x m = true := by
  simp only [inb, Bool.and_eq_true, decide_eq_true_eq] at h ⊢
  omega
theorem inb_nlt {k n : Nat} (h : ¬ k < n) (hk : k < 2 ^ 31) : inb (nI k) n = false := by
  simp only [inb, Bool.and_eq_false_iff, decide_eq_false_iff_not, nI_toInt hk]
  omega
theorem inb_iff {x : Int32} {n : Nat} : inb x n = true ↔ 0 ≤ x.toInt ∧ x.toInt < n := by
  simp only [inb, Bool.and_eq_true, decide_eq_true_eq]
theorem mput_ne {σ : aM} {k i a : Nat} {v : Int32} (h : ¬ a = k) : mput σ k i v a = σ a := if_neg h
theorem mput_at {σ : aM} {k i j : Nat} {v : Int32} : mput σ k i v k j = if j = i then v else σ k j := by
  simp [mput, upd]
theorem mput_self {σ : aM} {k i : Nat} {v : Int32} : mput σ k i v k i = v := by
  simp [mput, upd]
theorem mput_other {σ : aM} {k i j : Nat} {v : Int32} (h : ¬ j = i) : mput σ k i v k j = σ k j := by
  simp [mput, upd, h]
theorem i_nlt {a b : Int32} : ¬ a < b ↔ b ≤ a := by
  rw [Int32.lt_iff_toInt_lt, Int32.le_iff_toInt_le]
  omega
theorem i_nle {a b : Int32} : ¬ a ≤ b ↔ b < a := by
  rw [Int32.lt_iff_toInt_lt, Int32.le_iff_toInt_le]
  omega
theorem nI_m1 {n : Nat} (h : n < 2 ^ 30) : (nI n - 1).toInt = (n : Int) - 1 := by
  have := pk_sub_toInt (a := n) (b := 1) (by omega) (by decide)
  exact this
/-- the number check of CueTour, the reference's range check -/
theorem x_num {p0 : Int32} {n : Nat} {σ : aM} (hn : n < 2 ^ 30) : f_X5_checkNumber p0 (nI n) σ = some (if inb p0 n = true then 0 else 1, 0, σ) := by
  unfold f_X5_checkNumber
  have h1 : (p0 < 0) ↔ p0.toInt < 0 := by rw [Int32.lt_iff_toInt_lt]; rfl
  have h2 : (p0 < nI n) ↔ p0.toInt < n := by rw [Int32.lt_iff_toInt_lt, nI_toInt (by omega)]
  have h3 : inb p0 n = true ↔ 0 ≤ p0.toInt ∧ p0.toInt < n := inb_iff
  by_cases a : p0.toInt < 0
  · rw [if_pos (h1.mpr a), if_neg (fun q => by have := h3.mp q; omega)]
  · rw [if_neg (fun q => a (h1.mp q))]
    by_cases b : p0.toInt < n
    · rw [if_pos (h2.mpr b), if_pos (h3.mpr ⟨by omega, b⟩)]
    · rw [if_neg (fun q => b (h2.mp q)), if_neg (fun q => b (h3.mp q).2)]
theorem x_rng {p0 p1 p2 : Int32} {σ : aM} : f_X5_checkRange p0 p1 p2 σ = some (if p1 ≤ p0 ∧ p0 ≤ p2 then 0 else 2, 0, σ) := by
  unfold f_X5_checkRange
  by_cases a : p0 < p1
  · rw [if_pos a, if_neg (fun q => absurd a (i_nlt.mpr q.1))]
  · rw [if_neg a]
    by_cases b : p0 ≤ p2
    · rw [if_pos b, if_pos ⟨i_nlt.mp a, b⟩]
    · rw [if_neg b, if_neg (fun q => b q.2)]
theorem x_room {p0 p1 : Int32} {σ : aM} : f_X5_checkRoom p0 p1 σ = some (if p0 < p1 then 0 else 3, 0, σ) := by
  unfold f_X5_checkRoom
  by_cases a : p0 < p1
  · rw [if_pos a, if_pos a]
  · rw [if_neg a, if_neg a]
theorem x_state {p0 : Int32} {σ : aM} : f_X5_checkState p0 σ = some (if p0 = 0 then 3 else 0, 0, σ) := by
  unfold f_X5_checkState
  by_cases a : p0 = 0
  · simp [a]
  · simp [a]
theorem m_in {p0 p1 p2 : Int32} {σ : aM} : f_X6_isIn p0 p1 p2 σ = some (if p1 ≤ p0 ∧ p0 ≤ p2 then 1 else 0, σ) := by
  unfold f_X6_isIn
  by_cases a : p0 < p1
  · rw [if_pos a, if_neg (fun q => absurd a (i_nlt.mpr q.1))]
  · rw [if_neg a]
    by_cases b : p2 < p0
    · rw [if_pos b, if_neg (fun q => absurd b (i_nlt.mpr q.2))]
    · rw [if_neg b, if_pos ⟨i_nlt.mp a, i_nlt.mp b⟩]
theorem m_inN {p0 : Int32} {n : Nat} (hn : n < 2 ^ 30) : (0 ≤ p0 ∧ p0 ≤ nI n - 1) ↔ inb p0 n = true := by
  rw [inb_iff, Int32.le_iff_toInt_le, Int32.le_iff_toInt_le, nI_m1 hn]
  have : (0 : Int32).toInt = 0 := rfl
  omega
theorem m_fine {p0 : Int32} {σ : aM} : f_X6_isFine p0 σ = some (if p0 = 0 then 1 else 0, mput σ 6 0 p0) := by
  unfold f_X6_isFine
  by_cases a : p0 = 0
  · simp [a]
  · simp [a]
theorem m_line {p0 : Int32} {n : Nat} {σ : aM} (hn : n < 2 ^ 30) (h : σ 6 4 = nI n) : f_X6_isLine p0 σ = some (if inb p0 n = true then 1 else 0, σ) := by
  unfold f_X6_isLine
  rw [m_in, h]
  by_cases a : inb p0 n = true
  · simp [(m_inN hn).mpr a, a, bnd]
  · have : ¬ (0 ≤ p0 ∧ p0 ≤ nI n - 1) := fun q => a ((m_inN hn).mp q)
    simp only [if_neg this, if_neg a, bnd]
    simp
theorem m_cue {p0 : Int32} {n : Nat} {σ : aM} (hn : n < 2 ^ 30) (h : σ 6 11 = nI n) : f_X6_isCue p0 σ = some (if inb p0 n = true then 1 else 0, σ) := by
  unfold f_X6_isCue
  rw [m_in, h]
  by_cases a : inb p0 n = true
  · simp [(m_inN hn).mpr a, a, bnd]
  · have : ¬ (0 ≤ p0 ∧ p0 ≤ nI n - 1) := fun q => a ((m_inN hn).mp q)
    simp only [if_neg this, if_neg a, bnd]
    simp
theorem m_lamp {p0 : Int32} {n : Nat} {σ : aM} (hn : n < 2 ^ 30) (h : σ 6 19 = nI n) : f_X6_isLamp p0 σ = some (if inb p0 n = true then 1 else 0, σ) := by
  unfold f_X6_isLamp
  rw [m_in, h]
  by_cases a : inb p0 n = true
  · simp [(m_inN hn).mpr a, a, bnd]
  · have : ¬ (0 ≤ p0 ∧ p0 ≤ nI n - 1) := fun q => a ((m_inN hn).mp q)
    simp only [if_neg this, if_neg a, bnd]
    simp
theorem m_log {p0 : Int32} {n : Nat} {σ : aM} (hn : n < 2 ^ 30) (h : σ 6 22 = nI n) : f_X6_isLog p0 σ = some (if inb p0 n = true then 1 else 0, σ) := by
  unfold f_X6_isLog
  rw [m_in, h]
  by_cases a : inb p0 n = true
  · simp [(m_inN hn).mpr a, a, bnd]
  · have : ¬ (0 ≤ p0 ∧ p0 ≤ nI n - 1) := fun q => a ((m_inN hn).mp q)
    simp only [if_neg this, if_neg a, bnd]
    simp
theorem m_area {p0 : Int32} {σ : aM} : f_X6_isArea p0 σ = some (if inb p0 4 = true then 1 else 0, σ) := by
  unfold f_X6_isArea
  rw [m_in]
  have e : (0 ≤ p0 ∧ p0 ≤ 3) ↔ inb p0 4 = true := m_inN (n := 4) (by decide)
  by_cases a : inb p0 4 = true
  · simp [e.mpr a, a, bnd]
  · have : ¬ (0 ≤ p0 ∧ p0 ≤ 3) := fun q => a (e.mp q)
    simp only [if_neg this, if_neg a, bnd]
    simp
theorem m_stage {p0 : Int32} {σ : aM} : f_X6_isStage p0 σ = some (if inb p0 4 = true then 1 else 0, σ) := by
  unfold f_X6_isStage
  rw [m_in]
  have e : (0 ≤ p0 ∧ p0 ≤ 3) ↔ inb p0 4 = true := m_inN (n := 4) (by decide)
  by_cases a : inb p0 4 = true
  · simp [e.mpr a, a, bnd]
  · have : ¬ (0 ≤ p0 ∧ p0 ≤ 3) := fun q => a (e.mp q)
    simp only [if_neg this, if_neg a, bnd]
    simp
theorem m_channel {p0 : Int32} {σ : aM} : f_X6_isChannel p0 σ = some (if inb p0 10 = true then 1 else 0, σ) := by
  unfold f_X6_isChannel
  rw [m_in]
  have e : (0 ≤ p0 ∧ p0 ≤ 9) ↔ inb p0 10 = true := m_inN (n := 10) (by decide)
  by_cases a : inb p0 10 = true
  · simp [e.mpr a, a, bnd]
  · have : ¬ (0 ≤ p0 ∧ p0 ≤ 9) := fun q => a (e.mp q)
    simp only [if_neg this, if_neg a, bnd]
    simp
theorem m_time {p0 : Int32} {σ : aM} : f_X6_isTime p0 σ = some (if 0 ≤ p0 ∧ p0 ≤ 2000 then 1 else 0, σ) := by
  unfold f_X6_isTime
  rw [m_in]
  by_cases a : 0 ≤ p0 ∧ p0 ≤ 2000
  · simp [a, bnd]
  · simp only [if_neg a, bnd]
    simp
theorem m_fade {p0 p1 : Int32} {σ : aM} : f_X6_isFade p0 p1 σ = some (if (0 ≤ p0 ∧ p0 ≤ 60) ∧ (0 ≤ p1 ∧ p1 ≤ 60) then 1 else 0, σ) := by
  unfold f_X6_isFade
  rw [m_in]
  by_cases a : 0 ≤ p0 ∧ p0 ≤ 60
  · rw [if_pos a]
    simp only [bnd]
    rw [if_neg (show ¬ (1 : Int32) = 0 by decide), m_in]
    by_cases b : 0 ≤ p1 ∧ p1 ≤ 60
    · rw [if_pos b, if_pos (And.intro a b)]
      rfl
    · rw [if_neg b, if_neg (fun q : (0 ≤ p0 ∧ p0 ≤ 60) ∧ (0 ≤ p1 ∧ p1 ≤ 60) => b q.2)]
      rfl
  · rw [if_neg a, if_neg (fun q : (0 ≤ p0 ∧ p0 ≤ 60) ∧ (0 ≤ p1 ∧ p1 ≤ 60) => a q.1)]
    rfl
/-- the seconds of the lines ahead that are not cut -/
def sa (sec out : Nat → Int32) : Nat → Int32
  | 0 => 0
  | l + 1 => if out l = 0 then sa sec out l + sec l else sa sec out l
theorem nI_gt {a b : Nat} (h : a < b) (hb : b < 2 ^ 31) : ¬ nI b ≤ nI a := nI_ge h hb
theorem x_ahead_l {σ : aM} {l : Nat} (hl : l ≤ 30) (k : Int32 → Int32 → aM → Option (Int32 × aM)) : ∀ (d i n : Nat), i + d = l → d < n → l_X4_secondsAhead_4 (nI l) n (sa (σ 7) (σ 8) i) (nI i) σ k = k (sa (σ 7) (σ 8) l) (nI l) σ := by
  intro d
  induction d with
  | zero =>
    intro i n hi hn
    obtain ⟨n, rfl⟩ : ∃ m, n = m + 1 := ⟨n - 1, by omega⟩
    obtain rfl : i = l := by omega
    unfold l_X4_secondsAhead_4
    rw [if_pos (nI_le (Nat.le_refl _) (by omega))]
  | succ d ih =>
    intro i n hi hn
    obtain ⟨n, rfl⟩ : ∃ m, n = m + 1 := ⟨n - 1, by omega⟩
    unfold l_X4_secondsAhead_4
    rw [if_neg (nI_gt (by omega) (by omega)), if_pos (inb_nI (by omega) (by decide)), ix_nI (by omega)]
    have := ih (i + 1) n (by omega) (by omega)
    by_cases ho : σ 8 i = 0
    · rw [if_neg (fun q => q ho), if_pos (inb_nI (by omega) (by decide)), nI_1]
      simp only [sa, if_pos ho] at this
      exact this
    · rw [if_pos ho, nI_1]
      simp only [sa, if_neg ho] at this
      exact this
theorem x_ahead {σ : aM} {l : Nat} (hl : l ≤ 30) : f_X4_secondsAhead (nI l) σ = some (sa (σ 7) (σ 8) l, σ) :=
  x_ahead_l hl _ l 0 lf (by omega) (by show l < 4000; omega)
theorem m_ahead_l {σ : aM} {l : Nat} (hl : l ≤ 30) (k : Int32 → Int32 → aM → Option (Int32 × aM)) : ∀ (d i n : Nat), i + d = l → d < n → l_X6_ahead_4 (nI l) n (sa (σ 29) (σ 30) i) (nI i) σ k = k (sa (σ 29) (σ 30) l) (nI l) σ := by
  intro d
  induction d with
  | zero =>
    intro i n hi hn
    obtain ⟨n, rfl⟩ : ∃ m, n = m + 1 := ⟨n - 1, by omega⟩
    obtain rfl : i = l := by omega
    unfold l_X6_ahead_4
    rw [if_pos (nI_le (Nat.le_refl _) (by omega))]
  | succ d ih =>
    intro i n hi hn
    obtain ⟨n, rfl⟩ : ∃ m, n = m + 1 := ⟨n - 1, by omega⟩
    unfold l_X6_ahead_4
    rw [if_neg (nI_gt (by omega) (by omega)), if_pos (inb_nI (by omega) (by decide)), ix_nI (by omega)]
    have := ih (i + 1) n (by omega) (by omega)
    by_cases ho : σ 30 i = 0
    · rw [if_pos ho, if_pos (inb_nI (by omega) (by decide)), nI_1]
      simp only [sa, if_pos ho] at this
      exact this
    · rw [if_neg ho, nI_1, Int32.add_zero]
      simp only [sa, if_neg ho] at this
      exact this
theorem m_ahead {σ : aM} {l : Nat} (hl : l ≤ 30) : f_X6_ahead (nI l) σ = some (sa (σ 29) (σ 30) l, σ) :=
  m_ahead_l hl _ l 0 lf (by omega) (by show l < 4000; omega)
theorem sa_congr {a b c d : Nat → Int32} : ∀ (l : Nat), (∀ i, i < l → a i = b i ∧ c i = d i) → sa a c l = sa b d l
  | 0, _ => rfl
  | l + 1, h => by
    simp only [sa]
    rw [sa_congr l (fun i hi => h i (by omega)), (h l (by omega)).1, (h l (by omega)).2]
