/-! loops by places; rows that are written; the lamps: what is laid, levels, light -/
theorem qa_loopU {R : Type} (F : Nat → Nat → R) (N : Nat) (z : R) (hs : ∀ i n, i < N → F (n + 1) i = F n (i + 1)) (he : ∀ n, F (n + 1) N = z) : ∀ d i n, i + d = N → d < n → F n i = z := by
  intro d
  induction d with
  | zero =>
    intro i n hi hn
    obtain ⟨n, rfl⟩ : ∃ m, n = m + 1 := ⟨n - 1, by omega⟩
    obtain rfl : i = N := by omega
    exact he n
  | succ d ih =>
    intro i n hi hn
    obtain ⟨n, rfl⟩ : ∃ m, n = m + 1 := ⟨n - 1, by omega⟩
    rw [hs i n (by omega)]
    exact ih (i + 1) n (by omega) (by omega)
theorem qa_loop0 {R : Type} (F : Nat → Nat → R) (N : Nat) (z : R) (n : Nat) (hN : N < n) (hs : ∀ i n, i < N → F (n + 1) i = F n (i + 1)) (he : ∀ n, F (n + 1) N = z) : F n 0 = z :=
  qa_loopU F N z hs he N 0 n (by omega) hN
theorem lf_gt {N : Nat} (h : N < 4000) : N < lf := h
/-- the first n places of row k hold f -/
def mrow (σ : aM) (k n : Nat) (f : Nat → Int32) : aM := fun a => if a = k then (fun j => if j < n then f j else σ k j) else σ a
theorem mrow_0 {σ : aM} {k : Nat} {f : Nat → Int32} : mrow σ k 0 f = σ := by
  funext a
  by_cases h : a = k
  · subst h
    simp [mrow]
  · simp [mrow, h]
theorem mrow_s {σ : aM} {k i : Nat} {f : Nat → Int32} : mput (mrow σ k i f) k i (f i) = mrow σ k (i + 1) f := by
  funext a j
  by_cases h : a = k
  · subst h
    by_cases h2 : j = i
    · subst h2
      simp [mrow, mput, upd]
    · by_cases h3 : j < i
      · simp [mrow, mput, upd, h2, h3, show j < i + 1 by omega]
      · simp [mrow, mput, upd, h2, h3, show ¬ j < i + 1 by omega]
  · simp [mrow, mput, h]
theorem mrow_ne {σ : aM} {k n a : Nat} {f : Nat → Int32} (h : ¬ a = k) : mrow σ k n f a = σ a := if_neg h
theorem mrow_at {σ : aM} {k n j : Nat} {f : Nat → Int32} (h : j < n) : mrow σ k n f k j = f j := by
  simp [mrow, h]
theorem mrow_out {σ : aM} {k n j : Nat} {f : Nat → Int32} (h : ¬ j < n) : mrow σ k n f k j = σ k j := by
  simp [mrow, h]
theorem q10_lt {i : Nat} (h : i < 10) : ¬ (10 : Int32) ≤ nI i := nI_ge h (by decide)
theorem q10_ge : (10 : Int32) ≤ nI 10 := nI_le (Nat.le_refl _) (by decide)
theorem q4_lt {i : Nat} (h : i < 4) : ¬ (4 : Int32) ≤ nI i := nI_ge h (by decide)
theorem q4_ge : (4 : Int32) ≤ nI 4 := nI_le (Nat.le_refl _) (by decide)
theorem q_bit (y : Int32) : y &&& 1 = 0 ∨ y &&& 1 = 1 := by
  obtain ⟨j, hj, e⟩ := pk_andE y (m := 1) 1 (by decide)
  rcases (show j = 0 ∨ j = 1 by omega) with rfl | rfl
  · exact Or.inl e
  · exact Or.inr e
theorem q_le_self {k : Nat} (h : k < 2 ^ 31) : nI k ≤ nI k := nI_le (Nat.le_refl _) h
/-- what is laid: all lamps for the area, those of the colour -/
def qa_A (st ar : Nat → Int32) (s a : Int32) : Nat → Int32
  | 0 => 0
  | l + 1 => if st l = s ∧ ar l = a then qa_A st ar s a l ||| (1 <<< (nI l &&& 31)) else qa_A st ar s a l
def qa_K (st ar co : Nat → Int32) (s a c : Int32) : Nat → Int32
  | 0 => 0
  | l + 1 => if st l = s ∧ ar l = a ∧ co l = c then qa_K st ar co s a c l ||| (1 <<< (nI l &&& 31)) else qa_K st ar co s a c l
def qa_V (q : Nat) (st ar co : Nat → Int32) (s a c : Int32) : Int32 := if qa_K st ar co s a c q = 0 then qa_A st ar s a q else qa_K st ar co s a c q
theorem x_isFor {x : aM} {l : Nat} {s a : Int32} (h : l < 20) : f_X3_isFor (nI l) s a x = some (if x 22 l = s ∧ x 23 l = a then 1 else 0, x) := by
  unfold f_X3_isFor
  rw [if_pos (inb_nI h (by decide)), if_pos (inb_nI h (by decide)), ix_nI (by omega)]
  by_cases h1 : x 22 l = s
  · by_cases h2 : x 23 l = a <;> simp [h1, h2]
  · simp [h1]
theorem x_lampsFor_l {x : aM} {q : Nat} {s a c : Int32} (hq : q ≤ 20) (h48 : x 4 8 = nI q) (k : Int32 → Int32 → Int32 → aM → Option (Int32 × aM)) : l_X3_lampsFor_9 s a c lf 0 0 0 x k = k (qa_K (x 22) (x 23) (x 20) s a c q) (qa_A (x 22) (x 23) s a q) (nI q) x := by
  refine qa_loop0 (fun n i => l_X3_lampsFor_9 s a c n (qa_K (x 22) (x 23) (x 20) s a c i) (qa_A (x 22) (x 23) s a i) (nI i) x k) q _ lf (lf_gt (by omega)) (fun i n hi => ?_) (fun n => ?_)
  · show l_X3_lampsFor_9 s a c (n + 1) (qa_K (x 22) (x 23) (x 20) s a c i) (qa_A (x 22) (x 23) s a i) (nI i) x k = l_X3_lampsFor_9 s a c n (qa_K (x 22) (x 23) (x 20) s a c (i + 1)) (qa_A (x 22) (x 23) s a (i + 1)) (nI (i + 1)) x k
    rw [l_X3_lampsFor_9, h48, if_neg (nI_ge hi (by omega)), x_isFor (by omega)]
    simp only [bnd]
    rw [if_pos (inb_nI (show i < 20 by omega) (by decide)), ix_nI (by omega), nI_1]
    by_cases h1 : x 22 i = s ∧ x 23 i = a
    · by_cases h2 : x 20 i = c
      · simp [qa_A, qa_K, h1, h2]
      · simp [qa_A, qa_K, h1, h2]
    · have h3 : ¬ (x 22 i = s ∧ x 23 i = a ∧ x 20 i = c) := fun q => h1 ⟨q.1, q.2.1⟩
      simp [qa_A, qa_K, h1, h3]
  · show l_X3_lampsFor_9 s a c (n + 1) _ _ (nI q) x k = _
    rw [l_X3_lampsFor_9, h48, if_pos (q_le_self (by omega))]
theorem x_lampsFor {x : aM} {q : Nat} {s a c : Int32} (hq : q ≤ 20) (h48 : x 4 8 = nI q) : f_X3_lampsFor s a c x = some (qa_V q (x 22) (x 23) (x 20) s a c, x) := by
  unfold f_X3_lampsFor
  rw [x_lampsFor_l hq h48]
  by_cases h : qa_K (x 22) (x 23) (x 20) s a c q = 0
  · simp [qa_V, h]
  · simp [qa_V, h]
theorem x_lay {x : aM} {q : Nat} {s : Int32} (hq : q ≤ 20) (h48 : x 4 8 = nI q) : f_X3_lay s 28 x = some (0, mrow x 28 10 (fun h => qa_V q (x 22) (x 23) (x 20) s (x 9 h) (x 10 h))) := by
  have hl : ∀ k : Int32 → aM → Option (Int32 × aM), l_X3_lay_3 s 28 lf 0 x k = k (nI 10) (mrow x 28 10 (fun h => qa_V q (x 22) (x 23) (x 20) s (x 9 h) (x 10 h))) := by
    intro k
    have h0 : x = mrow x 28 0 (fun h => qa_V q (x 22) (x 23) (x 20) s (x 9 h) (x 10 h)) := mrow_0.symm
    conv => lhs; rw [h0]
    refine qa_loop0 (fun n i => l_X3_lay_3 s 28 n (nI i) (mrow x 28 i (fun h => qa_V q (x 22) (x 23) (x 20) s (x 9 h) (x 10 h))) k) 10 _ lf (lf_gt (by decide)) (fun i n hi => ?_) (fun n => ?_)
    · show l_X3_lay_3 s 28 (n + 1) (nI i) _ k = l_X3_lay_3 s 28 n (nI (i + 1)) _ k
      rw [l_X3_lay_3, if_neg (q10_lt hi), if_pos (inb_nI hi (by decide)), if_pos (inb_nI hi (by decide)), ix_nI (by omega), x_lampsFor (q := q) hq (by rw [mrow_ne (by decide)]; exact h48)]
      simp only [bnd]
      rw [if_pos (show kd 28 = 1 by decide), if_pos (show inb (nI i) (ln 28) = true from inb_nI (show i < 10 from hi) (by decide)), mrow_ne (by decide), mrow_ne (by decide), mrow_ne (by decide), mrow_ne (by decide), mrow_ne (by decide), nI_1]
      rw [← mrow_s (i := i)]
    · show l_X3_lay_3 s 28 (n + 1) (nI 10) _ k = _
      rw [l_X3_lay_3, if_pos q10_ge]
  unfold f_X3_lay
  rw [hl]
theorem m_lays {m : aM} {q h : Nat} {s : Int32} (hq : q ≤ 20) (h19 : m 6 19 = nI q) (hh : h < 10) : f_X6_lays s (nI h) m = some (qa_V q (m 40) (m 41) (m 42) s (m 32 h) (m 33 h), m) := by
  have hl : ∀ k : Int32 → Int32 → Int32 → aM → Option (Int32 × aM), l_X6_lays_8 s (nI h) lf 0 0 0 m k = k (qa_A (m 40) (m 41) s (m 32 h) q) (qa_K (m 40) (m 41) (m 42) s (m 32 h) (m 33 h) q) (nI q) m := by
    intro k
    refine qa_loop0 (fun n i => l_X6_lays_8 s (nI h) n (qa_A (m 40) (m 41) s (m 32 h) i) (qa_K (m 40) (m 41) (m 42) s (m 32 h) (m 33 h) i) (nI i) m k) q _ lf (lf_gt (by omega)) (fun i n hi => ?_) (fun n => ?_)
    · show l_X6_lays_8 s (nI h) (n + 1) (qa_A (m 40) (m 41) s (m 32 h) i) (qa_K (m 40) (m 41) (m 42) s (m 32 h) (m 33 h) i) (nI i) m k = l_X6_lays_8 s (nI h) n (qa_A (m 40) (m 41) s (m 32 h) (i + 1)) (qa_K (m 40) (m 41) (m 42) s (m 32 h) (m 33 h) (i + 1)) (nI (i + 1)) m k
      rw [l_X6_lays_8, h19, if_neg (nI_ge hi (by omega))]
      simp only [if_pos (inb_nI (show i < 20 by omega) (by decide)), if_pos (inb_nI hh (show 10 < 2 ^ 31 by decide)), ix_nI (show i < 2 ^ 31 by omega), ix_nI (show h < 2 ^ 31 by omega), nI_1]
      by_cases h1 : m 40 i = s
      · by_cases h2 : m 41 i = m 32 h
        · by_cases h3 : m 42 i = m 33 h
          · simp [qa_A, qa_K, h1, h2, h3]
          · simp [qa_A, qa_K, h1, h2, h3]
        · simp [qa_A, qa_K, h1, h2]
      · simp [qa_A, qa_K, h1]
    · show l_X6_lays_8 s (nI h) (n + 1) _ _ (nI q) m k = _
      rw [l_X6_lays_8, h19, if_pos (q_le_self (by omega))]
  unfold f_X6_lays
  rw [hl]
  by_cases h : qa_K (m 40) (m 41) (m 42) s (m 32 h) (m 33 h) q = 0
  · simp [qa_V, h]
  · simp [qa_V, h]
theorem m_laysAll {m : aM} {q : Nat} {s : Int32} (hq : q ≤ 20) (h19 : m 6 19 = nI q) : f_X6_laysAll s m = some (0, mrow m 50 10 (fun h => qa_V q (m 40) (m 41) (m 42) s (m 32 h) (m 33 h))) := by
  have hl : ∀ k : Int32 → aM → Option (Int32 × aM), l_X6_laysAll_2 s lf 0 m k = k (nI 10) (mrow m 50 10 (fun h => qa_V q (m 40) (m 41) (m 42) s (m 32 h) (m 33 h))) := by
    intro k
    have h0 : m = mrow m 50 0 (fun h => qa_V q (m 40) (m 41) (m 42) s (m 32 h) (m 33 h)) := mrow_0.symm
    conv => lhs; rw [h0]
    refine qa_loop0 (fun n i => l_X6_laysAll_2 s n (nI i) (mrow m 50 i (fun h => qa_V q (m 40) (m 41) (m 42) s (m 32 h) (m 33 h))) k) 10 _ lf (lf_gt (by decide)) (fun i n hi => ?_) (fun n => ?_)
    · show l_X6_laysAll_2 s (n + 1) (nI i) _ k = l_X6_laysAll_2 s n (nI (i + 1)) _ k
      rw [l_X6_laysAll_2, if_neg (q10_lt hi), m_lays (q := q) hq (by rw [mrow_ne (by decide)]; exact h19) hi]
      simp only [bnd]
      rw [if_pos (inb_nI hi (by decide)), ix_nI (by omega), mrow_ne (by decide), mrow_ne (by decide), mrow_ne (by decide), mrow_ne (by decide), mrow_ne (by decide), nI_1]
      rw [← mrow_s (i := i)]
    · show l_X6_laysAll_2 s (n + 1) (nI 10) _ k = _
      rw [l_X6_laysAll_2, if_pos q10_ge]
  unfold f_X6_laysAll
  rw [hl]
/-- the level of a lamp by the channels' levels -/
def qa_M (ld lv : Nat → Int32) (l : Nat) : Nat → Int32
  | 0 => 0
  | h + 1 => if qa_M ld lv l h < lv h ∧ (ld h >>> (nI l &&& 31)) &&& 1 = 1 then lv h else qa_M ld lv l h
def qa_L (we ld lv : Nat → Int32) (l : Nat) : Int32 := if we l < 300 then qa_M ld lv l 10 else 0
theorem x_levelOf {x : aM} {l a5 : Nat} {ld lv : Nat → Int32} (hl : l < 20) (hk : kd a5 = 1) (hn : ln a5 = 10) (h1 : ∀ h, h < 10 → x 28 h = ld h) (h2 : ∀ h, h < 10 → x a5 h = lv h) : f_X3_levelOf (nI l) 28 a5 x = some (qa_L (x 24) ld lv l, x) := by
  have hlp : ∀ k : Int32 → Int32 → aM → Option (Int32 × aM), l_X3_levelOf_20 (nI l) 28 a5 lf 0 0 x k = k (qa_M ld lv l 10) (nI 10) x := by
    intro k
    refine qa_loop0 (fun n i => l_X3_levelOf_20 (nI l) 28 a5 n (qa_M ld lv l i) (nI i) x k) 10 _ lf (lf_gt (by decide)) (fun i n hi => ?_) (fun n => ?_)
    · show l_X3_levelOf_20 (nI l) 28 a5 (n + 1) (qa_M ld lv l i) (nI i) x k = l_X3_levelOf_20 (nI l) 28 a5 n (qa_M ld lv l (i + 1)) (nI (i + 1)) x k
      rw [l_X3_levelOf_20, if_neg (q10_lt hi), if_pos (show kd 28 = 1 by decide), if_pos (show inb (nI i) (ln 28) = true from inb_nI (show i < 10 from hi) (by decide))]
      simp only [if_pos hk, hn, if_pos (inb_nI hi (show 10 < 2 ^ 31 by decide)), ix_nI (show i < 2 ^ 31 by omega), h1 i hi, h2 i hi, nI_1]
      by_cases hb : (ld i >>> (nI l &&& 31)) &&& 1 = 0
      · have hb1 : ¬ (ld i >>> (nI l &&& 31)) &&& 1 = 1 := by rw [hb]; decide
        rw [if_pos hb]
        simp only [qa_M, hb1, and_false, ↓reduceIte]
      · have hb1 : (ld i >>> (nI l &&& 31)) &&& 1 = 1 := (q_bit _).resolve_left hb
        rw [if_neg hb]
        by_cases hc : lv i ≤ qa_M ld lv l i
        · rw [if_pos hc]
          simp only [qa_M, hb1, and_true, if_neg (i_nlt.mpr hc)]
        · rw [if_neg hc]
          simp only [qa_M, hb1, and_true, if_pos (i_nle.mp hc)]
    · show l_X3_levelOf_20 (nI l) 28 a5 (n + 1) _ (nI 10) x k = _
      rw [l_X3_levelOf_20, if_pos q10_ge]
  unfold f_X3_levelOf
  rw [if_pos (inb_nI hl (by decide)), ix_nI (by omega), hlp]
  unfold qa_L
  by_cases h : x 24 l < 300
  · rw [if_pos h, if_pos h]
  · rw [if_neg h, if_neg h]
theorem m_lampNow {m : aM} {l : Nat} {ld lv : Nat → Int32} (hl : l < 20) (h1 : ∀ h, h < 10 → m 50 h = ld h) (h2 : ∀ h, h < 10 → m 51 h = lv h) : f_X6_lampNow (nI l) m = some (qa_L (m 44) ld lv l, m) := by
  unfold f_X6_lampNow qa_L
  by_cases hw : m 44 l < 300
  · rw [if_pos hw]
    refine qa_loop0 (fun n i => l_X6_lampNow_4 (nI l) n (qa_M ld lv l i) (nI i) m (fun v13 v14 σ15 => some (v13, σ15))) 10 _ lf (lf_gt (by decide)) (fun i n hi => ?_) (fun n => ?_)
    · show l_X6_lampNow_4 (nI l) (n + 1) (qa_M ld lv l i) (nI i) m _ = l_X6_lampNow_4 (nI l) n (qa_M ld lv l (i + 1)) (nI (i + 1)) m _
      rw [l_X6_lampNow_4, if_neg (q10_lt hi), if_pos (inb_nI hl (by decide)), ix_nI (show l < 2 ^ 31 by omega), if_neg (i_nle.mpr hw)]
      simp only [if_pos (inb_nI hi (show 10 < 2 ^ 31 by decide)), ix_nI (show i < 2 ^ 31 by omega), h1 i hi, h2 i hi, nI_1]
      by_cases hc : lv i ≤ qa_M ld lv l i
      · rw [if_pos hc]
        simp only [qa_M, if_neg (fun q : qa_M ld lv l i < lv i ∧ _ => i_nlt.mpr hc q.1)]
      · rw [if_neg hc]
        by_cases hb1 : (ld i >>> (nI l &&& 31)) &&& 1 = 1
        · rw [if_neg (fun q => q hb1)]
          simp only [qa_M, hb1, and_true, if_pos (i_nle.mp hc)]
        · rw [if_pos hb1]
          simp only [qa_M, hb1, and_false, ↓reduceIte]
    · show l_X6_lampNow_4 (nI l) (n + 1) _ (nI 10) m _ = _
      rw [l_X6_lampNow_4, if_pos q10_ge]
  · rw [if_neg hw, show lf = 3999 + 1 from rfl, l_X6_lampNow_4, if_neg (show ¬ (10 : Int32) ≤ 0 by decide), if_pos (inb_nI hl (by decide)), ix_nI (show l < 2 ^ 31 by omega), if_pos (i_nlt.mp hw)]
/-- the light of an area -/
def qa_S (st ar po we ld lv : Nat → Int32) (s a : Int32) : Nat → Int32
  | 0 => 0
  | l + 1 => if st l = s ∧ ar l = a then qa_S st ar po we ld lv s a l + (qa_L we ld lv l * po l) / 100 else qa_S st ar po we ld lv s a l
def qa_T (q : Nat) (st ar po we ld lv : Nat → Int32) (s a : Int32) : Int32 := if 100 ≤ qa_S st ar po we ld lv s a q then 100 else qa_S st ar po we ld lv s a q
theorem x_lightOf {x : aM} {q a5 : Nat} {s a : Int32} {ld lv : Nat → Int32} (hq : q ≤ 20) (h48 : x 4 8 = nI q) (hk : kd a5 = 1) (hn : ln a5 = 10) (h1 : ∀ h, h < 10 → x 28 h = ld h) (h2 : ∀ h, h < 10 → x a5 h = lv h) : f_X3_lightOf s a 28 a5 x = some (qa_T q (x 22) (x 23) (x 21) (x 24) ld lv s a, x) := by
  have hlp : ∀ k : Int32 → Int32 → aM → Option (Int32 × aM), l_X3_lightOf_6 s a 28 a5 lf 0 0 x k = k (qa_S (x 22) (x 23) (x 21) (x 24) ld lv s a q) (nI q) x := by
    intro k
    refine qa_loop0 (fun n i => l_X3_lightOf_6 s a 28 a5 n (qa_S (x 22) (x 23) (x 21) (x 24) ld lv s a i) (nI i) x k) q _ lf (lf_gt (by omega)) (fun i n hi => ?_) (fun n => ?_)
    · show l_X3_lightOf_6 s a 28 a5 (n + 1) (qa_S (x 22) (x 23) (x 21) (x 24) ld lv s a i) (nI i) x k = l_X3_lightOf_6 s a 28 a5 n (qa_S (x 22) (x 23) (x 21) (x 24) ld lv s a (i + 1)) (nI (i + 1)) x k
      rw [l_X3_lightOf_6, h48, if_neg (nI_ge hi (by omega)), x_isFor (by omega)]
      simp only [bnd]
      rw [x_levelOf (show i < 20 by omega) hk hn h1 h2]
      simp only [if_pos (inb_nI (show i < 20 by omega) (by decide)), ix_nI (show i < 2 ^ 31 by omega), nI_1]
      by_cases hc : x 22 i = s ∧ x 23 i = a
      · simp [qa_S, hc]
      · simp [qa_S, hc]
    · show l_X3_lightOf_6 s a 28 a5 (n + 1) _ (nI q) x k = _
      rw [l_X3_lightOf_6, h48, if_pos (q_le_self (by omega))]
  unfold f_X3_lightOf
  rw [hlp]
  unfold qa_T
  by_cases h : 100 ≤ qa_S (x 22) (x 23) (x 21) (x 24) ld lv s a q
  · rw [if_pos h, if_pos h]
  · rw [if_neg h, if_neg h]
theorem m_lightNow {m : aM} {q : Nat} {s a : Int32} {ld lv : Nat → Int32} (hq : q ≤ 20) (h19 : m 6 19 = nI q) (h1 : ∀ h, h < 10 → m 50 h = ld h) (h2 : ∀ h, h < 10 → m 51 h = lv h) : f_X6_lightNow s a m = some (qa_T q (m 40) (m 41) (m 43) (m 44) ld lv s a, m) := by
  have hlp : ∀ k : Int32 → Int32 → aM → Option (Int32 × aM), l_X6_lightNow_5 s a lf 0 0 m k = k (qa_S (m 40) (m 41) (m 43) (m 44) ld lv s a q) (nI q) m := by
    intro k
    refine qa_loop0 (fun n i => l_X6_lightNow_5 s a n (qa_S (m 40) (m 41) (m 43) (m 44) ld lv s a i) (nI i) m k) q _ lf (lf_gt (by omega)) (fun i n hi => ?_) (fun n => ?_)
    · show l_X6_lightNow_5 s a (n + 1) (qa_S (m 40) (m 41) (m 43) (m 44) ld lv s a i) (nI i) m k = l_X6_lightNow_5 s a n (qa_S (m 40) (m 41) (m 43) (m 44) ld lv s a (i + 1)) (nI (i + 1)) m k
      rw [l_X6_lightNow_5, h19, if_neg (nI_ge hi (by omega))]
      simp only [if_pos (inb_nI (show i < 20 by omega) (show 20 < 2 ^ 31 by decide)), ix_nI (show i < 2 ^ 31 by omega), nI_1]
      rw [m_lampNow (show i < 20 by omega) h1 h2]
      simp only [bnd]
      by_cases hc : m 40 i = s
      · by_cases hd : m 41 i = a
        · simp [qa_S, hc, hd]
        · simp [qa_S, hc, hd]
      · simp [qa_S, hc]
    · show l_X6_lightNow_5 s a (n + 1) _ (nI q) m k = _
      rw [l_X6_lightNow_5, h19, if_pos (q_le_self (by omega))]
  unfold f_X6_lightNow
  rw [hlp]
  unfold qa_T
  by_cases h : 100 ≤ qa_S (m 40) (m 41) (m 43) (m 44) ld lv s a q
  · by_cases h3 : qa_S (m 40) (m 41) (m 43) (m 44) ld lv s a q ≤ 100
    · rw [if_pos h, if_pos h3, Int32.le_antisymm h3 h]
    · rw [if_pos h, if_neg h3]
  · rw [if_neg h, if_pos (Int32.le_of_lt (i_nle.mp h))]
