/-! the levels of the channels: fade by fade, second by second, and the reference's -/
theorem qa_loopL {R : Type} (F : Nat → Nat → R) (L N : Nat) (z : R) (hs : ∀ i n, L ≤ i → i < N → F (n + 1) i = F n (i + 1)) (he : ∀ n, F (n + 1) N = z) : ∀ d i n, L ≤ i → i + d = N → d < n → F n i = z := by
  intro d
  induction d with
  | zero =>
    intro i n hL hi hn
    obtain ⟨n, rfl⟩ : ∃ m, n = m + 1 := ⟨n - 1, by omega⟩
    obtain rfl : i = N := by omega
    exact he n
  | succ d ih =>
    intro i n hL hi hn
    obtain ⟨n, rfl⟩ : ∃ m, n = m + 1 := ⟨n - 1, by omega⟩
    rw [hs i n hL (by omega)]
    exact ih (i + 1) n (by omega) (by omega) (by omega)
def qb_B (p f a b : Int32) : Int32 := if f ≤ 0 then b else if p < f then a + ((b - a) * p) / f else b
theorem x_behind {p f a b : Int32} {σ : aM} : f_X1_levelBehind p f a b σ = some (qb_B p f a b, σ) := by
  unfold f_X1_levelBehind qb_B
  by_cases h : f ≤ 0
  · rw [if_pos h, if_pos h]
  · have h0 : ¬ f = 0 := fun q => h (by rw [q]; exact Int32.le_refl 0)
    rw [if_neg h, if_neg h]
    by_cases h2 : p < f
    · rw [if_pos h2, if_pos h2, if_pos h0]
    · rw [if_neg h2, if_neg h2]
theorem m_behind {a b : Int32} {K N : Nat} {σ : aM} (hK : K < 2 ^ 31) (hN : N < 2 ^ 31) : f_X6_behind a b (nI K) (nI N) σ = some (qb_B (nI K) (nI N) a b, σ) := by
  unfold f_X6_behind qb_B
  by_cases h : N = 0
  · subst h
    rw [if_neg (nI_nlt (Nat.zero_le K) hK), if_pos (show nI 0 ≤ 0 from Int32.le_refl 0)]
  · have h1 : ¬ nI N ≤ 0 := nI_nle (by omega) hN
    have h0 : ¬ nI N = 0 := nI_ne0 (by omega) hN
    rw [if_neg h1]
    by_cases h2 : nI K < nI N
    · rw [if_pos h2, if_pos h2, if_pos h0]
    · rw [if_neg h2, if_neg h2]
/-- from, to, begin and fade behind j plays -/
def qb_S (tm mk fd : Nat → Int32) : Nat → Int32 × Int32 × Int32 × Int32
  | 0 => (0, 0, 0, 0)
  | j + 1 => if mk j = -1 then qb_S tm mk fd j else (qb_B (tm j - (qb_S tm mk fd j).2.2.1) (qb_S tm mk fd j).2.2.2 (qb_S tm mk fd j).1 (qb_S tm mk fd j).2.1, mk j, tm j, fd j)
/-- how many are played up to a time -/
def qb_J (tm : Nat → Int32) (t : Int32) : Nat → Nat
  | 0 => 0
  | c + 1 => if tm c ≤ t then c + 1 else qb_J tm t c
def qb_E (s : Int32 × Int32 × Int32 × Int32) (t : Int32) : Int32 := qb_B (t - s.2.2.1) s.2.2.2 s.1 s.2.1
def qb_L (c : Nat) (tm mk fd : Nat → Int32) (t : Int32) : Int32 := qb_E (qb_S tm mk fd (qb_J tm t c)) t
theorem qb_J_le {tm : Nat → Int32} {t : Int32} : ∀ c : Nat, qb_J tm t c ≤ c
  | 0 => Nat.le_refl _
  | c + 1 => by
    have := qb_J_le (tm := tm) (t := t) c
    unfold qb_J
    split <;> omega
theorem qb_J_iff {tm : Nat → Int32} {t : Int32} : ∀ c : Nat, (∀ i j, i < j → j < c → tm i ≤ tm j) → ∀ j, j < c → (j < qb_J tm t c ↔ tm j ≤ t)
  | 0, _, j, h => absurd h (Nat.not_lt_zero j)
  | c + 1, hs, j, hj => by
    have hle := qb_J_le (tm := tm) (t := t) c
    unfold qb_J
    by_cases h : tm c ≤ t
    · rw [if_pos h]
      refine ⟨fun _ => ?_, fun _ => hj⟩
      by_cases e : j = c
      · rw [e]; exact h
      · exact Int32.le_trans (hs j c (by omega) (by omega)) h
    · rw [if_neg h]
      by_cases e : j = c
      · subst e
        exact ⟨fun q => absurd q (by omega), fun q => absurd q h⟩
      · exact qb_J_iff c (fun i j h1 h2 => hs i j h1 (by omega)) j (by omega)
theorem qb_S_skip {tm mk fd : Nat → Int32} {j : Nat} (h : mk j = -1) : qb_S tm mk fd (j + 1) = qb_S tm mk fd j := by
  rw [qb_S, if_pos h]
theorem qb_S_step {tm mk fd : Nat → Int32} {j : Nat} (h : ¬ mk j = -1) : qb_S tm mk fd (j + 1) = (qb_E (qb_S tm mk fd j) (tm j), mk j, tm j, fd j) := by
  rw [qb_S, if_neg h]
  rfl
theorem x_fades_g {x : aM} {c h : Nat} {t : Int32} {tm mk fd : Nat → Int32} (hc : c ≤ 20) (h310 : x 3 10 = nI c) (hh : h < 10) (hb : ∀ j, j < c → inb (x 17 j) 20 = true) (h15 : ∀ j, j < c → x 15 (ix (x 17 j)) = tm j) (h108 : ∀ j, j < c → x (108 + ix (x 17 j)) h = mk j) (h13 : ∀ j, j < c → x 13 (ix (x 17 j)) = fd j) (hs : ∀ i j, i < j → j < c → tm i ≤ tm j) : f_X1_levelByFades (nI h) t x = some (qb_L c tm mk fd t, x) := by
  have hJ := qb_J_le (tm := tm) (t := t) c
  have hl : ∀ k : Int32 → Int32 → Int32 → Int32 → Int32 → aM → Option (Int32 × aM), l_X1_levelByFades_14 (nI h) t lf 0 0 0 0 0 x k = k (qb_S tm mk fd (qb_J tm t c)).1 (qb_S tm mk fd (qb_J tm t c)).2.1 (qb_S tm mk fd (qb_J tm t c)).2.2.1 (qb_S tm mk fd (qb_J tm t c)).2.2.2 (nI (qb_J tm t c)) x := by
    intro k
    refine qa_loop0 (fun n j => l_X1_levelByFades_14 (nI h) t n (qb_S tm mk fd j).1 (qb_S tm mk fd j).2.1 (qb_S tm mk fd j).2.2.1 (qb_S tm mk fd j).2.2.2 (nI j) x k) (qb_J tm t c) _ lf (lf_gt (by omega)) (fun j n hj => ?_) (fun n => ?_)
    · show l_X1_levelByFades_14 (nI h) t (n + 1) (qb_S tm mk fd j).1 (qb_S tm mk fd j).2.1 (qb_S tm mk fd j).2.2.1 (qb_S tm mk fd j).2.2.2 (nI j) x k = l_X1_levelByFades_14 (nI h) t n (qb_S tm mk fd (j + 1)).1 (qb_S tm mk fd (j + 1)).2.1 (qb_S tm mk fd (j + 1)).2.2.1 (qb_S tm mk fd (j + 1)).2.2.2 (nI (j + 1)) x k
      have hjc : j < c := by omega
      have hle : tm j ≤ t := (qb_J_iff c hs j hjc).mp hj
      rw [l_X1_levelByFades_14, h310, if_neg (nI_ge hjc (by omega))]
      simp only [if_pos (inb_nI (show j < 20 by omega) (show 20 < 2 ^ 31 by decide)), ix_nI (show j < 2 ^ 31 by omega), if_pos (hb j hjc), h15 j hjc, if_neg (i_nlt.mpr hle), if_pos (inb_nI hh (show 10 < 2 ^ 31 by decide)), ix_nI (show h < 2 ^ 31 by omega), h108 j hjc, x_behind, bnd, h13 j hjc, nI_1]
      by_cases hm : mk j = -1
      · rw [if_pos hm, qb_S_skip hm]
      · rw [if_neg hm, qb_S_step hm]
        rfl
    · show l_X1_levelByFades_14 (nI h) t (n + 1) _ _ _ _ (nI (qb_J tm t c)) x k = _
      rw [l_X1_levelByFades_14, h310]
      by_cases hjc : qb_J tm t c < c
      · have hgt : ¬ tm (qb_J tm t c) ≤ t := fun q => absurd ((qb_J_iff c hs _ hjc).mpr q) (Nat.lt_irrefl _)
        rw [if_neg (nI_ge hjc (by omega))]
        simp only [if_pos (inb_nI (show qb_J tm t c < 20 by omega) (show 20 < 2 ^ 31 by decide)), ix_nI (show qb_J tm t c < 2 ^ 31 by omega), if_pos (hb _ hjc), h15 _ hjc, if_pos (i_nle.mp hgt)]
      · rw [if_pos (nI_le (by omega) (by omega))]
  unfold f_X1_levelByFades
  rw [hl]
  simp only [x_behind, bnd]
  rfl
def qb_js (tm : Nat → Int32) (c : Nat) : Nat → Nat
  | 0 => 0
  | s + 1 => qb_J tm (nI s) c
def qb_V (tm mk fd : Nat → Int32) (c : Nat) : Nat → Int32
  | 0 => 0
  | s + 1 => qb_E (qb_S tm mk fd (qb_js tm c (s + 1))) (nI s)
theorem q_sub1 (a b : Int32) : a - b + 1 = a + 1 - b := by
  rw [Int32.sub_eq_add_neg, Int32.sub_eq_add_neg, Int32.add_assoc, Int32.add_comm (-b) 1, ← Int32.add_assoc]
theorem x_ticks_g {x : aM} {c h t : Nat} {tm mk fd : Nat → Int32} {T : Nat → Nat} (hc : c ≤ 20) (h310 : x 3 10 = nI c) (hh : h < 10) (ht : t ≤ 2000) (hb : ∀ j, j < c → inb (x 17 j) 20 = true) (h15 : ∀ j, j < c → x 15 (ix (x 17 j)) = tm j) (h108 : ∀ j, j < c → x (108 + ix (x 17 j)) h = mk j) (h13 : ∀ j, j < c → x 13 (ix (x 17 j)) = fd j) (hs : ∀ i j, i < j → j < c → tm i ≤ tm j) (hT : ∀ j, j < c → tm j = nI (T j) ∧ T j < 5000) : f_X1_levelByTicks (nI h) (nI t) x = some (qb_L c tm mk fd (nI t), x) := by
  have jsle : ∀ s, qb_js tm c s ≤ c := fun s => match s with
    | 0 => Nat.zero_le _
    | s + 1 => qb_J_le c
  have jsiff : ∀ s, s ≤ 2001 → ∀ j, j < c → (j < qb_js tm c s ↔ T j < s) := fun s hs9 j hj => match s, hs9 with
    | 0, _ => ⟨fun q => absurd q (Nat.not_lt_zero _), fun q => absurd q (Nat.not_lt_zero _)⟩
    | s + 1, hs9 => by
      show j < qb_J tm (nI s) c ↔ _
      rw [qb_J_iff c hs j hj, (hT j hj).1, nI_leI (by have := (hT j hj).2; omega) (by omega)]
      omega
  have jsmono : ∀ s, s ≤ 2000 → qb_js tm c s ≤ qb_js tm c (s + 1) := fun s hs9 => by
    have h1 := jsle s
    have h2 := jsle (s + 1)
    by_cases hlt : qb_js tm c (s + 1) < qb_js tm c s
    · have h3 : qb_js tm c (s + 1) < c := by omega
      have h4 := (jsiff s (by omega) _ h3).mp hlt
      have h5 := (jsiff (s + 1) (by omega) _ h3).mpr (by omega)
      omega
    · omega
  have inner : ∀ s, s ≤ t → ∀ k : Int32 → Int32 → Int32 → Int32 → Int32 → Int32 → aM → Option (Int32 × aM), l_X1_levelByTicks_38 (nI h) (nI t) (nI s) lf (qb_E (qb_S tm mk fd (qb_js tm c s)) (nI s)) (qb_S tm mk fd (qb_js tm c s)).1 (qb_S tm mk fd (qb_js tm c s)).2.1 (nI s - (qb_S tm mk fd (qb_js tm c s)).2.2.1) (qb_S tm mk fd (qb_js tm c s)).2.2.2 (nI (qb_js tm c s)) x k = k (qb_E (qb_S tm mk fd (qb_js tm c (s + 1))) (nI s)) (qb_S tm mk fd (qb_js tm c (s + 1))).1 (qb_S tm mk fd (qb_js tm c (s + 1))).2.1 (nI s - (qb_S tm mk fd (qb_js tm c (s + 1))).2.2.1) (qb_S tm mk fd (qb_js tm c (s + 1))).2.2.2 (nI (qb_js tm c (s + 1))) x := by
    intro s hst k
    have h1 := jsle s
    have h2 := jsle (s + 1)
    have h3 := jsmono s (by omega)
    refine qa_loopL (fun n j => l_X1_levelByTicks_38 (nI h) (nI t) (nI s) n (qb_E (qb_S tm mk fd j) (nI s)) (qb_S tm mk fd j).1 (qb_S tm mk fd j).2.1 (nI s - (qb_S tm mk fd j).2.2.1) (qb_S tm mk fd j).2.2.2 (nI j) x k) (qb_js tm c s) (qb_js tm c (s + 1)) _ (fun j n hL hj => ?_) (fun n => ?_) (qb_js tm c (s + 1) - qb_js tm c s) (qb_js tm c s) lf (Nat.le_refl _) (by omega) (lf_gt (by omega))
    · show l_X1_levelByTicks_38 (nI h) (nI t) (nI s) (n + 1) (qb_E (qb_S tm mk fd j) (nI s)) (qb_S tm mk fd j).1 (qb_S tm mk fd j).2.1 (nI s - (qb_S tm mk fd j).2.2.1) (qb_S tm mk fd j).2.2.2 (nI j) x k = l_X1_levelByTicks_38 (nI h) (nI t) (nI s) n (qb_E (qb_S tm mk fd (j + 1)) (nI s)) (qb_S tm mk fd (j + 1)).1 (qb_S tm mk fd (j + 1)).2.1 (nI s - (qb_S tm mk fd (j + 1)).2.2.1) (qb_S tm mk fd (j + 1)).2.2.2 (nI (j + 1)) x k
      have hjc : j < c := by omega
      have h4 := (jsiff (s + 1) (by omega) j hjc).mp hj
      have h5 : ¬ T j < s := fun q => absurd ((jsiff s (by omega) j hjc).mpr q) (by omega)
      have e : tm j = nI s := by rw [(hT j hjc).1, show T j = s by omega]
      rw [l_X1_levelByTicks_38, h310, if_neg (nI_ge hjc (by omega))]
      simp only [if_pos (inb_nI (show j < 20 by omega) (show 20 < 2 ^ 31 by decide)), ix_nI (show j < 2 ^ 31 by omega), if_pos (hb j hjc), h15 j hjc, if_pos (inb_nI hh (show 10 < 2 ^ 31 by decide)), ix_nI (show h < 2 ^ 31 by omega), h108 j hjc, x_behind, bnd, h13 j hjc, nI_1]
      rw [if_neg (fun q => q e)]
      by_cases hm : mk j = -1
      · rw [if_pos hm, qb_S_skip hm]
      · rw [if_neg hm, qb_S_step hm, e]
        show l_X1_levelByTicks_38 (nI h) (nI t) (nI s) n (qb_B 0 (fd j) (qb_E (qb_S tm mk fd j) (nI s)) (mk j)) (qb_E (qb_S tm mk fd j) (nI s)) (mk j) 0 (fd j) (nI (j + 1)) x k = l_X1_levelByTicks_38 (nI h) (nI t) (nI s) n (qb_B (nI s - nI s) (fd j) (qb_E (qb_S tm mk fd j) (nI s)) (mk j)) (qb_E (qb_S tm mk fd j) (nI s)) (mk j) (nI s - nI s) (fd j) (nI (j + 1)) x k
        rw [Int32.sub_self]
    · show l_X1_levelByTicks_38 (nI h) (nI t) (nI s) (n + 1) _ _ _ _ _ (nI (qb_js tm c (s + 1))) x k = _
      rw [l_X1_levelByTicks_38, h310]
      by_cases hjc : qb_js tm c (s + 1) < c
      · have hgt : ¬ T (qb_js tm c (s + 1)) < s + 1 := fun q => absurd ((jsiff (s + 1) (by omega) _ hjc).mpr q) (Nat.lt_irrefl _)
        have hne : ¬ tm (qb_js tm c (s + 1)) = nI s := fun q => by
          have h9 := hT _ hjc
          rw [h9.1, nI_eq (by omega) (by omega)] at q
          omega
        rw [if_neg (nI_ge hjc (by omega))]
        simp only [if_pos (inb_nI (show qb_js tm c (s + 1) < 20 by omega) (show 20 < 2 ^ 31 by decide)), ix_nI (show qb_js tm c (s + 1) < 2 ^ 31 by omega), if_pos (hb _ hjc), h15 _ hjc]
        rw [if_pos hne]
      · rw [if_pos (nI_le (by omega) (by omega))]
  have hl : ∀ k : Int32 → Int32 → Int32 → Int32 → Int32 → Int32 → Int32 → aM → Option (Int32 × aM), l_X1_levelByTicks_20 (nI h) (nI t) lf 0 0 0 0 0 0 0 x k = k (qb_V tm mk fd c (t + 1)) (qb_S tm mk fd (qb_js tm c (t + 1))).1 (qb_S tm mk fd (qb_js tm c (t + 1))).2.1 (nI (t + 1) - (qb_S tm mk fd (qb_js tm c (t + 1))).2.2.1) (qb_S tm mk fd (qb_js tm c (t + 1))).2.2.2 (nI (qb_js tm c (t + 1))) (nI (t + 1)) x := by
    intro k
    have key : l_X1_levelByTicks_20 (nI h) (nI t) lf (qb_V tm mk fd c 0) (qb_S tm mk fd (qb_js tm c 0)).1 (qb_S tm mk fd (qb_js tm c 0)).2.1 (nI 0 - (qb_S tm mk fd (qb_js tm c 0)).2.2.1) (qb_S tm mk fd (qb_js tm c 0)).2.2.2 (nI (qb_js tm c 0)) (nI 0) x k = k (qb_V tm mk fd c (t + 1)) (qb_S tm mk fd (qb_js tm c (t + 1))).1 (qb_S tm mk fd (qb_js tm c (t + 1))).2.1 (nI (t + 1) - (qb_S tm mk fd (qb_js tm c (t + 1))).2.2.1) (qb_S tm mk fd (qb_js tm c (t + 1))).2.2.2 (nI (qb_js tm c (t + 1))) (nI (t + 1)) x := by
      refine qa_loop0 (fun n s => l_X1_levelByTicks_20 (nI h) (nI t) n (qb_V tm mk fd c s) (qb_S tm mk fd (qb_js tm c s)).1 (qb_S tm mk fd (qb_js tm c s)).2.1 (nI s - (qb_S tm mk fd (qb_js tm c s)).2.2.1) (qb_S tm mk fd (qb_js tm c s)).2.2.2 (nI (qb_js tm c s)) (nI s) x k) (t + 1) _ lf (lf_gt (by omega)) (fun s n hst => ?_) (fun n => ?_)
      · show l_X1_levelByTicks_20 (nI h) (nI t) (n + 1) (qb_V tm mk fd c s) (qb_S tm mk fd (qb_js tm c s)).1 (qb_S tm mk fd (qb_js tm c s)).2.1 (nI s - (qb_S tm mk fd (qb_js tm c s)).2.2.1) (qb_S tm mk fd (qb_js tm c s)).2.2.2 (nI (qb_js tm c s)) (nI s) x k = l_X1_levelByTicks_20 (nI h) (nI t) n (qb_V tm mk fd c (s + 1)) (qb_S tm mk fd (qb_js tm c (s + 1))).1 (qb_S tm mk fd (qb_js tm c (s + 1))).2.1 (nI (s + 1) - (qb_S tm mk fd (qb_js tm c (s + 1))).2.2.1) (qb_S tm mk fd (qb_js tm c (s + 1))).2.2.2 (nI (qb_js tm c (s + 1))) (nI (s + 1)) x k
        rw [l_X1_levelByTicks_20, if_neg (nI_nlt (by omega) (by omega)), x_behind]
        rw [show qb_B (nI s - (qb_S tm mk fd (qb_js tm c s)).2.2.1) (qb_S tm mk fd (qb_js tm c s)).2.2.2 (qb_S tm mk fd (qb_js tm c s)).1 (qb_S tm mk fd (qb_js tm c s)).2.1 = qb_E (qb_S tm mk fd (qb_js tm c s)) (nI s) from rfl]
        simp only [bnd]
        rw [inner s (by omega)]
        rw [q_sub1, nI_1]
        rfl
      · show l_X1_levelByTicks_20 (nI h) (nI t) (n + 1) _ _ _ _ _ _ (nI (t + 1)) x k = _
        rw [l_X1_levelByTicks_20, if_pos (nI_lt (by omega) (by omega))]
    have h00 : nI 0 - (qb_S tm mk fd (qb_js tm c 0)).2.2.1 = 0 := by
      show nI 0 - 0 = (0 : Int32)
      decide
    rw [h00] at key
    exact key
  unfold f_X1_levelByTicks
  rw [hl]
  rfl
theorem qb_inv {c : Nat} {tm mk fd : Nat → Int32} {T N : Nat → Nat} (hT : ∀ j, j < c → tm j = nI (T j)) (hN : ∀ j, j < c → fd j = nI (N j) ∧ N j ≤ 60) : ∀ j, j ≤ c → ∃ B M, (qb_S tm mk fd j).2.2.1 = nI B ∧ (qb_S tm mk fd j).2.2.2 = nI M ∧ M ≤ 60 ∧ (B = 0 ∨ ∃ i, i < j ∧ B = T i) := by
  intro j
  induction j with
  | zero => exact fun _ => ⟨0, 0, rfl, rfl, by omega, Or.inl rfl⟩
  | succ j ih =>
    intro hj
    by_cases hm : mk j = -1
    · rw [qb_S_skip hm]
      obtain ⟨B, M, h1, h2, h3, h4⟩ := ih (by omega)
      refine ⟨B, M, h1, h2, h3, ?_⟩
      rcases h4 with h4 | ⟨i, hi, h4⟩
      · exact Or.inl h4
      · exact Or.inr ⟨i, by omega, h4⟩
    · rw [qb_S_step hm]
      exact ⟨T j, N j, hT j (by omega), (hN j (by omega)).1, (hN j (by omega)).2, Or.inr ⟨j, by omega, rfl⟩⟩
theorem m_level_g {m : aM} {c h t : Nat} {tm mk fd : Nat → Int32} {T N : Nat → Nat} (hc : c ≤ 20) (h25 : m 6 25 = nI c) (ht : t ≤ 5000) (hb : ∀ j, j < c → inb (m 48 j) 20 = true) (hw : ∀ j, j < c → f_X6_when (m 47 (ix (m 48 j))) m = some (tm j, m)) (hch : ∀ j, j < c → f_X6_changesAt (m 48 j) (nI h) m = some (mk j, m)) (hb2 : ∀ j, j < c → inb (m 47 (ix (m 48 j))) 20 = true) (hf : ∀ j, j < c → m 36 (ix (m 47 (ix (m 48 j)))) = fd j) (hs : ∀ i j, i < j → j < c → tm i ≤ tm j) (hT : ∀ j, j < c → tm j = nI (T j) ∧ T j < 5000) (hN : ∀ j, j < c → fd j = nI (N j) ∧ N j ≤ 60) : f_X6_level (nI h) (nI t) m = some (qb_L c tm mk fd (nI t), m) := by
  have hJ := qb_J_le (tm := tm) (t := nI t) c
  have hinv := qb_inv (mk := mk) (fun j hj => (hT j hj).1) hN
  have hsT : ∀ i j, i < j → j < c → T i ≤ T j := fun i j h1 h2 => by
    have h3 := hs i j h1 h2
    have h4 := hT i (by omega)
    have h5 := hT j h2
    rw [h4.1, h5.1, nI_leI (by omega) (by omega)] at h3
    exact h3
  have hl : ∀ k : Int32 → Int32 → Int32 → Int32 → Int32 → aM → Option (Int32 × aM), l_X6_level_14 (nI h) (nI t) lf 0 0 0 0 0 m k = k (qb_S tm mk fd (min c (qb_J tm (nI t) c))).1 (qb_S tm mk fd (min c (qb_J tm (nI t) c))).2.1 (qb_S tm mk fd (min c (qb_J tm (nI t) c))).2.2.1 (qb_S tm mk fd (min c (qb_J tm (nI t) c))).2.2.2 (nI c) m := by
    intro k
    refine qa_loop0 (fun n j => l_X6_level_14 (nI h) (nI t) n (qb_S tm mk fd (min j (qb_J tm (nI t) c))).1 (qb_S tm mk fd (min j (qb_J tm (nI t) c))).2.1 (qb_S tm mk fd (min j (qb_J tm (nI t) c))).2.2.1 (qb_S tm mk fd (min j (qb_J tm (nI t) c))).2.2.2 (nI j) m k) c _ lf (lf_gt (by omega)) (fun j n hjc => ?_) (fun n => ?_)
    · show l_X6_level_14 (nI h) (nI t) (n + 1) (qb_S tm mk fd (min j (qb_J tm (nI t) c))).1 (qb_S tm mk fd (min j (qb_J tm (nI t) c))).2.1 (qb_S tm mk fd (min j (qb_J tm (nI t) c))).2.2.1 (qb_S tm mk fd (min j (qb_J tm (nI t) c))).2.2.2 (nI j) m k = l_X6_level_14 (nI h) (nI t) n (qb_S tm mk fd (min (j + 1) (qb_J tm (nI t) c))).1 (qb_S tm mk fd (min (j + 1) (qb_J tm (nI t) c))).2.1 (qb_S tm mk fd (min (j + 1) (qb_J tm (nI t) c))).2.2.1 (qb_S tm mk fd (min (j + 1) (qb_J tm (nI t) c))).2.2.2 (nI (j + 1)) m k
      rw [l_X6_level_14, h25, if_neg (nI_ge hjc (by omega))]
      simp only [if_pos (inb_nI (show j < 20 by omega) (show 20 < 2 ^ 31 by decide)), ix_nI (show j < 2 ^ 31 by omega), if_pos (hb j hjc), hw j hjc, hch j hjc, bnd, nI_1]
      by_cases hj : j < qb_J tm (nI t) c
      · have hle : tm j ≤ nI t := (qb_J_iff c hs j hjc).mp hj
        rw [show min j (qb_J tm (nI t) c) = j by omega, show min (j + 1) (qb_J tm (nI t) c) = j + 1 by omega, if_neg (i_nlt.mpr hle)]
        by_cases hm : mk j = -1
        · rw [if_pos hm, qb_S_skip hm]
        · obtain ⟨B, M, h1, h2, h3, h4⟩ := hinv j (by omega)
          have hBT : B ≤ T j := by
            rcases h4 with h4 | ⟨i, hi, h4⟩
            · omega
            · rw [h4]; exact hsT i j hi hjc
          have h9 := hT j hjc
          rw [if_neg hm, qb_S_step hm]
          unfold qb_E
          rw [h1, h2, h9.1, pk_sub hBT, m_behind (by omega) (by omega)]
          simp only [if_pos (hb2 j hjc), hf j hjc]
      · have hgt : ¬ tm j ≤ nI t := fun q => hj ((qb_J_iff c hs j hjc).mpr q)
        rw [show min j (qb_J tm (nI t) c) = qb_J tm (nI t) c by omega, show min (j + 1) (qb_J tm (nI t) c) = qb_J tm (nI t) c by omega, if_pos (i_nle.mp hgt)]
    · show l_X6_level_14 (nI h) (nI t) (n + 1) _ _ _ _ (nI c) m k = _
      rw [l_X6_level_14, h25, if_pos (q_le_self (by omega))]
  unfold f_X6_level
  rw [hl]
  obtain ⟨B, M, h1, h2, h3, h4⟩ := hinv (qb_J tm (nI t) c) hJ
  have hBt : B ≤ t := by
    rcases h4 with h4 | ⟨i, hi, h4⟩
    · omega
    · have h5 := (qb_J_iff c hs i (by omega)).mp hi
      have h6 := hT i (by omega)
      rw [h6.1, nI_leI (by omega) (by omega)] at h5
      omega
  unfold qb_L qb_E
  rw [show min c (qb_J tm (nI t) c) = qb_J tm (nI t) c by omega, h1, h2, pk_sub hBt, m_behind (by omega) (by omega)]
  rfl
