/-! arrange: the order, the times -/
def qc_com (x : aM) (c d : Nat) : Prop := (x 11 c).toInt < (x 11 d).toInt ∨ ((x 11 c).toInt = (x 11 d).toInt ∧ (x 12 c).toInt < (x 12 d).toInt)
theorem x_com {x : aM} {c d : Nat} (hc : c < 20) (hd : d < 20) : (qc_com x c d ∧ f_X1_comesAhead (nI c) (nI d) x = some (1, x)) ∨ (¬ qc_com x c d ∧ f_X1_comesAhead (nI c) (nI d) x = some (0, x)) := by
  unfold f_X1_comesAhead
  simp only [if_pos (inb_nI hc (show 20 < 2 ^ 31 by decide)), if_pos (inb_nI hd (show 20 < 2 ^ 31 by decide)), ix_nI (show c < 2 ^ 31 by omega), ix_nI (show d < 2 ^ 31 by omega)]
  by_cases h : x 11 c = x 11 d
  · rw [if_pos h]
    have h1 := congrArg Int32.toInt h
    by_cases h2 : x 12 d ≤ x 12 c
    · refine Or.inr ⟨fun q => ?_, if_pos h2⟩
      rw [Int32.le_iff_toInt_le] at h2
      unfold qc_com at q
      omega
    · refine Or.inl ⟨?_, if_neg h2⟩
      rw [Int32.le_iff_toInt_le] at h2
      unfold qc_com
      omega
  · rw [if_neg h]
    have h1 : ¬ (x 11 c).toInt = (x 11 d).toInt := fun q => h (Int32.toInt_inj.mp q)
    by_cases h2 : x 11 d ≤ x 11 c
    · refine Or.inr ⟨fun q => ?_, if_pos h2⟩
      rw [Int32.le_iff_toInt_le] at h2
      unfold qc_com at q
      omega
    · refine Or.inl ⟨?_, if_neg h2⟩
      rw [Int32.le_iff_toInt_le] at h2
      unfold qc_com
      omega
def mS (x : aM) (q i : Nat) : aM := fun a => if a = 14 then (fun p => if q < p ∧ p ≤ i then x 14 (p - 1) else x 14 p) else x a
theorem mS_ne {x : aM} {q i a : Nat} (h : ¬ a = 14) : mS x q i a = x a := if_neg h
theorem mS_at {x : aM} {q i p : Nat} : mS x q i 14 p = if q < p ∧ p ≤ i then x 14 (p - 1) else x 14 p := rfl
theorem mS_top {x : aM} {i : Nat} : mS x i i = x := by
  funext a p
  by_cases h : a = 14
  · subst h
    rw [mS_at, if_neg (by omega)]
  · rw [mS_ne h]
theorem mS_step {x : aM} {q i : Nat} (h : q + 1 ≤ i) : mput (mS x (q + 1) i) 14 (q + 1) (x 14 q) = mS x q i := by
  funext a p
  by_cases ha : a = 14
  · subst ha
    rw [mput_at, mS_at, mS_at]
    by_cases e : p = q + 1
    · rw [if_pos e, if_pos (by omega), e]
      rfl
    · rw [if_neg e]
      by_cases e2 : q + 1 < p ∧ p ≤ i
      · rw [if_pos e2, if_pos (by omega)]
      · rw [if_neg e2, if_neg (by omega)]
  · rw [mput_ne ha, mS_ne ha, mS_ne ha]
theorem x_sort_in {x : aM} {i : Nat} (hi : i < 20) (h14 : ∀ p, p < i → ∃ c, c < i ∧ x 14 p = nI c) (k : Int32 → aM → Option (Int32 × aM)) : ∀ q fu, q ≤ i → q < fu → ∃ r, r ≤ q ∧ l_X1_sortCues_12 (nI i) fu (nI q) (mS x q i) k = k (nI r) (mS x r i) ∧ (∀ p, r ≤ p → p < q → qc_com x i (ix (x 14 p))) ∧ (r = 0 ∨ ∃ p, r = p + 1 ∧ ¬ qc_com x i (ix (x 14 p))) := by
  intro q
  induction q with
  | zero =>
    intro fu hq hf
    obtain ⟨fu, rfl⟩ : ∃ z, fu = z + 1 := ⟨fu - 1, by omega⟩
    refine ⟨0, Nat.le_refl _, ?_, fun p _ h => absurd h (Nat.not_lt_zero p), Or.inl rfl⟩
    rw [l_X1_sortCues_12, if_pos (show nI 0 ≤ 0 from Int32.le_refl 0)]
  | succ q ih =>
    intro fu hq hf
    obtain ⟨fu, rfl⟩ : ∃ z, fu = z + 1 := ⟨fu - 1, by omega⟩
    obtain ⟨c, hc, e14⟩ := h14 q (by omega)
    have eS : mS x (q + 1) i 14 q = nI c := by
      rw [mS_at, if_neg (by omega), e14]
    have e0 : ix (x 14 q) = c := by rw [e14, ix_nI (by omega)]
    rw [l_X1_sortCues_12, if_neg (nI_nle (by omega) (by omega)), nI_pred, if_pos (inb_nI (show q < 20 by omega) (by decide)), ix_nI (show q < 2 ^ 31 by omega), eS]
    rcases x_com (x := mS x (q + 1) i) (c := i) (d := c) hi (by omega) with ⟨h1, h2⟩ | ⟨h1, h2⟩
    · rw [h2]
      simp only [bnd]
      rw [if_neg (show ¬ (1 : Int32) = 0 by decide), if_pos (inb_nI (show q < 20 by omega) (by decide)), if_pos (inb_nI (show q + 1 < 20 by omega) (by decide)), ix_nI (show q + 1 < 2 ^ 31 by omega), pk_m1, eS, ← e14, mS_step hq]
      obtain ⟨r, g1, g2, g3, g4⟩ := ih fu (by omega) (by omega)
      refine ⟨r, by omega, g2, fun p hp1 hp2 => ?_, g4⟩
      by_cases e : p = q
      · rw [e, e0]; exact h1
      · exact g3 p hp1 (by omega)
    · rw [h2]
      simp only [bnd]
      rw [if_pos trivial]
      refine ⟨q + 1, Nat.le_refl _, rfl, fun p hp1 hp2 => absurd hp1 (by omega), Or.inr ⟨q, rfl, ?_⟩⟩
      rw [e0]; exact h1
theorem AO.ins {x : aM} {i r : Nat} (hi : i < 20) (H : AO i x) (hr : r ≤ i) (h1 : ∀ p, r ≤ p → p < i → qc_com x i (ix (x 14 p))) (h2 : r = 0 ∨ ∃ p, r = p + 1 ∧ ¬ qc_com x i (ix (x 14 p))) : AO (i + 1) (mput (mS x r i) 14 r (nI i)) := by
  obtain ⟨o1, o2, o3⟩ := H
  have v1 : ∀ p, p < r → mput (mS x r i) 14 r (nI i) 14 p = x 14 p := fun p hp => by
    rw [mput_at, if_neg (by omega), mS_at, if_neg (by omega)]
  have v2 : mput (mS x r i) 14 r (nI i) 14 r = nI i := mput_self
  have v3 : ∀ p, r ≤ p → p < i → mput (mS x r i) 14 r (nI i) 14 (p + 1) = x 14 p := fun p hp hp2 => by
    rw [mput_at, if_neg (by omega), mS_at, if_pos (by omega)]
    rfl
  have c1 : ∀ p, p < i → ix (x 14 p) < i := fun p hp => by
    obtain ⟨c, hc, e⟩ := o1 p hp
    rw [e, ix_nI (by omega)]
    exact hc
  have ei : ix (nI i) = i := ix_nI (by omega)
  have A : ∀ p, p < r → qc_ah x (ix (x 14 p)) i := by
    intro p hp
    rcases h2 with h2 | ⟨p0, e, h2⟩
    · omega
    · have hcp := c1 p (by omega)
      by_cases e2 : p = p0
      · subst e2
        unfold qc_com at h2
        unfold qc_ah
        omega
      · have h3 := o2 p p0 (by omega) (by omega)
        unfold qc_com at h2
        unfold qc_ah at h3 ⊢
        omega
  have B : ∀ p, r ≤ p → p < i → qc_ah x i (ix (x 14 p)) := by
    intro p hp hp2
    have h3 := h1 p hp hp2
    unfold qc_com at h3
    unfold qc_ah
    omega
  have same : ∀ c d, qc_ah (mput (mS x r i) 14 r (nI i)) c d ↔ qc_ah x c d := by
    intro c d
    unfold qc_ah
    rw [mput_ne (show ¬ 11 = 14 by decide), mput_ne (show ¬ 12 = 14 by decide), mS_ne (show ¬ 11 = 14 by decide), mS_ne (show ¬ 12 = 14 by decide)]
  refine ⟨fun p hp => ?_, fun p s hps hs => ?_, fun c hc => ?_⟩
  · by_cases e1 : p < r
    · obtain ⟨c, hc, e⟩ := o1 p (by omega)
      exact ⟨c, by omega, (v1 p e1).trans e⟩
    · by_cases e2 : p = r
      · exact ⟨i, by omega, by rw [e2]; exact v2⟩
      · obtain ⟨p, rfl⟩ : ∃ z, p = z + 1 := ⟨p - 1, by omega⟩
        obtain ⟨c, hc, e⟩ := o1 p (by omega)
        exact ⟨c, by omega, (v3 p (by omega) (by omega)).trans e⟩
  · rw [same]
    by_cases e1 : p < r
    · rw [v1 p e1]
      by_cases e2 : s < r
      · rw [v1 s e2]; exact o2 p s hps (by omega)
      · by_cases e3 : s = r
        · rw [e3, v2, ei]; exact A p e1
        · obtain ⟨s, rfl⟩ : ∃ z, s = z + 1 := ⟨s - 1, by omega⟩
          rw [v3 s (by omega) (by omega)]
          exact o2 p s (by omega) (by omega)
    · by_cases e2 : p = r
      · obtain ⟨s, rfl⟩ : ∃ z, s = z + 1 := ⟨s - 1, by omega⟩
        rw [e2, v2, ei, v3 s (by omega) (by omega)]
        exact B s (by omega) (by omega)
      · obtain ⟨s, rfl⟩ : ∃ z, s = z + 1 := ⟨s - 1, by omega⟩
        obtain ⟨p, rfl⟩ : ∃ z, p = z + 1 := ⟨p - 1, by omega⟩
        rw [v3 s (by omega) (by omega), v3 p (by omega) (by omega)]
        exact o2 p s (by omega) (by omega)
  · by_cases e1 : c = i
    · exact ⟨r, by omega, by rw [e1]; exact v2⟩
    · obtain ⟨p, hp, e⟩ := o3 c (by omega)
      by_cases e2 : p < r
      · exact ⟨p, by omega, (v1 p e2).trans e⟩
      · exact ⟨p + 1, by omega, (v3 p (by omega) hp).trans e⟩
theorem x_sortCues {x : aM} {k : Nat} (hk : k ≤ 20) (h34 : x 3 4 = nI k) : ∃ x', f_X1_sortCues x = some (0, x') ∧ (∀ a, ¬ a = 14 → x' a = x a) ∧ AO k x' := by
  have loop : ∀ (kk : Int32 → aM → Option (Int32 × aM)) d i fu y, i + d = k → d < fu → y 3 4 = nI k → AO i y → ∃ y', l_X1_sortCues_2 fu (nI i) y kk = kk (nI k) y' ∧ (∀ a, ¬ a = 14 → y' a = y a) ∧ AO k y' := by
    intro kk d
    induction d with
    | zero =>
      intro i fu y hi hf hy H
      obtain ⟨fu, rfl⟩ : ∃ z, fu = z + 1 := ⟨fu - 1, by omega⟩
      obtain rfl : i = k := by omega
      refine ⟨y, ?_, fun _ _ => rfl, H⟩
      rw [l_X1_sortCues_2, hy, if_pos (q_le_self (by omega))]
    | succ d ih =>
      intro i fu y hi hf hy H
      obtain ⟨fu, rfl⟩ : ∃ z, fu = z + 1 := ⟨fu - 1, by omega⟩
      have hin := x_sort_in (x := y) (i := i) (by omega) H.1 (fun v15 σ16 => if inb v15 20 = true then l_X1_sortCues_2 fu (nI i + 1) (mput σ16 14 (ix v15) (nI i)) kk else none) i lf (Nat.le_refl _) (lf_gt (by omega))
      rw [mS_top] at hin
      obtain ⟨r, g1, g2, g3, g4⟩ := hin
      have hy2 : mput (mS y r i) 14 r (nI i) 3 4 = nI k := by
        rw [mput_ne (by decide), mS_ne (by decide)]
        exact hy
      obtain ⟨y', e1, e2, e3⟩ := ih (i + 1) fu (mput (mS y r i) 14 r (nI i)) (by omega) (by omega) hy2 (H.ins (by omega) g1 g3 g4)
      refine ⟨y', ?_, fun a ha => ?_, e3⟩
      · rw [l_X1_sortCues_2, hy, if_neg (nI_ge (by omega) (by omega)), g2]
        simp only [if_pos (inb_nI (show r < 20 by omega) (show 20 < 2 ^ 31 by decide)), ix_nI (show r < 2 ^ 31 by omega), nI_1]
        exact e1
      · rw [e2 a ha, mput_ne ha, mS_ne ha]
  obtain ⟨x', e1, e2, e3⟩ := loop (fun v18 σ19 => some (0, σ19)) k 0 lf x (by omega) (lf_gt (by omega)) h34 ⟨fun p h => absurd h (Nat.not_lt_zero p), fun p r _ h => absurd h (Nat.not_lt_zero r), fun p h => absurd h (Nat.not_lt_zero p)⟩
  exact ⟨x', e1, e2, e3⟩
theorem x_setTimes {x : aM} {n k : Nat} (hn : n ≤ 30) (hk : k ≤ 20) (h34 : x 3 4 = nI k) (hL : ∀ c, c < k → ∃ L, L < n ∧ x 11 c = nI L) : f_X1_setTimes x = some (0, mrow x 15 k (qc_t x)) := by
  have hl : ∀ kk : Int32 → aM → Option (Int32 × aM), l_X1_setTimes_2 lf 0 x kk = kk (nI k) (mrow x 15 k (qc_t x)) := by
    intro kk
    have key : l_X1_setTimes_2 lf (nI 0) (mrow x 15 0 (qc_t x)) kk = kk (nI k) (mrow x 15 k (qc_t x)) := by
      refine qa_loop0 (fun fu i => l_X1_setTimes_2 fu (nI i) (mrow x 15 i (qc_t x)) kk) k _ lf (lf_gt (by omega)) (fun i fu hi => ?_) (fun fu => ?_)
      · show l_X1_setTimes_2 (fu + 1) (nI i) (mrow x 15 i (qc_t x)) kk = l_X1_setTimes_2 fu (nI (i + 1)) (mrow x 15 (i + 1) (qc_t x)) kk
        obtain ⟨L, hL1, hL2⟩ := hL i hi
        have e3 : mrow x 15 i (qc_t x) 3 = x 3 := mrow_ne (by decide)
        have e11 : mrow x 15 i (qc_t x) 11 = x 11 := mrow_ne (by decide)
        have e8 : mrow x 15 i (qc_t x) 8 = x 8 := mrow_ne (by decide)
        have e7 : mrow x 15 i (qc_t x) 7 = x 7 := mrow_ne (by decide)
        have e12 : mrow x 15 i (qc_t x) 12 = x 12 := mrow_ne (by decide)
        rw [l_X1_setTimes_2, e3, h34, if_neg (nI_ge hi (by omega)), if_pos (inb_nI (show i < 20 by omega) (by decide)), ix_nI (show i < 2 ^ 31 by omega), e11, hL2, if_pos (inb_nI (show L < 30 by omega) (by decide)), ix_nI (show L < 2 ^ 31 by omega), e8, x_ahead (by omega)]
        simp only [bnd, e7, e8, e12, if_pos (inb_nI (show i < 20 by omega) (show 20 < 2 ^ 31 by decide)), nI_1]
        rw [← mrow_s (i := i)]
        unfold qc_t
        rw [hL2, ix_nI (show L < 2 ^ 31 by omega)]
        by_cases e : x 8 L = 0
        · rw [if_pos e, if_pos e]
        · rw [if_neg e, if_neg e]
      · show l_X1_setTimes_2 (fu + 1) (nI k) (mrow x 15 k (qc_t x)) kk = _
        rw [l_X1_setTimes_2, mrow_ne (by decide), h34, if_pos (q_le_self (by omega))]
    rw [mrow_0] at key
    exact key
  unfold f_X1_setTimes
  rw [hl]
