/-! the ends of the lines, what is short, how many -/
theorem kd_e {l : Nat} (h : l < 30) : kd (128 + l) = 1 := by
  unfold kd
  rw [if_neg (by omega), if_neg (by omega), if_neg (by omega), if_neg (by omega), if_pos (by omega)]
theorem ln_e {l : Nat} (h : l < 30) : ln (128 + l) = 10 := by
  unfold ln
  rw [if_neg (by omega), if_neg (by omega), if_pos (by omega)]
theorem x_fill {x : aM} {a : Nat} {t : Int32} (H : QX x) (hk : kd a = 1) (hn : ln a = 10) (ha : a = 27 ∨ 128 ≤ a ∧ a < 158) : f_X1_fillLevels t a x = some (0, mrow x a 10 (fun h => LV x h t)) := by
  have hl : ∀ k : Int32 → aM → Option (Int32 × aM), l_X1_fillLevels_2 t a lf 0 x k = k (nI 10) (mrow x a 10 (fun h => LV x h t)) := by
    intro k
    have key : l_X1_fillLevels_2 t a lf (nI 0) (mrow x a 0 (fun h => LV x h t)) k = k (nI 10) (mrow x a 10 (fun h => LV x h t)) := by
      refine qa_loop0 (fun n i => l_X1_fillLevels_2 t a n (nI i) (mrow x a i (fun h => LV x h t)) k) 10 _ lf (lf_gt (by decide)) (fun i n hi => ?_) (fun n => ?_)
      · show l_X1_fillLevels_2 t a (n + 1) (nI i) (mrow x a i (fun h => LV x h t)) k = l_X1_fillLevels_2 t a n (nI (i + 1)) (mrow x a (i + 1) (fun h => LV x h t)) k
        have hK : KY x (mrow x a i (fun h => LV x h t)) := KY.row (by omega)
        rw [l_X1_fillLevels_2, if_neg (q10_lt hi), x_fades (H.ky hK) hi]
        simp only [bnd]
        rw [if_pos hk, hn, if_pos (inb_nI hi (by decide)), ix_nI (by omega), hK.LVe, nI_1, ← mrow_s (i := i)]
      · show l_X1_fillLevels_2 t a (n + 1) (nI 10) _ k = _
        rw [l_X1_fillLevels_2, if_pos q10_ge]
    rw [mrow_0] at key
    exact key
  unfold f_X1_fillLevels
  rw [hl]
/-- the reference behind its plays() -/
def PM (n k : Nat) (x m : aM) : Prop := m 6 25 = x 3 10 ∧ (∀ p, p < k → m 47 p = x 14 p) ∧ (∀ l, l < n → m 49 l = sa (x 7) (x 8) l) ∧ ∀ j, j < (qc_P (pT x) k).1 → m 48 j = nI ((qc_P (pT x) k).2 j)
theorem PM.kx {n k : Nat} {x x' m : aM} (h : KX x x') (H : PM n k x m) : PM n k x' m := by
  unfold PM at H ⊢
  rw [h.ka.pTe, h 3 (by omega), h 14 (by omega), h 7 (by omega), h 8 (by omega)]
  exact H
theorem PM.row {n k a i : Nat} {f : Nat → Int32} {x m : aM} (h : 50 ≤ a) (H : PM n k x m) : PM n k x (mrow m a i f) := by
  unfold PM at H ⊢
  rw [mrow_ne (show ¬ 6 = a by omega), mrow_ne (show ¬ 47 = a by omega), mrow_ne (show ¬ 48 = a by omega), mrow_ne (show ¬ 49 = a by omega)]
  exact H
theorem m_played {n k q g c : Nat} {x m : aM} (H : QL n k q g x m) (hc : c < k) : f_X6_isPlayed (nI c) m = some (if x 15 c = -1 then 0 else 1, m) ∧ (x 15 c = -1 ↔ ¬ x 8 (ix (x 11 c)) = 0) := by
  obtain ⟨hS, -, hC, ⟨hO, hT, -, hP⟩, -, -⟩ := H
  obtain ⟨⟨hk, -, hL, ho, hf⟩, -, e34, -⟩ := hC
  obtain ⟨L, hL1, hL2⟩ := hL c hc
  obtain ⟨o, ho1, ho2⟩ := ho c hc
  have hn := hS.1
  have hiff : x 15 c = -1 ↔ ¬ x 8 (ix (x 11 c)) = 0 := by
    rw [hT c hc]
    unfold qc_t
    obtain ⟨T, hT1, hT2⟩ := sa_nat (x8 := x 8) hS.2.2.2.2.2.1 L (by omega)
    rw [hL2, ix_nI (by omega)]
    by_cases e8 : x 8 L = 0
    · rw [if_pos e8, hT2, ho2, nI_add]
      refine ⟨fun q => ?_, fun q => absurd e8 q⟩
      have q2 := congrArg Int32.toInt q
      rw [nI_toInt (by omega), show (-1 : Int32).toInt = -1 from rfl] at q2
      omega
    · rw [if_neg e8]
      exact ⟨fun _ => e8, fun _ => rfl⟩
  refine ⟨?_, hiff⟩
  unfold f_X6_isPlayed
  rw [if_pos (inb_nI (show c < 20 by omega) (by decide)), ix_nI (by omega), e34, hS.2.2.2.2.1]
  rw [if_pos (show inb (x 11 c) 30 = true by rw [hL2]; exact inb_nI (by omega) (by decide))]
  by_cases e : x 15 c = -1
  · rw [if_pos (hiff.mp e), if_pos e]
  · rw [if_neg (fun q => e (hiff.mpr q)), if_neg e]
theorem m_changesAt_l {n k q g h : Nat} {x m : aM} (H : QL n k q g x m) (h47 : ∀ p, p < k → m 47 p = x 14 p) (hh : h < 10) (pl : Int32) (kk : Int32 → Int32 → aM → Option (Int32 × aM)) (hkk : ∀ v a b, kk v a m = kk v b m) : ∀ (p fu : Nat) (v : Int32), p ≤ k → p < fu → l_X6_changesAt_22 pl (nI h) fu v (nI p - 1) m kk = kk (qc_C (pT x) (pO x h) p v) 0 m := by
  intro p
  induction p with
  | zero =>
    intro fu v hp hf
    obtain ⟨fu, rfl⟩ : ∃ z, fu = z + 1 := ⟨fu - 1, by omega⟩
    rw [l_X6_changesAt_22, if_pos (show nI 0 - 1 < 0 by decide)]
    exact hkk _ _ _
  | succ p ih =>
    intro fu v hp hf
    obtain ⟨fu, rfl⟩ : ∃ z, fu = z + 1 := ⟨fu - 1, by omega⟩
    have hk := H.2.2.1.1.1
    obtain ⟨c, hc, e14⟩ := H.2.2.2.1.1.1 p (by omega)
    have e47 : m 47 p = nI c := (h47 p (by omega)).trans e14
    have hpl := (m_played H hc).1
    have e15 : pT x p = x 15 c := by
      unfold pT
      rw [e14, ix_nI (by omega)]
    have e37 : m 37 (10 * c + h) = x (88 + c) h := H.2.2.1.2.2.2.2.2 c h (by omega) hh
    have eO : pO x h p = x (88 + c) h := by
      unfold pO
      rw [e14, ix_nI (by omega), if_pos (by omega)]
    rw [nI_pred, l_X6_changesAt_22, if_neg (nI_pos (by omega)), if_pos (inb_nI (show p < 20 by omega) (by decide)), ix_nI (by omega), e47, hpl]
    simp only [bnd]
    unfold qc_C
    rw [e15]
    by_cases e : x 15 c = -1
    · rw [if_pos e, if_neg (fun q => q rfl)]
      by_cases ev : v = -1
      · rw [if_neg (fun q => q ev), if_pos (inb_nI (show p < 20 by omega) (by decide)), if_pos ev, e47, show (10 : Int32) * nI c + nI h = nI (10 * c + h) by rw [show (10 : Int32) = nI 10 from rfl, pk_mul, nI_add], if_pos (inb_nI (show 10 * c + h < 200 by omega) (by decide)), ix_nI (by omega), e37, show nI p + (-1) = nI p - 1 by rw [Int32.sub_eq_add_neg], ih fu _ (by omega) (by omega), if_pos e, eO]
      · rw [if_pos ev, if_neg ev]
        exact hkk _ _ _
    · rw [if_neg e, if_pos (show ¬ (1 : Int32) = 0 by decide)]
      rw [show (if v = -1 then if x 15 c = -1 then qc_C (pT x) (pO x h) p (pO x h p) else v else v) = v by rw [if_neg e]; split <;> rfl]
      exact hkk _ _ _
theorem m_changesAt {n k q g h p : Nat} {x m : aM} (H : QL n k q g x m) (h47 : ∀ p, p < k → m 47 p = x 14 p) (hh : h < 10) (hp : p < k) : f_X6_changesAt (nI p) (nI h) m = some (qc_C (pT x) (pO x h) p (pO x h p), m) := by
  have hk := H.2.2.1.1.1
  obtain ⟨c, hc, e14⟩ := H.2.2.2.1.1.1 p hp
  have e47 : m 47 p = nI c := (h47 p hp).trans e14
  have e37 : m 37 (10 * c + h) = x (88 + c) h := H.2.2.1.2.2.2.2.2 c h (by omega) hh
  have eO : pO x h p = x (88 + c) h := by
    unfold pO
    rw [e14, ix_nI (by omega), if_pos (by omega)]
  unfold f_X6_changesAt
  rw [if_pos (inb_nI (show p < 20 by omega) (by decide)), ix_nI (by omega), e47, show (10 : Int32) * nI c + nI h = nI (10 * c + h) by rw [show (10 : Int32) = nI 10 from rfl, pk_mul, nI_add], if_pos (inb_nI (show 10 * c + h < 200 by omega) (by decide)), ix_nI (by omega), e37, ← eO, m_changesAt_l H h47 hh _ (fun v17 v18 σ19 => some (v17, σ19)) (fun _ _ _ => rfl) p lf _ (by omega) (lf_gt (by omega))]
theorem m_level {n k q g h t : Nat} {x m : aM} (H : QL n k q g x m) (hM : PM n k x m) (hh : h < 10) (ht : t ≤ 5000) : f_X6_level (nI h) (nI t) m = some (LV x h (nI t), m) := by
  obtain ⟨c, hc, e, h1, h2⟩ := H.px
  have hk := H.2.2.1.1.1
  have hO := H.2.2.2.1.1
  have hP := H.2.2.2.1.2.2.2
  obtain ⟨f1, f2, f3⟩ := qc_P_facts (tm := pT x) k
  have ec : c = (qc_P (pT x) k).1 := (nI_eq (by omega) (by omega)).mp (e.symm.trans hP.1)
  unfold LV
  rw [e, ix_nI (by omega)]
  have row : ∀ j, j < c → ∃ r d, r < k ∧ d < k ∧ m 48 j = nI r ∧ x 14 r = nI d ∧ m 47 r = nI d ∧ x 17 j = nI d ∧ ¬ x 15 d = -1 := by
    intro j hj
    rw [ec] at hj
    obtain ⟨g1, g2⟩ := f2 j hj
    obtain ⟨d, hd, e1⟩ := hO.1 _ g1
    refine ⟨_, d, g1, hd, hM.2.2.2 j hj, e1, (hM.2.1 _ g1).trans e1, (hP.2 j hj).trans e1, ?_⟩
    have g3 : ¬ x 15 (ix (x 14 ((qc_P (pT x) k).2 j))) = -1 := g2
    rw [e1, ix_nI (by omega)] at g3
    exact g3
  refine m_level_g (T := fun j => ix (tX x j)) (N := fun j => ix (fX x j)) hc (hM.1.trans e) ht (fun j hj => ?_) (fun j hj => ?_) (fun j hj => ?_) (fun j hj => ?_) (fun j hj => ?_) h2 (fun j hj => ?_) (fun j hj => ?_)
  · obtain ⟨r, d, g1, g2, g3, g4, g5, g6, g7⟩ := row j hj
    rw [g3]
    exact inb_nI (by omega) (by decide)
  · obtain ⟨r, d, g1, g2, g3, g4, g5, g6, g7⟩ := row j hj
    rw [g3, ix_nI (by omega), g5]
    obtain ⟨L, hL1, hL2⟩ := H.2.2.1.1.2.2.1 d g2
    have hn := H.1.1
    unfold f_X6_when
    rw [if_pos (inb_nI (show d < 20 by omega) (by decide)), ix_nI (show d < 2 ^ 31 by omega), H.2.2.1.2.2.1, hL2, if_pos (inb_nI (show L < 30 by omega) (by decide)), if_pos (inb_nI (show d < 20 by omega) (by decide)), ix_nI (show L < 2 ^ 31 by omega), hM.2.2.1 L hL1, H.2.2.1.2.2.2.1]
    have h8 : x 8 (ix (x 11 d)) = 0 := Decidable.byContradiction fun q => g7 ((m_played H g2).2.mpr q)
    have e15 := H.2.2.2.1.2.1 d g2
    unfold qc_t at e15
    rw [if_pos h8, hL2, ix_nI (by omega)] at e15
    unfold tX
    rw [g6, ix_nI (by omega), e15]
  · obtain ⟨r, d, g1, g2, g3, g4, g5, g6, g7⟩ := row j hj
    have e15 : ¬ pT x r = -1 := by
      unfold pT
      rw [g4, ix_nI (by omega)]
      exact g7
    have e108 := H.2.2.2.1.2.2.1.2 r h g1 hh
    rw [if_neg e15, g4, ix_nI (by omega)] at e108
    rw [g3, m_changesAt H hM.2.1 hh g1, ← e108]
    unfold mX
    rw [g6, ix_nI (by omega), if_pos (by omega)]
  · obtain ⟨r, d, g1, g2, g3, g4, g5, g6, g7⟩ := row j hj
    rw [g3, ix_nI (by omega), g5]
    exact inb_nI (by omega) (by decide)
  · obtain ⟨r, d, g1, g2, g3, g4, g5, g6, g7⟩ := row j hj
    rw [g3, ix_nI (by omega), g5, H.2.2.1.2.2.2.2.1]
    unfold fX
    rw [g6]
  · obtain ⟨-, ⟨v, hv, e1⟩, -⟩ := h1 j hj
    show tX x j = nI (ix (tX x j)) ∧ ix (tX x j) < 5000
    rw [e1, ix_nI (by omega)]
    exact ⟨rfl, hv⟩
  · obtain ⟨-, -, ⟨v, hv, e1⟩⟩ := h1 j hj
    show fX x j = nI (ix (fX x j)) ∧ ix (fX x j) ≤ 60
    rw [e1, ix_nI (by omega)]
    exact ⟨rfl, hv⟩
theorem m_lights {n k q g t : Nat} {x m : aM} (H : QL n k q g x m) (hM : PM n k x m) (ht : t ≤ 5000) : f_X6_lights (nI t) m = some (0, mrow m 51 10 (fun h => LV x h (nI t))) := by
  have hl : ∀ kk : Int32 → aM → Option (Int32 × aM), l_X6_lights_2 (nI t) lf 0 m kk = kk (nI 10) (mrow m 51 10 (fun h => LV x h (nI t))) := by
    intro kk
    have key : l_X6_lights_2 (nI t) lf (nI 0) (mrow m 51 0 (fun h => LV x h (nI t))) kk = kk (nI 10) (mrow m 51 10 (fun h => LV x h (nI t))) := by
      refine qa_loop0 (fun fu i => l_X6_lights_2 (nI t) fu (nI i) (mrow m 51 i (fun h => LV x h (nI t))) kk) 10 _ lf (lf_gt (by decide)) (fun i fu hi => ?_) (fun fu => ?_)
      · show l_X6_lights_2 (nI t) (fu + 1) (nI i) (mrow m 51 i (fun h => LV x h (nI t))) kk = l_X6_lights_2 (nI t) fu (nI (i + 1)) (mrow m 51 (i + 1) (fun h => LV x h (nI t))) kk
        rw [l_X6_lights_2, if_neg (q10_lt hi), m_level (H.km (KM.row (by omega))) (hM.row (by omega)) hi ht]
        simp only [bnd]
        rw [if_pos (inb_nI hi (by decide)), ix_nI (by omega), nI_1, ← mrow_s (i := i)]
      · show l_X6_lights_2 (nI t) (fu + 1) (nI 10) _ kk = _
        rw [l_X6_lights_2, if_pos q10_ge]
    rw [mrow_0] at key
    exact key
  unfold f_X6_lights
  rw [hl]
