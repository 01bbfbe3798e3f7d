/-! the best lamp to borrow: each in turn is put on the stage, and put home -/
def vS (s a : Int32) (x : aM) (i : Nat) : aM := mput (mput x 22 i s) 23 i a
def vN (s a : Int32) (x : aM) (i : Nat) : aM := mput (mput (vS s a x i) 22 i (x 18 i)) 23 i (x 19 i)
def vw (s a : Int32) (x : aM) : Nat → aM
  | 0 => x
  | i + 1 => if vw s a x i 22 i = vw s a x i 18 i ∧ ¬ vw s a x i 18 i = s then vN s a (vw s a x i) i else vw s a x i
def bt (n q : Nat) (s a : Int32) (x : aM) : Nat → Int32 × Int32
  | 0 => (-1, nI (qd_n (SH q x s) n))
  | i + 1 => if vw s a x i 22 i = vw s a x i 18 i ∧ ¬ vw s a x i 18 i = s then (if (bt n q s a x i).2 ≤ nI (qd_n (SH q (vS s a (vw s a x i) i) s) n) then bt n q s a x i else (nI i, nI (qd_n (SH q (vS s a (vw s a x i) i) s) n))) else bt n q s a x i
theorem vS_ne {s a : Int32} {x : aM} {i b : Nat} (h : ¬ b = 22) (h2 : ¬ b = 23) : vS s a x i b = x b := (mput_ne h2).trans (mput_ne h)
theorem vN_ne {s a : Int32} {x : aM} {i b : Nat} (h : ¬ b = 22) (h2 : ¬ b = 23) : vN s a x i b = x b := (mput_ne h2).trans ((mput_ne h).trans (vS_ne h h2))
theorem vw_ne {s a : Int32} {x : aM} {b : Nat} (h : ¬ b = 22) (h2 : ¬ b = 23) : ∀ i, vw s a x i b = x b
  | 0 => rfl
  | i + 1 => by
    unfold vw
    split
    · exact (vN_ne h h2).trans (vw_ne h h2 i)
    · exact vw_ne h h2 i
theorem KX.both {v y : aM} {k i : Nat} {c : Int32} (h : KX v y) (hk : 18 ≤ k ∧ k ≤ 24) : KX (mput v k i c) (mput y k i c) := fun a ha => by
  by_cases e : a = k
  · rw [e, mput_row, mput_row, h k (by omega)]
  · rw [mput_ne e, mput_ne e]
    exact h a ha
theorem x_cw {v y : aM} {n q i : Nat} {s a : Int32} (hn : n ≤ 30) (h13 : v 1 3 = nI n) (hq : q ≤ 20) (h48 : v 4 8 = nI q) (hi : i < 20) (hK : KX v y) (hE : EN n v y) : ∃ y2, f_X5_countShortWith (nI i) s a y = some (nI (qd_n (SH q (vS s a v i) s) n), y2) ∧ KX (vN s a v i) y2 ∧ EN n (vN s a v i) y2 ∧ KR y y2 := by
  have k1 : KX (vS s a v i) (vS s a y i) := (hK.both (by decide)).both (by decide)
  have e1 : EN n (vS s a v i) (vS s a y i) := hE.kv (fun a ha => vS_ne (by omega) (by omega)) (fun l hl => vS_ne (by omega) (by omega))
  have b1 := x_count (x := vS s a v i) (y := vS s a y i) (s := s) hn (by rw [vS_ne (by decide) (by decide)]; exact h13) hq (by rw [vS_ne (by decide) (by decide)]; exact h48) k1.ky e1
  have e18 : mrow (vS s a y i) 28 10 (LD q (vS s a v i) s) 18 i = v 18 i := by rw [mrow_ne (by decide), vS_ne (by decide) (by decide), hK 18 (by omega)]
  have e19 : mrow (vS s a y i) 28 10 (LD q (vS s a v i) s) 19 i = v 19 i := by rw [mrow_ne (by decide), vS_ne (by decide) (by decide), hK 19 (by omega)]
  refine ⟨mput (mput (mrow (vS s a y i) 28 10 (LD q (vS s a v i) s)) 22 i (v 18 i)) 23 i (v 19 i), ?_, ?_, ?_, ?_⟩
  · unfold f_X5_countShortWith f_X3_put
    simp only [q_i20 hi, ix_nI (show i < 2 ^ 31 by omega), ↓reduceIte, bnd]
    rw [show mput (mput y 22 i s) 23 i a = vS s a y i from rfl, b1]
    simp only []
    rw [x_putHome hi, e18, e19]
  · exact ((k1.tr (KX.row (by decide))).both (by decide)).both (by decide)
  · refine e1.kv (fun b hb => ?_) (fun l hl => ?_)
    · unfold vN
      rw [mput_ne (by omega), mput_ne (by omega)]
    · rw [mput_ne (by omega), mput_ne (by omega), mrow_ne (by omega)]
  · exact ((((KR.put (by decide)).tr (KR.put (by decide))).tr (KR.row (by decide))).tr (KR.put (by decide))).tr (KR.put (by decide))
theorem x_btb {x : aM} {n q : Nat} {s a : Int32} (hn : n ≤ 30) (h13 : x 1 3 = nI n) (hq : q ≤ 20) (h48 : x 4 8 = nI q) (kk : Int32 → Int32 → Int32 → aM → Option (Nat × Int32 × aM)) : ∀ (d i fu : Nat) (y : aM), i + d = q → d < fu → KX (vw s a x i) y → EN n (vw s a x i) y → ∃ y', l_X5_bestToBorrow_26 s a fu (bt n q s a x i).1 (bt n q s a x i).2 (nI i) y kk = kk (bt n q s a x q).1 (bt n q s a x q).2 (nI q) y' ∧ KX (vw s a x q) y' ∧ KR y y' := by
  intro d
  induction d with
  | zero =>
    intro i fu y hi hf h1 h2
    obtain ⟨fu, rfl⟩ : ∃ z, fu = z + 1 := ⟨fu - 1, by omega⟩
    obtain rfl : i = q := by omega
    refine ⟨y, ?_, h1, KR.rf⟩
    rw [l_X5_bestToBorrow_26, h1 4 (by omega), vw_ne (by decide) (by decide), h48, if_pos (q_le_self (by omega))]
  | succ d ih =>
    intro i fu y hi hf h1 h2
    obtain ⟨fu, rfl⟩ : ∃ z, fu = z + 1 := ⟨fu - 1, by omega⟩
    have e48 : y 4 8 = nI q := by rw [h1 4 (by omega), vw_ne (by decide) (by decide)]; exact h48
    have ec := x_can (x := y) (l := i) (s := s) (by omega)
    rw [h1 22 (by omega), h1 18 (by omega)] at ec
    by_cases hc : vw s a x i 22 i = vw s a x i 18 i ∧ ¬ vw s a x i 18 i = s
    · obtain ⟨y2, g1, g2, g3, g4⟩ := x_cw (v := vw s a x i) (y := y) (s := s) (a := a) (i := i) hn (by rw [vw_ne (by decide) (by decide)]; exact h13) hq (by rw [vw_ne (by decide) (by decide)]; exact h48) (by omega) h1 h2
      have ev : vw s a x (i + 1) = vN s a (vw s a x i) i := by rw [vw, if_pos hc]
      obtain ⟨y', j1, j2, j3⟩ := ih (i + 1) fu y2 (by omega) (by omega) (by rw [ev]; exact g2) (by rw [ev]; exact g3)
      refine ⟨y', ?_, j2, g4.tr j3⟩
      rw [← j1, l_X5_bestToBorrow_26, e48, if_neg (nI_ge (by omega) (by omega)), ec, if_pos hc]
      simp only [bnN]
      rw [if_neg q_1ne0, g1]
      simp only []
      rw [nI_1, bt, if_pos hc]
      by_cases e : (bt n q s a x i).2 ≤ nI (qd_n (SH q (vS s a (vw s a x i) i) s) n)
      · rw [if_pos e, if_pos e]
      · rw [if_neg e, if_neg e]
    · have ev : vw s a x (i + 1) = vw s a x i := by rw [vw, if_neg hc]
      obtain ⟨y', j1, j2, j3⟩ := ih (i + 1) fu y (by omega) (by omega) (by rw [ev]; exact h1) (by rw [ev]; exact h2)
      refine ⟨y', ?_, j2, j3⟩
      rw [← j1, l_X5_bestToBorrow_26, e48, if_neg (nI_ge (by omega) (by omega)), ec, if_neg hc]
      simp only [bnN, ↓reduceIte]
      rw [nI_1, bt, if_neg hc]
theorem PM.mc {n k : Nat} {x m m' : aM} (h6 : m' 6 = m 6) (h47 : m' 47 = m 47) (h48 : m' 48 = m 48) (h49 : m' 49 = m 49) (H : PM n k x m) : PM n k x m' := by
  unfold PM at H ⊢
  rw [h6, h47, h48, h49]
  exact H
theorem m_btb {n k q g : Nat} {x : aM} {s a : Int32} (kk : Int32 → Int32 → Int32 → aM → Option (Int32 × aM)) : ∀ (d i fu : Nat) (y : aM), i + d = q → d < fu → QL n k q g (vw s a x i) y → PM n k (vw s a x i) y → ∃ y', l_X6_bestToBorrow_44 s a fu (bt n q s a x i).1 (bt n q s a x i).2 (nI i) y kk = kk (bt n q s a x q).1 (bt n q s a x q).2 (nI q) y' ∧ QL n k q g (vw s a x q) y' ∧ y' 6 0 = y 6 0 ∧ KC y y' := by
  intro d
  induction d with
  | zero =>
    intro i fu y hi hf H hM
    obtain ⟨fu, rfl⟩ : ∃ z, fu = z + 1 := ⟨fu - 1, by omega⟩
    obtain rfl : i = q := by omega
    refine ⟨y, ?_, H, rfl, KC.rf⟩
    rw [l_X6_bestToBorrow_44, H.2.2.2.2.1.2.2.1, if_pos (q_le_self (by have := H.2.2.2.2.1.1; omega))]
  | succ d ih =>
    intro i fu y hi hf H hM
    obtain ⟨fu, rfl⟩ : ∃ z, fu = z + 1 := ⟨fu - 1, by omega⟩
    have hq := H.2.2.2.2.1.1
    have e19 := H.2.2.2.2.1.2.2.1
    have e38 := H.2.2.2.2.1.2.2.2.1
    have eh := m_home (n := n) (k := k) (g := g) (y := y) H.2.2.2.2.1 rfl rfl (show i < 20 by omega)
    by_cases hc : vw s a x i 22 i = vw s a x i 18 i ∧ ¬ vw s a x i 18 i = s
    · have R1 : QL n k q g (vS s a (vw s a x i) i) (mput (mput y 40 i s) 41 i a) := H.put
      have M1 : PM n k (vS s a (vw s a x i) i) (mput (mput y 40 i s) 41 i a) := (hM.kv (fun b hb => vS_ne (by omega) (by omega))).mc (by rw [mput_ne (by decide), mput_ne (by decide)]) (by rw [mput_ne (by decide), mput_ne (by decide)]) (by rw [mput_ne (by decide), mput_ne (by decide)]) (by rw [mput_ne (by decide), mput_ne (by decide)])
      obtain ⟨y1, b1, b2, -⟩ := m_count (s := s) R1 M1
      have f38 : y1 38 i = vw s a x i 18 i := by rw [b2 38 (by decide) (by decide), mput_ne (by decide), mput_ne (by decide), e38]
      have f39 : y1 39 i = vw s a x i 19 i := by rw [b2 39 (by decide) (by decide), mput_ne (by decide), mput_ne (by decide), H.2.2.2.2.1.2.2.2.2.1]
      have ev : vw s a x (i + 1) = vN s a (vw s a x i) i := by rw [vw, if_pos hc]
      have R2 : QL n k q g (vN s a (vw s a x i) i) (mput (mput y1 40 i (vw s a x i 18 i)) 41 i (vw s a x i 19 i)) := (R1.km b2.km).put
      have M2 : PM n k (vN s a (vw s a x i) i) (mput (mput y1 40 i (vw s a x i 18 i)) 41 i (vw s a x i 19 i)) := ((b2.pm M1).kv (fun b hb => by unfold vN; rw [mput_ne (by omega), mput_ne (by omega)])).mc (by rw [mput_ne (by decide), mput_ne (by decide)]) (by rw [mput_ne (by decide), mput_ne (by decide)]) (by rw [mput_ne (by decide), mput_ne (by decide)]) (by rw [mput_ne (by decide), mput_ne (by decide)])
      obtain ⟨y', j1, j2, j3, j4⟩ := ih (i + 1) fu (mput (mput y1 40 i (vw s a x i 18 i)) 41 i (vw s a x i 19 i)) (by omega) (by omega) (by rw [ev]; exact R2) (by rw [ev]; exact M2)
      refine ⟨y', ?_, j2, ?_, ?_⟩
      · rw [← j1, l_X6_bestToBorrow_44, e19, if_neg (nI_ge (by omega) (by omega)), eh, if_pos hc.1]
        simp only [bnd]
        rw [if_neg q_1ne0]
        simp only [if_pos (q_i20 (show i < 20 by omega)), ix_nI (show i < 2 ^ 31 by omega)]
        rw [e38, if_neg hc.2, b1]
        simp only []
        rw [f38, f39, nI_1, bt, if_pos hc]
        by_cases e : (bt n q s a x i).2 ≤ nI (qd_n (SH q (vS s a (vw s a x i) i) s) n)
        · rw [if_pos e, if_pos e, if_pos e]
        · rw [if_neg e, if_neg e, if_neg e]
      · rw [j3, mput_ne (by decide), mput_ne (by decide), b2 6 (by decide) (by decide), mput_ne (by decide), mput_ne (by decide)]
      · exact (((((KC.put (by decide)).tr (KC.put (by decide))).tr b2.kc).tr (KC.put (by decide))).tr (KC.put (by decide))).tr j4
    · have ev : vw s a x (i + 1) = vw s a x i := by rw [vw, if_neg hc]
      obtain ⟨y', j1, j2, j3, j4⟩ := ih (i + 1) fu y (by omega) (by omega) (by rw [ev]; exact H) (by rw [ev]; exact hM)
      refine ⟨y', ?_, j2, j3, j4⟩
      rw [← j1, l_X6_bestToBorrow_44, e19, if_neg (nI_ge (by omega) (by omega)), eh, bt, if_neg hc]
      simp only [bnd]
      by_cases h1 : vw s a x i 22 i = vw s a x i 18 i
      · have h2 : vw s a x i 18 i = s := Decidable.byContradiction fun e => hc ⟨h1, e⟩
        rw [if_pos h1, if_neg q_1ne0, if_pos (q_i20 (show i < 20 by omega)), ix_nI (show i < 2 ^ 31 by omega), e38, if_pos h2, nI_1]
      · rw [if_neg h1, if_pos rfl, nI_1]
theorem k_bestToBorrow (p0 p1 : Int32) : LK (f_X5_bestToBorrow p0 p1) hc_L_bestToBorrow (f_X6_bestToBorrow p0 p1) := by
  intro n k q g x R
  have hq := R.2.2.2.2.1.1
  have hn := R.1.1
  by_cases c1 : inb p0 4 = true
  · by_cases c2 : inb p1 4 = true
    · have h48 := R.2.2.2.2.1.2.1
      have hE : KX x (mE x n) := KX.mEe hn
      have hER : KR x (mE x n) := fun a ha => mE_ne (by omega)
      have b1 := x_readEnds R.px hn R.1.2.1
      have b2 := x_count (s := p0) hn R.1.2.1 hq h48 hE.ky EN.of
      obtain ⟨y', b3, b4, b5⟩ := x_btb (s := p0) (a := p1) hn R.1.2.1 hq h48 (fun v32 v33 v34 σ35 => some (0, v32, σ35)) q 0 lf (mrow (mE x n) 28 10 (LD q x p0)) (by omega) (lf_gt (by omega)) (hE.tr (KX.row (by decide))) (fun l hl h8 c hh => (congrFun (mrow_ne (by omega)) c).trans (EN.of l hl h8 c hh))
      refine Or.inr ⟨(bt n q p0 p1 x q).1, y', ?_, (hER.tr (KR.row (by decide))).tr b5, fun m hm => ?_⟩
      · simp only [f_X5_bestToBorrow, x_n4_t c1, x_n4_t c2, b1, b2, bnd, bnX, bnN, q_1ne0, q_n1, q_n2, q_n3, eq_self, not_true_eq_false, not_false_eq_true, ↓reduceIte]
        exact b3
      · obtain ⟨m', d1, d2, d3, d4, d5, d6⟩ := m_begin hm
        obtain ⟨m1, f1, f2, -⟩ := m_count (s := p0) d5 d6
        obtain ⟨m2, f3, f4, f5, f6⟩ := m_btb (n := n) (k := k) (q := q) (g := g) (x := x) (s := p0) (a := p1) (fun v40 v41 v42 σ43 => some (v40, σ43)) q 0 lf m1 (by omega) (lf_gt (by omega)) (d5.km f2.km) (f2.pm d6)
        refine ⟨m2, ?_, f5.trans ((congrFun (f2 6 (by decide) (by decide)) 0).trans d2), (d4.tr f2.kc).tr f6, n, k, q, g, f4.kx b4⟩
        simp only [f_X6_bestToBorrow, m_stage_t c1, m_area_t c2, m_fine0, d1, f1, bnd, bnX, bnN, q_1ne0, q_n1, q_n2, q_n3, eq_self, not_true_eq_false, not_false_eq_true, ↓reduceIte]
        exact f3
    · refine Or.inl (LT.of 1 1 ?_ (by decide) rfl (by decide) (fun m hm => ?_))
      · simp only [f_X5_bestToBorrow, x_n4_t c1, x_n4_f c2, bnd, bnX, bnN, q_1ne0, q_n1, q_n2, q_n3, eq_self, not_true_eq_false, not_false_eq_true, ↓reduceIte]
      · simp only [f_X6_bestToBorrow, m_stage_t c1, m_area_f c2, m_fine1, bnd, bnX, bnN, q_1ne0, q_n1, q_n2, q_n3, eq_self, not_true_eq_false, not_false_eq_true, ↓reduceIte]
  · refine Or.inl (LT.of 1 1 ?_ (by decide) rfl (by decide) (fun m hm => ?_))
    · simp only [f_X5_bestToBorrow, x_n4_f c1, bnd, bnX, bnN, q_1ne0, q_n1, q_n2, q_n3, eq_self, not_true_eq_false, not_false_eq_true, ↓reduceIte]
    · simp only [f_X6_bestToBorrow, m_stage_f c1, m_fine1, bnd, bnX, bnN, q_1ne0, q_n1, q_n2, q_n3, eq_self, not_true_eq_false, not_false_eq_true, ↓reduceIte]
