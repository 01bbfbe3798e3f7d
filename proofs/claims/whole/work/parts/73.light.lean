/-! the calls that light the stages -/
/-- what the levels alone read is kept -/
def KV (x x' : aM) : Prop := ∀ a, (a = 3 ∨ 7 ≤ a ∧ a ≤ 8 ∨ 13 ≤ a ∧ a ≤ 17 ∨ 108 ≤ a ∧ a < 128) → x' a = x a
theorem KY.kv {x x' : aM} (h : KY x x') : KV x x' := fun a ha => h a (by omega)
theorem KV.LVe {x x' : aM} (h : KV x x') {c : Nat} {t : Int32} : LV x' c t = LV x c t := by
  have e1 : tX x' = tX x := by
    funext p
    unfold tX
    rw [h 15 (by omega), h 17 (by omega)]
  have e2 : fX x' = fX x := by
    funext p
    unfold fX
    rw [h 13 (by omega), h 17 (by omega)]
  have e3 : mX x' c = mX x c := by
    funext p
    unfold mX
    rw [h 17 (by omega)]
    by_cases e : ix (x 17 p) < 20
    · rw [if_pos e, if_pos e, h _ (by omega)]
    · rw [if_neg e, if_neg e]
  unfold LV
  rw [e1, e2, e3, h 3 (by omega)]
theorem KV.lastSe {x x' : aM} (h : KV x x') {l : Nat} : lastS x' l = lastS x l := by
  unfold lastS
  rw [h 7 (by omega), h 8 (by omega)]
theorem PM.kv {n k : Nat} {x x' m : aM} (h : KV x x') (H : PM n k x m) : PM n k x' m := by
  have e : pT x' = pT x := by
    funext p
    unfold pT
    rw [h 15 (by omega), h 14 (by omega)]
  unfold PM at H ⊢
  rw [e, h 3 (by omega), h 14 (by omega), h 7 (by omega), h 8 (by omega)]
  exact H
theorem EN.kv {n : Nat} {x x' y y' : aM} (h : KV x x') (h2 : ∀ l, l < n → y' (128 + l) = y (128 + l)) (H : EN n x y) : EN n x' y' := fun l hl h8 c hc => by
  rw [h2 l hl, h.LVe, h.lastSe]
  refine H l hl ?_ c hc
  rw [← h 8 (by omega)]
  exact h8
theorem E5.kc {m m' : aM} (h : E5 m m') : KC m m' := ⟨fun a ha => h a (by omega) (by omega), h 178 (by decide) (by decide)⟩
/-- the reference behind its plays(), thrown cleared -/
theorem m_begin {n k q g : Nat} {x m : aM} (hm : QL n k q g x m) : ∃ m', f_X6_plays (mput m 6 0 0) = some (0, m') ∧ m' 6 0 = 0 ∧ KM m m' ∧ KC m m' ∧ QL n k q g x m' ∧ PM n k x m' := by
  obtain ⟨m', a1, a2, a3, a4, a5⟩ := m_plays (m0_R hm)
  exact ⟨m', a1, a4.trans mput_self, a0_km.1.tr a2, a0_km.2.tr ⟨fun a ha => a3 a (by omega) (by omega), a3 178 (by decide) (by decide)⟩, (m0_R hm).km a2, a5⟩
theorem k_lampLevel (p0 p1 : Int32) : LK (f_X5_lampLevel p0 p1) hc_L_lampLevel (f_X6_lampLevel p0 p1) := by
  intro n k q g x R
  have hq := R.2.2.2.2.1.1
  by_cases c1 : inb p0 q = true
  · by_cases c2 : 0 ≤ p1 ∧ p1 ≤ 2000
    · obtain ⟨l, hl, rfl⟩ := inb_of c1 (by omega)
      obtain ⟨t, ht, rfl⟩ := q_time c2
      have h48 := R.2.2.2.2.1.2.1
      have hK : KY x (mrow x 28 10 (LD q x (x 22 l))) := KY.row (by decide)
      have b1 := x_lay2 (s := x 22 l) hq h48 KY.rf
      have b2 := x_fill (t := nI t) (a := 27) (R.px.ky hK) (by decide) (by decide) (Or.inl rfl)
      have b3 := x_levelOf (x := mrow (mrow x 28 10 (LD q x (x 22 l))) 27 10 (fun h => LV (mrow x 28 10 (LD q x (x 22 l))) h (nI t))) (l := l) (a5 := 27) (ld := LD q x (x 22 l)) (lv := fun h => LV x h (nI t)) (by omega) (by decide) (by decide) (fun h hh => by rw [mrow_ne (by decide), mrow_at hh]) (fun h hh => by rw [mrow_at hh, hK.LVe])
      refine Or.inr (LA.ro (x' := mrow (mrow x 28 10 (LD q x (x 22 l))) 27 10 (fun h => LV (mrow x 28 10 (LD q x (x 22 l))) h (nI t))) (qa_L (x 24) (LD q x (x 22 l)) (fun h => LV x h (nI t)) l) R ?_ ((KX.row (by decide)).tr (KX.row (by decide))) ((KR.row (by decide)).tr (KR.row (by decide))) (fun m hm => ?_))
      · simp only [f_X5_lampLevel, R.2.2.2.2.1.2.1, x_num_t (show q < 2 ^ 30 by omega) c1, x_rng_t c2, q_i20 (show l < 20 by omega), ix_nI (show l < 2 ^ 31 by omega), b1, b2, b3, bnd, bnX, bnN, q_1ne0, q_n1, q_n2, q_n3, eq_self, not_true_eq_false, not_false_eq_true, ↓reduceIte]
        rw [mrow_ne (by decide), mrow_ne (by decide)]
      · obtain ⟨m', d1, d2, d3, d4, d5, d6⟩ := m_begin hm
        have e40 : m' 40 l = x 22 l := congrFun d5.2.2.2.2.1.2.2.2.2.2.1 l
        have hK1 : KM m' (mrow m' 50 10 (LD q x (x 22 l))) := KM.row (by decide)
        have f1 := m_lay2 (s := x 22 l) d5
        have f2 := m_lights (d5.km hK1) (d6.row (by decide)) (show t ≤ 5000 by omega)
        have f3 := m_lampNow (m := mrow (mrow m' 50 10 (LD q x (x 22 l))) 51 10 (fun h => LV x h (nI t))) (l := l) (ld := LD q x (x 22 l)) (lv := fun h => LV x h (nI t)) (by omega) (fun h hh => by rw [mrow_ne (by decide), mrow_at hh]) (fun h hh => by rw [mrow_at hh])
        refine ⟨mrow (mrow m' 50 10 (LD q x (x 22 l))) 51 10 (fun h => LV x h (nI t)), ?_, ?_, (d3.tr hK1).tr (KM.row (k := 51) (by decide)), (d4.tr (KC.row (by decide))).tr (KC.row (k := 51) (by decide))⟩
        · simp only [f_X6_lampLevel, m_lamp_t (show q < 2 ^ 30 by omega) hm.2.2.2.2.1.2.2.1 c1, m_time_t c2, m_fine0, d1, q_i20 (show l < 20 by omega), ix_nI (show l < 2 ^ 31 by omega), e40, f1, f2, f3, bnd, bnX, bnN, q_1ne0, q_n1, q_n2, q_n3, eq_self, not_true_eq_false, not_false_eq_true, ↓reduceIte]
          rw [mrow_ne (by decide), mrow_ne (by decide), d5.2.2.2.2.1.2.2.2.2.2.2.2.2.2]
        · rw [mrow_ne (by decide), mrow_ne (by decide)]
          exact d2
    · refine Or.inl (LT.of 2 2 ?_ (by decide) rfl (by decide) (fun m hm => ?_))
      · simp only [f_X5_lampLevel, R.2.2.2.2.1.2.1, x_num_t (show q < 2 ^ 30 by omega) c1, x_rng_f c2, bnd, bnX, bnN, q_1ne0, q_n1, q_n2, q_n3, eq_self, not_true_eq_false, not_false_eq_true, ↓reduceIte]
      · simp only [f_X6_lampLevel, m_lamp_t (show q < 2 ^ 30 by omega) hm.2.2.2.2.1.2.2.1 c1, m_time_f c2, m_fine2, bnd, bnX, bnN, q_1ne0, q_n1, q_n2, q_n3, eq_self, not_true_eq_false, not_false_eq_true, ↓reduceIte]
  · refine Or.inl (LT.of 1 1 ?_ (by decide) rfl (by decide) (fun m hm => ?_))
    · simp only [f_X5_lampLevel, R.2.2.2.2.1.2.1, x_num_f (show q < 2 ^ 30 by omega) c1, bnd, bnX, bnN, q_1ne0, q_n1, q_n2, q_n3, eq_self, not_true_eq_false, not_false_eq_true, ↓reduceIte]
    · simp only [f_X6_lampLevel, m_lamp_f (show q < 2 ^ 30 by omega) hm.2.2.2.2.1.2.2.1 c1, m_fine1, bnd, bnX, bnN, q_1ne0, q_n1, q_n2, q_n3, eq_self, not_true_eq_false, not_false_eq_true, ↓reduceIte]
theorem k_light (p0 p1 p2 : Int32) : LK (f_X5_light p0 p1 p2) hc_L_light (f_X6_light p0 p1 p2) := by
  intro n k q g x R
  have hq := R.2.2.2.2.1.1
  by_cases c1 : inb p0 4 = true
  · by_cases c3 : inb p1 4 = true
    · by_cases c2 : 0 ≤ p2 ∧ p2 ≤ 2000
      · obtain ⟨t, ht, rfl⟩ := q_time c2
        have h48 := R.2.2.2.2.1.2.1
        have hK : KY x (mrow x 28 10 (LD q x p0)) := KY.row (by decide)
        have b1 := x_lay2 (s := p0) hq h48 KY.rf
        have b2 := x_fill (t := nI t) (a := 27) (R.px.ky hK) (by decide) (by decide) (Or.inl rfl)
        have b3 := x_lightOf (x := mrow (mrow x 28 10 (LD q x p0)) 27 10 (fun h => LV (mrow x 28 10 (LD q x p0)) h (nI t))) (q := q) (s := p0) (a := p1) (a5 := 27) (ld := LD q x p0) (lv := fun h => LV x h (nI t)) hq (by rw [mrow_ne (by decide), mrow_ne (by decide)]; exact h48) (by decide) (by decide) (fun h hh => by rw [mrow_ne (by decide), mrow_at hh]) (fun h hh => by rw [mrow_at hh, hK.LVe])
        refine Or.inr (LA.ro (x' := mrow (mrow x 28 10 (LD q x p0)) 27 10 (fun h => LV (mrow x 28 10 (LD q x p0)) h (nI t))) (qa_T q (x 22) (x 23) (x 21) (x 24) (LD q x p0) (fun h => LV x h (nI t)) p0 p1) R ?_ ((KX.row (by decide)).tr (KX.row (by decide))) ((KR.row (by decide)).tr (KR.row (by decide))) (fun m hm => ?_))
        · simp only [f_X5_light, x_n4_t c1, x_n4_t c3, x_rng_t c2, b1, b2, b3, bnd, bnX, bnN, q_1ne0, q_n1, q_n2, q_n3, eq_self, not_true_eq_false, not_false_eq_true, ↓reduceIte]
          simp only [mrow_ne (show ¬ 22 = 27 by decide), mrow_ne (show ¬ 22 = 28 by decide), mrow_ne (show ¬ 23 = 27 by decide), mrow_ne (show ¬ 23 = 28 by decide), mrow_ne (show ¬ 21 = 27 by decide), mrow_ne (show ¬ 21 = 28 by decide), mrow_ne (show ¬ 24 = 27 by decide), mrow_ne (show ¬ 24 = 28 by decide)]
        · obtain ⟨m', d1, d2, d3, d4, d5, d6⟩ := m_begin hm
          have hK1 : KM m' (mrow m' 50 10 (LD q x p0)) := KM.row (by decide)
          obtain ⟨-, -, e19, -, -, e40, e41, -, e43, e44⟩ := d5.2.2.2.2.1
          have f1 := m_lay2 (s := p0) d5
          have f2 := m_lights (d5.km hK1) (d6.row (by decide)) (show t ≤ 5000 by omega)
          have f3 := m_lightNow (m := mrow (mrow m' 50 10 (LD q x p0)) 51 10 (fun h => LV x h (nI t))) (q := q) (s := p0) (a := p1) (ld := LD q x p0) (lv := fun h => LV x h (nI t)) hq (by rw [mrow_ne (by decide), mrow_ne (by decide)]; exact e19) (fun h hh => by rw [mrow_ne (by decide), mrow_at hh]) (fun h hh => by rw [mrow_at hh])
          refine ⟨mrow (mrow m' 50 10 (LD q x p0)) 51 10 (fun h => LV x h (nI t)), ?_, ?_, (d3.tr hK1).tr (KM.row (k := 51) (by decide)), (d4.tr (KC.row (by decide))).tr (KC.row (k := 51) (by decide))⟩
          · simp only [f_X6_light, m_stage_t c1, m_area_t c3, m_time_t c2, m_fine0, d1, f1, f2, f3, bnd, bnX, bnN, q_1ne0, q_n1, q_n2, q_n3, eq_self, not_true_eq_false, not_false_eq_true, ↓reduceIte]
            simp only [mrow_ne (show ¬ 40 = 51 by decide), mrow_ne (show ¬ 40 = 50 by decide), mrow_ne (show ¬ 41 = 51 by decide), mrow_ne (show ¬ 41 = 50 by decide), mrow_ne (show ¬ 43 = 51 by decide), mrow_ne (show ¬ 43 = 50 by decide), mrow_ne (show ¬ 44 = 51 by decide), mrow_ne (show ¬ 44 = 50 by decide), e40, e41, e43, e44]
          · rw [mrow_ne (by decide), mrow_ne (by decide)]
            exact d2
      · refine Or.inl (LT.of 2 2 ?_ (by decide) rfl (by decide) (fun m hm => ?_))
        · simp only [f_X5_light, x_n4_t c1, x_n4_t c3, x_rng_f c2, bnd, bnX, bnN, q_1ne0, q_n1, q_n2, q_n3, eq_self, not_true_eq_false, not_false_eq_true, ↓reduceIte]
        · simp only [f_X6_light, m_stage_t c1, m_area_t c3, m_time_f c2, m_fine2, bnd, bnX, bnN, q_1ne0, q_n1, q_n2, q_n3, eq_self, not_true_eq_false, not_false_eq_true, ↓reduceIte]
    · refine Or.inl (LT.of 1 1 ?_ (by decide) rfl (by decide) (fun m hm => ?_))
      · simp only [f_X5_light, x_n4_t c1, x_n4_f c3, bnd, bnX, bnN, q_1ne0, q_n1, q_n2, q_n3, eq_self, not_true_eq_false, not_false_eq_true, ↓reduceIte]
      · simp only [f_X6_light, m_stage_t c1, m_area_f c3, m_fine1, bnd, bnX, bnN, q_1ne0, q_n1, q_n2, q_n3, eq_self, not_true_eq_false, not_false_eq_true, ↓reduceIte]
  · refine Or.inl (LT.of 1 1 ?_ (by decide) rfl (by decide) (fun m hm => ?_))
    · simp only [f_X5_light, x_n4_f c1, bnd, bnX, bnN, q_1ne0, q_n1, q_n2, q_n3, eq_self, not_true_eq_false, not_false_eq_true, ↓reduceIte]
    · simp only [f_X6_light, m_stage_f c1, m_fine1, bnd, bnX, bnN, q_1ne0, q_n1, q_n2, q_n3, eq_self, not_true_eq_false, not_false_eq_true, ↓reduceIte]
theorem k_shortOf (p0 p1 : Int32) : LK (f_X5_shortOf p0 p1) hc_L_shortOf (f_X6_shortOf p0 p1) := by
  intro n k q g x R
  have hq := R.2.2.2.2.1.1
  have hn := R.1.1
  by_cases c1 : inb p0 4 = true
  · by_cases c2 : inb p1 n = true
    · obtain ⟨l, hl, rfl⟩ := inb_of c2 (by omega)
      have h48 := R.2.2.2.2.1.2.1
      have hK : KY x (mrow x 28 10 (LD q x p0)) := KY.row (by decide)
      have b1 := x_lay2 (s := p0) hq h48 KY.rf
      have b2 := x_readEndOf (l := l) (R.px.ky hK) (by omega)
      generalize hx1 : mrow x 28 10 (LD q x p0) = x1 at hK b1 b2
      have hx28 : ∀ h, h < 10 → x1 28 h = LD q x p0 h := fun h hh => by rw [← hx1, mrow_at hh]
      have hKX1 : KX x x1 := by rw [← hx1]; exact KX.row (by decide)
      have hKR1 : KR x x1 := by rw [← hx1]; exact KR.row (by decide)
      have hx2 : KY x1 (if x1 8 l = 0 then mrow x1 (128 + l) 10 (fun h => LV x1 h (lastS x1 l)) else x1) ∧ KX x1 (if x1 8 l = 0 then mrow x1 (128 + l) 10 (fun h => LV x1 h (lastS x1 l)) else x1) ∧ KR x1 (if x1 8 l = 0 then mrow x1 (128 + l) 10 (fun h => LV x1 h (lastS x1 l)) else x1) ∧ (if x1 8 l = 0 then mrow x1 (128 + l) 10 (fun h => LV x1 h (lastS x1 l)) else x1) 28 = x1 28 ∧ (x1 8 l = 0 → ∀ h, h < 10 → (if x1 8 l = 0 then mrow x1 (128 + l) 10 (fun h => LV x1 h (lastS x1 l)) else x1) (128 + l) h = LV x1 h (lastS x1 l)) := by
        by_cases e : x1 8 l = 0
        · rw [if_pos e]
          exact ⟨KY.row (by omega), KX.row (by omega), KR.row (by omega), mrow_ne (by omega), fun _ h hh => mrow_at hh⟩
        · rw [if_neg e]
          exact ⟨KY.rf, KX.rf, KR.rf, rfl, fun q9 => absurd q9 e⟩
      generalize hxx2 : (if x1 8 l = 0 then mrow x1 (128 + l) 10 (fun h => LV x1 h (lastS x1 l)) else x1) = x2 at hx2 b2
      obtain ⟨j1, j2, j3, j4, j5⟩ := hx2
      have b3 := x_short (x := x) (y := x2) (l := l) (s := p0) hq h48 (hK.tr j1) (by omega) (fun h hh => by rw [j4]; exact hx28 h hh) (fun h8 h hh => by
        rw [j5 (by rw [hK 8 (by omega)]; exact h8) h hh, hK.LVe, hK.lastSe])
      refine Or.inr (LA.ro (x' := x2) (SH q x p0 l) R ?_ (hKX1.tr j2) (hKR1.tr j3) (fun m hm => ?_))
      · simp only [f_X5_shortOf, x_n4_t c1, R.1.2.1, x_num_t (show n < 2 ^ 30 by omega) c2, b1, b2, b3, bnd, bnX, bnN, q_1ne0, q_n1, q_n2, q_n3, eq_self, not_true_eq_false, not_false_eq_true, ↓reduceIte]
      · obtain ⟨m', d1, d2, d3, d4, d5, d6⟩ := m_begin hm
        have hK1 : KM m' (mrow m' 50 10 (LD q x p0)) := KM.row (by decide)
        have f1 := m_lay2 (s := p0) d5
        have f2 := m_short (s := p0) (l := l) (d5.km hK1) (d6.row (by decide)) hl (fun h hh => mrow_at hh)
        have f3 : E5 m' (if x 8 l = 0 then mrow (mrow m' 50 10 (LD q x p0)) 51 10 (fun h => LV x h (lastS x l)) else mrow m' 50 10 (LD q x p0)) := fun a h1 h2 => by
          split
          · rw [mrow_ne h2, mrow_ne h1]
          · rw [mrow_ne h1]
        refine ⟨_, ?_, (congrFun (f3 6 (by decide) (by decide)) 0).trans d2, d3.tr f3.km, d4.tr f3.kc⟩
        simp only [f_X6_shortOf, m_stage_t c1, m_line_t (show n < 2 ^ 30 by omega) hm.1.2.2.1 c2, m_fine0, d1, f1, f2, bnd, bnX, bnN, q_1ne0, q_n1, q_n2, q_n3, eq_self, not_true_eq_false, not_false_eq_true, ↓reduceIte]
    · refine Or.inl (LT.of 1 1 ?_ (by decide) rfl (by decide) (fun m hm => ?_))
      · simp only [f_X5_shortOf, x_n4_t c1, R.1.2.1, x_num_f (show n < 2 ^ 30 by omega) c2, bnd, bnX, bnN, q_1ne0, q_n1, q_n2, q_n3, eq_self, not_true_eq_false, not_false_eq_true, ↓reduceIte]
      · simp only [f_X6_shortOf, m_stage_t c1, m_line_f (show n < 2 ^ 30 by omega) hm.1.2.2.1 c2, m_fine1, bnd, bnX, bnN, q_1ne0, q_n1, q_n2, q_n3, eq_self, not_true_eq_false, not_false_eq_true, ↓reduceIte]
  · refine Or.inl (LT.of 1 1 ?_ (by decide) rfl (by decide) (fun m hm => ?_))
    · simp only [f_X5_shortOf, x_n4_f c1, bnd, bnX, bnN, q_1ne0, q_n1, q_n2, q_n3, eq_self, not_true_eq_false, not_false_eq_true, ↓reduceIte]
    · simp only [f_X6_shortOf, m_stage_f c1, m_fine1, bnd, bnX, bnN, q_1ne0, q_n1, q_n2, q_n3, eq_self, not_true_eq_false, not_false_eq_true, ↓reduceIte]
def qf_b (c : Nat → Int32) : Nat → Int32 × Int32
  | 0 => (0, c 0)
  | i + 1 => if (qf_b c i).2 ≤ c (i + 1) then qf_b c i else (nI (i + 1), c (i + 1))
theorem x_best {x : aM} {n q : Nat} (hn : n ≤ 30) (h13 : x 1 3 = nI n) (hq : q ≤ 20) (h48 : x 4 8 = nI q) (kk : Int32 → Int32 → Int32 → aM → Option (Int32 × aM)) : ∀ (d i fu : Nat) (y : aM), i + d = 3 → d < fu → KX x y → KR x y → EN n x y → ∃ y', l_X5_bestStage_14 fu (qf_b (fun s => nI (qd_n (SH q x (nI s)) n)) i).1 (qf_b (fun s => nI (qd_n (SH q x (nI s)) n)) i).2 (nI (i + 1)) y kk = kk (qf_b (fun s => nI (qd_n (SH q x (nI s)) n)) 3).1 (qf_b (fun s => nI (qd_n (SH q x (nI s)) n)) 3).2 (nI 4) y' ∧ KX x y' ∧ KR x y' := by
  intro d
  induction d with
  | zero =>
    intro i fu y hi hf h1 h2 h3
    obtain ⟨fu, rfl⟩ : ∃ z, fu = z + 1 := ⟨fu - 1, by omega⟩
    obtain rfl : i = 3 := by omega
    exact ⟨y, by rw [l_X5_bestStage_14, if_pos q4_ge], h1, h2⟩
  | succ d ih =>
    intro i fu y hi hf h1 h2 h3
    obtain ⟨fu, rfl⟩ : ∃ z, fu = z + 1 := ⟨fu - 1, by omega⟩
    have hc := x_count (s := nI (i + 1)) hn h13 hq h48 h1.ky h3
    obtain ⟨y', g1, g2, g3⟩ := ih (i + 1) fu (mrow y 28 10 (LD q x (nI (i + 1)))) (by omega) (by omega) (h1.tr (KX.row (by decide))) (h2.tr (KR.row (by decide))) (fun l hl h8 c hh => (congrFun (mrow_ne (by omega)) c).trans (h3 l hl h8 c hh))
    refine ⟨y', ?_, g2, g3⟩
    rw [← g1, l_X5_bestStage_14, if_neg (q4_lt (by omega)), hc]
    simp only [bnd]
    rw [nI_1, qf_b]
    by_cases e : (qf_b (fun s => nI (qd_n (SH q x (nI s)) n)) i).2 ≤ nI (qd_n (SH q x (nI (i + 1))) n)
    · rw [if_pos e, if_pos e]
    · rw [if_neg e, if_neg e]
theorem m_best {n k q g : Nat} {x m : aM} (H : QL n k q g x m) (hM : PM n k x m) (kk : Int32 → Int32 → Int32 → aM → Option (Int32 × aM)) : ∀ (d i fu : Nat) (y : aM), i + d = 3 → d < fu → E5 m y → ∃ y', l_X6_bestStage_19 fu (qf_b (fun s => nI (qd_n (SH q x (nI s)) n)) i).1 (qf_b (fun s => nI (qd_n (SH q x (nI s)) n)) i).2 (nI (i + 1)) y kk = kk (qf_b (fun s => nI (qd_n (SH q x (nI s)) n)) 3).1 (qf_b (fun s => nI (qd_n (SH q x (nI s)) n)) 3).2 (nI 4) y' ∧ E5 m y' := by
  intro d
  induction d with
  | zero =>
    intro i fu y hi hf h1
    obtain ⟨fu, rfl⟩ : ∃ z, fu = z + 1 := ⟨fu - 1, by omega⟩
    obtain rfl : i = 3 := by omega
    exact ⟨y, by rw [l_X6_bestStage_19, if_pos q4_ge], h1⟩
  | succ d ih =>
    intro i fu y hi hf h1
    obtain ⟨fu, rfl⟩ : ∃ z, fu = z + 1 := ⟨fu - 1, by omega⟩
    obtain ⟨y1, b1, b2, -⟩ := m_count (s := nI (i + 1)) (H.km h1.km) (h1.pm hM)
    obtain ⟨y', g1, g2⟩ := ih (i + 1) fu y1 (by omega) (by omega) (h1.tr b2)
    refine ⟨y', ?_, g2⟩
    rw [← g1, l_X6_bestStage_19, if_neg (q4_lt (by omega)), b1]
    simp only [bnd]
    rw [nI_1, qf_b]
    by_cases e : (qf_b (fun s => nI (qd_n (SH q x (nI s)) n)) i).2 ≤ nI (qd_n (SH q x (nI (i + 1))) n)
    · rw [if_pos e, if_pos e, if_pos e]
    · rw [if_neg e, if_neg e, if_neg e]
theorem g_bestStage : agD CP f_X5_bestStage f_X6_bestStage := by
  intro σ hσ
  obtain ⟨n, k, q, g, R⟩ := hσ
  have hn := R.1.1
  have hq := R.2.2.2.2.1.1
  have h48 := R.2.2.2.2.1.2.1
  have hE : KX σ (mE σ n) := KX.mEe hn
  have hER : KR σ (mE σ n) := fun a ha => mE_ne (by omega)
  have b1 := x_readEnds R.px hn R.1.2.1
  have b2 := x_count (s := nI 0) hn R.1.2.1 hq h48 hE.ky EN.of
  obtain ⟨y', b3, b4, b5⟩ := x_best hn R.1.2.1 hq h48 (fun v16 v17 v18 σ19 => some (v16, σ19)) 3 0 lf (mrow (mE σ n) 28 10 (LD q σ (nI 0))) (by omega) (lf_gt (by omega)) (hE.tr (KX.row (by decide))) (hER.tr (KR.row (by decide))) (fun l hl h8 c hh => (congrFun (mrow_ne (by omega)) c).trans (EN.of l hl h8 c hh))
  have R' : QL n k q g y' y' := R.cg b4 b5.km
  have Rm : QL n k q g σ y' := R.km b5.km
  obtain ⟨m', d1, d2, d3, d4, d5, d6⟩ := m_begin Rm
  obtain ⟨m1, f1, f2, -⟩ := m_count (s := nI 0) d5 d6
  obtain ⟨m2, f3, f4⟩ := m_best d5 d6 (fun v18 v19 v20 σ21 => some (v18, σ21)) 3 0 lf m1 (by omega) (lf_gt (by omega)) f2
  refine ⟨(qf_b (fun s => nI (qd_n (SH q σ (nI s)) n)) 3).1, y', m2, ?_, ?_, n, k, q, g, R'.cg (d4.tr f4.kc).1 (d3.tr f4.km)⟩
  · unfold f_X5_bestStage
    rw [b1]
    simp only [bnd]
    rw [show (0 : Int32) = nI 0 from rfl, b2]
    exact b3
  · unfold f_X6_bestStage
    rw [d1]
    simp only [bnd]
    rw [show f_X6_shortLines 0 m' = f_X6_shortLines (nI 0) m' from rfl, f1]
    exact f3
