/-! what is short, how many lines; both systems -/
def lastS (x : aM) (l : Nat) : Int32 := sa (x 7) (x 8) l + x 7 l - 1
theorem KY.lastSe {x x' : aM} (h : KY x x') {l : Nat} : lastS x' l = lastS x l := by
  unfold lastS
  rw [h 7 (by omega), h 8 (by omega)]
theorem lastS_nat {n l : Nat} {x m : aM} (H : RS n x m) (hl : l < n) : ∃ t, t ≤ 1000 ∧ lastS x l = nI t := by
  have hn := H.1
  obtain ⟨T, h1, h2⟩ := sa_nat (x8 := x 8) H.2.2.2.2.2.1 l (by omega)
  obtain ⟨s, h3, h4, h5⟩ := H.2.2.2.2.2.1 l hl
  refine ⟨T + s - 1, by omega, ?_⟩
  unfold lastS
  rw [h2, h5, nI_add, show (1 : Int32) = nI 1 from rfl, pk_sub (by omega)]
theorem x_readEndOf {x : aM} {l : Nat} (H : QX x) (hl : l < 30) : f_X5_readEndOf (nI l) x = some (0, if x 8 l = 0 then mrow x (128 + l) 10 (fun h => LV x h (lastS x l)) else x) := by
  unfold f_X5_readEndOf f_X4_lastSecondOf
  rw [if_pos (inb_nI hl (by decide)), ix_nI (by omega), x_ahead (by omega)]
  simp only [bnd, if_pos (inb_nI hl (show 30 < 2 ^ 31 by decide))]
  rw [show sa (x 7) (x 8) l + x 7 l - 1 = lastS x l from rfl, x_fill H (kd_e hl) (ln_e hl) (Or.inr ⟨by omega, by omega⟩)]
  simp only []
  by_cases e : x 8 l = 0
  · rw [if_neg (fun q => q e), if_pos e]
  · rw [if_pos e, if_neg e]
/-- the ends of the first i lines are read -/
def mE (x : aM) (i : Nat) : aM := fun a => if 128 ≤ a ∧ a < 128 + i ∧ x 8 (a - 128) = 0 then (fun j => if j < 10 then LV x j (lastS x (a - 128)) else x a j) else x a
theorem mE_ne {x : aM} {i a : Nat} (h : ¬ (128 ≤ a ∧ a < 128 + i)) : mE x i a = x a := if_neg (fun q => h ⟨q.1, q.2.1⟩)
theorem mE_at {x : aM} {i l h : Nat} (hl : l < i) (h8 : x 8 l = 0) (hh : h < 10) : mE x i (128 + l) h = LV x h (lastS x l) := by
  unfold mE
  rw [Nat.add_sub_cancel_left, if_pos ⟨by omega, by omega, h8⟩]
  exact if_pos hh
theorem mE_0 {x : aM} : mE x 0 = x := by
  funext a
  exact mE_ne (by omega)
theorem KX.mEe {x : aM} {i : Nat} (h : i ≤ 30) : KX x (mE x i) := fun a ha => mE_ne (by omega)
theorem mE_s {x : aM} {i : Nat} (hi : i < 30) : (if mE x i 8 i = 0 then mrow (mE x i) (128 + i) 10 (fun h => LV (mE x i) h (lastS (mE x i) i)) else mE x i) = mE x (i + 1) := by
  have hK : KX x (mE x i) := KX.mEe (by omega)
  rw [hK.ky.lastSe, hK 8 (by omega)]
  funext a
  by_cases e8 : x 8 i = 0
  · rw [if_pos e8]
    by_cases e : a = 128 + i
    · subst e
      have e9 : mE x (i + 1) (128 + i) = fun j => if j < 10 then LV x j (lastS x i) else x (128 + i) j := by
        unfold mE
        rw [Nat.add_sub_cancel_left]
        exact if_pos ⟨by omega, by omega, e8⟩
      rw [e9]
      funext j
      unfold mrow
      rw [if_pos rfl]
      show (if j < 10 then LV (mE x i) j (lastS x i) else mE x i (128 + i) j) = _
      rw [hK.ky.LVe, mE_ne (by omega)]
    · rw [mrow_ne e]
      unfold mE
      by_cases h : 128 ≤ a ∧ a < 128 + i ∧ x 8 (a - 128) = 0
      · rw [if_pos h, if_pos ⟨h.1, by omega, h.2.2⟩]
      · rw [if_neg h, if_neg (fun q => h ⟨q.1, by omega, q.2.2⟩)]
  · rw [if_neg e8]
    unfold mE
    by_cases h : 128 ≤ a ∧ a < 128 + i ∧ x 8 (a - 128) = 0
    · rw [if_pos h, if_pos ⟨h.1, by omega, h.2.2⟩]
    · rw [if_neg h, if_neg (fun q => h ⟨q.1, by
        by_cases e : a = 128 + i
        · exfalso
          rw [e, Nat.add_sub_cancel_left] at q
          exact e8 q.2.2
        · omega, q.2.2⟩)]
theorem x_readEnds {x : aM} {n : Nat} (H : QX x) (hn : n ≤ 30) (h13 : x 1 3 = nI n) : f_X5_readEnds x = some (0, mE x n) := by
  have key : l_X5_readEnds_2 lf (nI 0) (mE x 0) (fun v7 σ8 => some (0, σ8)) = some (0, mE x n) := by
    refine qa_loop0 (fun fu i => l_X5_readEnds_2 fu (nI i) (mE x i) (fun v7 σ8 => some (0, σ8))) n _ lf (lf_gt (by omega)) (fun i fu hi => ?_) (fun fu => ?_)
    · show l_X5_readEnds_2 (fu + 1) (nI i) (mE x i) _ = l_X5_readEnds_2 fu (nI (i + 1)) (mE x (i + 1)) _
      have hK : KX x (mE x i) := KX.mEe (by omega)
      rw [l_X5_readEnds_2, hK 1 (by omega), h13, if_neg (nI_ge hi (by omega)), x_readEndOf (H.ky hK.ky) (by omega), mE_s (by omega)]
      simp only [bnd]
      rw [nI_1]
    · show l_X5_readEnds_2 (fu + 1) (nI n) (mE x n) _ = _
      rw [l_X5_readEnds_2, mE_ne (by omega), h13, if_pos (q_le_self (by omega))]
  rw [mE_0] at key
  exact key
def qd_S (lt nd : Nat → Int32) : Nat → Int32
  | 0 => 0
  | a + 1 => if lt a < nd a then qd_S lt nd a ||| (1 <<< (nI a &&& 31)) else qd_S lt nd a
def LD (q : Nat) (x : aM) (s : Int32) (h : Nat) : Int32 := qa_V q (x 22) (x 23) (x 20) s (x 9 h) (x 10 h)
def SH (q : Nat) (x : aM) (s : Int32) (l : Nat) : Int32 := if x 8 l = 0 then qd_S (fun a => qa_T q (x 22) (x 23) (x 21) (x 24) (LD q x s) (fun h => LV x h (lastS x l)) s (nI a)) (fun a => x (58 + l) a) 4 else 0
theorem x_short {x y : aM} {q l : Nat} {s : Int32} (hq : q ≤ 20) (h48 : x 4 8 = nI q) (hK : KY x y) (hl : l < 30) (h28 : ∀ h, h < 10 → y 28 h = LD q x s h) (he : x 8 l = 0 → ∀ h, h < 10 → y (128 + l) h = LV x h (lastS x l)) : f_X5_shortAreas s (nI l) y = some (SH q x s l, y) := by
  unfold f_X5_shortAreas SH
  rw [if_pos (inb_nI hl (by decide)), ix_nI (by omega), hK 8 (by omega)]
  by_cases e8 : x 8 l = 0
  · rw [if_pos e8, if_pos e8]
    have hlight : ∀ a, f_X3_lightOf s (nI a) 28 (128 + l) y = some (qa_T q (x 22) (x 23) (x 21) (x 24) (LD q x s) (fun h => LV x h (lastS x l)) s (nI a), y) := fun a => by
      rw [x_lightOf (q := q) (ld := LD q x s) (lv := fun h => LV x h (lastS x l)) hq (by rw [hK 4 (by omega)]; exact h48) (kd_e hl) (ln_e hl) h28 (he e8), hK 22 (by omega), hK 23 (by omega), hK 21 (by omega), hK 24 (by omega)]
    generalize hlt : (fun a => qa_T q (x 22) (x 23) (x 21) (x 24) (LD q x s) (fun h => LV x h (lastS x l)) s (nI a)) = lt
    have hlight2 : ∀ a, f_X3_lightOf s (nI a) 28 (128 + l) y = some (lt a, y) := fun a => by rw [hlight a, ← hlt]
    have key : l_X5_shortAreas_19 s (nI l) lf (qd_S lt (fun a => x (58 + l) a) 0) (nI 0) y (fun v16 v17 σ18 => some (v16, σ18)) = some (qd_S lt (fun a => x (58 + l) a) 4, y) := by
      refine qa_loop0 (fun fu i => l_X5_shortAreas_19 s (nI l) fu (qd_S lt (fun a => x (58 + l) a) i) (nI i) y (fun v16 v17 σ18 => some (v16, σ18))) 4 _ lf (lf_gt (by decide)) (fun i fu hi => ?_) (fun fu => ?_)
      · show l_X5_shortAreas_19 s (nI l) (fu + 1) (qd_S lt (fun a => x (58 + l) a) i) (nI i) y _ = l_X5_shortAreas_19 s (nI l) fu (qd_S lt (fun a => x (58 + l) a) (i + 1)) (nI (i + 1)) y _
        rw [l_X5_shortAreas_19, if_neg (q4_lt hi), if_pos (inb_nI hl (by decide)), ix_nI (show l < 2 ^ 31 by omega), hlight2]
        simp only [bnd]
        rw [if_pos (inb_nI hl (by decide)), if_pos (inb_nI hi (by decide)), ix_nI (show i < 2 ^ 31 by omega), hK (58 + l) (by omega), nI_1, qd_S]
        by_cases e : x (58 + l) i ≤ lt i
        · rw [if_pos e, if_neg (i_nlt.mpr e)]
        · rw [if_neg e, if_pos (i_nle.mp e)]
      · show l_X5_shortAreas_19 s (nI l) (fu + 1) _ (nI 4) y _ = _
        rw [l_X5_shortAreas_19, if_pos q4_ge]
    exact key
  · rw [if_neg e8, if_neg e8]
theorem m_short {n k q g l : Nat} {x m : aM} {s : Int32} (H : QL n k q g x m) (hM : PM n k x m) (hl : l < n) (h50 : ∀ h, h < 10 → m 50 h = LD q x s h) : f_X6_shorts s (nI l) m = some (SH q x s l, if x 8 l = 0 then mrow m 51 10 (fun h => LV x h (lastS x l)) else m) := by
  obtain ⟨hn, -, e4, e29, e30, -, e31⟩ := H.1
  obtain ⟨hq, -, e19, -, -, e40, e41, -, e43, e44⟩ := H.2.2.2.2.1
  unfold f_X6_shorts SH
  rw [if_pos (inb_nI (show l < 30 by omega) (by decide)), ix_nI (by omega), e30]
  by_cases e8 : x 8 l = 0
  · rw [if_pos e8, if_pos e8, if_pos e8, if_pos (inb_nI (show l < 30 by omega) (by decide)), if_pos (inb_nI (show l < 30 by omega) (by decide)), hM.2.2.1 l hl, e29]
    obtain ⟨t, ht, et⟩ := lastS_nat H.1 hl
    rw [show sa (x 7) (x 8) l + x 7 l - 1 = nI t from et, m_lights H hM (by omega), ← et]
    simp only [bnd]
    generalize hm1 : mrow m 51 10 (fun h => LV x h (lastS x l)) = m1
    have hlight : ∀ a, f_X6_lightNow s (nI a) m1 = some (qa_T q (x 22) (x 23) (x 21) (x 24) (LD q x s) (fun h => LV x h (lastS x l)) s (nI a), m1) := fun a => by
      rw [m_lightNow (q := q) (ld := LD q x s) (lv := fun h => LV x h (lastS x l)) hq (by rw [← hm1, mrow_ne (by decide)]; exact e19) (fun h hh => by rw [← hm1, mrow_ne (by decide)]; exact h50 h hh) (fun h hh => by rw [← hm1, mrow_at hh]), ← hm1, mrow_ne (show ¬ 40 = 51 by decide), mrow_ne (show ¬ 41 = 51 by decide), mrow_ne (show ¬ 43 = 51 by decide), mrow_ne (show ¬ 44 = 51 by decide), e40, e41, e43, e44]
    have hneed : ∀ a, a < 4 → m1 31 (4 * l + a) = x (58 + l) a := fun a ha => by
      rw [← hm1, mrow_ne (by decide)]
      exact e31 l a (by omega) ha
    generalize hlt : (fun a => qa_T q (x 22) (x 23) (x 21) (x 24) (LD q x s) (fun h => LV x h (lastS x l)) s (nI a)) = lt
    have hlight2 : ∀ a, f_X6_lightNow s (nI a) m1 = some (lt a, m1) := fun a => by rw [hlight a, ← hlt]
    have key : l_X6_shorts_35 s (nI l) lf (qd_S lt (fun a => x (58 + l) a) 0) (nI 0) m1 (fun v19 v20 σ21 => some (v19, σ21)) = some (qd_S lt (fun a => x (58 + l) a) 4, m1) := by
      refine qa_loop0 (fun fu i => l_X6_shorts_35 s (nI l) fu (qd_S lt (fun a => x (58 + l) a) i) (nI i) m1 (fun v19 v20 σ21 => some (v19, σ21))) 4 _ lf (lf_gt (by decide)) (fun i fu hi => ?_) (fun fu => ?_)
      · show l_X6_shorts_35 s (nI l) (fu + 1) (qd_S lt (fun a => x (58 + l) a) i) (nI i) m1 _ = l_X6_shorts_35 s (nI l) fu (qd_S lt (fun a => x (58 + l) a) (i + 1)) (nI (i + 1)) m1 _
        rw [l_X6_shorts_35, if_neg (q4_lt hi), hlight2]
        simp only [bnd]
        rw [show (4 : Int32) * nI l + nI i = nI (4 * l + i) by rw [show (4 : Int32) = nI 4 from rfl, pk_mul, nI_add], if_pos (inb_nI (show 4 * l + i < 120 by omega) (by decide)), ix_nI (show 4 * l + i < 2 ^ 31 by omega), hneed i hi, nI_1, qd_S, Int32.or_zero]
        by_cases e : x (58 + l) i ≤ lt i
        · rw [if_pos e, if_neg (i_nlt.mpr e)]
        · rw [if_neg e, if_pos (i_nle.mp e)]
      · show l_X6_shorts_35 s (nI l) (fu + 1) _ (nI 4) m1 _ = _
        rw [l_X6_shorts_35, if_pos q4_ge]
    rw [show qd_S lt (fun a => x (58 + l) a) 0 = 0 from rfl, nI_0] at key
    exact key
  · rw [if_neg e8, if_neg e8, if_neg e8]
def qd_n (f : Nat → Int32) : Nat → Nat
  | 0 => 0
  | l + 1 => if f l = 0 then qd_n f l else qd_n f l + 1
theorem qd_n_le {f : Nat → Int32} : ∀ n, qd_n f n ≤ n
  | 0 => Nat.le_refl _
  | n + 1 => by
    have := qd_n_le (f := f) n
    unfold qd_n
    split <;> omega
/-- the ends of all lines are read -/
def EN (n : Nat) (x y : aM) : Prop := ∀ l, l < n → x 8 l = 0 → ∀ h, h < 10 → y (128 + l) h = LV x h (lastS x l)
theorem EN.of {n : Nat} {x : aM} : EN n x (mE x n) := fun l hl h8 h hh => mE_at hl h8 hh
theorem x_lay2 {x y : aM} {q : Nat} {s : Int32} (hq : q ≤ 20) (h48 : x 4 8 = nI q) (hK : KY x y) : f_X3_lay s 28 y = some (0, mrow y 28 10 (LD q x s)) := by
  have e : LD q x s = fun h => qa_V q (y 22) (y 23) (y 20) s (y 9 h) (y 10 h) := by
    funext h
    unfold LD
    rw [hK 22 (by omega), hK 23 (by omega), hK 20 (by omega), hK 9 (by omega), hK 10 (by omega)]
  rw [e]
  exact x_lay hq (by rw [hK 4 (by omega)]; exact h48)
theorem x_count {x y : aM} {n q : Nat} {s : Int32} (hn : n ≤ 30) (h13 : x 1 3 = nI n) (hq : q ≤ 20) (h48 : x 4 8 = nI q) (hK : KY x y) (hE : EN n x y) : f_X5_countShort s y = some (nI (qd_n (SH q x s) n), mrow y 28 10 (LD q x s)) := by
  unfold f_X5_countShort
  rw [x_lay2 hq h48 hK]
  simp only [bnd]
  have hK2 : KY x (mrow y 28 10 (LD q x s)) := hK.tr (KY.row (by decide))
  have key : l_X5_countShort_20 s lf (nI (qd_n (SH q x s) 0)) (nI 0) (mrow y 28 10 (LD q x s)) (fun v13 v14 σ15 => some (v13, σ15)) = some (nI (qd_n (SH q x s) n), mrow y 28 10 (LD q x s)) := by
    refine qa_loop0 (fun fu i => l_X5_countShort_20 s fu (nI (qd_n (SH q x s) i)) (nI i) (mrow y 28 10 (LD q x s)) (fun v13 v14 σ15 => some (v13, σ15))) n _ lf (lf_gt (by omega)) (fun i fu hi => ?_) (fun fu => ?_)
    · show l_X5_countShort_20 s (fu + 1) (nI (qd_n (SH q x s) i)) (nI i) (mrow y 28 10 (LD q x s)) _ = l_X5_countShort_20 s fu (nI (qd_n (SH q x s) (i + 1))) (nI (i + 1)) (mrow y 28 10 (LD q x s)) _
      rw [l_X5_countShort_20, hK2 1 (by omega), h13, if_neg (nI_ge hi (by omega)), x_short hq h48 hK2 (by omega) (fun h hh => mrow_at hh) (fun h8 h hh => (congrFun (mrow_ne (by omega)) h).trans (hE i hi h8 h hh))]
      simp only [bnd]
      rw [nI_1, nI_1, qd_n]
      by_cases e : SH q x s i = 0
      · rw [if_pos e, if_pos e]
      · rw [if_neg e, if_neg e]
    · show l_X5_countShort_20 s (fu + 1) _ (nI n) (mrow y 28 10 (LD q x s)) _ = _
      rw [l_X5_countShort_20, hK2 1 (by omega), h13, if_pos (q_le_self (by omega))]
  rw [show nI (qd_n (SH q x s) 0) = 0 from rfl, nI_0] at key
  exact key
def E5 (m m' : aM) : Prop := ∀ a, ¬ a = 50 → ¬ a = 51 → m' a = m a
theorem E5.rf {m : aM} : E5 m m := fun _ _ _ => rfl
theorem E5.tr {x y z : aM} (h : E5 x y) (h2 : E5 y z) : E5 x z := fun a h3 h4 => (h2 a h3 h4).trans (h a h3 h4)
theorem E5.km {m m' : aM} (h : E5 m m') : KM m m' := ⟨fun a ha => h a (by omega) (by omega), by rw [h 6 (by decide) (by decide)], by rw [h 6 (by decide) (by decide)], by rw [h 6 (by decide) (by decide)], by rw [h 6 (by decide) (by decide)]⟩
theorem E5.pm {n k : Nat} {x m m' : aM} (h : E5 m m') (H : PM n k x m) : PM n k x m' := by
  unfold PM at H ⊢
  rw [h 6 (by decide) (by decide), h 47 (by decide) (by decide), h 48 (by decide) (by decide), h 49 (by decide) (by decide)]
  exact H
/-- the reference's scratch rows behind the first i lines -/
def mQ (x m : aM) : Nat → aM
  | 0 => m
  | i + 1 => if x 8 i = 0 then mrow (mQ x m i) 51 10 (fun h => LV x h (lastS x i)) else mQ x m i
theorem mQ_keep {x m : aM} : ∀ i a, ¬ a = 51 → mQ x m i a = m a
  | 0, _, _ => rfl
  | i + 1, a, h => by
    unfold mQ
    split
    · rw [mrow_ne h, mQ_keep i a h]
    · exact mQ_keep i a h
theorem m_lay2 {n k q g : Nat} {x m : aM} {s : Int32} (H : QL n k q g x m) : f_X6_laysAll s m = some (0, mrow m 50 10 (LD q x s)) := by
  obtain ⟨hq, -, e19, -, -, e40, e41, e42, -, -⟩ := H.2.2.2.2.1
  have e : LD q x s = fun h => qa_V q (m 40) (m 41) (m 42) s (m 32 h) (m 33 h) := by
    funext h
    unfold LD
    rw [e40, e41, e42, H.2.1.1, H.2.1.2]
  rw [e]
  exact m_laysAll hq e19
theorem m_count {n k q g : Nat} {x m : aM} {s : Int32} (H : QL n k q g x m) (hM : PM n k x m) : ∃ m', f_X6_shortLines s m = some (nI (qd_n (SH q x s) n), m') ∧ E5 m m' ∧ ∀ h, h < 10 → m' 50 h = LD q x s h := by
  have hn := H.1.1
  have e4 := H.1.2.2.1
  refine ⟨mQ x (mrow m 50 10 (LD q x s)) n, ?_, fun a h1 h2 => by rw [mQ_keep n a h2, mrow_ne h1], fun h hh => by rw [mQ_keep n 50 (by decide), mrow_at hh]⟩
  have hE : ∀ i, E5 m (mQ x (mrow m 50 10 (LD q x s)) i) := fun i a h1 h2 => by rw [mQ_keep i a h2, mrow_ne h1]
  unfold f_X6_shortLines
  rw [m_lay2 H]
  simp only [bnd]
  have key : l_X6_shortLines_9 s lf (nI (qd_n (SH q x s) 0)) (nI 0) (mQ x (mrow m 50 10 (LD q x s)) 0) (fun v13 v14 σ15 => some (v13, σ15)) = some (nI (qd_n (SH q x s) n), mQ x (mrow m 50 10 (LD q x s)) n) := by
    refine qa_loop0 (fun fu i => l_X6_shortLines_9 s fu (nI (qd_n (SH q x s) i)) (nI i) (mQ x (mrow m 50 10 (LD q x s)) i) (fun v13 v14 σ15 => some (v13, σ15))) n _ lf (lf_gt (by omega)) (fun i fu hi => ?_) (fun fu => ?_)
    · show l_X6_shortLines_9 s (fu + 1) (nI (qd_n (SH q x s) i)) (nI i) (mQ x (mrow m 50 10 (LD q x s)) i) _ = l_X6_shortLines_9 s fu (nI (qd_n (SH q x s) (i + 1))) (nI (i + 1)) (mQ x (mrow m 50 10 (LD q x s)) (i + 1)) _
      rw [l_X6_shortLines_9, (hE i) 6 (by decide) (by decide), e4, if_neg (nI_ge hi (by omega)), m_short (H.km (hE i).km) ((hE i).pm hM) hi (fun h hh => by rw [mQ_keep i 50 (by decide), mrow_at hh])]
      simp only [bnd]
      rw [nI_1, nI_1, qd_n, Int32.add_zero]
      show (if SH q x s i = 0 then l_X6_shortLines_9 s fu (nI (qd_n (SH q x s) i)) (nI (i + 1)) (mQ x (mrow m 50 10 (LD q x s)) (i + 1)) _ else l_X6_shortLines_9 s fu (nI (qd_n (SH q x s) i + 1)) (nI (i + 1)) (mQ x (mrow m 50 10 (LD q x s)) (i + 1)) _) = _
      by_cases e : SH q x s i = 0
      · rw [if_pos e, if_pos e]
      · rw [if_neg e, if_neg e]
    · show l_X6_shortLines_9 s (fu + 1) _ (nI n) (mQ x (mrow m 50 10 (LD q x s)) n) _ = _
      rw [l_X6_shortLines_9, (hE n) 6 (by decide) (by decide), e4, if_pos (q_le_self (by omega))]
  rw [show nI (qd_n (SH q x s) 0) = 0 from rfl, nI_0] at key
  exact key
