/-! the calls that change something -/
theorem q_sec {p : Int32} (h : 1 ≤ p ∧ p ≤ 30) : ∃ s, 1 ≤ s ∧ s ≤ 30 ∧ p = nI s := by
  have h1 : ¬ p < 0 := fun q => by
    have h2 := h.1
    rw [Int32.lt_iff_toInt_lt, show (0 : Int32).toInt = 0 from rfl] at q
    rw [Int32.le_iff_toInt_le, show (1 : Int32).toInt = 1 from rfl] at h2
    omega
  obtain ⟨s, hs, e⟩ := nI_of2 (M := 30) (n := 30) rfl h1 h.2
  refine ⟨s, ?_, hs, e⟩
  by_cases e0 : s = 0
  · exfalso
    subst e0
    rw [e] at h
    exact absurd h.1 (by decide)
  · omega
theorem q_60 {p : Int32} (h : 0 ≤ p ∧ p ≤ 60) : ∃ s, s ≤ 60 ∧ p = nI s := nI_of2 (M := 60) (n := 60) rfl (fun q => absurd h.1 (by rw [i_nle]; exact q)) h.2
theorem q_room {n N : Nat} (h : n < N) (hN : N < 2 ^ 30) : nI n < nI N := nI_lt h (by omega)
theorem q_noroom {n N : Nat} (h : ¬ n < N) (hn : n < 2 ^ 30) : ¬ nI n < nI N := nI_nlt (by omega) (by omega)
theorem sa_cg {a b o o' : Nat → Int32} {l : Nat} (h : ∀ i, i < l → a i = b i) (h2 : ∀ i, i < l → o i = o' i) : sa a o l = sa b o' l := sa_congr l (fun i hi => ⟨h i hi, h2 i hi⟩)
theorem k_addLine (p0 : Int32) : LK (f_X5_addLine p0) hc_L_addLine (f_X6_addLine p0) := by
  intro n k q g x R
  have hn := R.1.1
  by_cases c1 : 1 ≤ p0 ∧ p0 ≤ 30
  · by_cases c2 : n < 30
    · have c2x : nI n < 30 := q_room (N := 30) c2 (by decide)
      have c2m : ¬ nI n = 30 := fun e => absurd ((nI_eq (a := n) (b := 30) (by omega) (by decide)).mp e) (by omega)
      refine Or.inr ⟨nI (n + 1) - 1, mput (mput x 7 n p0) 1 3 (nI (n + 1)), ?_, ?_, fun m hm => ⟨mput (mput (mput m 6 0 0) 29 n p0) 6 4 (nI (n + 1)), ?_, ?_, ?_, n + 1, k, q, g, ?_⟩⟩
      · simp only [f_X5_addLine, x_rng_t c1, R.1.2.1, x_room_t c2x, f_X4_append, q_i30 c2, ix_nI (show n < 2 ^ 31 by omega), nI_1, bnd, bnX, bnN, q_1ne0, q_n1, q_n2, q_n3, eq_self, not_true_eq_false, not_false_eq_true, ↓reduceIte]
      · exact (KR.put (by decide)).tr (KR.put (by decide))
      · simp only [f_X6_addLine, m_in_t c1, hm.1.2.2.1, c2m, m_fine0, q_clear (show ¬ 4 = 0 by decide), q_i30 c2, ix_nI (show n < 2 ^ 31 by omega), nI_1, bnd, bnX, bnN, q_1ne0, q_n1, q_n2, q_n3, eq_self, not_true_eq_false, not_false_eq_true, ↓reduceIte]
      · rw [mput_other (by decide), mput_ne (by decide), mput_self]
      · exact ((KC.put (by decide)).tr (KC.put (by decide))).tr (KC.put (by decide))
      · obtain ⟨s, hs1, hs2, hs3⟩ := q_sec c1
        obtain ⟨⟨g1, g2, g3, g4, g5, g6, g7⟩, r2, r3, r4, r5, r6⟩ := hm
        have e7 : mput (mput x 7 n p0) 1 3 (nI (n + 1)) 7 = upd (x 7) n p0 := by rw [mput_ne (by decide), mput_row]
        refine ⟨⟨c2, mput_self, mput_self, ?_, ?_, fun l hl => ?_, fun l a hl ha => ?_⟩, r2.cg ?_ ?_ ?_ ?_, ⟨⟨r3.1.1, ?_, fun c hc => ?_, ?_, ?_⟩, ?_, ?_, ?_, ?_, fun c h hc hh => ?_⟩, r4.ka r3.1.1 (fun a ha => ?_) (fun c hc => ?_), r5.cg (fun a ha => ?_) ?_ (fun a ha => ?_), r6.cg (fun a ha => ?_) ?_ (fun a ha => ?_)⟩
        · rw [e7, mput_ne (by decide), mput_row, mput_ne (by decide), g4]
        · rw [mput_ne (by decide), mput_ne (by decide), mput_ne (by decide), mput_ne (by decide), mput_ne (by decide)]; exact g5
        · rw [e7]
          by_cases e : l = n
          · rw [e, pk_us]; exact ⟨s, hs1, hs2, hs3⟩
          · rw [pk_un e]; exact g6 l (by omega)
        · rw [mput_ne (by decide), mput_ne (by decide), mput_ne (by decide), mput_ne (by omega), mput_ne (by omega)]; exact g7 l a hl ha
        · rw [mput_ne (by decide), mput_ne (by decide)]
        · rw [mput_ne (by decide), mput_ne (by decide)]
        · rw [mput_ne (by decide), mput_ne (by decide), mput_ne (by decide)]
        · rw [mput_ne (by decide), mput_ne (by decide), mput_ne (by decide)]
        · rw [mput_ne (by decide), mput_ne (by decide)]; exact r3.1.2.1
        · rw [mput_ne (by decide), mput_ne (by decide)]
          obtain ⟨L, hL1, hL2⟩ := r3.1.2.2.1 c hc
          exact ⟨L, by omega, hL2⟩
        · rw [mput_ne (by decide), mput_ne (by decide)]; exact r3.1.2.2.2.1
        · rw [mput_ne (by decide), mput_ne (by decide)]; exact r3.1.2.2.2.2
        · rw [mput_other (by decide), mput_ne (by decide), mput_other (by decide)]; exact r3.2.1
        · rw [mput_ne (by decide), mput_ne (by decide), mput_ne (by decide), mput_ne (by decide), mput_ne (by decide)]; exact r3.2.2.1
        · rw [mput_ne (by decide), mput_ne (by decide), mput_ne (by decide), mput_ne (by decide), mput_ne (by decide)]; exact r3.2.2.2.1
        · rw [mput_ne (by decide), mput_ne (by decide), mput_ne (by decide), mput_ne (by decide), mput_ne (by decide)]; exact r3.2.2.2.2.1
        · rw [mput_ne (by decide), mput_ne (by decide), mput_ne (by decide), mput_ne (by omega), mput_ne (by omega)]; exact r3.2.2.2.2.2 c h hc hh
        · rw [mput_ne (by omega), mput_ne (by omega)]
        · obtain ⟨L, hL1, hL2⟩ := r3.1.2.2.1 c hc
          unfold qc_t
          rw [e7, mput_ne (show ¬ 8 = 1 by decide), mput_ne (show ¬ 8 = 7 by decide), mput_ne (show ¬ 11 = 1 by decide), mput_ne (show ¬ 11 = 7 by decide), mput_ne (show ¬ 12 = 1 by decide), mput_ne (show ¬ 12 = 7 by decide), hL2, ix_nI (by omega), sa_cg (a := upd (x 7) n p0) (b := x 7) (fun i hi => pk_un (by omega)) (fun _ _ => rfl)]
        · rw [mput_ne (by omega), mput_ne (by omega)]
        · rw [mput_other (by decide), mput_ne (by decide), mput_other (by decide)]
        · rw [mput_ne (by omega), mput_ne (by omega), mput_ne (by omega)]
        · rw [mput_ne (by omega), mput_ne (by omega)]
        · rw [mput_other (by decide), mput_ne (by decide), mput_other (by decide)]
        · rw [mput_ne (by omega), mput_ne (by omega), mput_ne (by omega)]
    · have c2x : ¬ nI n < 30 := q_noroom (N := 30) c2 (by omega)
      have c2m : nI n = 30 := by rw [show n = 30 by omega]; rfl
      refine Or.inl (LT.of 3 2 ?_ (by decide) rfl (by decide) (fun m hm => ?_))
      · simp only [f_X5_addLine, x_rng_t c1, R.1.2.1, x_room_f c2x, bnd, bnX, bnN, q_1ne0, q_n1, q_n2, q_n3, eq_self, not_true_eq_false, not_false_eq_true, ↓reduceIte]
      · simp only [f_X6_addLine, m_in_t c1, hm.1.2.2.1, c2m, m_fine2, bnd, bnX, bnN, q_1ne0, q_n1, q_n2, q_n3, eq_self, not_true_eq_false, not_false_eq_true, ↓reduceIte]
  · refine Or.inl (LT.of 2 1 ?_ (by decide) rfl (by decide) (fun m hm => ?_))
    · simp only [f_X5_addLine, x_rng_f c1, bnd, bnX, bnN, q_1ne0, q_n1, q_n2, q_n3, eq_self, not_true_eq_false, not_false_eq_true, ↓reduceIte]
    · simp only [f_X6_addLine, m_in_f c1, m_fine1, bnd, bnX, bnN, q_1ne0, q_n1, q_n2, q_n3, eq_self, not_true_eq_false, not_false_eq_true, ↓reduceIte]
theorem k_need (p0 p1 p2 : Int32) : LK (f_X5_need p0 p1 p2) hc_L_need (f_X6_need p0 p1 p2) := by
  intro n k q g x R
  have hn := R.1.1
  by_cases c1 : inb p0 n = true
  · by_cases c2 : inb p1 4 = true
    · by_cases c3 : 0 ≤ p2 ∧ p2 ≤ 100
      · obtain ⟨l, hl, rfl⟩ := inb_of c1 (by omega)
        obtain ⟨a, ha, rfl⟩ := inb_of c2 (by omega)
        refine Or.inr ⟨x (58 + l) a, mput x (58 + l) a p2, ?_, KR.put (by omega), fun m hm => ⟨mput (mput m 6 0 0) 31 (4 * l + a) p2, ?_, ?_, (KC.put (by decide)).tr (KC.put (by decide)), n, k, q, g, ?_⟩⟩
        · simp only [f_X5_need, R.1.2.1, x_num_t (show n < 2 ^ 30 by omega) c1, x_n4_t c2, x_rng_t c3, q_i30 (show l < 30 by omega), q_i4 ha, ix_nI (show l < 2 ^ 31 by omega), ix_nI (show a < 2 ^ 31 by omega), bnd, bnX, bnN, q_1ne0, q_n1, q_n2, q_n3, eq_self, not_true_eq_false, not_false_eq_true, ↓reduceIte]
        · simp only [f_X6_need, m_line_t (show n < 2 ^ 30 by omega) hm.1.2.2.1 c1, m_area_t c2, m_in_t c3, m_fine0, q_4, inb_nI (show 4 * l + a < 120 by omega) (show 120 < 2 ^ 31 by decide), ix_nI (show 4 * l + a < 2 ^ 31 by omega), q_clr (show ¬ 31 = 6 by decide), hm.1.2.2.2.2.2.2 l a (by omega) ha, bnd, bnX, bnN, q_1ne0, q_n1, q_n2, q_n3, eq_self, not_true_eq_false, not_false_eq_true, ↓reduceIte]
        · rw [mput_ne (by decide), mput_self]
        · obtain ⟨⟨g1, g2, g3, g4, g5, g6, g7⟩, r2, r3, r4, r5, r6⟩ := hm
          refine ⟨⟨g1, ?_, ?_, ?_, ?_, ?_, fun l' a' hl' ha' => ?_⟩, r2.cg ?_ ?_ ?_ ?_, r3.cg ?_ (fun a ha => ?_) ?_ (fun a ha => ?_), r4.ka r3.1.1 (fun a ha => ?_) (fun c hc => qc_t_eq ?_ ?_ ?_ ?_), r5.cg (fun a ha => ?_) ?_ (fun a ha => ?_), r6.cg (fun a ha => ?_) ?_ (fun a ha => ?_)⟩
          · rw [mput_ne (by omega)]; exact g2
          · rw [mput_ne (by omega), mput_other (by decide)]; exact g3
          · rw [mput_ne (by omega), mput_ne (by omega), mput_ne (by omega)]; exact g4
          · rw [mput_ne (by omega), mput_ne (by omega), mput_ne (by omega)]; exact g5
          · rw [mput_ne (by omega)]; exact g6
          · by_cases e : l' = l ∧ a' = a
            · rw [e.1, e.2, mput_self, mput_self]
            · rw [mput_other (by omega), mput_ne (by decide), g7 l' a' hl' ha']
              by_cases e2 : l' = l
              · rw [e2, mput_other (by omega)]
              · rw [mput_ne (by omega)]
          · rw [mput_ne (by omega)]
          · rw [mput_ne (by omega)]
          · rw [mput_ne (by omega), mput_ne (by omega)]
          · rw [mput_ne (by omega), mput_ne (by omega)]
          · rw [mput_ne (by omega)]
          · rw [mput_ne (by omega)]
          · rw [mput_ne (by omega), mput_other (by decide)]
          · rw [mput_ne (by omega), mput_ne (by omega)]
          · rw [mput_ne (by omega)]
          · rw [mput_ne (by omega)]
          · rw [mput_ne (by omega)]
          · rw [mput_ne (by omega)]
          · rw [mput_ne (by omega)]
          · rw [mput_ne (by omega)]
          · rw [mput_ne (by omega), mput_other (by decide)]
          · rw [mput_ne (by omega), mput_ne (by omega)]
          · rw [mput_ne (by omega)]
          · rw [mput_ne (by omega), mput_other (by decide)]
          · rw [mput_ne (by omega), mput_ne (by omega)]
      · refine Or.inl (LT.of 2 2 ?_ (by decide) rfl (by decide) (fun m hm => ?_))
        · simp only [f_X5_need, R.1.2.1, x_num_t (show n < 2 ^ 30 by omega) c1, x_n4_t c2, x_rng_f c3, bnd, bnX, bnN, q_1ne0, q_n1, q_n2, q_n3, eq_self, not_true_eq_false, not_false_eq_true, ↓reduceIte]
        · simp only [f_X6_need, m_line_t (show n < 2 ^ 30 by omega) hm.1.2.2.1 c1, m_area_t c2, m_in_f c3, m_fine2, bnd, bnX, bnN, q_1ne0, q_n1, q_n2, q_n3, eq_self, not_true_eq_false, not_false_eq_true, ↓reduceIte]
    · refine Or.inl (LT.of 1 1 ?_ (by decide) rfl (by decide) (fun m hm => ?_))
      · simp only [f_X5_need, R.1.2.1, x_num_t (show n < 2 ^ 30 by omega) c1, x_n4_f c2, bnd, bnX, bnN, q_1ne0, q_n1, q_n2, q_n3, eq_self, not_true_eq_false, not_false_eq_true, ↓reduceIte]
      · simp only [f_X6_need, m_line_t (show n < 2 ^ 30 by omega) hm.1.2.2.1 c1, m_area_f c2, m_fine1, bnd, bnX, bnN, q_1ne0, q_n1, q_n2, q_n3, eq_self, not_true_eq_false, not_false_eq_true, ↓reduceIte]
  · refine Or.inl (LT.of 1 1 ?_ (by decide) rfl (by decide) (fun m hm => ?_))
    · simp only [f_X5_need, R.1.2.1, x_num_f (show n < 2 ^ 30 by omega) c1, bnd, bnX, bnN, q_1ne0, q_n1, q_n2, q_n3, eq_self, not_true_eq_false, not_false_eq_true, ↓reduceIte]
    · simp only [f_X6_need, m_line_f (show n < 2 ^ 30 by omega) hm.1.2.2.1 c1, m_fine1, bnd, bnX, bnN, q_1ne0, q_n1, q_n2, q_n3, eq_self, not_true_eq_false, not_false_eq_true, ↓reduceIte]
theorem k_setChannel (p0 p1 p2 : Int32) : LK (f_X5_setChannel p0 p1 p2) hc_L_setChannel (f_X6_setChannel p0 p1 p2) := by
  intro n k q g x R
  by_cases c1 : inb p0 10 = true
  · by_cases c2 : inb p1 4 = true
    · by_cases c3 : 0 ≤ p2 ∧ p2 ≤ 2
      · obtain ⟨l, hl, rfl⟩ := inb_of c1 (by omega)
        refine Or.inr ⟨10 * x 9 l + x 10 l, mput (mput x 9 l p1) 10 l p2, ?_, (KR.put (by decide)).tr (KR.put (by decide)), fun m hm => ⟨mput (mput (mput m 6 0 0) 32 l p1) 33 l p2, ?_, ?_, ((KC.put (by decide)).tr (KC.put (by decide))).tr (KC.put (by decide)), n, k, q, g, ?_⟩⟩
        · simp only [f_X5_setChannel, x_n10_t c1, x_n4_t c2, x_rng_t c3, q_i10 hl, ix_nI (show l < 2 ^ 31 by omega), bnd, bnX, bnN, q_1ne0, q_n1, q_n2, q_n3, eq_self, not_true_eq_false, not_false_eq_true, ↓reduceIte]
        · simp only [f_X6_setChannel, m_chan_t c1, m_area_t c2, m_in_t c3, m_fine0, q_i10 hl, ix_nI (show l < 2 ^ 31 by omega), q_clr (show ¬ 32 = 6 by decide), q_clr (show ¬ 33 = 6 by decide), hm.2.1.1, hm.2.1.2, bnd, bnX, bnN, q_1ne0, q_n1, q_n2, q_n3, eq_self, not_true_eq_false, not_false_eq_true, ↓reduceIte]
        · rw [mput_ne (by decide), mput_ne (by decide), mput_self]
        · obtain ⟨r1, r2, r3, r4, r5, r6⟩ := hm
          refine ⟨r1.cg (fun a ha => ?_) ?_ (fun a ha => ?_), ⟨?_, ?_⟩, r3.cg ?_ (fun a ha => ?_) ?_ (fun a ha => ?_), r4.ka r3.1.1 (fun a ha => ?_) (fun c hc => qc_t_eq ?_ ?_ ?_ ?_), r5.cg (fun a ha => ?_) ?_ (fun a ha => ?_), r6.cg (fun a ha => ?_) ?_ (fun a ha => ?_)⟩
          · rw [mput_ne (by omega), mput_ne (by omega)]
          · rw [mput_ne (by omega), mput_ne (by omega), mput_other (by decide)]
          · rw [mput_ne (by omega), mput_ne (by omega), mput_ne (by omega)]
          · rw [mput_ne (by decide), mput_row, mput_ne (by decide), mput_ne (by decide), mput_row, r2.1]
          · rw [mput_row, mput_ne (by decide), mput_ne (by decide), mput_row, mput_ne (by decide), r2.2]
          · rw [mput_ne (by omega), mput_ne (by omega)]
          · rw [mput_ne (by omega), mput_ne (by omega)]
          · rw [mput_ne (by omega), mput_ne (by omega), mput_other (by decide)]
          · rw [mput_ne (by omega), mput_ne (by omega), mput_ne (by omega)]
          · rw [mput_ne (by omega), mput_ne (by omega)]
          · rw [mput_ne (by omega), mput_ne (by omega)]
          · rw [mput_ne (by omega), mput_ne (by omega)]
          · rw [mput_ne (by omega), mput_ne (by omega)]
          · rw [mput_ne (by omega), mput_ne (by omega)]
          · rw [mput_ne (by omega), mput_ne (by omega)]
          · rw [mput_ne (by omega), mput_ne (by omega), mput_other (by decide)]
          · rw [mput_ne (by omega), mput_ne (by omega), mput_ne (by omega)]
          · rw [mput_ne (by omega), mput_ne (by omega)]
          · rw [mput_ne (by omega), mput_ne (by omega), mput_other (by decide)]
          · rw [mput_ne (by omega), mput_ne (by omega), mput_ne (by omega)]
      · refine Or.inl (LT.of 2 2 ?_ (by decide) rfl (by decide) (fun m hm => ?_))
        · simp only [f_X5_setChannel, x_n10_t c1, x_n4_t c2, x_rng_f c3, bnd, bnX, bnN, q_1ne0, q_n1, q_n2, q_n3, eq_self, not_true_eq_false, not_false_eq_true, ↓reduceIte]
        · simp only [f_X6_setChannel, m_chan_t c1, m_area_t c2, m_in_f c3, m_fine2, bnd, bnX, bnN, q_1ne0, q_n1, q_n2, q_n3, eq_self, not_true_eq_false, not_false_eq_true, ↓reduceIte]
    · refine Or.inl (LT.of 1 1 ?_ (by decide) rfl (by decide) (fun m hm => ?_))
      · simp only [f_X5_setChannel, x_n10_t c1, x_n4_f c2, bnd, bnX, bnN, q_1ne0, q_n1, q_n2, q_n3, eq_self, not_true_eq_false, not_false_eq_true, ↓reduceIte]
      · simp only [f_X6_setChannel, m_chan_t c1, m_area_f c2, m_fine1, bnd, bnX, bnN, q_1ne0, q_n1, q_n2, q_n3, eq_self, not_true_eq_false, not_false_eq_true, ↓reduceIte]
  · refine Or.inl (LT.of 1 1 ?_ (by decide) rfl (by decide) (fun m hm => ?_))
    · simp only [f_X5_setChannel, x_n10_f c1, bnd, bnX, bnN, q_1ne0, q_n1, q_n2, q_n3, eq_self, not_true_eq_false, not_false_eq_true, ↓reduceIte]
    · simp only [f_X6_setChannel, m_chan_f c1, m_fine1, bnd, bnX, bnN, q_1ne0, q_n1, q_n2, q_n3, eq_self, not_true_eq_false, not_false_eq_true, ↓reduceIte]
