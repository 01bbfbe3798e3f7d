/-! the calls that arrange the cues anew -/
theorem QL.of_arr {n k q g : Nat} {x1 x' m1 : aM} (keep : ∀ a, ¬ (14 ≤ a ∧ a ≤ 17) → ¬ (108 ≤ a ∧ a < 128) → ¬ a = 3 → x' a = x1 a) (k3 : ∀ j, ¬ j = 10 → x' 3 j = x1 3 j) (hA : AR k x') (r1 : RS n x1 m1) (r2 : RP x1 m1) (r3 : RC n k x1 m1) (r5 : RG q x1 m1) (r6 : RB g x1 m1) : QL n k q g x' m1 :=
  ⟨r1.cg (fun a ha => keep a (by omega) (by omega) (by omega)) rfl (fun _ _ => rfl), r2.cg (keep 9 (by decide) (by decide) (by decide)) (keep 10 (by decide) (by decide) (by decide)) rfl rfl, r3.cg (k3 4 (by decide)) (fun a ha => keep a (by omega) (by omega) (by omega)) rfl (fun _ _ => rfl), hA, r5.cg (fun a ha => keep a (by omega) (by omega) (by omega)) rfl (fun _ _ => rfl), r6.cg (fun a ha => keep a (by omega) (by omega) (by omega)) rfl (fun _ _ => rfl)⟩
theorem KR.of_arr {x1 x' : aM} (keep : ∀ a, ¬ (14 ≤ a ∧ a ≤ 17) → ¬ (108 ≤ a ∧ a < 128) → ¬ a = 3 → x' a = x1 a) : KR x1 x' := fun a ha => keep a (by omega) (by omega) (by omega)
theorem q_bool {p : Int32} (h : p = 0 ∨ p = 1) : (p = 0 ∨ p = 1) = True := eq_true h
theorem k_cut (p0 p1 : Int32) (hp : p1 = 0 ∨ p1 = 1) : LK (f_X5_cut p0 p1) hc_L_cut (f_X6_cut p0 p1) := by
  intro n k q g x R
  have hn := R.1.1
  by_cases c1 : inb p0 n = true
  · obtain ⟨l, hl, rfl⟩ := inb_of c1 (by omega)
    have hC : RC0 n k (mput x 8 l p1) := R.2.2.1.1.cg (by rw [mput_ne (by decide)]) (fun a ha => mput_ne (by omega))
    obtain ⟨x', a1, keep, k3, hA⟩ := x_arrange hn hC
    have rs : ∀ m, QL n k q g x m → RS n (mput x 8 l p1) (mput (mput m 6 0 0) 30 l p1) := fun m hm => by
      obtain ⟨g1, g2, g3, g4, g5, g6, g7⟩ := hm.1
      refine ⟨g1, ?_, ?_, ?_, ?_, ?_, fun l' a' hl' ha' => ?_⟩
      · rw [mput_ne (by decide)]; exact g2
      · rw [mput_ne (by decide), mput_other (by decide)]; exact g3
      · rw [mput_ne (by decide), mput_ne (by decide), mput_ne (by decide)]; exact g4
      · rw [mput_row, mput_row, mput_ne (by decide), g5]
      · rw [mput_ne (by decide)]; exact g6
      · rw [mput_ne (by decide), mput_ne (by decide), mput_ne (by omega)]; exact g7 l' a' hl' ha'
    have rs' : ∀ m, QL n k q g x m → RS n x' (mput (mput m 6 0 0) 30 l p1) := fun m hm => (rs m hm).cg (fun a ha => keep a (by omega) (by omega) (by omega)) rfl (fun _ _ => rfl)
    refine Or.inr ⟨sa (x' 7) (x' 8) n, x', ?_, (KR.put (by decide)).tr (KR.of_arr keep), fun m hm => ⟨mput (mput m 6 0 0) 30 l p1, ?_, ?_, (KC.put (by decide)).tr (KC.put (by decide)), n, k, q, g, ?_⟩⟩
    · have e := x_total (rs' x R) (y := x') rfl rfl rfl
      simp only [f_X5_cut, R.1.2.1, x_num_t (show n < 2 ^ 30 by omega) c1, q_i30 (show l < 30 by omega), ix_nI (show l < 2 ^ 31 by omega), q_bool hp, a1, e, bnd, bnX, bnN, q_1ne0, q_n1, q_n2, q_n3, eq_self, not_true_eq_false, not_false_eq_true, ↓reduceIte]
    · have e := m_total (rs' m hm) (y := mput (mput m 6 0 0) 30 l p1) rfl rfl rfl
      have e4 : mput (mput m 6 0 0) 30 l p1 6 4 = m 6 4 := by rw [mput_ne (by decide), mput_other (by decide)]
      rw [e4] at e
      simp only [f_X6_cut, m_line_t (show n < 2 ^ 30 by omega) hm.1.2.2.1 c1, m_fine0, q_i30 (show l < 30 by omega), ix_nI (show l < 2 ^ 31 by omega), q_bool hp, q_clear (show ¬ 4 = 0 by decide), e, bnd, bnX, bnN, q_1ne0, q_n1, q_n2, q_n3, eq_self, not_true_eq_false, not_false_eq_true, ↓reduceIte]
    · rw [mput_ne (by decide), mput_self]
    · refine QL.of_arr keep k3 hA (rs m hm) (hm.2.1.cg ?_ ?_ ?_ ?_) (hm.2.2.1.cg ?_ (fun a ha => ?_) ?_ (fun a ha => ?_)) (hm.2.2.2.2.1.cg (fun a ha => ?_) ?_ (fun a ha => ?_)) (hm.2.2.2.2.2.cg (fun a ha => ?_) ?_ (fun a ha => ?_))
      · rw [mput_ne (by omega)]
      · rw [mput_ne (by omega)]
      · rw [mput_ne (by omega), mput_ne (by omega)]
      · rw [mput_ne (by omega), mput_ne (by omega)]
      · rw [mput_ne (by omega)]
      · rw [mput_ne (by omega)]
      · rw [mput_ne (by omega), mput_other (by decide)]
      · rw [mput_ne (by omega), mput_ne (by omega)]
      · rw [mput_ne (by omega)]
      · rw [mput_ne (by omega), mput_other (by decide)]
      · rw [mput_ne (by omega), mput_ne (by omega)]
      · rw [mput_ne (by omega)]
      · rw [mput_ne (by omega), mput_other (by decide)]
      · rw [mput_ne (by omega), mput_ne (by omega)]
  · refine Or.inl (LT.of 1 1 ?_ (by decide) rfl (by decide) (fun m hm => ?_))
    · simp only [f_X5_cut, R.1.2.1, x_num_f (show n < 2 ^ 30 by omega) c1, bnd, bnX, bnN, q_1ne0, q_n1, q_n2, q_n3, eq_self, not_true_eq_false, not_false_eq_true, ↓reduceIte]
    · simp only [f_X6_cut, m_line_f (show n < 2 ^ 30 by omega) hm.1.2.2.1 c1, m_fine1, bnd, bnX, bnN, q_1ne0, q_n1, q_n2, q_n3, eq_self, not_true_eq_false, not_false_eq_true, ↓reduceIte]
theorem k_change (p0 p1 p2 : Int32) : LK (f_X5_change p0 p1 p2) hc_L_change (f_X6_change p0 p1 p2) := by
  intro n k q g x R
  have hn := R.1.1
  have hk := R.2.2.1.1.1
  by_cases c1 : inb p0 k = true
  · by_cases c2 : inb p1 10 = true
    · by_cases c3 : -1 ≤ p2 ∧ p2 ≤ 100
      · obtain ⟨c, hc, rfl⟩ := inb_of c1 (by omega)
        obtain ⟨h, hh, rfl⟩ := inb_of c2 (by omega)
        have hC : RC0 n k (mput x (88 + c) h p2) := R.2.2.1.1.cg (by rw [mput_ne (by omega)]) (fun a ha => mput_ne (by omega))
        obtain ⟨x', a1, keep, k3, hA⟩ := x_arrange hn hC
        refine Or.inr ⟨x (88 + c) h, x', ?_, (KR.put (by omega)).tr (KR.of_arr keep), fun m hm => ⟨mput (mput m 6 0 0) 37 (10 * c + h) p2, ?_, ?_, (KC.put (by decide)).tr (KC.put (by decide)), n, k, q, g, ?_⟩⟩
        · simp only [f_X5_change, R.2.2.1.1.2.1, x_num_t (show k < 2 ^ 30 by omega) c1, x_n10_t c2, x_rng_t c3, q_i20 (show c < 20 by omega), q_i10 hh, ix_nI (show c < 2 ^ 31 by omega), ix_nI (show h < 2 ^ 31 by omega), a1, bnd, bnX, bnN, q_1ne0, q_n1, q_n2, q_n3, eq_self, not_true_eq_false, not_false_eq_true, ↓reduceIte]
        · simp only [f_X6_change, m_cue_t (show k < 2 ^ 30 by omega) hm.2.2.1.2.1 c1, m_chan_t c2, m_in_t c3, m_fine0, q_10, inb_nI (show 10 * c + h < 200 by omega) (show 200 < 2 ^ 31 by decide), ix_nI (show 10 * c + h < 2 ^ 31 by omega), q_clr (show ¬ 37 = 6 by decide), hm.2.2.1.2.2.2.2.2 c h (by omega) hh, bnd, bnX, bnN, q_1ne0, q_n1, q_n2, q_n3, eq_self, not_true_eq_false, not_false_eq_true, ↓reduceIte]
        · rw [mput_ne (by decide), mput_self]
        · refine QL.of_arr keep k3 hA (hm.1.cg (fun a ha => ?_) ?_ (fun a ha => ?_)) (hm.2.1.cg ?_ ?_ ?_ ?_) ⟨hC, ?_, ?_, ?_, ?_, fun c' h' hc' hh' => ?_⟩ (hm.2.2.2.2.1.cg (fun a ha => ?_) ?_ (fun a ha => ?_)) (hm.2.2.2.2.2.cg (fun a ha => ?_) ?_ (fun a ha => ?_))
          · rw [mput_ne (by omega)]
          · rw [mput_ne (by omega), mput_other (by decide)]
          · rw [mput_ne (by omega), mput_ne (by omega)]
          · rw [mput_ne (by omega)]
          · rw [mput_ne (by omega)]
          · rw [mput_ne (by omega), mput_ne (by omega)]
          · rw [mput_ne (by omega), mput_ne (by omega)]
          · rw [mput_ne (by omega), mput_other (by decide)]; exact hm.2.2.1.2.1
          · rw [mput_ne (by omega), mput_ne (by omega), mput_ne (by omega)]; exact hm.2.2.1.2.2.1
          · rw [mput_ne (by omega), mput_ne (by omega), mput_ne (by omega)]; exact hm.2.2.1.2.2.2.1
          · rw [mput_ne (by omega), mput_ne (by omega), mput_ne (by omega)]; exact hm.2.2.1.2.2.2.2.1
          · by_cases e : c' = c ∧ h' = h
            · rw [e.1, e.2, mput_self, mput_self]
            · rw [mput_other (by omega), mput_ne (by decide), hm.2.2.1.2.2.2.2.2 c' h' hc' hh']
              by_cases e2 : c' = c
              · rw [e2, mput_other (by omega)]
              · rw [mput_ne (by omega)]
          · rw [mput_ne (by omega)]
          · rw [mput_ne (by omega), mput_other (by decide)]
          · rw [mput_ne (by omega), mput_ne (by omega)]
          · rw [mput_ne (by omega)]
          · rw [mput_ne (by omega), mput_other (by decide)]
          · rw [mput_ne (by omega), mput_ne (by omega)]
      · refine Or.inl (LT.of 2 2 ?_ (by decide) rfl (by decide) (fun m hm => ?_))
        · simp only [f_X5_change, R.2.2.1.1.2.1, x_num_t (show k < 2 ^ 30 by omega) c1, x_n10_t c2, x_rng_f c3, bnd, bnX, bnN, q_1ne0, q_n1, q_n2, q_n3, eq_self, not_true_eq_false, not_false_eq_true, ↓reduceIte]
        · simp only [f_X6_change, m_cue_t (show k < 2 ^ 30 by omega) hm.2.2.1.2.1 c1, m_chan_t c2, m_in_f c3, m_fine2, bnd, bnX, bnN, q_1ne0, q_n1, q_n2, q_n3, eq_self, not_true_eq_false, not_false_eq_true, ↓reduceIte]
    · refine Or.inl (LT.of 1 1 ?_ (by decide) rfl (by decide) (fun m hm => ?_))
      · simp only [f_X5_change, R.2.2.1.1.2.1, x_num_t (show k < 2 ^ 30 by omega) c1, x_n10_f c2, bnd, bnX, bnN, q_1ne0, q_n1, q_n2, q_n3, eq_self, not_true_eq_false, not_false_eq_true, ↓reduceIte]
      · simp only [f_X6_change, m_cue_t (show k < 2 ^ 30 by omega) hm.2.2.1.2.1 c1, m_chan_f c2, m_fine1, bnd, bnX, bnN, q_1ne0, q_n1, q_n2, q_n3, eq_self, not_true_eq_false, not_false_eq_true, ↓reduceIte]
  · refine Or.inl (LT.of 1 1 ?_ (by decide) rfl (by decide) (fun m hm => ?_))
    · simp only [f_X5_change, R.2.2.1.1.2.1, x_num_f (show k < 2 ^ 30 by omega) c1, bnd, bnX, bnN, q_1ne0, q_n1, q_n2, q_n3, eq_self, not_true_eq_false, not_false_eq_true, ↓reduceIte]
    · simp only [f_X6_change, m_cue_f (show k < 2 ^ 30 by omega) hm.2.2.1.2.1 c1, m_fine1, bnd, bnX, bnN, q_1ne0, q_n1, q_n2, q_n3, eq_self, not_true_eq_false, not_false_eq_true, ↓reduceIte]
theorem x_place {x : aM} {c : Nat} {a b d : Int32} (hc : c < 20) : f_X1_place (nI c) a b d x = some (0, mput (mput (mput x 11 c a) 12 c b) 13 c d) := by
  unfold f_X1_place
  simp only [q_i20 hc, ix_nI (show c < 2 ^ 31 by omega), ↓reduceIte]
theorem RC0.place {n k c L o f : Nat} {x : aM} (H : RC0 n k x) (hL : L < n) (ho : o ≤ 60) (hf : f ≤ 60) : RC0 n k (mput (mput (mput x 11 c (nI L)) 12 c (nI o)) 13 c (nI f)) := by
  obtain ⟨h1, h2, h3, h4, h5⟩ := H
  refine ⟨h1, ?_, fun d hd => ?_, fun d hd => ?_, fun d hd => ?_⟩
  · rw [mput_ne (by decide), mput_ne (by decide), mput_ne (by decide)]; exact h2
  · rw [mput_ne (by decide), mput_ne (by decide), mput_row]
    by_cases e : d = c
    · rw [e, pk_us]; exact ⟨L, hL, rfl⟩
    · rw [pk_un e]; exact h3 d hd
  · rw [mput_ne (by decide), mput_row, mput_ne (by decide)]
    by_cases e : d = c
    · rw [e, pk_us]; exact ⟨o, ho, rfl⟩
    · rw [pk_un e]; exact h4 d hd
  · rw [mput_row, mput_ne (by decide), mput_ne (by decide)]
    by_cases e : d = c
    · rw [e, pk_us]; exact ⟨f, hf, rfl⟩
    · rw [pk_un e]; exact h5 d hd
theorem k_move (p0 p1 p2 p3 : Int32) : LK (f_X5_move p0 p1 p2 p3) hc_L_move (f_X6_move p0 p1 p2 p3) := by
  intro n k q g x R
  have hn := R.1.1
  have hk := R.2.2.1.1.1
  by_cases c1 : inb p0 k = true
  · by_cases c2 : inb p1 n = true
    · by_cases c3 : 0 ≤ p2 ∧ p2 ≤ 60
      · by_cases c4 : 0 ≤ p3 ∧ p3 ≤ 60
        · obtain ⟨c, hc, rfl⟩ := inb_of c1 (by omega)
          obtain ⟨L, hL, rfl⟩ := inb_of c2 (by omega)
          obtain ⟨o, ho, rfl⟩ := q_60 c3
          obtain ⟨f, hf, rfl⟩ := q_60 c4
          have hC : RC0 n k (mput (mput (mput x 11 c (nI L)) 12 c (nI o)) 13 c (nI f)) := R.2.2.1.1.place hL ho hf
          obtain ⟨x', a1, keep, k3, hA⟩ := x_arrange hn hC
          refine Or.inr ⟨x 11 c, x', ?_, (((KR.put (by decide)).tr (KR.put (by decide))).tr (KR.put (by decide))).tr (KR.of_arr keep), fun m hm => ⟨mput (mput (mput (mput m 6 0 0) 34 c (nI L)) 35 c (nI o)) 36 c (nI f), ?_, ?_, (((KC.put (by decide)).tr (KC.put (by decide))).tr (KC.put (by decide))).tr (KC.put (by decide)), n, k, q, g, ?_⟩⟩
          · simp only [f_X5_move, R.2.2.1.1.2.1, R.1.2.1, x_num_t (show k < 2 ^ 30 by omega) c1, x_num_t (show n < 2 ^ 30 by omega) c2, x_rng_t c3, x_rng_t c4, q_i20 (show c < 20 by omega), ix_nI (show c < 2 ^ 31 by omega), x_place (show c < 20 by omega), a1, bnd, bnX, bnN, q_1ne0, q_n1, q_n2, q_n3, eq_self, not_true_eq_false, not_false_eq_true, ↓reduceIte]
          · simp only [f_X6_move, m_cue_t (show k < 2 ^ 30 by omega) hm.2.2.1.2.1 c1, m_line_t (show n < 2 ^ 30 by omega) hm.1.2.2.1 c2, m_fade_t c3 c4, m_fine0, q_i20 (show c < 20 by omega), ix_nI (show c < 2 ^ 31 by omega), q_clr (show ¬ 34 = 6 by decide), hm.2.2.1.2.2.1, bnd, bnX, bnN, q_1ne0, q_n1, q_n2, q_n3, eq_self, not_true_eq_false, not_false_eq_true, ↓reduceIte]
          · rw [mput_ne (by decide), mput_ne (by decide), mput_ne (by decide), mput_self]
          · refine QL.of_arr keep k3 hA (hm.1.cg (fun a ha => ?_) ?_ (fun a ha => ?_)) (hm.2.1.cg ?_ ?_ ?_ ?_) ⟨hC, ?_, ?_, ?_, ?_, fun c' h' hc' hh' => ?_⟩ (hm.2.2.2.2.1.cg (fun a ha => ?_) ?_ (fun a ha => ?_)) (hm.2.2.2.2.2.cg (fun a ha => ?_) ?_ (fun a ha => ?_))
            · rw [mput_ne (by omega), mput_ne (by omega), mput_ne (by omega)]
            · rw [mput_ne (by omega), mput_ne (by omega), mput_ne (by omega), mput_other (by decide)]
            · rw [mput_ne (by omega), mput_ne (by omega), mput_ne (by omega), mput_ne (by omega)]
            · rw [mput_ne (by omega), mput_ne (by omega), mput_ne (by omega)]
            · rw [mput_ne (by omega), mput_ne (by omega), mput_ne (by omega)]
            · rw [mput_ne (by omega), mput_ne (by omega), mput_ne (by omega), mput_ne (by omega)]
            · rw [mput_ne (by omega), mput_ne (by omega), mput_ne (by omega), mput_ne (by omega)]
            · rw [mput_ne (by omega), mput_ne (by omega), mput_ne (by omega), mput_other (by decide)]; exact hm.2.2.1.2.1
            · simp [mput_ne, mput_row, hm.2.2.1.2.2.1]
            · simp [mput_ne, mput_row, hm.2.2.1.2.2.2.1]
            · simp [mput_ne, mput_row, hm.2.2.1.2.2.2.2.1]
            · rw [mput_ne (by omega), mput_ne (by omega), mput_ne (by omega), mput_ne (by omega), mput_ne (by omega), mput_ne (by omega), mput_ne (by omega)]; exact hm.2.2.1.2.2.2.2.2 c' h' hc' hh'
            · rw [mput_ne (by omega), mput_ne (by omega), mput_ne (by omega)]
            · rw [mput_ne (by omega), mput_ne (by omega), mput_ne (by omega), mput_other (by decide)]
            · rw [mput_ne (by omega), mput_ne (by omega), mput_ne (by omega), mput_ne (by omega)]
            · rw [mput_ne (by omega), mput_ne (by omega), mput_ne (by omega)]
            · rw [mput_ne (by omega), mput_ne (by omega), mput_ne (by omega), mput_other (by decide)]
            · rw [mput_ne (by omega), mput_ne (by omega), mput_ne (by omega), mput_ne (by omega)]
        · refine Or.inl (LT.of 2 2 ?_ (by decide) rfl (by decide) (fun m hm => ?_))
          · simp only [f_X5_move, R.2.2.1.1.2.1, R.1.2.1, x_num_t (show k < 2 ^ 30 by omega) c1, x_num_t (show n < 2 ^ 30 by omega) c2, x_rng_t c3, x_rng_f c4, bnd, bnX, bnN, q_1ne0, q_n1, q_n2, q_n3, eq_self, not_true_eq_false, not_false_eq_true, ↓reduceIte]
          · simp only [f_X6_move, m_cue_t (show k < 2 ^ 30 by omega) hm.2.2.1.2.1 c1, m_line_t (show n < 2 ^ 30 by omega) hm.1.2.2.1 c2, m_fade_f (fun z => c4 z.2), m_fine2, bnd, bnX, bnN, q_1ne0, q_n1, q_n2, q_n3, eq_self, not_true_eq_false, not_false_eq_true, ↓reduceIte]
      · refine Or.inl (LT.of 2 2 ?_ (by decide) rfl (by decide) (fun m hm => ?_))
        · simp only [f_X5_move, R.2.2.1.1.2.1, R.1.2.1, x_num_t (show k < 2 ^ 30 by omega) c1, x_num_t (show n < 2 ^ 30 by omega) c2, x_rng_f c3, bnd, bnX, bnN, q_1ne0, q_n1, q_n2, q_n3, eq_self, not_true_eq_false, not_false_eq_true, ↓reduceIte]
        · simp only [f_X6_move, m_cue_t (show k < 2 ^ 30 by omega) hm.2.2.1.2.1 c1, m_line_t (show n < 2 ^ 30 by omega) hm.1.2.2.1 c2, m_fade_f (fun z => c3 z.1), m_fine2, bnd, bnX, bnN, q_1ne0, q_n1, q_n2, q_n3, eq_self, not_true_eq_false, not_false_eq_true, ↓reduceIte]
    · refine Or.inl (LT.of 1 1 ?_ (by decide) rfl (by decide) (fun m hm => ?_))
      · simp only [f_X5_move, R.2.2.1.1.2.1, R.1.2.1, x_num_t (show k < 2 ^ 30 by omega) c1, x_num_f (show n < 2 ^ 30 by omega) c2, bnd, bnX, bnN, q_1ne0, q_n1, q_n2, q_n3, eq_self, not_true_eq_false, not_false_eq_true, ↓reduceIte]
      · simp only [f_X6_move, m_cue_t (show k < 2 ^ 30 by omega) hm.2.2.1.2.1 c1, m_line_f (show n < 2 ^ 30 by omega) hm.1.2.2.1 c2, m_fine1, bnd, bnX, bnN, q_1ne0, q_n1, q_n2, q_n3, eq_self, not_true_eq_false, not_false_eq_true, ↓reduceIte]
  · refine Or.inl (LT.of 1 1 ?_ (by decide) rfl (by decide) (fun m hm => ?_))
    · simp only [f_X5_move, R.2.2.1.1.2.1, x_num_f (show k < 2 ^ 30 by omega) c1, bnd, bnX, bnN, q_1ne0, q_n1, q_n2, q_n3, eq_self, not_true_eq_false, not_false_eq_true, ↓reduceIte]
    · simp only [f_X6_move, m_cue_f (show k < 2 ^ 30 by omega) hm.2.2.1.2.1 c1, m_fine1, bnd, bnX, bnN, q_1ne0, q_n1, q_n2, q_n3, eq_self, not_true_eq_false, not_false_eq_true, ↓reduceIte]
theorem x_appendCue {x : aM} {k : Nat} (hk : k < 20) (h34 : x 3 4 = nI k) : f_X1_append x = some (nI k, mput (mrow x (88 + k) 10 (fun _ => -1)) 3 4 (nI (k + 1))) := by
  have hl : ∀ kk : Int32 → aM → Option (Int32 × aM), l_X1_append_2 lf 0 x kk = kk (nI 10) (mrow x (88 + k) 10 (fun _ => -1)) := by
    intro kk
    have key : l_X1_append_2 lf (nI 0) (mrow x (88 + k) 0 (fun _ => -1)) kk = kk (nI 10) (mrow x (88 + k) 10 (fun _ => -1)) := by
      refine qa_loop0 (fun fu i => l_X1_append_2 fu (nI i) (mrow x (88 + k) i (fun _ => -1)) kk) 10 _ lf (lf_gt (by decide)) (fun i fu hi => ?_) (fun fu => ?_)
      · show l_X1_append_2 (fu + 1) (nI i) (mrow x (88 + k) i (fun _ => -1)) kk = l_X1_append_2 fu (nI (i + 1)) (mrow x (88 + k) (i + 1) (fun _ => -1)) kk
        rw [l_X1_append_2, if_neg (q10_lt hi), mrow_ne (show ¬ 3 = 88 + k by omega), h34, if_pos (q_i20 hk), if_pos (q_i10 hi), ix_nI (show k < 2 ^ 31 by omega), ix_nI (show i < 2 ^ 31 by omega), nI_1, ← mrow_s (i := i)]
      · show l_X1_append_2 (fu + 1) (nI 10) _ kk = _
        rw [l_X1_append_2, if_pos q10_ge]
    rw [mrow_0] at key
    exact key
  unfold f_X1_append
  rw [hl]
  simp only [mrow_ne (show ¬ 3 = 88 + k by omega), h34, nI_1, nI_pred]
/-- the reference's row of a new cue -/
def mN (m : aM) (k i : Nat) : aM := fun a => if a = 37 then (fun j => if 10 * k ≤ j ∧ j < 10 * k + i then -1 else m 37 j) else m a
theorem mN_ne {m : aM} {k i a : Nat} (h : ¬ a = 37) : mN m k i a = m a := if_neg h
theorem mN_at {m : aM} {k i j : Nat} : mN m k i 37 j = if 10 * k ≤ j ∧ j < 10 * k + i then -1 else m 37 j := rfl
theorem mN_0 {m : aM} {k : Nat} : mN m k 0 = m := by
  funext a j
  by_cases h : a = 37
  · subst h
    rw [mN_at, if_neg (by omega)]
  · rw [mN_ne h]
theorem mN_s {m : aM} {k i : Nat} : mput (mN m k i) 37 (10 * k + i) (-1) = mN m k (i + 1) := by
  funext a j
  by_cases h : a = 37
  · subst h
    rw [mput_at, mN_at, mN_at]
    by_cases e : j = 10 * k + i
    · rw [if_pos e, if_pos (by omega)]
    · rw [if_neg e]
      by_cases e2 : 10 * k ≤ j ∧ j < 10 * k + i
      · rw [if_pos e2, if_pos (by omega)]
      · rw [if_neg e2, if_neg (by omega)]
  · rw [mput_ne h, mN_ne h, mN_ne h]
theorem m_newCue {m : aM} {k : Nat} {a b c : Int32} (hk : k < 20) (h11 : m 6 11 = nI k) (kk : Int32 → aM → Option (Int32 × aM)) : l_X6_addCue_80 a b c lf 0 m kk = kk (nI 10) (mN m k 10) := by
  have key : l_X6_addCue_80 a b c lf (nI 0) (mN m k 0) kk = kk (nI 10) (mN m k 10) := by
    refine qa_loop0 (fun fu i => l_X6_addCue_80 a b c fu (nI i) (mN m k i) kk) 10 _ lf (lf_gt (by decide)) (fun i fu hi => ?_) (fun fu => ?_)
    · show l_X6_addCue_80 a b c (fu + 1) (nI i) (mN m k i) kk = l_X6_addCue_80 a b c fu (nI (i + 1)) (mN m k (i + 1)) kk
      rw [l_X6_addCue_80, if_neg (q10_lt hi), mN_ne (by decide), h11, q_10, if_pos (inb_nI (show 10 * k + i < 200 by omega) (by decide)), ix_nI (show 10 * k + i < 2 ^ 31 by omega), nI_1, mN_s]
    · show l_X6_addCue_80 a b c (fu + 1) (nI 10) _ kk = _
      rw [l_X6_addCue_80, if_pos q10_ge]
  rw [mN_0] at key
  exact key
theorem k_addCue (p0 p1 p2 : Int32) : LK (f_X5_addCue p0 p1 p2) hc_L_addCue (f_X6_addCue p0 p1 p2) := by
  intro n k q g x R
  have hn := R.1.1
  have hk := R.2.2.1.1.1
  by_cases c1 : inb p0 n = true
  · by_cases c2 : 0 ≤ p1 ∧ p1 ≤ 60
    · by_cases c3 : 0 ≤ p2 ∧ p2 ≤ 60
      · by_cases c4 : k < 20
        · have c4x : nI k < 20 := q_room (N := 20) c4 (by decide)
          have c4m : ¬ nI k = 20 := fun e => absurd ((nI_eq (a := k) (b := 20) (by omega) (by decide)).mp e) (by omega)
          obtain ⟨L, hL, rfl⟩ := inb_of c1 (by omega)
          obtain ⟨o, ho, rfl⟩ := q_60 c2
          obtain ⟨f, hf, rfl⟩ := q_60 c3
          have hC : RC0 n (k + 1) (mput (mput (mput (mput (mrow x (88 + k) 10 (fun _ => -1)) 3 4 (nI (k + 1))) 11 k (nI L)) 12 k (nI o)) 13 k (nI f)) := by
            obtain ⟨h1, h2, h3, h4, h5⟩ := R.2.2.1.1
            refine ⟨c4, ?_, fun d hd => ?_, fun d hd => ?_, fun d hd => ?_⟩
            · rw [mput_ne (by decide), mput_ne (by decide), mput_ne (by decide), mput_self]
            · rw [mput_ne (by decide), mput_ne (by decide), mput_row, mput_ne (by decide), mrow_ne (by omega)]
              by_cases e : d = k
              · rw [e, pk_us]; exact ⟨L, hL, rfl⟩
              · rw [pk_un e]; exact h3 d (by omega)
            · rw [mput_ne (by decide), mput_row, mput_ne (by decide), mput_ne (by decide), mrow_ne (by omega)]
              by_cases e : d = k
              · rw [e, pk_us]; exact ⟨o, ho, rfl⟩
              · rw [pk_un e]; exact h4 d (by omega)
            · rw [mput_row, mput_ne (by decide), mput_ne (by decide), mput_ne (by decide), mrow_ne (by omega)]
              by_cases e : d = k
              · rw [e, pk_us]; exact ⟨f, hf, rfl⟩
              · rw [pk_un e]; exact h5 d (by omega)
          obtain ⟨x', a1, keep, k3, hA⟩ := x_arrange hn hC
          refine Or.inr ⟨nI k, x', ?_, (((((KR.row (by omega)).tr (KR.put (by decide))).tr (KR.put (by decide))).tr (KR.put (by decide))).tr (KR.put (by decide))).tr (KR.of_arr keep), fun m hm => ⟨mput (mN (mput (mput (mput (mput m 6 0 0) 34 k (nI L)) 35 k (nI o)) 36 k (nI f)) k 10) 6 11 (nI (k + 1)), ?_, ?_, ?_, n, k + 1, q, g, ?_⟩⟩
          · simp only [f_X5_addCue, R.1.2.1, R.2.2.1.1.2.1, x_num_t (show n < 2 ^ 30 by omega) c1, x_rng_t c2, x_rng_t c3, x_room_t c4x, x_appendCue c4 R.2.2.1.1.2.1, x_place c4, a1, bnd, bnX, bnN, q_1ne0, q_n1, q_n2, q_n3, eq_self, not_true_eq_false, not_false_eq_true, ↓reduceIte]
          · have e11 : mput (mput (mput (mput m 6 0 0) 34 k (nI L)) 35 k (nI o)) 36 k (nI f) 6 11 = nI k := by rw [mput_ne (by decide), mput_ne (by decide), mput_ne (by decide), mput_other (by decide)]; exact hm.2.2.1.2.1
            simp only [f_X6_addCue, m_line_t (show n < 2 ^ 30 by omega) hm.1.2.2.1 c1, m_fade_t c2 c3, hm.2.2.1.2.1, c4m, m_fine0, q_clear (show ¬ 11 = 0 by decide), q_i20 c4, ix_nI (show k < 2 ^ 31 by omega), m_newCue c4 e11, mN_ne (show ¬ 6 = 37 by decide), e11, nI_1, nI_pred, bnd, bnX, bnN, q_1ne0, q_n1, q_n2, q_n3, eq_self, not_true_eq_false, not_false_eq_true, ↓reduceIte]
          · rw [mput_other (by decide), mN_ne (by decide), mput_ne (by decide), mput_ne (by decide), mput_ne (by decide), mput_self]
          · refine ⟨fun a ha => ?_, ?_⟩
            · rw [mput_ne (by omega), mN_ne (by omega), mput_ne (by omega), mput_ne (by omega), mput_ne (by omega), mput_ne (by omega)]
            · rw [mput_ne (by omega), mN_ne (by omega), mput_ne (by omega), mput_ne (by omega), mput_ne (by omega), mput_ne (by omega)]
          · refine QL.of_arr keep k3 hA (hm.1.cg (fun a ha => ?_) ?_ (fun a ha => ?_)) (hm.2.1.cg ?_ ?_ ?_ ?_) ⟨hC, mput_self, ?_, ?_, ?_, fun c' h' hc' hh' => ?_⟩ (hm.2.2.2.2.1.cg (fun a ha => ?_) ?_ (fun a ha => ?_)) (hm.2.2.2.2.2.cg (fun a ha => ?_) ?_ (fun a ha => ?_))
            · rw [mput_ne (by omega), mput_ne (by omega), mput_ne (by omega), mput_ne (by omega), mrow_ne (by omega)]
            · rw [mput_other (by decide), mN_ne (by decide), mput_ne (by omega), mput_ne (by omega), mput_ne (by omega), mput_other (by decide)]
            · rw [mput_ne (by omega), mN_ne (by omega), mput_ne (by omega), mput_ne (by omega), mput_ne (by omega), mput_ne (by omega)]
            · rw [mput_ne (by omega), mput_ne (by omega), mput_ne (by omega), mput_ne (by omega), mrow_ne (by omega)]
            · rw [mput_ne (by omega), mput_ne (by omega), mput_ne (by omega), mput_ne (by omega), mrow_ne (by omega)]
            · rw [mput_ne (by omega), mN_ne (by omega), mput_ne (by omega), mput_ne (by omega), mput_ne (by omega), mput_ne (by omega)]
            · rw [mput_ne (by omega), mN_ne (by omega), mput_ne (by omega), mput_ne (by omega), mput_ne (by omega), mput_ne (by omega)]
            · rw [mput_ne (by decide), mN_ne (by decide), mput_ne (by decide), mput_ne (by decide), mput_row, mput_ne (by decide), hm.2.2.1.2.2.1, mput_ne (by decide), mput_ne (by decide), mput_row, mput_ne (by decide), mrow_ne (by omega)]
            · rw [mput_ne (by decide), mN_ne (by decide), mput_ne (by decide), mput_row, mput_ne (by decide), mput_ne (by decide), hm.2.2.1.2.2.2.1, mput_ne (by decide), mput_row, mput_ne (by decide), mput_ne (by decide), mrow_ne (by omega)]
            · rw [mput_ne (by decide), mN_ne (by decide), mput_row, mput_ne (by decide), mput_ne (by decide), mput_ne (by decide), hm.2.2.1.2.2.2.2.1, mput_row, mput_ne (by decide), mput_ne (by decide), mput_ne (by decide), mrow_ne (by omega)]
            · rw [mput_ne (by omega), mN_at, mput_ne (by omega), mput_ne (by omega), mput_ne (by omega), mput_ne (by omega), mput_ne (by omega), mput_ne (by omega), mput_ne (by omega), mput_ne (by omega)]
              by_cases e : c' = k
              · rw [if_pos (by omega), e, mrow_at hh']
              · rw [if_neg (by omega), mrow_ne (by omega)]
                exact hm.2.2.1.2.2.2.2.2 c' h' hc' hh'
            · rw [mput_ne (by omega), mput_ne (by omega), mput_ne (by omega), mput_ne (by omega), mrow_ne (by omega)]
            · rw [mput_other (by decide), mN_ne (by decide), mput_ne (by omega), mput_ne (by omega), mput_ne (by omega), mput_other (by decide)]
            · rw [mput_ne (by omega), mN_ne (by omega), mput_ne (by omega), mput_ne (by omega), mput_ne (by omega), mput_ne (by omega)]
            · rw [mput_ne (by omega), mput_ne (by omega), mput_ne (by omega), mput_ne (by omega), mrow_ne (by omega)]
            · rw [mput_other (by decide), mN_ne (by decide), mput_ne (by omega), mput_ne (by omega), mput_ne (by omega), mput_other (by decide)]
            · rw [mput_ne (by omega), mN_ne (by omega), mput_ne (by omega), mput_ne (by omega), mput_ne (by omega), mput_ne (by omega)]
        · have c4x : ¬ nI k < 20 := q_noroom (N := 20) c4 (by omega)
          have c4m : nI k = 20 := by rw [show k = 20 by omega]; rfl
          refine Or.inl (LT.of 3 3 ?_ (by decide) rfl (by decide) (fun m hm => ?_))
          · simp only [f_X5_addCue, R.1.2.1, R.2.2.1.1.2.1, x_num_t (show n < 2 ^ 30 by omega) c1, x_rng_t c2, x_rng_t c3, x_room_f c4x, bnd, bnX, bnN, q_1ne0, q_n1, q_n2, q_n3, eq_self, not_true_eq_false, not_false_eq_true, ↓reduceIte]
          · simp only [f_X6_addCue, m_line_t (show n < 2 ^ 30 by omega) hm.1.2.2.1 c1, m_fade_t c2 c3, hm.2.2.1.2.1, c4m, m_fine3, bnd, bnX, bnN, q_1ne0, q_n1, q_n2, q_n3, eq_self, not_true_eq_false, not_false_eq_true, ↓reduceIte]
      · refine Or.inl (LT.of 2 2 ?_ (by decide) rfl (by decide) (fun m hm => ?_))
        · simp only [f_X5_addCue, R.1.2.1, x_num_t (show n < 2 ^ 30 by omega) c1, x_rng_t c2, x_rng_f c3, bnd, bnX, bnN, q_1ne0, q_n1, q_n2, q_n3, eq_self, not_true_eq_false, not_false_eq_true, ↓reduceIte]
        · simp only [f_X6_addCue, m_line_t (show n < 2 ^ 30 by omega) hm.1.2.2.1 c1, m_fade_f (fun z => c3 z.2), m_fine2, bnd, bnX, bnN, q_1ne0, q_n1, q_n2, q_n3, eq_self, not_true_eq_false, not_false_eq_true, ↓reduceIte]
    · refine Or.inl (LT.of 2 2 ?_ (by decide) rfl (by decide) (fun m hm => ?_))
      · simp only [f_X5_addCue, R.1.2.1, x_num_t (show n < 2 ^ 30 by omega) c1, x_rng_f c2, bnd, bnX, bnN, q_1ne0, q_n1, q_n2, q_n3, eq_self, not_true_eq_false, not_false_eq_true, ↓reduceIte]
      · simp only [f_X6_addCue, m_line_t (show n < 2 ^ 30 by omega) hm.1.2.2.1 c1, m_fade_f (fun z => c2 z.1), m_fine2, bnd, bnX, bnN, q_1ne0, q_n1, q_n2, q_n3, eq_self, not_true_eq_false, not_false_eq_true, ↓reduceIte]
  · refine Or.inl (LT.of 1 1 ?_ (by decide) rfl (by decide) (fun m hm => ?_))
    · simp only [f_X5_addCue, R.1.2.1, x_num_f (show n < 2 ^ 30 by omega) c1, bnd, bnX, bnN, q_1ne0, q_n1, q_n2, q_n3, eq_self, not_true_eq_false, not_false_eq_true, ↓reduceIte]
    · simp only [f_X6_addCue, m_line_f (show n < 2 ^ 30 by omega) hm.1.2.2.1 c1, m_fine1, bnd, bnX, bnN, q_1ne0, q_n1, q_n2, q_n3, eq_self, not_true_eq_false, not_false_eq_true, ↓reduceIte]
