/-! the calls of the lamps that change something -/
/-- only the lamps' rows changed -/
theorem QL.lamps {n k q q' g : Nat} {x x' m m' : aM} (H : QL n k q g x m) (hx : ∀ a, (1 ≤ a ∧ a ≤ 3 ∨ a = 5 ∨ 7 ≤ a ∧ a ≤ 17 ∨ a = 26 ∨ 58 ≤ a ∧ a < 128 ∨ 158 ≤ a ∧ a < 178) → x' a = x a) (hm : ∀ a, (29 ≤ a ∧ a ≤ 37 ∨ 45 ≤ a ∧ a ≤ 46) → m' a = m a) (h4 : m' 6 4 = m 6 4) (h11 : m' 6 11 = m 6 11) (h22 : m' 6 22 = m 6 22) (hG : RG q' x' m') : QL n k q' g x' m' := by
  obtain ⟨r1, r2, r3, r4, r5, r6⟩ := H
  exact ⟨r1.cg (fun a ha => hx a (by omega)) h4 (fun a ha => hm a (by omega)), r2.cg (hx 9 (by omega)) (hx 10 (by omega)) (hm 32 (by omega)) (hm 33 (by omega)), r3.cg (by rw [hx 3 (by omega)]) (fun a ha => hx a (by omega)) h11 (fun a ha => hm a (by omega)), r4.ka r3.1.1 (fun a ha => hx a (by omega)) (fun c _ => qc_t_eq (hx 7 (by omega)) (hx 8 (by omega)) (hx 11 (by omega)) (hx 12 (by omega))), hG, r6.cg (fun a ha => hx a (by omega)) h22 (fun a ha => hm a (by omega))⟩
theorem x_appendLamp {x : aM} {q : Nat} {p0 p1 p2 p3 : Int32} (hq : q < 20) (h48 : x 4 8 = nI q) : f_X3_append p0 p1 p2 p3 x = some (nI q, mput (mput (mput (mput (mput (mput (mput x 18 q p0) 19 q p1) 20 q p2) 21 q p3) 4 8 (nI (q + 1))) 22 q p0) 23 q p1) := by
  unfold f_X3_append f_X3_putHome f_X3_put
  rw [h48]
  simp only [q_i20 hq, ix_nI (show q < 2 ^ 31 by omega), nI_1, ↓reduceIte, bnd]
  rw [mput_ne (show ¬ 18 = 4 by decide), mput_ne (show ¬ 18 = 21 by decide), mput_ne (show ¬ 18 = 20 by decide), mput_ne (show ¬ 18 = 19 by decide), mput_self, mput_ne (show ¬ 19 = 4 by decide), mput_ne (show ¬ 19 = 21 by decide), mput_ne (show ¬ 19 = 20 by decide), mput_self]
theorem k_addLamp (p0 p1 p2 p3 : Int32) : LK (f_X5_addLamp p0 p1 p2 p3) hc_L_addLamp (f_X6_addLamp p0 p1 p2 p3) := by
  intro n k q g x R
  have hq := R.2.2.2.2.1.1
  by_cases c1 : inb p0 4 = true
  · by_cases c2 : inb p1 4 = true
    · by_cases c3 : 0 ≤ p2 ∧ p2 ≤ 2
      · by_cases c4 : 1 ≤ p3 ∧ p3 ≤ 100
        · by_cases c5 : q < 20
          · have c5x : nI q < 20 := q_room (N := 20) c5 (by decide)
            have c5m : ¬ nI q = 20 := fun e => absurd ((nI_eq (a := q) (b := 20) (by omega) (by decide)).mp e) (by omega)
            refine Or.inr ⟨nI q, mput (mput (mput (mput (mput (mput (mput x 18 q p0) 19 q p1) 20 q p2) 21 q p3) 4 8 (nI (q + 1))) 22 q p0) 23 q p1, ?_, (((((((KR.put (by decide)).tr (KR.put (by decide))).tr (KR.put (by decide))).tr (KR.put (by decide))).tr (KR.put (by decide))).tr (KR.put (by decide))).tr (KR.put (by decide))), fun m hm => ⟨mput (mput (mput (mput (mput (mput (mput (mput m 6 0 0) 38 q p0) 39 q p1) 40 q p0) 41 q p1) 42 q p2) 43 q p3) 6 19 (nI (q + 1)), ?_, ?_, ((((((((KC.put (by decide)).tr (KC.put (by decide))).tr (KC.put (by decide))).tr (KC.put (by decide))).tr (KC.put (by decide))).tr (KC.put (by decide))).tr (KC.put (by decide))).tr (KC.put (by decide))), n, k, q + 1, g, hm.lamps (fun a ha => ?_) (fun a ha => ?_) ?_ ?_ ?_ ?_⟩⟩
            · simp only [f_X5_addLamp, x_n4_t c1, x_n4_t c2, x_rng_t c3, x_rng_t c4, R.2.2.2.2.1.2.1, x_room_t c5x, x_appendLamp c5 R.2.2.2.2.1.2.1, bnd, bnX, bnN, q_1ne0, q_n1, q_n2, q_n3, eq_self, not_true_eq_false, not_false_eq_true, ↓reduceIte]
            · simp only [f_X6_addLamp, m_stage_t c1, m_area_t c2, m_in_t c3, m_in_t c4, hm.2.2.2.2.1.2.2.1, c5m, m_fine0, q_clear (show ¬ 19 = 0 by decide), q_i20 c5, ix_nI (show q < 2 ^ 31 by omega), nI_1, nI_pred, bnd, bnX, bnN, q_1ne0, q_n1, q_n2, q_n3, eq_self, not_true_eq_false, not_false_eq_true, ↓reduceIte]
            · rw [mput_other (by decide), mput_ne (by decide), mput_ne (by decide), mput_ne (by decide), mput_ne (by decide), mput_ne (by decide), mput_ne (by decide), mput_self]
            · rw [mput_ne (by omega), mput_ne (by omega), mput_ne (by omega), mput_ne (by omega), mput_ne (by omega), mput_ne (by omega), mput_ne (by omega)]
            · rw [mput_ne (by omega), mput_ne (by omega), mput_ne (by omega), mput_ne (by omega), mput_ne (by omega), mput_ne (by omega), mput_ne (by omega), mput_ne (by omega)]
            · rw [mput_other (by decide), mput_ne (by decide), mput_ne (by decide), mput_ne (by decide), mput_ne (by decide), mput_ne (by decide), mput_ne (by decide), mput_other (by decide)]
            · rw [mput_other (by decide), mput_ne (by decide), mput_ne (by decide), mput_ne (by decide), mput_ne (by decide), mput_ne (by decide), mput_ne (by decide), mput_other (by decide)]
            · rw [mput_other (by decide), mput_ne (by decide), mput_ne (by decide), mput_ne (by decide), mput_ne (by decide), mput_ne (by decide), mput_ne (by decide), mput_other (by decide)]
            · obtain ⟨-, -, -, e38, e39, e40, e41, e42, e43, e44⟩ := hm.2.2.2.2.1
              refine ⟨c5, ?_, mput_self, ?_, ?_, ?_, ?_, ?_, ?_, ?_⟩
              · rw [mput_ne (by decide), mput_ne (by decide), mput_self]
              · simp [mput_ne, mput_row, e38]
              · simp [mput_ne, mput_row, e39]
              · simp [mput_ne, mput_row, e40]
              · simp [mput_ne, mput_row, e41]
              · simp [mput_ne, mput_row, e42]
              · simp [mput_ne, mput_row, e43]
              · simp [mput_ne, e44]
          · have c5x : ¬ nI q < 20 := q_noroom (N := 20) c5 (by omega)
            have c5m : nI q = 20 := by rw [show q = 20 by omega]; rfl
            refine Or.inl (LT.of 3 3 ?_ (by decide) rfl (by decide) (fun m hm => ?_))
            · simp only [f_X5_addLamp, x_n4_t c1, x_n4_t c2, x_rng_t c3, x_rng_t c4, R.2.2.2.2.1.2.1, x_room_f c5x, bnd, bnX, bnN, q_1ne0, q_n1, q_n2, q_n3, eq_self, not_true_eq_false, not_false_eq_true, ↓reduceIte]
            · simp only [f_X6_addLamp, m_stage_t c1, m_area_t c2, m_in_t c3, m_in_t c4, hm.2.2.2.2.1.2.2.1, c5m, m_fine3, bnd, bnX, bnN, q_1ne0, q_n1, q_n2, q_n3, eq_self, not_true_eq_false, not_false_eq_true, ↓reduceIte]
        · refine Or.inl (LT.of 2 2 ?_ (by decide) rfl (by decide) (fun m hm => ?_))
          · simp only [f_X5_addLamp, x_n4_t c1, x_n4_t c2, x_rng_t c3, x_rng_f c4, bnd, bnX, bnN, q_1ne0, q_n1, q_n2, q_n3, eq_self, not_true_eq_false, not_false_eq_true, ↓reduceIte]
          · simp only [f_X6_addLamp, m_stage_t c1, m_area_t c2, m_in_t c3, m_in_f c4, m_fine2, bnd, bnX, bnN, q_1ne0, q_n1, q_n2, q_n3, eq_self, not_true_eq_false, not_false_eq_true, ↓reduceIte]
      · have c4' : True := trivial
        refine Or.inl (LT.of 2 2 ?_ (by decide) rfl (by decide) (fun m hm => ?_))
        · simp only [f_X5_addLamp, x_n4_t c1, x_n4_t c2, x_rng_f c3, bnd, bnX, bnN, q_1ne0, q_n1, q_n2, q_n3, eq_self, not_true_eq_false, not_false_eq_true, ↓reduceIte]
        · simp only [f_X6_addLamp, m_stage_t c1, m_area_t c2, m_in_f c3, m_fine2, bnd, bnX, bnN, q_1ne0, q_n1, q_n2, q_n3, eq_self, not_true_eq_false, not_false_eq_true, ↓reduceIte]
    · refine Or.inl (LT.of 1 1 ?_ (by decide) rfl (by decide) (fun m hm => ?_))
      · simp only [f_X5_addLamp, x_n4_t c1, x_n4_f c2, bnd, bnX, bnN, q_1ne0, q_n1, q_n2, q_n3, eq_self, not_true_eq_false, not_false_eq_true, ↓reduceIte]
      · by_cases c3 : 0 ≤ p2 ∧ p2 ≤ 2
        · by_cases c4 : 1 ≤ p3 ∧ p3 ≤ 100
          · simp only [f_X6_addLamp, m_stage_t c1, m_area_f c2, m_in_t c3, m_in_t c4, m_fine1, bnd, bnX, bnN, q_1ne0, q_n1, q_n2, q_n3, eq_self, not_true_eq_false, not_false_eq_true, ↓reduceIte]
          · simp only [f_X6_addLamp, m_stage_t c1, m_area_f c2, m_in_t c3, m_in_f c4, m_fine1, bnd, bnX, bnN, q_1ne0, q_n1, q_n2, q_n3, eq_self, not_true_eq_false, not_false_eq_true, ↓reduceIte]
        · simp only [f_X6_addLamp, m_stage_t c1, m_area_f c2, m_in_f c3, m_fine1, bnd, bnX, bnN, q_1ne0, q_n1, q_n2, q_n3, eq_self, not_true_eq_false, not_false_eq_true, ↓reduceIte]
  · refine Or.inl (LT.of 1 1 ?_ (by decide) rfl (by decide) (fun m hm => ?_))
    · simp only [f_X5_addLamp, x_n4_f c1, bnd, bnX, bnN, q_1ne0, q_n1, q_n2, q_n3, eq_self, not_true_eq_false, not_false_eq_true, ↓reduceIte]
    · by_cases c3 : 0 ≤ p2 ∧ p2 ≤ 2
      · by_cases c4 : 1 ≤ p3 ∧ p3 ≤ 100
        · simp only [f_X6_addLamp, m_stage_f c1, m_in_t c3, m_in_t c4, m_fine1, bnd, bnX, bnN, q_1ne0, q_n1, q_n2, q_n3, eq_self, not_true_eq_false, not_false_eq_true, ↓reduceIte]
        · simp only [f_X6_addLamp, m_stage_f c1, m_in_t c3, m_in_f c4, m_fine1, bnd, bnX, bnN, q_1ne0, q_n1, q_n2, q_n3, eq_self, not_true_eq_false, not_false_eq_true, ↓reduceIte]
      · simp only [f_X6_addLamp, m_stage_f c1, m_in_f c3, m_fine1, bnd, bnX, bnN, q_1ne0, q_n1, q_n2, q_n3, eq_self, not_true_eq_false, not_false_eq_true, ↓reduceIte]
theorem x_home {x : aM} {l : Nat} (hl : l < 20) : f_X3_isHome (nI l) x = some (if x 22 l = x 18 l then 1 else 0, x) := by
  unfold f_X3_isHome
  rw [if_pos (q_i20 hl), if_pos (q_i20 hl), ix_nI (by omega)]
  by_cases e : x 22 l = x 18 l
  · rw [if_neg (fun q => q e), if_pos e]
  · rw [if_pos e, if_neg e]
theorem x_can {x : aM} {l : Nat} {s : Int32} (hl : l < 20) : f_X3_canGo (nI l) s x = some (if x 22 l = x 18 l ∧ ¬ x 18 l = s then 1 else 0, x) := by
  unfold f_X3_canGo
  rw [x_home hl]
  simp only [bnd]
  rw [if_pos (q_i20 hl), ix_nI (by omega)]
  by_cases e : x 22 l = x 18 l
  · rw [if_pos e, if_neg q_1ne0]
    by_cases e2 : x 18 l = s
    · rw [if_pos e2, if_neg (fun q => q.2 e2)]
    · rw [if_neg e2, if_pos ⟨e, e2⟩]
  · rw [if_neg e, if_pos rfl, if_neg (fun q => e q.1)]
theorem m_home {n k q g l : Nat} {x m y : aM} (H : RG q x m) (h40 : y 40 = m 40) (h38 : y 38 = m 38) (hl : l < 20) : f_X6_isHome (nI l) y = some (if x 22 l = x 18 l then 1 else 0, y) := by
  unfold f_X6_isHome
  rw [if_pos (q_i20 hl), if_pos (q_i20 hl), ix_nI (by omega), h40, h38, H.2.2.2.1, H.2.2.2.2.2.1]
  by_cases e : x 22 l = x 18 l
  · rw [if_neg (fun q => q e), if_pos e]
  · rw [if_pos e, if_neg e]
theorem RG.put {q l : Nat} {x m : aM} {a b : Int32} (H : RG q x m) : RG q (mput (mput x 22 l a) 23 l b) (mput (mput m 40 l a) 41 l b) := by
  obtain ⟨g1, g2, g3, e38, e39, e40, e41, e42, e43, e44⟩ := H
  refine ⟨g1, ?_, ?_, ?_, ?_, ?_, ?_, ?_, ?_, ?_⟩
  · simp [mput_ne, g2]
  · simp [mput_ne, g3]
  · simp [mput_ne, e38]
  · simp [mput_ne, e39]
  · simp [mput_ne, mput_row, e40]
  · simp [mput_ne, mput_row, e41]
  · simp [mput_ne, e42]
  · simp [mput_ne, e43]
  · simp [mput_ne, e44]
/-- a lamp is put somewhere in both -/
theorem QL.put {n k q g l : Nat} {x m : aM} {a b : Int32} (H : QL n k q g x m) : QL n k q g (mput (mput x 22 l a) 23 l b) (mput (mput m 40 l a) 41 l b) := by
  refine H.lamps (fun a ha => ?_) (fun a ha => ?_) ?_ ?_ ?_ H.2.2.2.2.1.put
  · rw [mput_ne (by omega), mput_ne (by omega)]
  · rw [mput_ne (by omega), mput_ne (by omega)]
  · rw [mput_ne (by decide), mput_ne (by decide)]
  · rw [mput_ne (by decide), mput_ne (by decide)]
  · rw [mput_ne (by decide), mput_ne (by decide)]
theorem k_borrow (p0 p1 p2 : Int32) : LK (f_X5_borrow p0 p1 p2) hc_L_borrow (f_X6_borrow p0 p1 p2) := by
  intro n k q g x R
  have hq := R.2.2.2.2.1.1
  by_cases c1 : inb p0 q = true
  · by_cases c2 : inb p1 4 = true
    · by_cases c3 : inb p2 4 = true
      · obtain ⟨l, hl, rfl⟩ := inb_of c1 (by omega)
        by_cases c4 : x 22 l = x 18 l ∧ ¬ x 18 l = p1
        · refine Or.inr ⟨x 18 l, mput (mput x 22 l p1) 23 l p2, ?_, (KR.put (by decide)).tr (KR.put (by decide)), fun m hm => ⟨mput (mput (mput m 6 0 0) 40 l p1) 41 l p2, ?_, ?_, ((KC.put (by decide)).tr (KC.put (by decide))).tr (KC.put (by decide)), n, k, q, g, (m0_R hm).put⟩⟩
          · have e18 : mput (mput x 22 l p1) 23 l p2 18 l = x 18 l := by rw [mput_ne (by decide), mput_ne (by decide)]
            simp only [f_X5_borrow, R.2.2.2.2.1.2.1, x_num_t (show q < 2 ^ 30 by omega) c1, x_n4_t c2, x_n4_t c3, x_can (show l < 20 by omega), if_pos c4, x_st_1, f_X3_put, q_i20 (show l < 20 by omega), ix_nI (show l < 2 ^ 31 by omega), e18, bnd, bnX, bnN, q_1ne0, q_n1, q_n2, q_n3, eq_self, not_true_eq_false, not_false_eq_true, ↓reduceIte]
          · have c4b : ¬ p1 = x 18 l := fun e => c4.2 e.symm
            simp only [f_X6_borrow, m_lamp_t (show q < 2 ^ 30 by omega) hm.2.2.2.2.1.2.2.1 c1, m_stage_t c2, m_area_t c3, m_home (n := n) (k := k) (g := g) (y := m) hm.2.2.2.2.1 rfl rfl (show l < 20 by omega), if_pos c4.1, q_i20 (show l < 20 by omega), ix_nI (show l < 2 ^ 31 by omega), hm.2.2.2.2.1.2.2.2.1, c4b, m_fine0, q_clr (show ¬ 38 = 6 by decide), bnd, bnX, bnN, q_1ne0, q_n1, q_n2, q_n3, eq_self, not_true_eq_false, not_false_eq_true, ↓reduceIte]
          · rw [mput_ne (by decide), mput_ne (by decide), mput_self]
        · refine Or.inl (LT.of 3 2 ?_ (by decide) rfl (by decide) (fun m hm => ?_))
          · simp only [f_X5_borrow, R.2.2.2.2.1.2.1, x_num_t (show q < 2 ^ 30 by omega) c1, x_n4_t c2, x_n4_t c3, x_can (show l < 20 by omega), if_neg c4, x_st_0, bnd, bnX, bnN, q_1ne0, q_n1, q_n2, q_n3, eq_self, not_true_eq_false, not_false_eq_true, ↓reduceIte]
          · by_cases c5 : x 22 l = x 18 l
            · have c6 : x 18 l = p1 := Decidable.byContradiction fun e => c4 ⟨c5, e⟩
              have c7 : x 22 l = p1 := c5.trans c6
              simp only [f_X6_borrow, m_lamp_t (show q < 2 ^ 30 by omega) hm.2.2.2.2.1.2.2.1 c1, m_stage_t c2, m_area_t c3, m_home (n := n) (k := k) (g := g) (y := m) hm.2.2.2.2.1 rfl rfl (show l < 20 by omega), if_pos c5, if_pos c7, q_i20 (show l < 20 by omega), ix_nI (show l < 2 ^ 31 by omega), hm.2.2.2.2.1.2.2.2.1, c6, m_fine2, bnd, bnX, bnN, q_1ne0, q_n1, q_n2, q_n3, eq_self, not_true_eq_false, not_false_eq_true, ↓reduceIte]
            · simp only [f_X6_borrow, m_lamp_t (show q < 2 ^ 30 by omega) hm.2.2.2.2.1.2.2.1 c1, m_stage_t c2, m_area_t c3, m_home (n := n) (k := k) (g := g) (y := m) hm.2.2.2.2.1 rfl rfl (show l < 20 by omega), if_neg c5, m_fine2, bnd, bnX, bnN, q_1ne0, q_n1, q_n2, q_n3, eq_self, not_true_eq_false, not_false_eq_true, ↓reduceIte]
      · refine Or.inl (LT.of 1 1 ?_ (by decide) rfl (by decide) (fun m hm => ?_))
        · simp only [f_X5_borrow, R.2.2.2.2.1.2.1, x_num_t (show q < 2 ^ 30 by omega) c1, x_n4_t c2, x_n4_f c3, bnd, bnX, bnN, q_1ne0, q_n1, q_n2, q_n3, eq_self, not_true_eq_false, not_false_eq_true, ↓reduceIte]
        · simp only [f_X6_borrow, m_lamp_t (show q < 2 ^ 30 by omega) hm.2.2.2.2.1.2.2.1 c1, m_stage_t c2, m_area_f c3, m_fine1, bnd, bnX, bnN, q_1ne0, q_n1, q_n2, q_n3, eq_self, not_true_eq_false, not_false_eq_true, ↓reduceIte]
    · refine Or.inl (LT.of 1 1 ?_ (by decide) rfl (by decide) (fun m hm => ?_))
      · simp only [f_X5_borrow, R.2.2.2.2.1.2.1, x_num_t (show q < 2 ^ 30 by omega) c1, x_n4_f c2, bnd, bnX, bnN, q_1ne0, q_n1, q_n2, q_n3, eq_self, not_true_eq_false, not_false_eq_true, ↓reduceIte]
      · simp only [f_X6_borrow, m_lamp_t (show q < 2 ^ 30 by omega) hm.2.2.2.2.1.2.2.1 c1, m_stage_f c2, m_fine1, bnd, bnX, bnN, q_1ne0, q_n1, q_n2, q_n3, eq_self, not_true_eq_false, not_false_eq_true, ↓reduceIte]
  · refine Or.inl (LT.of 1 1 ?_ (by decide) rfl (by decide) (fun m hm => ?_))
    · simp only [f_X5_borrow, R.2.2.2.2.1.2.1, x_num_f (show q < 2 ^ 30 by omega) c1, bnd, bnX, bnN, q_1ne0, q_n1, q_n2, q_n3, eq_self, not_true_eq_false, not_false_eq_true, ↓reduceIte]
    · simp only [f_X6_borrow, m_lamp_f (show q < 2 ^ 30 by omega) hm.2.2.2.2.1.2.2.1 c1, m_fine1, bnd, bnX, bnN, q_1ne0, q_n1, q_n2, q_n3, eq_self, not_true_eq_false, not_false_eq_true, ↓reduceIte]
theorem x_putHome {x : aM} {l : Nat} (hl : l < 20) : f_X3_putHome (nI l) x = some (0, mput (mput x 22 l (x 18 l)) 23 l (x 19 l)) := by
  unfold f_X3_putHome f_X3_put
  simp only [q_i20 hl, ix_nI (show l < 2 ^ 31 by omega), ↓reduceIte, bnd]
theorem k_bringBack (p0 : Int32) : LK (f_X5_bringBack p0) hc_L_bringBack (f_X6_bringBack p0) := by
  intro n k q g x R
  have hq := R.2.2.2.2.1.1
  by_cases c1 : inb p0 q = true
  · obtain ⟨l, hl, rfl⟩ := inb_of c1 (by omega)
    by_cases c4 : x 22 l = x 18 l
    · refine Or.inl (LT.of 3 2 ?_ (by decide) rfl (by decide) (fun m hm => ?_))
      · simp only [f_X5_bringBack, R.2.2.2.2.1.2.1, x_num_t (show q < 2 ^ 30 by omega) c1, x_home (show l < 20 by omega), if_pos c4, x_st_0, bnd, bnX, bnN, q_1ne0, q_n1, q_n2, q_n3, eq_self, not_true_eq_false, not_false_eq_true, ↓reduceIte]
      · simp only [f_X6_bringBack, m_lamp_t (show q < 2 ^ 30 by omega) hm.2.2.2.2.1.2.2.1 c1, m_home (n := n) (k := k) (g := g) (y := m) hm.2.2.2.2.1 rfl rfl (show l < 20 by omega), if_pos c4, m_fine2, bnd, bnX, bnN, q_1ne0, q_n1, q_n2, q_n3, eq_self, not_true_eq_false, not_false_eq_true, ↓reduceIte]
    · refine Or.inr ⟨x 22 l, mput (mput x 22 l (x 18 l)) 23 l (x 19 l), ?_, (KR.put (by decide)).tr (KR.put (by decide)), fun m hm => ⟨mput (mput (mput m 6 0 0) 40 l (x 18 l)) 41 l (x 19 l), ?_, ?_, ((KC.put (by decide)).tr (KC.put (by decide))).tr (KC.put (by decide)), n, k, q, g, (m0_R hm).put⟩⟩
      · simp only [f_X5_bringBack, R.2.2.2.2.1.2.1, x_num_t (show q < 2 ^ 30 by omega) c1, x_home (show l < 20 by omega), if_neg c4, x_st_1, q_i20 (show l < 20 by omega), ix_nI (show l < 2 ^ 31 by omega), x_putHome (show l < 20 by omega), bnd, bnX, bnN, q_1ne0, q_n1, q_n2, q_n3, eq_self, not_true_eq_false, not_false_eq_true, ↓reduceIte]
      · obtain ⟨-, -, -, e38, e39, e40, -, -, -, -⟩ := hm.2.2.2.2.1
        have e39' : mput (mput m 6 0 0) 40 l (x 18 l) 39 l = x 19 l := by rw [mput_ne (by decide), mput_ne (by decide), e39]
        simp only [f_X6_bringBack, m_lamp_t (show q < 2 ^ 30 by omega) hm.2.2.2.2.1.2.2.1 c1, m_home (n := n) (k := k) (g := g) (y := m) hm.2.2.2.2.1 rfl rfl (show l < 20 by omega), if_neg c4, m_fine0, q_i20 (show l < 20 by omega), ix_nI (show l < 2 ^ 31 by omega), q_clr (show ¬ 38 = 6 by decide), q_clr (show ¬ 39 = 6 by decide), q_clr (show ¬ 40 = 6 by decide), e38, e39, e40, bnd, bnX, bnN, q_1ne0, q_n1, q_n2, q_n3, eq_self, not_true_eq_false, not_false_eq_true, ↓reduceIte]
      · rw [mput_ne (by decide), mput_ne (by decide), mput_self]
  · refine Or.inl (LT.of 1 1 ?_ (by decide) rfl (by decide) (fun m hm => ?_))
    · simp only [f_X5_bringBack, R.2.2.2.2.1.2.1, x_num_f (show q < 2 ^ 30 by omega) c1, bnd, bnX, bnN, q_1ne0, q_n1, q_n2, q_n3, eq_self, not_true_eq_false, not_false_eq_true, ↓reduceIte]
    · simp only [f_X6_bringBack, m_lamp_f (show q < 2 ^ 30 by omega) hm.2.2.2.2.1.2.2.1 c1, m_fine1, bnd, bnX, bnN, q_1ne0, q_n1, q_n2, q_n3, eq_self, not_true_eq_false, not_false_eq_true, ↓reduceIte]
theorem k_replace (p0 : Int32) : LK (f_X5_replace p0) hc_L_replace (f_X6_replace p0) := by
  intro n k q g x R
  have hq := R.2.2.2.2.1.1
  by_cases c1 : inb p0 q = true
  · obtain ⟨l, hl, rfl⟩ := inb_of c1 (by omega)
    refine Or.inr ⟨x 24 l, mput x 24 l 0, ?_, KR.put (by decide), fun m hm => ⟨mput (mput m 6 0 0) 44 l 0, ?_, ?_, (KC.put (by decide)).tr (KC.put (by decide)), n, k, q, g, hm.lamps (fun a ha => ?_) (fun a ha => ?_) ?_ ?_ ?_ ?_⟩⟩
    · simp only [f_X5_replace, R.2.2.2.2.1.2.1, x_num_t (show q < 2 ^ 30 by omega) c1, q_i20 (show l < 20 by omega), ix_nI (show l < 2 ^ 31 by omega), bnd, bnX, bnN, q_1ne0, q_n1, q_n2, q_n3, eq_self, not_true_eq_false, not_false_eq_true, ↓reduceIte]
    · simp only [f_X6_replace, m_lamp_t (show q < 2 ^ 30 by omega) hm.2.2.2.2.1.2.2.1 c1, m_fine0, q_i20 (show l < 20 by omega), ix_nI (show l < 2 ^ 31 by omega), q_clr (show ¬ 44 = 6 by decide), hm.2.2.2.2.1.2.2.2.2.2.2.2.2.2, bnd, bnX, bnN, q_1ne0, q_n1, q_n2, q_n3, eq_self, not_true_eq_false, not_false_eq_true, ↓reduceIte]
    · rw [mput_ne (by decide), mput_self]
    · rw [mput_ne (by omega)]
    · rw [mput_ne (by omega), mput_ne (by omega)]
    · rw [mput_ne (by decide), mput_other (by decide)]
    · rw [mput_ne (by decide), mput_other (by decide)]
    · rw [mput_ne (by decide), mput_other (by decide)]
    · obtain ⟨g1, g2, g3, e38, e39, e40, e41, e42, e43, e44⟩ := hm.2.2.2.2.1
      refine ⟨g1, ?_, ?_, ?_, ?_, ?_, ?_, ?_, ?_, ?_⟩
      · simp [mput_ne, g2]
      · simp [mput_ne, mput_other, g3]
      · simp [mput_ne, e38]
      · simp [mput_ne, e39]
      · simp [mput_ne, e40]
      · simp [mput_ne, e41]
      · simp [mput_ne, e42]
      · simp [mput_ne, e43]
      · simp [mput_ne, mput_row, e44]
  · refine Or.inl (LT.of 1 1 ?_ (by decide) rfl (by decide) (fun m hm => ?_))
    · simp only [f_X5_replace, R.2.2.2.2.1.2.1, x_num_f (show q < 2 ^ 30 by omega) c1, bnd, bnX, bnN, q_1ne0, q_n1, q_n2, q_n3, eq_self, not_true_eq_false, not_false_eq_true, ↓reduceIte]
    · simp only [f_X6_replace, m_lamp_f (show q < 2 ^ 30 by omega) hm.2.2.2.2.1.2.2.1 c1, m_fine1, bnd, bnX, bnN, q_1ne0, q_n1, q_n2, q_n3, eq_self, not_true_eq_false, not_false_eq_true, ↓reduceIte]
