/-! a performance: the reference; both -/
def xv (x : aM) (q g : Nat) (s : Int32) (i : Nat) : aM := mrow (mput x 26 g s) (158 + g) i (SH q x s)
theorem KY.xve {x : aM} {q g i : Nat} {s : Int32} (hg : g < 20) : KY x (xv x q g s i) := (KY.put (by decide)).tr (KY.row (by omega))
/-- one line is written into both logs -/
theorem QL.log {n k q g i : Nat} {v y : aM} {w : Int32} (H : QL n k q g v y) (hg : g < 20) (hi : i < 30) : QL n k q g (mput v (158 + g) i w) (mput y 46 (30 * g + i) w) := by
  obtain ⟨r1, r2, r3, r4, r5, ⟨g1, g2, g3, g4, g5⟩⟩ := H
  refine ⟨r1.cg (fun a ha => mput_ne (by omega)) (by rw [mput_ne (by decide)]) (fun a ha => mput_ne (by omega)), r2.cg (mput_ne (by omega)) (mput_ne (by omega)) (mput_ne (by omega)) (mput_ne (by omega)), r3.cg (by rw [mput_ne (by omega)]) (fun a ha => mput_ne (by omega)) (by rw [mput_ne (by decide)]) (fun a ha => mput_ne (by omega)), r4.ka r3.1.1 (fun a ha => mput_ne (by omega)) (fun c _ => qc_t_eq (mput_ne (by omega)) (mput_ne (by omega)) (mput_ne (by omega)) (mput_ne (by omega))), r5.cg (fun a ha => mput_ne (by omega)) (by rw [mput_ne (by decide)]) (fun a ha => mput_ne (by omega)), g1, ?_, ?_, ?_, fun u l hu hl => ?_⟩
  · rw [mput_ne (by omega)]; exact g2
  · rw [mput_ne (by decide)]; exact g3
  · rw [mput_ne (by decide), mput_ne (by omega)]; exact g4
  · by_cases e : u = g ∧ l = i
    · rw [e.1, e.2, mput_self, mput_self]
    · rw [mput_other (by omega), g5 u l hu hl]
      by_cases e2 : u = g
      · rw [e2, mput_other (by omega)]
      · rw [mput_ne (by omega)]
/-- the stage is written into both logs -/
theorem QL.stg {n k q g : Nat} {v y : aM} {w : Int32} (H : QL n k q g v y) : QL n k q g (mput v 26 g w) (mput y 45 g w) := by
  obtain ⟨r1, r2, r3, r4, r5, ⟨g1, g2, g3, g4, g5⟩⟩ := H
  refine ⟨r1.cg (fun a ha => mput_ne (by omega)) (by rw [mput_ne (by decide)]) (fun a ha => mput_ne (by omega)), r2.cg (mput_ne (by omega)) (mput_ne (by omega)) (mput_ne (by omega)) (mput_ne (by omega)), r3.cg (by rw [mput_ne (by omega)]) (fun a ha => mput_ne (by omega)) (by rw [mput_ne (by decide)]) (fun a ha => mput_ne (by omega)), r4.ka r3.1.1 (fun a ha => mput_ne (by omega)) (fun c _ => qc_t_eq (mput_ne (by omega)) (mput_ne (by omega)) (mput_ne (by omega)) (mput_ne (by omega))), r5.cg (fun a ha => mput_ne (by omega)) (by rw [mput_ne (by decide)]) (fun a ha => mput_ne (by omega)), g1, ?_, ?_, ?_, fun u l hu hl => ?_⟩
  · rw [mput_ne (by omega)]; exact g2
  · rw [mput_ne (by decide)]; exact g3
  · rw [mput_row, mput_row, g4]
  · rw [mput_ne (by decide), mput_ne (by omega)]; exact g5 u l hu hl
/-- one log more in both -/
theorem QL.cnt {n k q g : Nat} {v y : aM} (H : QL n k q g v y) (hg : g < 20) : QL n k q (g + 1) (mput v 5 2 (nI (g + 1))) (mput y 6 22 (nI (g + 1))) := by
  obtain ⟨r1, r2, r3, r4, r5, ⟨g1, g2, g3, g4, g5⟩⟩ := H
  refine ⟨r1.cg (fun a ha => mput_ne (by omega)) (by rw [mput_other (by decide)]) (fun a ha => mput_ne (by omega)), r2.cg (mput_ne (by omega)) (mput_ne (by omega)) (mput_ne (by omega)) (mput_ne (by omega)), r3.cg (by rw [mput_ne (by omega)]) (fun a ha => mput_ne (by omega)) (by rw [mput_other (by decide)]) (fun a ha => mput_ne (by omega)), r4.ka r3.1.1 (fun a ha => mput_ne (by omega)) (fun c _ => qc_t_eq (mput_ne (by omega)) (mput_ne (by omega)) (mput_ne (by omega)) (mput_ne (by omega))), r5.cg (fun a ha => mput_ne (by omega)) (by rw [mput_other (by decide)]) (fun a ha => mput_ne (by omega)), hg, mput_self, mput_self, ?_, fun u l hu hl => ?_⟩
  · rw [mput_ne (by decide), mput_ne (by omega)]; exact g4
  · rw [mput_ne (by decide), mput_ne (by omega)]; exact g5 u l hu hl
theorem m_plog {n k q g : Nat} {x : aM} {s r0 : Int32} (hg : g < 20) (kk : Int32 → Int32 → aM → Option (Int32 × aM)) : ∀ (d i fu : Nat) (y : aM), i + d = n → d < fu → QL n k q g (xv x q g s i) y → PM n k x y → (∀ h, h < 10 → y 50 h = LD q x s h) → ∃ y', l_X6_perform_71 s r0 fu (nI (qd_n (SH q x s) i)) (nI i) y kk = kk (nI (qd_n (SH q x s) n)) (nI n) y' ∧ QL n k q g (xv x q g s n) y' ∧ PM n k x y' ∧ (∀ h, h < 10 → y' 50 h = LD q x s h) ∧ y' 6 0 = y 6 0 ∧ KC y y' := by
  intro d
  induction d with
  | zero =>
    intro i fu y hi hf H hM h50
    obtain ⟨fu, rfl⟩ : ∃ z, fu = z + 1 := ⟨fu - 1, by omega⟩
    obtain rfl : i = n := by omega
    have hn := H.1.1
    refine ⟨y, ?_, H, hM, h50, rfl, KC.rf⟩
    rw [l_X6_perform_71, H.1.2.2.1, if_pos (q_le_self (by omega))]
  | succ d ih =>
    intro i fu y hi hf H hM h50
    obtain ⟨fu, rfl⟩ : ∃ z, fu = z + 1 := ⟨fu - 1, by omega⟩
    have hn := H.1.1
    have hY : KY x (xv x q g s i) := KY.xve hg
    have b1 := m_short (s := s) H (hM.kv hY.kv) (show i < n by omega) (fun h hh => by rw [h50 h hh, LD_ky hY])
    rw [SH_ky hY (by omega)] at b1
    have hE : E5 y (if xv x q g s i 8 i = 0 then mrow y 51 10 (fun h => LV (xv x q g s i) h (lastS (xv x q g s i) i)) else y) ∧ (if xv x q g s i 8 i = 0 then mrow y 51 10 (fun h => LV (xv x q g s i) h (lastS (xv x q g s i) i)) else y) 50 = y 50 := by
      split
      · exact ⟨fun a h1 h2 => mrow_ne h2, mrow_ne (by decide)⟩
      · exact ⟨E5.rf, rfl⟩
    generalize hy1 : (if xv x q g s i 8 i = 0 then mrow y 51 10 (fun h => LV (xv x q g s i) h (lastS (xv x q g s i) i)) else y) = y1 at b1 hE
    have R1 : QL n k q g (xv x q g s (i + 1)) (mput y1 46 (30 * g + i) (SH q x s i)) := by
      have := (H.km hE.1.km).log (i := i) (w := SH q x s i) hg (by omega)
      unfold xv at this ⊢
      rw [mrow_s] at this
      exact this
    have M1 : PM n k x (mput y1 46 (30 * g + i) (SH q x s i)) := (hE.1.pm hM).mc (mput_ne (by decide)) (mput_ne (by decide)) (mput_ne (by decide)) (mput_ne (by decide))
    obtain ⟨y', j1, j2, j3, j4, j5, j6⟩ := ih (i + 1) fu (mput y1 46 (30 * g + i) (SH q x s i)) (by omega) (by omega) R1 M1 (fun h hh => by rw [mput_ne (by decide), hE.2]; exact h50 h hh)
    refine ⟨y', ?_, j2, j3, j4, ?_, (hE.1.kc.tr (KC.put (by decide))).tr j6⟩
    · rw [← j1, l_X6_perform_71, H.1.2.2.1, if_neg (nI_ge (by omega) (by omega)), b1]
      simp only [bnd]
      rw [hE.1 6 (by decide) (by decide), H.2.2.2.2.2.2.2.1, q_30, if_pos (inb_nI (show 30 * g + i < 600 by omega) (by decide)), ix_nI (show 30 * g + i < 2 ^ 31 by omega), nI_1, nI_1, Int32.add_zero, qd_n]
      by_cases e : SH q x s i = 0
      · rw [if_pos e, if_pos e]
      · rw [if_neg e, if_neg e]
    · rw [j5, mput_ne (by decide), hE.1 6 (by decide) (by decide)]
/-- the reference's rows behind t seconds -/
def zM (x b : aM) (q : Nat) (s : Int32) : Nat → aM
  | 0 => mrow b 52 q (fun _ => 0)
  | t + 1 => mrow (mrow (zM x b q s t) 51 10 (fun h => LV x h (nI t))) 52 q (fun l => qg_B x q s l (t + 1))
theorem zM_ne {x b : aM} {q a : Nat} {s : Int32} (h : ¬ a = 52) (h2 : ¬ a = 51) : ∀ t, zM x b q s t a = b a
  | 0 => mrow_ne h
  | t + 1 => by
    unfold zM
    rw [mrow_ne h, mrow_ne h2, zM_ne h h2 t]
theorem zM_52 {x b : aM} {q l : Nat} {s : Int32} (hl : l < q) : ∀ t, zM x b q s t 52 l = qg_B x q s l t
  | 0 => by
    unfold zM
    rw [mrow_at hl]
    rfl
  | t + 1 => by
    unfold zM
    rw [mrow_at hl]
theorem m_burns {x w : aM} {q t : Nat} {s a b : Int32} (hq : q ≤ 20) (h19 : w 6 19 = nI q) (e40 : w 40 = x 22) (e44 : w 44 = x 24) (h50 : ∀ h, h < 10 → w 50 h = LD q x s h) (h51 : ∀ h, h < 10 → w 51 h = LV x h (nI t)) (h52 : ∀ l, l < q → w 52 l = qg_B x q s l t) (kk : Int32 → aM → Option (Int32 × aM)) : l_X6_wears_47 s a b lf 0 w kk = kk (nI q) (mrow w 52 q (fun l => qg_B x q s l (t + 1))) := by
  have key : l_X6_wears_47 s a b lf (nI 0) (mrow w 52 0 (fun l => qg_B x q s l (t + 1))) kk = kk (nI q) (mrow w 52 q (fun l => qg_B x q s l (t + 1))) := by
    refine qa_loop0 (fun fu i => l_X6_wears_47 s a b fu (nI i) (mrow w 52 i (fun l => qg_B x q s l (t + 1))) kk) q _ lf (lf_gt (by omega)) (fun i fu hi => ?_) (fun fu => ?_)
    · show l_X6_wears_47 s a b (fu + 1) (nI i) (mrow w 52 i (fun l => qg_B x q s l (t + 1))) kk = l_X6_wears_47 s a b fu (nI (i + 1)) (mrow w 52 (i + 1) (fun l => qg_B x q s l (t + 1))) kk
      have hlv := m_lampNow (m := mrow w 52 i (fun l => qg_B x q s l (t + 1))) (l := i) (ld := LD q x s) (lv := fun h => LV x h (nI t)) (by omega) (fun h hh => by rw [mrow_ne (by decide)]; exact h50 h hh) (fun h hh => by rw [mrow_ne (by decide)]; exact h51 h hh)
      rw [l_X6_wears_47, mrow_ne (show ¬ 6 = 52 by decide), h19, if_neg (nI_ge hi (by omega)), hlv, mrow_ne (show ¬ 40 = 52 by decide), mrow_ne (show ¬ 44 = 52 by decide), e40, e44, ix_nI (show i < 2 ^ 31 by omega), nI_1]
      simp only [bnd, if_pos (q_i20 (show i < 20 by omega)), mrow_out (Nat.lt_irrefl i), h52 i hi, Int32.add_zero]
      rw [← mrow_s (i := i)]
      by_cases e1 : x 22 i = s
      · rw [if_neg (fun z => z e1)]
        by_cases e2 : qa_L (x 24) (LD q x s) (fun h => LV x h (nI t)) i ≤ 0
        · have e3 : qg_B x q s i (t + 1) = qg_B x q s i t := by rw [qg_B, if_neg (fun z => i_nlt.mpr e2 z.2)]
          rw [if_pos e2, e3]
        · have e3 : qg_B x q s i (t + 1) = qg_B x q s i t + 1 := by rw [qg_B, if_pos ⟨e1, i_nle.mp e2⟩]
          rw [if_neg e2, e3]
      · have e3 : qg_B x q s i (t + 1) = qg_B x q s i t := by rw [qg_B, if_neg (fun z => e1 z.1)]
        rw [if_pos e1, e3]
    · show l_X6_wears_47 s a b (fu + 1) (nI q) _ kk = _
      rw [l_X6_wears_47, mrow_ne (show ¬ 6 = 52 by decide), h19, if_pos (q_le_self (by omega))]
  rw [mrow_0] at key
  exact key
theorem m_wear0 {w : aM} {q : Nat} {s : Int32} (hq : q ≤ 20) (h19 : w 6 19 = nI q) (kk : Int32 → aM → Option (Int32 × aM)) : l_X6_wears_2 s lf 0 w kk = kk (nI q) (mrow w 52 q (fun _ => 0)) := by
  have key : l_X6_wears_2 s lf (nI 0) (mrow w 52 0 (fun _ => 0)) kk = kk (nI q) (mrow w 52 q (fun _ => 0)) := by
    refine qa_loop0 (fun fu i => l_X6_wears_2 s fu (nI i) (mrow w 52 i (fun _ => 0)) kk) q _ lf (lf_gt (by omega)) (fun i fu hi => ?_) (fun fu => ?_)
    · show l_X6_wears_2 s (fu + 1) (nI i) (mrow w 52 i (fun _ => 0)) kk = l_X6_wears_2 s fu (nI (i + 1)) (mrow w 52 (i + 1) (fun _ => 0)) kk
      rw [l_X6_wears_2, mrow_ne (show ¬ 6 = 52 by decide), h19, if_neg (nI_ge hi (by omega)), if_pos (q_i20 (show i < 20 by omega)), ix_nI (show i < 2 ^ 31 by omega), nI_1, ← mrow_s (i := i)]
    · show l_X6_wears_2 s (fu + 1) (nI q) _ kk = _
      rw [l_X6_wears_2, mrow_ne (show ¬ 6 = 52 by decide), h19, if_pos (q_le_self (by omega))]
  rw [mrow_0] at key
  exact key
theorem m_wear2 {z : aM} {q : Nat} {s a : Int32} (hq : q ≤ 20) (h19 : z 6 19 = nI q) (kk : Int32 → aM → Option (Int32 × aM)) : l_X6_wears_105 s a lf 0 z kk = kk (nI q) (mrow z 44 q (fun l => z 44 l + z 52 l)) := by
  have key : l_X6_wears_105 s a lf (nI 0) (mrow z 44 0 (fun l => z 44 l + z 52 l)) kk = kk (nI q) (mrow z 44 q (fun l => z 44 l + z 52 l)) := by
    refine qa_loop0 (fun fu i => l_X6_wears_105 s a fu (nI i) (mrow z 44 i (fun l => z 44 l + z 52 l)) kk) q _ lf (lf_gt (by omega)) (fun i fu hi => ?_) (fun fu => ?_)
    · show l_X6_wears_105 s a (fu + 1) (nI i) (mrow z 44 i (fun l => z 44 l + z 52 l)) kk = l_X6_wears_105 s a fu (nI (i + 1)) (mrow z 44 (i + 1) (fun l => z 44 l + z 52 l)) kk
      rw [l_X6_wears_105, mrow_ne (show ¬ 6 = 44 by decide), h19, if_neg (nI_ge hi (by omega)), if_pos (q_i20 (show i < 20 by omega)), if_pos (q_i20 (show i < 20 by omega)), if_pos (q_i20 (show i < 20 by omega)), ix_nI (show i < 2 ^ 31 by omega), mrow_out (Nat.lt_irrefl i), mrow_ne (show ¬ 52 = 44 by decide), nI_1, ← mrow_s (i := i)]
    · show l_X6_wears_105 s a (fu + 1) (nI q) _ kk = _
      rw [l_X6_wears_105, mrow_ne (show ¬ 6 = 44 by decide), h19, if_pos (q_le_self (by omega))]
  rw [mrow_0] at key
  exact key
theorem m_wears {n k q g T : Nat} {x v b : aM} {s : Int32} (H : QL n k q g v b) (hY : KY x v) (hM : PM n k x b) (h50 : ∀ h, h < 10 → b 50 h = LD q x s h) (hT : sa (x 7) (x 8) n = nI T) (hT2 : T ≤ 1000) : f_X6_wears s b = some (0, mrow (zM x b q s T) 44 q (fun l => x 24 l + qg_B x q s l T)) := by
  obtain ⟨hq, -, e19, -, -, e40, -, -, -, e44⟩ := H.2.2.2.2.1
  have kz : ∀ t, KM b (zM x b q s t) := fun t => ⟨fun a ha => zM_ne (by omega) (by omega) t, by rw [zM_ne (by decide) (by decide) t], by rw [zM_ne (by decide) (by decide) t], by rw [zM_ne (by decide) (by decide) t], by rw [zM_ne (by decide) (by decide) t]⟩
  have mz : ∀ t, PM n k x (zM x b q s t) := fun t => hM.mc (zM_ne (by decide) (by decide) t) (zM_ne (by decide) (by decide) t) (zM_ne (by decide) (by decide) t) (zM_ne (by decide) (by decide) t)
  have hl : ∀ kk : Int32 → aM → Option (Int32 × aM), l_X6_wears_34 s (nI T) lf 0 (mrow b 52 q (fun _ => 0)) kk = kk (nI T) (zM x b q s T) := by
    intro kk
    have key : l_X6_wears_34 s (nI T) lf (nI 0) (zM x b q s 0) kk = kk (nI T) (zM x b q s T) := by
      refine qa_loop0 (fun fu t => l_X6_wears_34 s (nI T) fu (nI t) (zM x b q s t) kk) T _ lf (lf_gt (by omega)) (fun t fu ht => ?_) (fun fu => ?_)
      · show l_X6_wears_34 s (nI T) (fu + 1) (nI t) (zM x b q s t) kk = l_X6_wears_34 s (nI T) fu (nI (t + 1)) (zM x b q s (t + 1)) kk
        have b1 := m_lights (t := t) (H.km (kz t)) ((mz t).kv hY.kv) (by omega)
        have e1 : (fun h => LV v h (nI t)) = fun h => LV x h (nI t) := by
          funext h
          rw [hY.LVe]
        rw [e1] at b1
        rw [l_X6_wears_34, if_neg (nI_ge ht (by omega)), b1]
        simp only [bnd]
        rw [m_burns (x := x) (w := mrow (zM x b q s t) 51 10 (fun h => LV x h (nI t))) (q := q) (t := t) hq (by rw [mrow_ne (by decide), (kz t).2.2.2.1]; exact e19) (by rw [mrow_ne (by decide), (kz t).1 40 (by omega), e40, hY 22 (by omega)]) (by rw [mrow_ne (by decide), (kz t).1 44 (by omega), e44, hY 24 (by omega)]) (fun h hh => by rw [mrow_ne (by decide), zM_ne (by decide) (by decide) t]; exact h50 h hh) (fun h hh => by rw [mrow_at hh]) (fun l hl => by rw [mrow_ne (by decide), zM_52 hl t])]
        rw [nI_1]
        rfl
      · show l_X6_wears_34 s (nI T) (fu + 1) (nI T) _ kk = _
        rw [l_X6_wears_34, if_pos (q_le_self (by omega))]
    exact key
  unfold f_X6_wears
  rw [m_wear0 hq e19]
  have e9 : f_X6_ahead (mrow b 52 q (fun _ => 0) 6 4) (mrow b 52 q (fun _ => 0)) = some (nI T, mrow b 52 q (fun _ => 0)) := by
    have h := m_total H.1 (y := mrow b 52 q (fun _ => 0)) (by rw [mrow_ne (by decide)]) (mrow_ne (by decide)) (mrow_ne (by decide))
    rw [h, hY 7 (by omega), hY 8 (by omega), hT]
  rw [e9]
  simp only [bnd]
  rw [hl, m_wear2 hq (by rw [(kz T).2.2.2.1]; exact e19)]
  rw [mrow_cg (f' := fun l => x 24 l + qg_B x q s l T) (fun l hl => by rw [(kz T).1 44 (by omega), e44, hY 24 (by omega), zM_52 hl T])]
theorem k_perform (p0 : Int32) : LK (f_X5_perform p0) hc_L_perform (f_X6_perform p0) := by
  intro n k q g x R
  have hq := R.2.2.2.2.1.1
  have hn := R.1.1
  have hg0 := R.2.2.2.2.2.1
  obtain ⟨T, hT1, hT⟩ := sa_nat (x8 := x 8) R.1.2.2.2.2.2.1 n (Nat.le_refl n)
  have hT2 : T ≤ 1000 := by omega
  have xt : f_X4_total x = some (nI T, x) := by rw [x_total R.1 rfl rfl rfl, hT]
  have mt : ∀ m, QL n k q g x m → f_X6_ahead (nI n) m = some (nI T, m) := fun m hm => by
    have h := m_total hm.1 (y := m) rfl rfl rfl
    rw [hm.1.2.2.1, hT] at h
    exact h
  by_cases c1 : inb p0 4 = true
  · by_cases c2 : T = 0
    · have e1 : nI T ≤ 0 := by rw [c2]; exact Int32.le_refl 0
      have e2 : nI T = 0 := by rw [c2]; rfl
      refine Or.inl (LT.of 3 2 ?_ (by decide) rfl (by decide) (fun m hm => ?_))
      · simp only [f_X5_perform, x_n4_t c1, xt, if_pos e1, x_st_0, bnd, bnX, bnN, q_1ne0, q_n1, q_n2, q_n3, eq_self, not_true_eq_false, not_false_eq_true, ↓reduceIte]
      · simp only [f_X6_perform, m_stage_t c1, hm.1.2.2.1, mt m hm, if_pos e2, m_fine2, bnd, bnX, bnN, q_1ne0, q_n1, q_n2, q_n3, eq_self, not_true_eq_false, not_false_eq_true, ↓reduceIte]
    · have e1 : ¬ nI T ≤ 0 := nI_nle (by omega) (by omega)
      have e2 : ¬ nI T = 0 := nI_ne0 (by omega) (by omega)
      by_cases c3 : g < 20
      · have c3x : nI g < 20 := q_room (N := 20) c3 (by decide)
        have c3m : ¬ nI g = 20 := fun e => absurd ((nI_eq (a := g) (b := 20) (by omega) (by decide)).mp e) (by omega)
        have h48 := R.2.2.2.2.1.2.1
        have h52 := R.2.2.2.2.2.2.1
        have hE : KX x (mE x n) := KX.mEe hn
        have hER : KR x (mE x n) := fun a ha => mE_ne (by omega)
        have b1 := x_readEnds R.px hn R.1.2.1
        have b2 := x_count (s := p0) hn R.1.2.1 hq h48 hE.ky EN.of
        have hC : KX x (mrow (mE x n) 28 10 (LD q x p0)) := hE.tr (KX.row (by decide))
        have hCR : KR x (mrow (mE x n) 28 10 (LD q x p0)) := hER.tr (KR.row (by decide))
        have hC28 : ∀ h, h < 10 → mrow (mE x n) 28 10 (LD q x p0) 28 h = LD q x p0 h := fun h hh => mrow_at hh
        have hCE : EN n x (mrow (mE x n) 28 10 (LD q x p0)) := fun l hl h8 c hh => (congrFun (mrow_ne (by omega)) c).trans (EN.of l hl h8 c hh)
        generalize hxC : mrow (mE x n) 28 10 (LD q x p0) = xC at b2 hC hCR hC28 hCE
        have b3 := x_writeLog (s := p0) hn R.1.2.1 hq h48 c3 (by rw [hC 5 (by omega)]; exact h52) hC.ky hC28 hCE
        have hW : KX (mrow (mput (mput x 26 g p0) 5 2 (nI (g + 1))) (158 + g) n (SH q x p0)) (mrow (mput (mput xC 26 g p0) 5 2 (nI (g + 1))) (158 + g) n (SH q x p0)) := hC.bothP.bothP.bothR
        have hWR : KR x (mrow (mput (mput xC 26 g p0) 5 2 (nI (g + 1))) (158 + g) n (SH q x p0)) := ((hCR.tr (KR.put (by decide))).tr (KR.put (by decide))).tr (KR.row (by omega))
        have hWY : KY x (mrow (mput (mput xC 26 g p0) 5 2 (nI (g + 1))) (158 + g) n (SH q x p0)) := ((hC.ky.tr (KY.put (by decide))).tr (KY.put (by decide))).tr (KY.row (by omega))
        have hW28 : ∀ h, h < 10 → mrow (mput (mput xC 26 g p0) 5 2 (nI (g + 1))) (158 + g) n (SH q x p0) 28 h = LD q x p0 h := fun h hh => by
          rw [mrow_ne (by omega), mput_ne (by decide), mput_ne (by decide)]
          exact hC28 h hh
        generalize hxW : mrow (mput (mput xC 26 g p0) 5 2 (nI (g + 1))) (158 + g) n (SH q x p0) = xW at b3 hW hWR hWY hW28
        have b4 := x_wearOut (x := x) (b := xW) (s := p0) (T := T) hn R.1.2.1 hq h48 R.px hWY hW28 hT hT2
        have hZ : KX xW (zC x xW q p0 T) := fun a ha => zC_ne (by omega) (by omega) T
        have hZR : KR xW (zC x xW q p0 T) := fun a ha => zC_ne (by omega) (by omega) T
        refine Or.inr ⟨nI (qd_n (SH q x p0) n), mrow (zC x xW q p0 T) 24 q (fun l => x 24 l + qg_B x q p0 l T), ?_, (hWR.tr hZR).tr (KR.row (by decide)), fun m hm => ?_⟩
        · have e13 : mE x n 5 2 = nI g := by rw [hE 5 (by omega)]; exact h52
          simp only [f_X5_perform, x_n4_t c1, xt, if_neg e1, x_st_1, h52, x_room_t c3x, b1, b2, b3, b4, bnd, bnX, bnN, q_1ne0, q_n1, q_n2, q_n3, eq_self, not_true_eq_false, not_false_eq_true, ↓reduceIte]
        · obtain ⟨m', d1, d2, d3, d4, d5, d6⟩ := m_begin hm
          have f1 := m_lay2 (s := p0) d5
          have hK1 : KM m' (mrow m' 50 10 (LD q x p0)) := KM.row (by decide)
          have R0 : QL n k q g (xv x q g p0 0) (mput (mrow m' 50 10 (LD q x p0)) 45 g p0) := by
            have := (d5.km hK1).stg (w := p0)
            unfold xv
            rw [mrow_0]
            exact this
          have M0 : PM n k x (mput (mrow m' 50 10 (LD q x p0)) 45 g p0) := (d6.row (a := 50) (i := 10) (f := LD q x p0) (by decide)).mc (mput_ne (by decide)) (mput_ne (by decide)) (mput_ne (by decide)) (mput_ne (by decide))
          obtain ⟨y, g1, g2, g3, g4, g5, g6⟩ := m_plog (n := n) (k := k) (q := q) (x := x) (s := p0) (r0 := 1) c3 (fun v49 v50 σ51 => bnd (f_X6_wears p0 (mput σ51 6 22 ((σ51 6 22) + 1))) (fun r52 σ53 => some (v49, σ53))) n 0 lf (mput (mrow m' 50 10 (LD q x p0)) 45 g p0) (by omega) (lf_gt (by omega)) R0 M0 (fun h hh => by rw [mput_ne (by decide), mrow_at hh])
          have e22 : mrow m' 50 10 (LD q x p0) 6 22 = nI g := by rw [mrow_ne (by decide)]; exact d5.2.2.2.2.2.2.2.1
          have R1 : QL n k q (g + 1) (mput (xv x q g p0 n) 5 2 (nI (g + 1))) (mput y 6 22 (nI (g + 1))) := g2.cnt c3
          have hY1 : KY x (mput (xv x q g p0 n) 5 2 (nI (g + 1))) := (KY.xve c3).tr (KY.put (by decide))
          have M1 : PM n k x (mput y 6 22 (nI (g + 1))) := by
            obtain ⟨z1, z2, z3, z4⟩ := g3
            refine ⟨?_, fun p hp => ?_, fun l hl => ?_, fun j hj => ?_⟩
            · rw [mput_other (by decide)]; exact z1
            · rw [mput_ne (by decide)]; exact z2 p hp
            · rw [mput_ne (by decide)]; exact z3 l hl
            · rw [mput_ne (by decide)]; exact z4 j hj
          have f2 := m_wears (s := p0) R1 hY1 M1 (fun h hh => by rw [mput_ne (by decide)]; exact g4 h hh) hT hT2
          have kz : KM (mput y 6 22 (nI (g + 1))) (zM x (mput y 6 22 (nI (g + 1))) q p0 T) := ⟨fun a ha => zM_ne (by omega) (by omega) T, by rw [zM_ne (by decide) (by decide) T], by rw [zM_ne (by decide) (by decide) T], by rw [zM_ne (by decide) (by decide) T], by rw [zM_ne (by decide) (by decide) T]⟩
          have R2 := R1.km kz
          generalize hyT : zM x (mput y 6 22 (nI (g + 1))) q p0 T = yT at f2 kz R2
          have hyTne : ∀ a, ¬ a = 52 → ¬ a = 51 → yT a = mput y 6 22 (nI (g + 1)) a := fun a h1 h2 => by rw [← hyT]; exact zM_ne h1 h2 T
          have R3 : QL n k q (g + 1) (mrow (mput (xv x q g p0 n) 5 2 (nI (g + 1))) 24 q (fun l => x 24 l + qg_B x q p0 l T)) (mrow yT 44 q (fun l => x 24 l + qg_B x q p0 l T)) := by
            refine R2.lamps (fun a ha => mrow_ne (by omega)) (fun a ha => mrow_ne (by omega)) (by rw [mrow_ne (by decide)]) (by rw [mrow_ne (by decide)]) (by rw [mrow_ne (by decide)]) ?_
            obtain ⟨z1, z2, z3, e38, e39, e40, e41, e42, e43, e44⟩ := R2.2.2.2.2.1
            refine ⟨z1, ?_, ?_, ?_, ?_, ?_, ?_, ?_, ?_, ?_⟩
            · rw [mrow_ne (by decide)]; exact z2
            · rw [mrow_ne (by decide)]; exact z3
            · rw [mrow_ne (by decide), mrow_ne (by decide)]; exact e38
            · rw [mrow_ne (by decide), mrow_ne (by decide)]; exact e39
            · rw [mrow_ne (by decide), mrow_ne (by decide)]; exact e40
            · rw [mrow_ne (by decide), mrow_ne (by decide)]; exact e41
            · rw [mrow_ne (by decide), mrow_ne (by decide)]; exact e42
            · rw [mrow_ne (by decide), mrow_ne (by decide)]; exact e43
            · rw [mrow_row, mrow_row, e44]
          refine ⟨mrow yT 44 q (fun l => x 24 l + qg_B x q p0 l T), ?_, ?_, ?_, n, k, q, g + 1, R3.kx ?_⟩
          · simp only [f_X6_perform, m_stage_t c1, hm.1.2.2.1, mt m hm, if_neg e2, hm.2.2.2.2.2.2.2.1, c3m, m_fine0, d1, f1, e22, q_i20 c3, ix_nI (show g < 2 ^ 31 by omega), bnd, bnX, bnN, q_1ne0, q_n1, q_n2, q_n3, eq_self, not_true_eq_false, not_false_eq_true, ↓reduceIte]
            rw [show nI (qd_n (SH q x p0) 0) = 0 from rfl, nI_0] at g1
            simp only [bnd] at g1
            rw [g1, g2.2.2.2.2.2.2.2.1, nI_1, f2]
          · rw [mrow_ne (by decide), hyTne 6 (by decide) (by decide), mput_other (by decide), g5, mput_ne (by decide), mrow_ne (by decide)]
            exact d2
          · have kT : KC (mput y 6 22 (nI (g + 1))) yT := ⟨fun a ha => hyTne a (by omega) (by omega), hyTne 178 (by decide) (by decide)⟩
            exact (((((d4.tr (KC.row (by decide))).tr (KC.put (by decide))).tr g6).tr (KC.put (by decide))).tr kT).tr (KC.row (by decide))
          · unfold xv
            rw [mput_mrow (by omega)]
            exact (hW.tr hZ).bothR
      · have c3x : ¬ nI g < 20 := q_noroom (N := 20) c3 (by omega)
        have c3m : nI g = 20 := by rw [show g = 20 by omega]; rfl
        refine Or.inl (LT.of 3 2 ?_ (by decide) rfl (by decide) (fun m hm => ?_))
        · simp only [f_X5_perform, x_n4_t c1, xt, if_neg e1, x_st_1, R.2.2.2.2.2.2.1, x_room_f c3x, bnd, bnX, bnN, q_1ne0, q_n1, q_n2, q_n3, eq_self, not_true_eq_false, not_false_eq_true, ↓reduceIte]
        · simp only [f_X6_perform, m_stage_t c1, hm.1.2.2.1, mt m hm, if_neg e2, hm.2.2.2.2.2.2.2.1, c3m, m_fine2, bnd, bnX, bnN, q_1ne0, q_n1, q_n2, q_n3, eq_self, not_true_eq_false, not_false_eq_true, ↓reduceIte]
  · refine Or.inl (LT.of 1 1 ?_ (by decide) rfl (by decide) (fun m hm => ?_))
    · simp only [f_X5_perform, x_n4_f c1, bnd, bnX, bnN, q_1ne0, q_n1, q_n2, q_n3, eq_self, not_true_eq_false, not_false_eq_true, ↓reduceIte]
    · simp only [f_X6_perform, m_stage_f c1, m_fine1, bnd, bnX, bnN, q_1ne0, q_n1, q_n2, q_n3, eq_self, not_true_eq_false, not_false_eq_true, ↓reduceIte]
