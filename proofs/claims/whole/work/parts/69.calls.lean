/-! the calls: what both answer; first those that are small -/
theorem x_num_t {p : Int32} {n : Nat} (hn : n < 2 ^ 30) (h : inb p n = true) (σ : aM) : f_X5_checkNumber p (nI n) σ = some (0, 0, σ) := by rw [x_num hn, if_pos h]
theorem x_num_f {p : Int32} {n : Nat} (hn : n < 2 ^ 30) (h : ¬ inb p n = true) (σ : aM) : f_X5_checkNumber p (nI n) σ = some (1, 0, σ) := by rw [x_num hn, if_neg h]
theorem x_n4_t {p : Int32} (h : inb p 4 = true) (σ : aM) : f_X5_checkNumber p 4 σ = some (0, 0, σ) := x_num_t (n := 4) (by decide) h σ
theorem x_n4_f {p : Int32} (h : ¬ inb p 4 = true) (σ : aM) : f_X5_checkNumber p 4 σ = some (1, 0, σ) := x_num_f (n := 4) (by decide) h σ
theorem x_n10_t {p : Int32} (h : inb p 10 = true) (σ : aM) : f_X5_checkNumber p 10 σ = some (0, 0, σ) := x_num_t (n := 10) (by decide) h σ
theorem x_n10_f {p : Int32} (h : ¬ inb p 10 = true) (σ : aM) : f_X5_checkNumber p 10 σ = some (1, 0, σ) := x_num_f (n := 10) (by decide) h σ
theorem x_rng_t {p a b : Int32} (h : a ≤ p ∧ p ≤ b) (σ : aM) : f_X5_checkRange p a b σ = some (0, 0, σ) := by rw [x_rng, if_pos h]
theorem x_rng_f {p a b : Int32} (h : ¬ (a ≤ p ∧ p ≤ b)) (σ : aM) : f_X5_checkRange p a b σ = some (2, 0, σ) := by rw [x_rng, if_neg h]
theorem x_room_t {p a : Int32} (h : p < a) (σ : aM) : f_X5_checkRoom p a σ = some (0, 0, σ) := by rw [x_room, if_pos h]
theorem x_room_f {p a : Int32} (h : ¬ p < a) (σ : aM) : f_X5_checkRoom p a σ = some (3, 0, σ) := by rw [x_room, if_neg h]
theorem x_st_1 (σ : aM) : f_X5_checkState 1 σ = some (0, 0, σ) := by rw [x_state, if_neg (by decide)]
theorem x_st_0 (σ : aM) : f_X5_checkState 0 σ = some (3, 0, σ) := by rw [x_state, if_pos rfl]
theorem m_in_t {p a b : Int32} (h : a ≤ p ∧ p ≤ b) (σ : aM) : f_X6_isIn p a b σ = some (1, σ) := by rw [m_in, if_pos h]
theorem m_in_f {p a b : Int32} (h : ¬ (a ≤ p ∧ p ≤ b)) (σ : aM) : f_X6_isIn p a b σ = some (0, σ) := by rw [m_in, if_neg h]
theorem m_fine0 (σ : aM) : f_X6_isFine 0 σ = some (1, mput σ 6 0 0) := by rw [m_fine, if_pos rfl]
theorem m_fine1 (σ : aM) : f_X6_isFine 1 σ = some (0, mput σ 6 0 1) := by rw [m_fine, if_neg (by decide)]
theorem m_fine2 (σ : aM) : f_X6_isFine 2 σ = some (0, mput σ 6 0 2) := by rw [m_fine, if_neg (by decide)]
theorem m_fine3 (σ : aM) : f_X6_isFine 3 σ = some (0, mput σ 6 0 3) := by rw [m_fine, if_neg (by decide)]
theorem m_line_t {p : Int32} {n : Nat} {σ : aM} (hn : n < 2 ^ 30) (h : σ 6 4 = nI n) (hp : inb p n = true) : f_X6_isLine p σ = some (1, σ) := by rw [m_line hn h, if_pos hp]
theorem m_line_f {p : Int32} {n : Nat} {σ : aM} (hn : n < 2 ^ 30) (h : σ 6 4 = nI n) (hp : ¬ inb p n = true) : f_X6_isLine p σ = some (0, σ) := by rw [m_line hn h, if_neg hp]
theorem m_cue_t {p : Int32} {n : Nat} {σ : aM} (hn : n < 2 ^ 30) (h : σ 6 11 = nI n) (hp : inb p n = true) : f_X6_isCue p σ = some (1, σ) := by rw [m_cue hn h, if_pos hp]
theorem m_cue_f {p : Int32} {n : Nat} {σ : aM} (hn : n < 2 ^ 30) (h : σ 6 11 = nI n) (hp : ¬ inb p n = true) : f_X6_isCue p σ = some (0, σ) := by rw [m_cue hn h, if_neg hp]
theorem m_lamp_t {p : Int32} {n : Nat} {σ : aM} (hn : n < 2 ^ 30) (h : σ 6 19 = nI n) (hp : inb p n = true) : f_X6_isLamp p σ = some (1, σ) := by rw [m_lamp hn h, if_pos hp]
theorem m_lamp_f {p : Int32} {n : Nat} {σ : aM} (hn : n < 2 ^ 30) (h : σ 6 19 = nI n) (hp : ¬ inb p n = true) : f_X6_isLamp p σ = some (0, σ) := by rw [m_lamp hn h, if_neg hp]
theorem m_log_t {p : Int32} {n : Nat} {σ : aM} (hn : n < 2 ^ 30) (h : σ 6 22 = nI n) (hp : inb p n = true) : f_X6_isLog p σ = some (1, σ) := by rw [m_log hn h, if_pos hp]
theorem m_log_f {p : Int32} {n : Nat} {σ : aM} (hn : n < 2 ^ 30) (h : σ 6 22 = nI n) (hp : ¬ inb p n = true) : f_X6_isLog p σ = some (0, σ) := by rw [m_log hn h, if_neg hp]
theorem m_area_t {p : Int32} (h : inb p 4 = true) (σ : aM) : f_X6_isArea p σ = some (1, σ) := by rw [m_area, if_pos h]
theorem m_area_f {p : Int32} (h : ¬ inb p 4 = true) (σ : aM) : f_X6_isArea p σ = some (0, σ) := by rw [m_area, if_neg h]
theorem m_stage_t {p : Int32} (h : inb p 4 = true) (σ : aM) : f_X6_isStage p σ = some (1, σ) := by rw [m_stage, if_pos h]
theorem m_stage_f {p : Int32} (h : ¬ inb p 4 = true) (σ : aM) : f_X6_isStage p σ = some (0, σ) := by rw [m_stage, if_neg h]
theorem m_chan_t {p : Int32} (h : inb p 10 = true) (σ : aM) : f_X6_isChannel p σ = some (1, σ) := by rw [m_channel, if_pos h]
theorem m_chan_f {p : Int32} (h : ¬ inb p 10 = true) (σ : aM) : f_X6_isChannel p σ = some (0, σ) := by rw [m_channel, if_neg h]
theorem m_time_t {p : Int32} (h : 0 ≤ p ∧ p ≤ 2000) (σ : aM) : f_X6_isTime p σ = some (1, σ) := by rw [m_time, if_pos h]
theorem m_time_f {p : Int32} (h : ¬ (0 ≤ p ∧ p ≤ 2000)) (σ : aM) : f_X6_isTime p σ = some (0, σ) := by rw [m_time, if_neg h]
theorem m_fade_t {p r : Int32} (h : 0 ≤ p ∧ p ≤ 60) (h2 : 0 ≤ r ∧ r ≤ 60) (σ : aM) : f_X6_isFade p r σ = some (1, σ) := by rw [m_fade, if_pos ⟨h, h2⟩]
theorem m_fade_f {p r : Int32} (h : ¬ ((0 ≤ p ∧ p ≤ 60) ∧ (0 ≤ r ∧ r ≤ 60))) (σ : aM) : f_X6_isFade p r σ = some (0, σ) := by rw [m_fade, if_neg h]
theorem mput_row {σ : aM} {k i : Nat} {v : Int32} : mput σ k i v k = upd (σ k) i v := if_pos rfl
def CP (σ : aM) : Prop := ∃ n k q g, RL n k q g σ σ
def KR (x x' : aM) : Prop := ∀ a, (29 ≤ a ∧ a ≤ 46 ∨ a = 6) → x' a = x a
def KC (m m' : aM) : Prop := KX m m' ∧ m' 178 = m 178
theorem KR.km {x x' : aM} (h : KR x x') : KM x x' := ⟨fun a ha => h a (by omega), by rw [h 6 (by omega)], by rw [h 6 (by omega)], by rw [h 6 (by omega)], by rw [h 6 (by omega)]⟩
theorem KR.rf {x : aM} : KR x x := fun _ _ => rfl
theorem KR.tr {x y z : aM} (h : KR x y) (h2 : KR y z) : KR x z := fun a ha => (h2 a ha).trans (h a ha)
theorem KC.rf {m : aM} : KC m m := ⟨KX.rf, rfl⟩
theorem KC.tr {x y z : aM} (h : KC x y) (h2 : KC y z) : KC x z := ⟨h.1.tr h2.1, h2.2.trans h.2⟩
theorem KC.put {m : aM} {k i : Nat} {v : Int32} (h : ¬ (1 ≤ k ∧ k ≤ 5 ∨ 7 ≤ k ∧ k ≤ 24 ∨ k = 26 ∨ 58 ≤ k ∧ k < 128 ∨ 158 ≤ k ∧ k < 178) ∧ ¬ k = 178) : KC m (mput m k i v) := ⟨KX.put h.1, mput_ne (fun e => h.2 e.symm)⟩
theorem KC.row {m : aM} {k n : Nat} {f : Nat → Int32} (h : ¬ (1 ≤ k ∧ k ≤ 5 ∨ 7 ≤ k ∧ k ≤ 24 ∨ k = 26 ∨ 58 ≤ k ∧ k < 128 ∨ 158 ≤ k ∧ k < 178) ∧ ¬ k = 178) : KC m (mrow m k n f) := ⟨KX.row h.1, mrow_ne (fun e => h.2 e.symm)⟩
theorem KR.put {m : aM} {k i : Nat} {v : Int32} (h : ¬ (29 ≤ k ∧ k ≤ 46 ∨ k = 6)) : KR m (mput m k i v) := fun a ha => mput_ne (fun e => h (e ▸ ha))
theorem KR.row {m : aM} {k n : Nat} {f : Nat → Int32} (h : ¬ (29 ≤ k ∧ k ≤ 46 ∨ k = 6)) : KR m (mrow m k n f) := fun a ha => mrow_ne (fun e => h (e ▸ ha))
/-- a call that throws; a call that answers -/
def LT (X : aM → Option (Nat × Int32 × aM)) (hc : Nat → Option Int32) (M : aM → Option (Int32 × aM)) (n k q g : Nat) (x : aM) : Prop := ∃ (e : Nat) (v : Int32), X x = some (e, 0, x) ∧ ¬ e = 0 ∧ hc e = some v ∧ ¬ v = 0 ∧ ∀ m, RL n k q g x m → ∃ b m', M m = some (b, m') ∧ m' 6 0 = v ∧ KM m m' ∧ KC m m'
def LA (X : aM → Option (Nat × Int32 × aM)) (M : aM → Option (Int32 × aM)) (n k q g : Nat) (x : aM) : Prop := ∃ (r : Int32) (x' : aM), X x = some (0, r, x') ∧ KR x x' ∧ ∀ m, RL n k q g x m → ∃ m', M m = some (r, m') ∧ m' 6 0 = 0 ∧ KC m m' ∧ ∃ n' k' q' g', RL n' k' q' g' x' m'
def LK (X : aM → Option (Nat × Int32 × aM)) (hc : Nat → Option Int32) (M : aM → Option (Int32 × aM)) : Prop := ∀ n k q g x, RL n k q g x x → LT X hc M n k q g x ∨ LA X M n k q g x
theorem agW_of {X : aM → Option (Nat × Int32 × aM)} {hc : Nat → Option Int32} {M w : aM → Option (Int32 × aM)} (hw : ∀ σ, w σ = bnC (X σ) hc (fun r σ1 => some (0, mput σ1 178 (ix 0) r))) (H : LK X hc M) : agW CP w M := by
  intro σ hσ
  obtain ⟨n, k, q, g, R⟩ := hσ
  rcases H n k q g σ R with ⟨e, v, h1, h2, h3, h4, h5⟩ | ⟨r, x', h1, h2, h3⟩
  · obtain ⟨b, m', g1, g2, g3, g4⟩ := h5 σ R
    refine ⟨v, σ, b, m', ?_, g1, g2, fun q => absurd q h4, n, k, q, g, R.cg g4.1 g3⟩
    rw [hw, h1]
    unfold bnC
    simp only [if_neg h2, h3]
  · have hk : KM σ (mput x' 178 0 r) := h2.km.tr (KM.put (by decide))
    obtain ⟨m', g1, g2, g3, n', k', q', g', g4⟩ := h3 (mput x' 178 0 r) (R.km hk)
    have hx : KX x' (mput x' 178 0 r) := KX.put (by decide)
    refine ⟨0, mput x' 178 0 r, r, m', ?_, g1, g2, fun _ => ?_, n', k', q', g', g4.kx (hx.tr g3.1)⟩
    · rw [hw, h1]
      rfl
    · rw [g3.2, mput_self]
theorem LT.of {X : aM → Option (Nat × Int32 × aM)} {hc : Nat → Option Int32} {M : aM → Option (Int32 × aM)} {n k q g : Nat} {x : aM} (e : Nat) (v : Int32) (h1 : X x = some (e, 0, x)) (h2 : ¬ e = 0) (h3 : hc e = some v) (h4 : ¬ v = 0) (h5 : ∀ m, RL n k q g x m → M m = some (0, mput m 6 0 v)) : LT X hc M n k q g x :=
  ⟨e, v, h1, h2, h3, h4, fun m hm => ⟨0, mput m 6 0 v, h5 m hm, mput_self, KM.fld (by decide), KC.put (by decide)⟩⟩
/-- a call that only reads -/
theorem LA.ro {X : aM → Option (Nat × Int32 × aM)} {M : aM → Option (Int32 × aM)} {n k q g : Nat} {x x' : aM} (r : Int32) (R : RL n k q g x x) (h1 : X x = some (0, r, x')) (h2 : KX x x') (h3 : KR x x') (h4 : ∀ m, RL n k q g x m → ∃ m', M m = some (r, m') ∧ m' 6 0 = 0 ∧ KM m m' ∧ KC m m') : LA X M n k q g x :=
  ⟨r, x', h1, h3, fun m hm => by
    obtain ⟨m', g1, g2, g3, g4⟩ := h4 m hm
    exact ⟨m', g1, g2, g4, n, k, q, g, hm.cg h2 g3⟩⟩
theorem LA.get {X : aM → Option (Nat × Int32 × aM)} {M : aM → Option (Int32 × aM)} {n k q g : Nat} {x : aM} (r : Int32) (R : RL n k q g x x) (h1 : X x = some (0, r, x)) (h4 : ∀ m, RL n k q g x m → M m = some (r, mput m 6 0 0)) : LA X M n k q g x :=
  LA.ro r R h1 KX.rf KR.rf (fun m hm => ⟨_, h4 m hm, mput_self, KM.fld (by decide), KC.put (by decide)⟩)
theorem agD_of {X M : aM → Option (Int32 × aM)} (f : Nat → Nat → Nat → Nat → Int32) (h1 : ∀ n k q g x, RL n k q g x x → X x = some (f n k q g, x)) (h2 : ∀ n k q g x, RL n k q g x x → M x = some (f n k q g, mput x 6 0 0)) : agD CP X M := by
  intro σ hσ
  obtain ⟨n, k, q, g, R⟩ := hσ
  have K1 : KX σ (mput σ 6 0 0) := KX.put (by decide)
  exact ⟨f n k q g, σ, mput σ 6 0 0, h1 n k q g σ R, h2 n k q g σ R, n, k, q, g, R.cg K1 (KM.fld (by decide))⟩
theorem g_lines : agD CP f_X5_lines f_X6_lines := agD_of (fun n _ _ _ => nI n) (fun n k q g x R => by unfold f_X5_lines; rw [R.1.2.1]) (fun n k q g x R => by unfold f_X6_lines; rw [R.1.2.2.1])
theorem g_cues : agD CP f_X5_cues f_X6_cues := agD_of (fun _ k _ _ => nI k) (fun n k q g x R => by unfold f_X5_cues; rw [R.2.2.1.1.2.1]) (fun n k q g x R => by unfold f_X6_cues; rw [R.2.2.1.2.1])
theorem g_lamps : agD CP f_X5_lamps f_X6_lamps := agD_of (fun _ _ q _ => nI q) (fun n k q g x R => by unfold f_X5_lamps; rw [R.2.2.2.2.1.2.1]) (fun n k q g x R => by unfold f_X6_lamps; rw [R.2.2.2.2.1.2.2.1])
theorem g_logs : agD CP f_X5_logs f_X6_logs := agD_of (fun _ _ _ g => nI g) (fun n k q g x R => by unfold f_X5_logs; rw [R.2.2.2.2.2.2.1]) (fun n k q g x R => by unfold f_X6_logs; rw [R.2.2.2.2.2.2.2.1])
theorem x_total {n : Nat} {x m : aM} (R : RS n x m) {y : aM} (h1 : y 1 = x 1) (h7 : y 7 = x 7) (h8 : y 8 = x 8) : f_X4_total y = some (sa (x 7) (x 8) n, y) := by
  unfold f_X4_total
  rw [h1, R.2.1, x_ahead R.1, h7, h8]
  rfl
theorem m_total {n : Nat} {x m : aM} (R : RS n x m) {y : aM} (h4 : y 6 4 = m 6 4) (h29 : y 29 = m 29) (h30 : y 30 = m 30) : f_X6_ahead (y 6 4) y = some (sa (x 7) (x 8) n, y) := by
  rw [h4, R.2.2.1, m_ahead R.1, h29, h30, R.2.2.2.1, R.2.2.2.2.1]
theorem g_length : agD CP f_X5_length f_X6_length := by
  intro σ hσ
  obtain ⟨n, k, q, g, R⟩ := hσ
  have K1 : KX σ (mput σ 6 0 0) := KX.put (by decide)
  refine ⟨sa (σ 7) (σ 8) n, σ, mput σ 6 0 0, ?_, ?_, n, k, q, g, R.cg K1 (KM.fld (by decide))⟩
  · unfold f_X5_length
    rw [x_total R.1 rfl rfl rfl]
    rfl
  · unfold f_X6_length
    have h := m_total R.1 (y := mput σ 6 0 0) (mput_other (by decide)) (mput_ne (by decide)) (mput_ne (by decide))
    rw [mput_other (by decide)] at h
    rw [h]
    rfl
theorem q_clear {k : Nat} {σ : aM} {v : Int32} (h : ¬ k = 0) : mput σ 6 0 v 6 k = σ 6 k := mput_other h
theorem q_clr {a : Nat} {σ : aM} {v : Int32} (h : ¬ a = 6) : mput σ 6 0 v a = σ a := mput_ne h
theorem k_startOf (p0 : Int32) : LK (f_X5_startOf p0) hc_L_startOf (f_X6_startOf p0) := by
  intro n k q g x R
  have hn := R.1.1
  by_cases c1 : inb p0 n = true
  · obtain ⟨l, hl, rfl⟩ := inb_of c1 (by omega)
    refine Or.inr (LA.get (if x 8 l = 0 then sa (x 7) (x 8) l else -1) R ?_ (fun m hm => ?_))
    · unfold f_X5_startOf
      rw [R.1.2.1, x_num_t (by omega) c1]
      simp only [bnX, if_pos (inb_nI (show l < 30 by omega) (show 30 < 2 ^ 31 by decide)), ix_nI (show l < 2 ^ 31 by omega), x_ahead (show l ≤ 30 by omega), bnN]
      by_cases e : x 8 l = 0
      · rw [if_pos e, if_pos e, if_pos rfl]
      · rw [if_neg e, if_neg e, if_pos rfl]
    · unfold f_X6_startOf
      rw [m_line_t (by omega) hm.1.2.2.1 c1]
      simp only [bnd, m_fine0, if_pos (inb_nI (show l < 30 by omega) (show 30 < 2 ^ 31 by decide)), ix_nI (show l < 2 ^ 31 by omega), m_ahead (show l ≤ 30 by omega), q_clr (show ¬ 30 = 6 by decide), q_clr (show ¬ 29 = 6 by decide), hm.1.2.2.2.1, hm.1.2.2.2.2.1]
      rw [if_neg (by decide), if_pos (by decide)]
      by_cases e : x 8 l = 0
      · rw [if_pos e, if_pos e]
      · rw [if_neg e, if_neg e]
  · refine Or.inl (LT.of 1 1 ?_ (by decide) rfl (by decide) (fun m hm => ?_))
    · unfold f_X5_startOf
      rw [R.1.2.1, x_num_f (by omega) c1]
      rfl
    · unfold f_X6_startOf
      rw [m_line_f (by omega) hm.1.2.2.1 c1]
      simp only [bnd, m_fine1]
      rfl
