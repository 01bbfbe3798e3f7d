/-! the calls: what both answer; first those that are small -/
theorem x_num_t {p : Int32} {n : Nat} (hn : n < 2 ^ 30) (h : inb p n = true) (σ : aM) : f_X5_checkNumber p (nI n) σ = some (0, 0, σ) := by rw [x_num hn, if_pos h]
theorem x_num_f {p : Int32} {n : Nat} (hn : n < 2 ^ 30) (h : ¬ inb p n = true) (σ : aM) : f_X5_checkNumber p (nI n) σ = some (1, 0, σ) := by rw [x_num hn, if_neg h]
theorem x_n4_t {p : Int32} (h : inb p 4 = true) (σ : aM) : f_X5_checkNumber p 4 σ = some (0, 0, σ) := x_num_t (n := 4) (by decide) h σ
theorem x_n4_f {p : Int32} (h : ¬ inb p 4 = true) (σ : aM) : f_X5_checkNumber p 4 σ = some (1, 0, σ) := x_num_f (n := 4) (by decide) h σ
theorem x_n10_t {p : Int32} (h : inb p 10 = true) (σ : aM) : f_X5_checkNumber p 10 σ = some (0, 0, σ) := x_num_t (n := 10) (by decide) h σ
theorem x_n10_f {p : Int32} (h : ¬ inb p 10 = true) (σ : aM) : f_X5_checkNumber p 10 σ = some (1, 0, σ) := x_num_f (n := 10) (by decide) h σ
theorem x_rng_t {p a b : Int32} (h : a ≤ p ∧ p ≤ b) (σ : aM) : f_X5_checkRange p a b σ = some (0, 0, σ) := by rw [x_rng, if_pos h]
theorem x_rng_f {p a b : Int32} (h : ¬ (a ≤ p ∧ p ≤ b)) (σ : aM) : f_X5_checkRange p a b σ = some (2, 0, σ) := by rw [x_rng, if_neg h]
theorem x_room_t {p a : Int32} (h : p < a) (σ : aM) : f_X5_checkRoom p a σ = some (0, 0, σ) := by rw [x_room, if_pos h]
theorem x_room_f {p a : Int32} (h : ¬ p < a) (σ : aM) : f_X5_checkRoom p a σ = some (3, 0, σ) := by rw [x_room, if_neg h]
theorem x_st_1 (σ : aM) : f_X5_checkState 1 σ = some (0, 0, σ) := by rw [x_state, if_neg (by decide)]
theorem x_st_0 (σ : aM) : f_X5_checkState 0 σ = some (3, 0, σ) := by rw [x_state, if_pos rfl]
theorem m_in_t {p a b : Int32} (h : a ≤ p ∧ p ≤ b) (σ : aM) : f_X6_isIn p a b σ = some (1, σ) := by rw [m_in, if_pos h]
theorem m_in_f {p a b : Int32} (h : ¬ (a ≤ p ∧ p ≤ b)) (σ : aM) : f_X6_isIn p a b σ = some (0, σ) := by rw [m_in, if_neg h]
theorem m_fine0 (σ : aM) : f_X6_isFine 0 σ = some (1, mput σ 6 0 0) := by rw [m_fine, if_pos rfl]
theorem m_fine1 (σ : aM) : f_X6_isFine 1 σ = some (0, mput σ 6 0 1) := by rw [m_fine, if_neg (by decide)]
theorem m_fine2 (σ : aM) : f_X6_isFine 2 σ = some (0, mput σ 6 0 2) := by rw [m_fine, if_neg (by decide)]
theorem m_fine3 (σ : aM) : f_X6_isFine 3 σ = some (0, mput σ 6 0 3) := by rw [m_fine, if_neg (by decide)]
theorem m_line_t {p : Int32} {n : Nat} {σ : aM} (hn : n < 2 ^ 30) (h : σ 6 4 = nI n) (hp : inb p n = true) : f_X6_isLine p σ = some (1, σ) := by rw [m_line hn h, if_pos hp]
theorem m_line_f {p : Int32} {n : Nat} {σ : aM} (hn : n < 2 ^ 30) (h : σ 6 4 = nI n) (hp : ¬ inb p n = true) : f_X6_isLine p σ = some (0, σ) := by rw [m_line hn h, if_neg hp]
theorem m_cue_t {p : Int32} {n : Nat} {σ : aM} (hn : n < 2 ^ 30) (h : σ 6 11 = nI n) (hp : inb p n = true) : f_X6_isCue p σ = some (1, σ) := by rw [m_cue hn h, if_pos hp]
theorem m_cue_f {p : Int32} {n : Nat} {σ : aM} (hn : n < 2 ^ 30) (h : σ 6 11 = nI n) (hp : ¬ inb p n = true) : f_X6_isCue p σ = some (0, σ) := by rw [m_cue hn h, if_neg hp]
theorem m_lamp_t {p : Int32} {n : Nat} {σ : aM} (hn : n < 2 ^ 30) (h : σ 6 19 = nI n) (hp : inb p n = true) : f_X6_isLamp p σ = some (1, σ) := by rw [m_lamp hn h, if_pos hp]
theorem m_lamp_f {p : Int32} {n : Nat} {σ : aM} (hn : n < 2 ^ 30) (h : σ 6 19 = nI n) (hp : ¬ inb p n = true) : f_X6_isLamp p σ = some (0, σ) := by rw [m_lamp hn h, if_neg hp]
theorem m_log_t {p : Int32} {n : Nat} {σ : aM} (hn : n < 2 ^ 30) (h : σ 6 22 = nI n) (hp : inb p n = true) : f_X6_isLog p σ = some (1, σ) := by rw [m_log hn h, if_pos hp]
theorem m_log_f {p : Int32} {n : Nat} {σ : aM} (hn : n < 2 ^ 30) (h : σ 6 22 = nI n) (hp : ¬ inb p n = true) : f_X6_isLog p σ = some (0, σ) := by rw [m_log hn h, if_neg hp]
theorem m_area_t {p : Int32} (h : inb p 4 = true) (σ : aM) : f_X6_isArea p σ = some (1, σ) := by rw [m_area, if_pos h]
theorem m_area_f {p : Int32} (h : ¬ inb p 4 = true) (σ : aM) : f_X6_isArea p σ = some (0, σ) := by rw [m_area, if_neg h]
theorem m_stage_t {p : Int32} (h : inb p 4 = true) (σ : aM) : f_X6_isStage p σ = some (1, σ) := by rw [m_stage, if_pos h]
theorem m_stage_f {p : Int32} (h : ¬ inb p 4 = true) (σ : aM) : f_X6_isStage p σ = some (0, σ) := by rw [m_stage, if_neg h]
theorem m_chan_t {p : Int32} (h : inb p 10 = true) (σ : aM) : f_X6_isChannel p σ = some (1, σ) := by rw [m_channel, if_pos h]
theorem m_chan_f {p : Int32} (h : ¬ inb p 10 = true) (σ : aM) : f_X6_isChannel p σ = some (0, σ) := by rw [m_channel, if_neg h]
theorem m_time_t {p : Int32} (h : 0 ≤ p ∧ p ≤ 2000) (σ : aM) : f_X6_isTime p σ = some (1, σ) := by rw [m_time, if_pos h]
theorem m_time_f {p : Int32} (h : ¬ (0 ≤ p ∧ p ≤ 2000)) (σ : aM) : f_X6_isTime p σ = some (0, σ) := by rw [m_time, if_neg h]
theorem m_fade_t {p r : Int32} (h : 0 ≤ p ∧ p ≤ 60) (h2 : 0 ≤ r ∧ r ≤ 60) (σ : aM) : f_X6_isFade p r σ = some (1, σ) := by rw [m_fade, if_pos ⟨h, h2⟩]
theorem m_fade_f {p r : Int32} (h : ¬ ((0 ≤ p ∧ p ≤ 60) ∧ (0 ≤ r ∧ r ≤ 60))) (σ : aM) : f_X6_isFade p r σ = some (0, σ) := by rw [m_fade, if_neg h]
theorem mput_row {σ : aM} {k i : Nat} {v : Int32} : mput σ k i v k = upd (σ k) i v := if_pos rfl
def CP (σ : aM) : Prop := ∃ n k q g, QL n k q g σ σ
def KR (x x' : aM) : Prop := ∀ a, (29 ≤ a ∧ a ≤ 46 ∨ a = 6) → x' a = x a
def KC (m m' : aM) : Prop := KX m m' ∧ m' 178 = m 178
theorem KR.km {x x' : aM} (h : KR x x') : KM x x' := ⟨fun a ha => h a (by omega), by rw [h 6 (by omega)], by rw [h 6 (by omega)], by rw [h 6 (by omega)], by rw [h 6 (by omega)]⟩
theorem KR.rf {x : aM} : KR x x := fun _ _ => rfl
theorem KR.tr {x y z : aM} (h : KR x y) (h2 : KR y z) : KR x z := fun a ha => (h2 a ha).trans (h a ha)
theorem KC.rf {m : aM} : KC m m := ⟨KX.rf, rfl⟩
theorem KC.tr {x y z : aM} (h : KC x y) (h2 : KC y z) : KC x z := ⟨h.1.tr h2.1, h2.2.trans h.2⟩
theorem KC.put {m : aM} {k i : Nat} {v : Int32} (h : ¬ (1 ≤ k ∧ k ≤ 5 ∨ 7 ≤ k ∧ k ≤ 24 ∨ k = 26 ∨ 58 ≤ k ∧ k < 128 ∨ 158 ≤ k ∧ k < 178) ∧ ¬ k = 178) : KC m (mput m k i v) := ⟨KX.put h.1, mput_ne (fun e => h.2 e.symm)⟩
theorem KC.row {m : aM} {k n : Nat} {f : Nat → Int32} (h : ¬ (1 ≤ k ∧ k ≤ 5 ∨ 7 ≤ k ∧ k ≤ 24 ∨ k = 26 ∨ 58 ≤ k ∧ k < 128 ∨ 158 ≤ k ∧ k < 178) ∧ ¬ k = 178) : KC m (mrow m k n f) := ⟨KX.row h.1, mrow_ne (fun e => h.2 e.symm)⟩
theorem KR.put {m : aM} {k i : Nat} {v : Int32} (h : ¬ (29 ≤ k ∧ k ≤ 46 ∨ k = 6)) : KR m (mput m k i v) := fun a ha => mput_ne (fun e => h (e ▸ ha))
theorem KR.row {m : aM} {k n : Nat} {f : Nat → Int32} (h : ¬ (29 ≤ k ∧ k ≤ 46 ∨ k = 6)) : KR m (mrow m k n f) := fun a ha => mrow_ne (fun e => h (e ▸ ha))
/-- a call that throws; a call that answers -/
def LT (X : aM → Option (Nat × Int32 × aM)) (hc : Nat → Option Int32) (M : aM → Option (Int32 × aM)) (n k q g : Nat) (x : aM) : Prop := ∃ (e : Nat) (v : Int32), X x = some (e, 0, x) ∧ ¬ e = 0 ∧ hc e = some v ∧ ¬ v = 0 ∧ ∀ m, QL n k q g x m → ∃ b m', M m = some (b, m') ∧ m' 6 0 = v ∧ KM m m' ∧ KC m m'
def LA (X : aM → Option (Nat × Int32 × aM)) (M : aM → Option (Int32 × aM)) (n k q g : Nat) (x : aM) : Prop := ∃ (r : Int32) (x' : aM), X x = some (0, r, x') ∧ KR x x' ∧ ∀ m, QL n k q g x m → ∃ m', M m = some (r, m') ∧ m' 6 0 = 0 ∧ KC m m' ∧ ∃ n' k' q' g', QL n' k' q' g' x' m'
def LK (X : aM → Option (Nat × Int32 × aM)) (hc : Nat → Option Int32) (M : aM → Option (Int32 × aM)) : Prop := ∀ n k q g x, QL n k q g x x → LT X hc M n k q g x ∨ LA X M n k q g x
theorem agW_of {X : aM → Option (Nat × Int32 × aM)} {hc : Nat → Option Int32} {M w : aM → Option (Int32 × aM)} (hw : ∀ σ, w σ = bnC (X σ) hc (fun r σ1 => some (0, mput σ1 178 (ix 0) r))) (H : LK X hc M) : agW CP w M := by
  intro σ hσ
  obtain ⟨n, k, q, g, R⟩ := hσ
  rcases H n k q g σ R with ⟨e, v, h1, h2, h3, h4, h5⟩ | ⟨r, x', h1, h2, h3⟩
  · obtain ⟨b, m', g1, g2, g3, g4⟩ := h5 σ R
    refine ⟨v, σ, b, m', ?_, g1, g2, fun q => absurd q h4, n, k, q, g, R.cg g4.1 g3⟩
    rw [hw, h1]
    unfold bnC
    simp only [if_neg h2, h3]
  · have hk : KM σ (mput x' 178 0 r) := h2.km.tr (KM.put (by decide))
    obtain ⟨m', g1, g2, g3, n', k', q', g', g4⟩ := h3 (mput x' 178 0 r) (R.km hk)
    have hx : KX x' (mput x' 178 0 r) := KX.put (by decide)
    refine ⟨0, mput x' 178 0 r, r, m', ?_, g1, g2, fun _ => ?_, n', k', q', g', g4.kx (hx.tr g3.1)⟩
    · rw [hw, h1]
      rfl
    · rw [g3.2, mput_self]
theorem LT.of {X : aM → Option (Nat × Int32 × aM)} {hc : Nat → Option Int32} {M : aM → Option (Int32 × aM)} {n k q g : Nat} {x : aM} (e : Nat) (v : Int32) (h1 : X x = some (e, 0, x)) (h2 : ¬ e = 0) (h3 : hc e = some v) (h4 : ¬ v = 0) (h5 : ∀ m, QL n k q g x m → M m = some (0, mput m 6 0 v)) : LT X hc M n k q g x :=
  ⟨e, v, h1, h2, h3, h4, fun m hm => ⟨0, mput m 6 0 v, h5 m hm, mput_self, KM.fld (by decide), KC.put (by decide)⟩⟩
/-- a call that only reads -/
theorem LA.ro {X : aM → Option (Nat × Int32 × aM)} {M : aM → Option (Int32 × aM)} {n k q g : Nat} {x x' : aM} (r : Int32) (R : QL n k q g x x) (h1 : X x = some (0, r, x')) (h2 : KX x x') (h3 : KR x x') (h4 : ∀ m, QL n k q g x m → ∃ m', M m = some (r, m') ∧ m' 6 0 = 0 ∧ KM m m' ∧ KC m m') : LA X M n k q g x :=
  ⟨r, x', h1, h3, fun m hm => by
    obtain ⟨m', g1, g2, g3, g4⟩ := h4 m hm
    exact ⟨m', g1, g2, g4, n, k, q, g, hm.cg h2 g3⟩⟩
theorem LA.get {X : aM → Option (Nat × Int32 × aM)} {M : aM → Option (Int32 × aM)} {n k q g : Nat} {x : aM} (r : Int32) (R : QL n k q g x x) (h1 : X x = some (0, r, x)) (h4 : ∀ m, QL n k q g x m → M m = some (r, mput m 6 0 0)) : LA X M n k q g x :=
  LA.ro r R h1 KX.rf KR.rf (fun m hm => ⟨_, h4 m hm, mput_self, KM.fld (by decide), KC.put (by decide)⟩)
theorem agD_of {X M : aM → Option (Int32 × aM)} (f : Nat → Nat → Nat → Nat → Int32) (h1 : ∀ n k q g x, QL n k q g x x → X x = some (f n k q g, x)) (h2 : ∀ n k q g x, QL n k q g x x → M x = some (f n k q g, mput x 6 0 0)) : agD CP X M := by
  intro σ hσ
  obtain ⟨n, k, q, g, R⟩ := hσ
  have K1 : KX σ (mput σ 6 0 0) := KX.put (by decide)
  exact ⟨f n k q g, σ, mput σ 6 0 0, h1 n k q g σ R, h2 n k q g σ R, n, k, q, g, R.cg K1 (KM.fld (by decide))⟩
theorem g_lines : agD CP f_X5_lines f_X6_lines := agD_of (fun n _ _ _ => nI n) (fun n k q g x R => by unfold f_X5_lines; rw [R.1.2.1]) (fun n k q g x R => by unfold f_X6_lines; rw [R.1.2.2.1])
theorem g_cues : agD CP f_X5_cues f_X6_cues := agD_of (fun _ k _ _ => nI k) (fun n k q g x R => by unfold f_X5_cues; rw [R.2.2.1.1.2.1]) (fun n k q g x R => by unfold f_X6_cues; rw [R.2.2.1.2.1])
theorem g_lamps : agD CP f_X5_lamps f_X6_lamps := agD_of (fun _ _ q _ => nI q) (fun n k q g x R => by unfold f_X5_lamps; rw [R.2.2.2.2.1.2.1]) (fun n k q g x R => by unfold f_X6_lamps; rw [R.2.2.2.2.1.2.2.1])
theorem g_logs : agD CP f_X5_logs f_X6_logs := agD_of (fun _ _ _ g => nI g) (fun n k q g x R => by unfold f_X5_logs; rw [R.2.2.2.2.2.2.1]) (fun n k q g x R => by unfold f_X6_logs; rw [R.2.2.2.2.2.2.2.1])
theorem x_total {n : Nat} {x m : aM} (R : RS n x m) {y : aM} (h1 : y 1 = x 1) (h7 : y 7 = x 7) (h8 : y 8 = x 8) : f_X4_total y = some (sa (x 7) (x 8) n, y) := by
  unfold f_X4_total
  rw [h1, R.2.1, x_ahead R.1, h7, h8]
  rfl
theorem m_total {n : Nat} {x m : aM} (R : RS n x m) {y : aM} (h4 : y 6 4 = m 6 4) (h29 : y 29 = m 29) (h30 : y 30 = m 30) : f_X6_ahead (y 6 4) y = some (sa (x 7) (x 8) n, y) := by
  rw [h4, R.2.2.1, m_ahead R.1, h29, h30, R.2.2.2.1, R.2.2.2.2.1]
theorem g_length : agD CP f_X5_length f_X6_length := by
  intro σ hσ
  obtain ⟨n, k, q, g, R⟩ := hσ
  have K1 : KX σ (mput σ 6 0 0) := KX.put (by decide)
  refine ⟨sa (σ 7) (σ 8) n, σ, mput σ 6 0 0, ?_, ?_, n, k, q, g, R.cg K1 (KM.fld (by decide))⟩
  · unfold f_X5_length
    rw [x_total R.1 rfl rfl rfl]
    rfl
  · unfold f_X6_length
    have h := m_total R.1 (y := mput σ 6 0 0) (mput_other (by decide)) (mput_ne (by decide)) (mput_ne (by decide))
    rw [mput_other (by decide)] at h
    rw [h]
    rfl
theorem q_1ne0 : ¬ (1 : Int32) = 0 := by decide
theorem q_n1 : ¬ (1 : Nat) = 0 := by decide
theorem q_n2 : ¬ (2 : Nat) = 0 := by decide
theorem q_n3 : ¬ (3 : Nat) = 0 := by decide
theorem q_clear {k : Nat} {σ : aM} {v : Int32} (h : ¬ k = 0) : mput σ 6 0 v 6 k = σ 6 k := mput_other h
theorem q_clr {a : Nat} {σ : aM} {v : Int32} (h : ¬ a = 6) : mput σ 6 0 v a = σ a := mput_ne h
theorem q_i30 {l : Nat} (h : l < 30) : inb (nI l) 30 = true := inb_nI h (by decide)
theorem q_i20 {l : Nat} (h : l < 20) : inb (nI l) 20 = true := inb_nI h (by decide)
theorem q_i10 {l : Nat} (h : l < 10) : inb (nI l) 10 = true := inb_nI h (by decide)
theorem q_i4 {l : Nat} (h : l < 4) : inb (nI l) 4 = true := inb_nI h (by decide)
theorem q_time {p : Int32} (h : 0 ≤ p ∧ p ≤ 2000) : ∃ t, t ≤ 2000 ∧ p = nI t := nI_of2 (M := 2000) (n := 2000) rfl (fun q => absurd h.1 (by rw [i_nle]; exact q)) h.2
theorem k_startOf (p0 : Int32) : LK (f_X5_startOf p0) hc_L_startOf (f_X6_startOf p0) := by
  intro n k q g x R
  have hn := R.1.1
  by_cases c1 : inb p0 n = true
  · obtain ⟨l, hl, rfl⟩ := inb_of c1 (by omega)
    refine Or.inr (LA.get (if x 8 l = 0 then sa (x 7) (x 8) l else -1) R ?_ (fun m hm => ?_))
    · simp only [f_X5_startOf, R.1.2.1, x_num_t (show n < 2 ^ 30 by omega) c1, q_i30 (show l < 30 by omega), ix_nI (show l < 2 ^ 31 by omega), x_ahead (show l ≤ 30 by omega), bnd, bnX, bnN, q_1ne0, q_n1, q_n2, q_n3, eq_self, not_true_eq_false, not_false_eq_true, ↓reduceIte]
      by_cases e : x 8 l = 0
      · rw [if_pos e, if_pos e]
      · rw [if_neg e, if_neg e]
    · simp only [f_X6_startOf, m_line_t (show n < 2 ^ 30 by omega) hm.1.2.2.1 c1, m_fine0, q_i30 (show l < 30 by omega), ix_nI (show l < 2 ^ 31 by omega), m_ahead (show l ≤ 30 by omega), q_clr (show ¬ 30 = 6 by decide), q_clr (show ¬ 29 = 6 by decide), hm.1.2.2.2.1, hm.1.2.2.2.2.1, bnd, bnX, bnN, q_1ne0, q_n1, q_n2, q_n3, eq_self, not_true_eq_false, not_false_eq_true, ↓reduceIte]
      by_cases e : x 8 l = 0
      · rw [if_pos e, if_pos e]
      · rw [if_neg e, if_neg e]
  · refine Or.inl (LT.of 1 1 ?_ (by decide) rfl (by decide) (fun m hm => ?_))
    · simp only [f_X5_startOf, R.1.2.1, x_num_f (show n < 2 ^ 30 by omega) c1, bnd, bnX, bnN, q_1ne0, q_n1, q_n2, q_n3, eq_self, not_true_eq_false, not_false_eq_true, ↓reduceIte]
    · simp only [f_X6_startOf, m_line_f (show n < 2 ^ 30 by omega) hm.1.2.2.1 c1, m_fine1, bnd, bnX, bnN, q_1ne0, q_n1, q_n2, q_n3, eq_self, not_true_eq_false, not_false_eq_true, ↓reduceIte]
theorem k_whereIs (p0 : Int32) : LK (f_X5_whereIs p0) hc_L_whereIs (f_X6_whereIs p0) := by
  intro n k q g x R
  have hq := R.2.2.2.2.1.1
  by_cases c1 : inb p0 q = true
  · obtain ⟨l, hl, rfl⟩ := inb_of c1 (by omega)
    refine Or.inr (LA.get (x 22 l) R ?_ (fun m hm => ?_))
    · simp only [f_X5_whereIs, R.2.2.2.2.1.2.1, x_num_t (show q < 2 ^ 30 by omega) c1, q_i20 (show l < 20 by omega), ix_nI (show l < 2 ^ 31 by omega), bnd, bnX, bnN, q_1ne0, q_n1, q_n2, q_n3, eq_self, not_true_eq_false, not_false_eq_true, ↓reduceIte]
    · simp only [f_X6_whereIs, m_lamp_t (show q < 2 ^ 30 by omega) hm.2.2.2.2.1.2.2.1 c1, m_fine0, q_i20 (show l < 20 by omega), ix_nI (show l < 2 ^ 31 by omega), q_clr (show ¬ 40 = 6 by decide), hm.2.2.2.2.1.2.2.2.2.2.1, bnd, bnX, bnN, q_1ne0, q_n1, q_n2, q_n3, eq_self, not_true_eq_false, not_false_eq_true, ↓reduceIte]
  · refine Or.inl (LT.of 1 1 ?_ (by decide) rfl (by decide) (fun m hm => ?_))
    · simp only [f_X5_whereIs, R.2.2.2.2.1.2.1, x_num_f (show q < 2 ^ 30 by omega) c1, bnd, bnX, bnN, q_1ne0, q_n1, q_n2, q_n3, eq_self, not_true_eq_false, not_false_eq_true, ↓reduceIte]
    · simp only [f_X6_whereIs, m_lamp_f (show q < 2 ^ 30 by omega) hm.2.2.2.2.1.2.2.1 c1, m_fine1, bnd, bnX, bnN, q_1ne0, q_n1, q_n2, q_n3, eq_self, not_true_eq_false, not_false_eq_true, ↓reduceIte]
theorem k_wear (p0 : Int32) : LK (f_X5_wear p0) hc_L_wear (f_X6_wear p0) := by
  intro n k q g x R
  have hq := R.2.2.2.2.1.1
  by_cases c1 : inb p0 q = true
  · obtain ⟨l, hl, rfl⟩ := inb_of c1 (by omega)
    refine Or.inr (LA.get (x 24 l) R ?_ (fun m hm => ?_))
    · simp only [f_X5_wear, R.2.2.2.2.1.2.1, x_num_t (show q < 2 ^ 30 by omega) c1, q_i20 (show l < 20 by omega), ix_nI (show l < 2 ^ 31 by omega), bnd, bnX, bnN, q_1ne0, q_n1, q_n2, q_n3, eq_self, not_true_eq_false, not_false_eq_true, ↓reduceIte]
    · simp only [f_X6_wear, m_lamp_t (show q < 2 ^ 30 by omega) hm.2.2.2.2.1.2.2.1 c1, m_fine0, q_i20 (show l < 20 by omega), ix_nI (show l < 2 ^ 31 by omega), q_clr (show ¬ 44 = 6 by decide), hm.2.2.2.2.1.2.2.2.2.2.2.2.2.2, bnd, bnX, bnN, q_1ne0, q_n1, q_n2, q_n3, eq_self, not_true_eq_false, not_false_eq_true, ↓reduceIte]
  · refine Or.inl (LT.of 1 1 ?_ (by decide) rfl (by decide) (fun m hm => ?_))
    · simp only [f_X5_wear, R.2.2.2.2.1.2.1, x_num_f (show q < 2 ^ 30 by omega) c1, bnd, bnX, bnN, q_1ne0, q_n1, q_n2, q_n3, eq_self, not_true_eq_false, not_false_eq_true, ↓reduceIte]
    · simp only [f_X6_wear, m_lamp_f (show q < 2 ^ 30 by omega) hm.2.2.2.2.1.2.2.1 c1, m_fine1, bnd, bnX, bnN, q_1ne0, q_n1, q_n2, q_n3, eq_self, not_true_eq_false, not_false_eq_true, ↓reduceIte]
theorem k_stageOf (p0 : Int32) : LK (f_X5_stageOf p0) hc_L_stageOf (f_X6_stageOf p0) := by
  intro n k q g x R
  have hg := R.2.2.2.2.2.1
  by_cases c1 : inb p0 g = true
  · obtain ⟨l, hl, rfl⟩ := inb_of c1 (by omega)
    refine Or.inr (LA.get (x 26 l) R ?_ (fun m hm => ?_))
    · simp only [f_X5_stageOf, R.2.2.2.2.2.2.1, x_num_t (show g < 2 ^ 30 by omega) c1, q_i20 (show l < 20 by omega), ix_nI (show l < 2 ^ 31 by omega), bnd, bnX, bnN, q_1ne0, q_n1, q_n2, q_n3, eq_self, not_true_eq_false, not_false_eq_true, ↓reduceIte]
    · simp only [f_X6_stageOf, m_log_t (show g < 2 ^ 30 by omega) hm.2.2.2.2.2.2.2.1 c1, m_fine0, q_i20 (show l < 20 by omega), ix_nI (show l < 2 ^ 31 by omega), q_clr (show ¬ 45 = 6 by decide), hm.2.2.2.2.2.2.2.2.1, bnd, bnX, bnN, q_1ne0, q_n1, q_n2, q_n3, eq_self, not_true_eq_false, not_false_eq_true, ↓reduceIte]
  · refine Or.inl (LT.of 1 1 ?_ (by decide) rfl (by decide) (fun m hm => ?_))
    · simp only [f_X5_stageOf, R.2.2.2.2.2.2.1, x_num_f (show g < 2 ^ 30 by omega) c1, bnd, bnX, bnN, q_1ne0, q_n1, q_n2, q_n3, eq_self, not_true_eq_false, not_false_eq_true, ↓reduceIte]
    · simp only [f_X6_stageOf, m_log_f (show g < 2 ^ 30 by omega) hm.2.2.2.2.2.2.2.1 c1, m_fine1, bnd, bnX, bnN, q_1ne0, q_n1, q_n2, q_n3, eq_self, not_true_eq_false, not_false_eq_true, ↓reduceIte]
theorem q_30 {u l : Nat} : (30 : Int32) * nI u + nI l = nI (30 * u + l) := by rw [show (30 : Int32) = nI 30 from rfl, pk_mul, nI_add]
theorem q_10 {u l : Nat} : (10 : Int32) * nI u + nI l = nI (10 * u + l) := by rw [show (10 : Int32) = nI 10 from rfl, pk_mul, nI_add]
theorem q_4 {u l : Nat} : (4 : Int32) * nI u + nI l = nI (4 * u + l) := by rw [show (4 : Int32) = nI 4 from rfl, pk_mul, nI_add]
theorem k_wasShortOf (p0 p1 : Int32) : LK (f_X5_wasShortOf p0 p1) hc_L_wasShortOf (f_X6_wasShortOf p0 p1) := by
  intro n k q g x R
  have hn := R.1.1
  have hg := R.2.2.2.2.2.1
  by_cases c1 : inb p0 g = true
  · by_cases c2 : inb p1 n = true
    · obtain ⟨u, hu, rfl⟩ := inb_of c1 (by omega)
      obtain ⟨l, hl, rfl⟩ := inb_of c2 (by omega)
      refine Or.inr (LA.get (x (158 + u) l) R ?_ (fun m hm => ?_))
      · simp only [f_X5_wasShortOf, R.2.2.2.2.2.2.1, R.1.2.1, x_num_t (show g < 2 ^ 30 by omega) c1, x_num_t (show n < 2 ^ 30 by omega) c2, q_i20 (show u < 20 by omega), q_i30 (show l < 30 by omega), ix_nI (show u < 2 ^ 31 by omega), ix_nI (show l < 2 ^ 31 by omega), bnd, bnX, bnN, q_1ne0, q_n1, q_n2, q_n3, eq_self, not_true_eq_false, not_false_eq_true, ↓reduceIte]
      · simp only [f_X6_wasShortOf, m_log_t (show g < 2 ^ 30 by omega) hm.2.2.2.2.2.2.2.1 c1, m_line_t (show n < 2 ^ 30 by omega) hm.1.2.2.1 c2, m_fine0, q_30, inb_nI (show 30 * u + l < 600 by omega) (show 600 < 2 ^ 31 by decide), ix_nI (show 30 * u + l < 2 ^ 31 by omega), q_clr (show ¬ 46 = 6 by decide), hm.2.2.2.2.2.2.2.2.2 u l (by omega) (by omega), bnd, bnX, bnN, q_1ne0, q_n1, q_n2, q_n3, eq_self, not_true_eq_false, not_false_eq_true, ↓reduceIte]
    · refine Or.inl (LT.of 1 1 ?_ (by decide) rfl (by decide) (fun m hm => ?_))
      · simp only [f_X5_wasShortOf, R.2.2.2.2.2.2.1, R.1.2.1, x_num_t (show g < 2 ^ 30 by omega) c1, x_num_f (show n < 2 ^ 30 by omega) c2, bnd, bnX, bnN, q_1ne0, q_n1, q_n2, q_n3, eq_self, not_true_eq_false, not_false_eq_true, ↓reduceIte]
      · simp only [f_X6_wasShortOf, m_log_t (show g < 2 ^ 30 by omega) hm.2.2.2.2.2.2.2.1 c1, m_line_f (show n < 2 ^ 30 by omega) hm.1.2.2.1 c2, m_fine1, bnd, bnX, bnN, q_1ne0, q_n1, q_n2, q_n3, eq_self, not_true_eq_false, not_false_eq_true, ↓reduceIte]
  · refine Or.inl (LT.of 1 1 ?_ (by decide) rfl (by decide) (fun m hm => ?_))
    · simp only [f_X5_wasShortOf, R.2.2.2.2.2.2.1, x_num_f (show g < 2 ^ 30 by omega) c1, bnd, bnX, bnN, q_1ne0, q_n1, q_n2, q_n3, eq_self, not_true_eq_false, not_false_eq_true, ↓reduceIte]
    · simp only [f_X6_wasShortOf, m_log_f (show g < 2 ^ 30 by omega) hm.2.2.2.2.2.2.2.1 c1, m_fine1, bnd, bnX, bnN, q_1ne0, q_n1, q_n2, q_n3, eq_self, not_true_eq_false, not_false_eq_true, ↓reduceIte]
def qe_n (x : aM) (l : Nat) : Nat → Int32
  | 0 => 0
  | u + 1 => if x (158 + u) l = 0 then qe_n x l u else qe_n x l u + 1
theorem x_times {x m : aM} {g l : Nat} (R : RB g x m) (hl : l < 30) : f_X0_countShortLogs (nI l) x = some (qe_n x l g, x) := by
  obtain ⟨hg, e5, -, -, -⟩ := R
  have key : l_X0_countShortLogs_4 (nI l) lf (qe_n x l 0) (nI 0) x (fun v9 v10 σ11 => some (v9, σ11)) = some (qe_n x l g, x) := by
    refine qa_loop0 (fun fu i => l_X0_countShortLogs_4 (nI l) fu (qe_n x l i) (nI i) x (fun v9 v10 σ11 => some (v9, σ11))) g _ lf (lf_gt (by omega)) (fun i fu hi => ?_) (fun fu => ?_)
    · show l_X0_countShortLogs_4 (nI l) (fu + 1) (qe_n x l i) (nI i) x _ = l_X0_countShortLogs_4 (nI l) fu (qe_n x l (i + 1)) (nI (i + 1)) x _
      rw [l_X0_countShortLogs_4, e5, if_neg (nI_ge hi (by omega)), if_pos (q_i20 (show i < 20 by omega)), if_pos (q_i30 hl), ix_nI (show i < 2 ^ 31 by omega), ix_nI (show l < 2 ^ 31 by omega), nI_1, qe_n]
      by_cases e : x (158 + i) l = 0
      · rw [if_pos e, if_pos e]
      · rw [if_neg e, if_neg e]
    · show l_X0_countShortLogs_4 (nI l) (fu + 1) _ (nI g) x _ = _
      rw [l_X0_countShortLogs_4, e5, if_pos (q_le_self (by omega))]
  exact key
theorem m_times {x m y : aM} {g l : Nat} (R : RB g x m) (hl : l < 30) (h6 : y 6 22 = m 6 22) (h46 : y 46 = m 46) : l_X6_timesShort_26 (nI l) lf 0 0 y (fun v16 v17 σ18 => some (v16, σ18)) = some (qe_n x l g, y) := by
  obtain ⟨hg, -, e22, -, e46⟩ := R
  have key : l_X6_timesShort_26 (nI l) lf (qe_n x l 0) (nI 0) y (fun v16 v17 σ18 => some (v16, σ18)) = some (qe_n x l g, y) := by
    refine qa_loop0 (fun fu i => l_X6_timesShort_26 (nI l) fu (qe_n x l i) (nI i) y (fun v16 v17 σ18 => some (v16, σ18))) g _ lf (lf_gt (by omega)) (fun i fu hi => ?_) (fun fu => ?_)
    · show l_X6_timesShort_26 (nI l) (fu + 1) (qe_n x l i) (nI i) y _ = l_X6_timesShort_26 (nI l) fu (qe_n x l (i + 1)) (nI (i + 1)) y _
      rw [l_X6_timesShort_26, h6, e22, if_neg (nI_ge hi (by omega)), q_30, if_pos (inb_nI (show 30 * i + l < 600 by omega) (by decide)), ix_nI (show 30 * i + l < 2 ^ 31 by omega), h46, e46 i l (by omega) hl, nI_1, Int32.add_zero, qe_n]
      by_cases e : x (158 + i) l = 0
      · rw [if_pos e, if_pos e]
      · rw [if_neg e, if_neg e]
    · show l_X6_timesShort_26 (nI l) (fu + 1) _ (nI g) y _ = _
      rw [l_X6_timesShort_26, h6, e22, if_pos (q_le_self (by omega))]
  exact key
theorem k_timesShort (p0 : Int32) : LK (f_X5_timesShort p0) hc_L_timesShort (f_X6_timesShort p0) := by
  intro n k q g x R
  have hn := R.1.1
  by_cases c1 : inb p0 n = true
  · obtain ⟨l, hl, rfl⟩ := inb_of c1 (by omega)
    refine Or.inr (LA.get (qe_n x l g) R ?_ (fun m hm => ?_))
    · simp only [f_X5_timesShort, R.1.2.1, x_num_t (show n < 2 ^ 30 by omega) c1, x_times R.2.2.2.2.2 (show l < 30 by omega), bnd, bnX, bnN, q_1ne0, q_n1, q_n2, q_n3, eq_self, not_true_eq_false, not_false_eq_true, ↓reduceIte]
    · simp only [f_X6_timesShort, m_line_t (show n < 2 ^ 30 by omega) hm.1.2.2.1 c1, m_fine0, m_times hm.2.2.2.2.2 (show l < 30 by omega) (mput_other (show ¬ 22 = 0 by decide)) (mput_ne (show ¬ 46 = 6 by decide)), bnd, bnX, bnN, q_1ne0, q_n1, q_n2, q_n3, eq_self, not_true_eq_false, not_false_eq_true, ↓reduceIte]
  · refine Or.inl (LT.of 1 1 ?_ (by decide) rfl (by decide) (fun m hm => ?_))
    · simp only [f_X5_timesShort, R.1.2.1, x_num_f (show n < 2 ^ 30 by omega) c1, bnd, bnX, bnN, q_1ne0, q_n1, q_n2, q_n3, eq_self, not_true_eq_false, not_false_eq_true, ↓reduceIte]
    · simp only [f_X6_timesShort, m_line_f (show n < 2 ^ 30 by omega) hm.1.2.2.1 c1, m_fine1, bnd, bnX, bnN, q_1ne0, q_n1, q_n2, q_n3, eq_self, not_true_eq_false, not_false_eq_true, ↓reduceIte]
theorem k_laidOn (p0 p1 : Int32) : LK (f_X5_laidOn p0 p1) hc_L_laidOn (f_X6_laidOn p0 p1) := by
  intro n k q g x R
  have hq := R.2.2.2.2.1.1
  by_cases c1 : inb p0 4 = true
  · by_cases c2 : inb p1 10 = true
    · obtain ⟨h, hh, rfl⟩ := inb_of c2 (by omega)
      refine Or.inr (LA.get (LD q x p0 h) R ?_ (fun m hm => ?_))
      · simp only [f_X5_laidOn, x_n4_t c1, x_n10_t c2, q_i10 hh, ix_nI (show h < 2 ^ 31 by omega), x_lampsFor hq R.2.2.2.2.1.2.1, bnd, bnX, bnN, q_1ne0, q_n1, q_n2, q_n3, eq_self, not_true_eq_false, not_false_eq_true, ↓reduceIte]
        rfl
      · obtain ⟨-, -, e19, -, -, e40, e41, e42, -, -⟩ := hm.2.2.2.2.1
        have h19 : mput m 6 0 0 6 19 = nI q := by rw [mput_other (by decide)]; exact e19
        simp only [f_X6_laidOn, m_stage_t c1, m_chan_t c2, m_fine0, m_lays hq h19 hh, q_clr (show ¬ 40 = 6 by decide), q_clr (show ¬ 41 = 6 by decide), q_clr (show ¬ 42 = 6 by decide), q_clr (show ¬ 32 = 6 by decide), q_clr (show ¬ 33 = 6 by decide), e40, e41, e42, hm.2.1.1, hm.2.1.2, bnd, bnX, bnN, q_1ne0, q_n1, q_n2, q_n3, eq_self, not_true_eq_false, not_false_eq_true, ↓reduceIte]
        rfl
    · refine Or.inl (LT.of 1 1 ?_ (by decide) rfl (by decide) (fun m hm => ?_))
      · simp only [f_X5_laidOn, x_n4_t c1, x_n10_f c2, bnd, bnX, bnN, q_1ne0, q_n1, q_n2, q_n3, eq_self, not_true_eq_false, not_false_eq_true, ↓reduceIte]
      · simp only [f_X6_laidOn, m_stage_t c1, m_chan_f c2, m_fine1, bnd, bnX, bnN, q_1ne0, q_n1, q_n2, q_n3, eq_self, not_true_eq_false, not_false_eq_true, ↓reduceIte]
  · refine Or.inl (LT.of 1 1 ?_ (by decide) rfl (by decide) (fun m hm => ?_))
    · simp only [f_X5_laidOn, x_n4_f c1, bnd, bnX, bnN, q_1ne0, q_n1, q_n2, q_n3, eq_self, not_true_eq_false, not_false_eq_true, ↓reduceIte]
    · simp only [f_X6_laidOn, m_stage_f c1, m_fine1, bnd, bnX, bnN, q_1ne0, q_n1, q_n2, q_n3, eq_self, not_true_eq_false, not_false_eq_true, ↓reduceIte]
theorem m0_R {n k q g : Nat} {x m : aM} (hm : QL n k q g x m) : QL n k q g x (mput m 6 0 0) := hm.km (KM.fld (by decide))
theorem a47_km {m m' : aM} (h : ∀ a, ¬ a = 47 → m' a = m a) : KM m m' ∧ KC m m' ∧ m' 6 0 = m 6 0 := ⟨⟨fun a ha => h a (by omega), by rw [h 6 (by decide)], by rw [h 6 (by decide)], by rw [h 6 (by decide)], by rw [h 6 (by decide)]⟩, ⟨fun a ha => h a (by omega), h 178 (by decide)⟩, by rw [h 6 (by decide)]⟩
theorem a0_km {m : aM} : KM m (mput m 6 0 0) ∧ KC m (mput m 6 0 0) := ⟨KM.fld (by decide), KC.put (by decide)⟩
theorem k_cueAt (p0 : Int32) : LK (f_X5_cueAt p0) hc_L_cueAt (f_X6_cueAt p0) := by
  intro n k q g x R
  have hk := R.2.2.1.1.1
  by_cases c1 : inb p0 k = true
  · have c1' := (m_inN (show k < 2 ^ 30 by omega)).mpr c1
    obtain ⟨p, hp, rfl⟩ := inb_of c1 (by omega)
    refine Or.inr (LA.ro (x' := x) (x 14 p) R ?_ KX.rf KR.rf (fun m hm => ?_))
    · simp only [f_X5_cueAt, R.2.2.1.1.2.1, x_num_t (show k < 2 ^ 30 by omega) c1, q_i20 (show p < 20 by omega), ix_nI (show p < 2 ^ 31 by omega), bnd, bnX, bnN, q_1ne0, q_n1, q_n2, q_n3, eq_self, not_true_eq_false, not_false_eq_true, ↓reduceIte]
    · obtain ⟨m', a1, a2, a3⟩ := m_orders (m0_R hm)
      obtain ⟨b1, b2, b3⟩ := a47_km a2
      refine ⟨m', ?_, b3.trans mput_self, a0_km.1.tr b1, a0_km.2.tr b2⟩
      simp only [f_X6_cueAt, hm.2.2.1.2.1, m_in_t c1', m_fine0, a1, q_i20 (show p < 20 by omega), ix_nI (show p < 2 ^ 31 by omega), a3 p hp, bnd, bnX, bnN, q_1ne0, q_n1, q_n2, q_n3, eq_self, not_true_eq_false, not_false_eq_true, ↓reduceIte]
  · have c1' : ¬ (0 ≤ p0 ∧ p0 ≤ nI k - 1) := fun q => c1 ((m_inN (show k < 2 ^ 30 by omega)).mp q)
    refine Or.inl (LT.of 1 1 ?_ (by decide) rfl (by decide) (fun m hm => ?_))
    · simp only [f_X5_cueAt, R.2.2.1.1.2.1, x_num_f (show k < 2 ^ 30 by omega) c1, bnd, bnX, bnN, q_1ne0, q_n1, q_n2, q_n3, eq_self, not_true_eq_false, not_false_eq_true, ↓reduceIte]
    · simp only [f_X6_cueAt, hm.2.2.1.2.1, m_in_f c1', m_fine1, bnd, bnX, bnN, q_1ne0, q_n1, q_n2, q_n3, eq_self, not_true_eq_false, not_false_eq_true, ↓reduceIte]
theorem k_timeOf (p0 : Int32) : LK (f_X5_timeOf p0) hc_L_timeOf (f_X6_timeOf p0) := by
  intro n k q g x R
  have hk := R.2.2.1.1.1
  have hn := R.1.1
  by_cases c1 : inb p0 k = true
  · obtain ⟨c, hc, rfl⟩ := inb_of c1 (by omega)
    refine Or.inr (LA.get (x 15 c) R ?_ (fun m hm => ?_))
    · simp only [f_X5_timeOf, R.2.2.1.1.2.1, x_num_t (show k < 2 ^ 30 by omega) c1, q_i20 (show c < 20 by omega), ix_nI (show c < 2 ^ 31 by omega), bnd, bnX, bnN, q_1ne0, q_n1, q_n2, q_n3, eq_self, not_true_eq_false, not_false_eq_true, ↓reduceIte]
    · obtain ⟨L, hL1, hL2⟩ := R.2.2.1.1.2.2.1 c hc
      have hpl := m_played (m0_R hm) hc
      have eT := R.2.2.2.1.2.1 c hc
      unfold qc_t at eT
      rw [hL2, ix_nI (show L < 2 ^ 31 by omega)] at hpl eT
      simp only [f_X6_timeOf, m_cue_t (show k < 2 ^ 30 by omega) hm.2.2.1.2.1 c1, m_fine0, hpl.1, q_i20 (show c < 20 by omega), ix_nI (show c < 2 ^ 31 by omega), q_clr (show ¬ 34 = 6 by decide), q_clr (show ¬ 35 = 6 by decide), hm.2.2.1.2.2.1, hm.2.2.1.2.2.2.1, hL2, m_ahead (show L ≤ 30 by omega), q_clr (show ¬ 29 = 6 by decide), q_clr (show ¬ 30 = 6 by decide), hm.1.2.2.2.1, hm.1.2.2.2.2.1, bnd, bnX, bnN, q_1ne0, q_n1, q_n2, q_n3, eq_self, not_true_eq_false, not_false_eq_true, ↓reduceIte]
      by_cases e : x 15 c = -1
      · rw [if_pos e, if_pos rfl, e]
      · have h8 : x 8 L = 0 := Decidable.byContradiction fun q => e (hpl.2.mpr q)
        rw [if_pos h8] at eT
        rw [if_neg e, if_neg q_1ne0, eT]
  · refine Or.inl (LT.of 1 1 ?_ (by decide) rfl (by decide) (fun m hm => ?_))
    · simp only [f_X5_timeOf, R.2.2.1.1.2.1, x_num_f (show k < 2 ^ 30 by omega) c1, bnd, bnX, bnN, q_1ne0, q_n1, q_n2, q_n3, eq_self, not_true_eq_false, not_false_eq_true, ↓reduceIte]
    · simp only [f_X6_timeOf, m_cue_f (show k < 2 ^ 30 by omega) hm.2.2.1.2.1 c1, m_fine1, bnd, bnX, bnN, q_1ne0, q_n1, q_n2, q_n3, eq_self, not_true_eq_false, not_false_eq_true, ↓reduceIte]
theorem k_foldedInto (p0 : Int32) : LK (f_X5_foldedInto p0) hc_L_foldedInto (f_X6_foldedInto p0) := by
  intro n k q g x R
  have hk := R.2.2.1.1.1
  by_cases c1 : inb p0 k = true
  · obtain ⟨c, hc, rfl⟩ := inb_of c1 (by omega)
    refine Or.inr (LA.ro (x' := x) (x 16 c) R ?_ KX.rf KR.rf (fun m hm => ?_))
    · simp only [f_X5_foldedInto, R.2.2.1.1.2.1, x_num_t (show k < 2 ^ 30 by omega) c1, q_i20 (show c < 20 by omega), ix_nI (show c < 2 ^ 31 by omega), bnd, bnX, bnN, q_1ne0, q_n1, q_n2, q_n3, eq_self, not_true_eq_false, not_false_eq_true, ↓reduceIte]
    · obtain ⟨m', a1, a2, a3⟩ := m_orders (m0_R hm)
      obtain ⟨b1, b2, b3⟩ := a47_km a2
      refine ⟨m', ?_, b3.trans mput_self, a0_km.1.tr b1, a0_km.2.tr b2⟩
      obtain ⟨p, hp, e14⟩ := R.2.2.2.1.1.2.2 c hc
      have R' := (m0_R hm).km b1
      have e1 := m_placeOf R' a3 hp
      have e2 := m_folded R' a3 (nI c) (k - p) p lf (by omega) (lf_gt (by omega))
      have e3 := R.2.2.2.1.2.2.1.1 p hp
      rw [e14] at e1
      rw [e14, ix_nI (show c < 2 ^ 31 by omega)] at e3
      simp only [f_X6_foldedInto, m_cue_t (show k < 2 ^ 30 by omega) hm.2.2.1.2.1 c1, m_fine0, a1, e1, bnd, bnX, bnN, q_1ne0, q_n1, q_n2, q_n3, eq_self, not_true_eq_false, not_false_eq_true, ↓reduceIte]
      rw [e2, e3]
  · refine Or.inl (LT.of 1 1 ?_ (by decide) rfl (by decide) (fun m hm => ?_))
    · simp only [f_X5_foldedInto, R.2.2.1.1.2.1, x_num_f (show k < 2 ^ 30 by omega) c1, bnd, bnX, bnN, q_1ne0, q_n1, q_n2, q_n3, eq_self, not_true_eq_false, not_false_eq_true, ↓reduceIte]
    · simp only [f_X6_foldedInto, m_cue_f (show k < 2 ^ 30 by omega) hm.2.2.1.2.1 c1, m_fine1, bnd, bnX, bnN, q_1ne0, q_n1, q_n2, q_n3, eq_self, not_true_eq_false, not_false_eq_true, ↓reduceIte]
theorem k_changes (p0 p1 : Int32) : LK (f_X5_changes p0 p1) hc_L_changes (f_X6_changes p0 p1) := by
  intro n k q g x R
  have hk := R.2.2.1.1.1
  by_cases c1 : inb p0 k = true
  · by_cases c2 : inb p1 10 = true
    · obtain ⟨c, hc, rfl⟩ := inb_of c1 (by omega)
      obtain ⟨h, hh, rfl⟩ := inb_of c2 (by omega)
      refine Or.inr (LA.ro (x' := x) (x (108 + c) h) R ?_ KX.rf KR.rf (fun m hm => ?_))
      · simp only [f_X5_changes, R.2.2.1.1.2.1, x_num_t (show k < 2 ^ 30 by omega) c1, x_n10_t c2, q_i20 (show c < 20 by omega), q_i10 hh, ix_nI (show c < 2 ^ 31 by omega), ix_nI (show h < 2 ^ 31 by omega), bnd, bnX, bnN, q_1ne0, q_n1, q_n2, q_n3, eq_self, not_true_eq_false, not_false_eq_true, ↓reduceIte]
      · obtain ⟨m', a1, a2, a3⟩ := m_orders (m0_R hm)
        obtain ⟨b1, b2, b3⟩ := a47_km a2
        refine ⟨m', ?_, b3.trans mput_self, a0_km.1.tr b1, a0_km.2.tr b2⟩
        obtain ⟨p, hp, e14⟩ := R.2.2.2.1.1.2.2 c hc
        have R' := (m0_R hm).km b1
        have e1 := m_placeOf R' a3 hp
        have e2 := m_changesAt R' a3 hh hp
        have e3 := R.2.2.2.1.2.2.1.2 p h hp hh
        have e4 := (m_played R' hc).1
        have eT : pT x p = x 15 c := by
          unfold pT
          rw [e14, ix_nI (by omega)]
        rw [e14] at e1
        rw [e14, ix_nI (show c < 2 ^ 31 by omega), eT] at e3
        simp only [f_X6_changes, m_cue_t (show k < 2 ^ 30 by omega) hm.2.2.1.2.1 c1, m_chan_t c2, m_fine0, a1, e1, e2, e4, bnd, bnX, bnN, q_1ne0, q_n1, q_n2, q_n3, eq_self, not_true_eq_false, not_false_eq_true, ↓reduceIte]
        rw [e3]
        by_cases e : x 15 c = -1
        · rw [if_pos e, if_pos e, if_pos rfl]
        · rw [if_neg e, if_neg e, if_neg q_1ne0]
    · refine Or.inl (LT.of 1 1 ?_ (by decide) rfl (by decide) (fun m hm => ?_))
      · simp only [f_X5_changes, R.2.2.1.1.2.1, x_num_t (show k < 2 ^ 30 by omega) c1, x_n10_f c2, bnd, bnX, bnN, q_1ne0, q_n1, q_n2, q_n3, eq_self, not_true_eq_false, not_false_eq_true, ↓reduceIte]
      · simp only [f_X6_changes, m_cue_t (show k < 2 ^ 30 by omega) hm.2.2.1.2.1 c1, m_chan_f c2, m_fine1, bnd, bnX, bnN, q_1ne0, q_n1, q_n2, q_n3, eq_self, not_true_eq_false, not_false_eq_true, ↓reduceIte]
  · refine Or.inl (LT.of 1 1 ?_ (by decide) rfl (by decide) (fun m hm => ?_))
    · simp only [f_X5_changes, R.2.2.1.1.2.1, x_num_f (show k < 2 ^ 30 by omega) c1, bnd, bnX, bnN, q_1ne0, q_n1, q_n2, q_n3, eq_self, not_true_eq_false, not_false_eq_true, ↓reduceIte]
    · simp only [f_X6_changes, m_cue_f (show k < 2 ^ 30 by omega) hm.2.2.1.2.1 c1, m_fine1, bnd, bnX, bnN, q_1ne0, q_n1, q_n2, q_n3, eq_self, not_true_eq_false, not_false_eq_true, ↓reduceIte]
theorem k_levelAt (p0 p1 : Int32) : LK (f_X5_levelAt p0 p1) hc_L_levelAt (f_X6_levelAt p0 p1) := by
  intro n k q g x R
  by_cases c1 : inb p0 10 = true
  · by_cases c2 : 0 ≤ p1 ∧ p1 ≤ 2000
    · obtain ⟨h, hh, rfl⟩ := inb_of c1 (by omega)
      obtain ⟨t, ht, rfl⟩ := q_time c2
      refine Or.inr (LA.ro (x' := x) (LV x h (nI t)) R ?_ KX.rf KR.rf (fun m hm => ?_))
      · simp only [f_X5_levelAt, x_n10_t c1, x_rng_t c2, x_fades R.px hh, bnd, bnX, bnN, q_1ne0, q_n1, q_n2, q_n3, eq_self, not_true_eq_false, not_false_eq_true, ↓reduceIte]
      · obtain ⟨m', a1, a2, a3, a4, a5⟩ := m_plays (m0_R hm)
        refine ⟨m', ?_, a4.trans mput_self, a0_km.1.tr a2, a0_km.2.tr ⟨fun a ha => a3 a (by omega) (by omega), a3 178 (by decide) (by decide)⟩⟩
        simp only [f_X6_levelAt, f_X6_levelNow, m_chan_t c1, m_time_t c2, m_fine0, a1, m_level ((m0_R hm).km a2) a5 hh (show t ≤ 5000 by omega), bnd, bnX, bnN, q_1ne0, q_n1, q_n2, q_n3, eq_self, not_true_eq_false, not_false_eq_true, ↓reduceIte]
    · refine Or.inl (LT.of 2 2 ?_ (by decide) rfl (by decide) (fun m hm => ?_))
      · simp only [f_X5_levelAt, x_n10_t c1, x_rng_f c2, bnd, bnX, bnN, q_1ne0, q_n1, q_n2, q_n3, eq_self, not_true_eq_false, not_false_eq_true, ↓reduceIte]
      · simp only [f_X6_levelAt, f_X6_levelNow, m_chan_t c1, m_time_f c2, m_fine2, bnd, bnX, bnN, q_1ne0, q_n1, q_n2, q_n3, eq_self, not_true_eq_false, not_false_eq_true, ↓reduceIte]
  · refine Or.inl (LT.of 1 1 ?_ (by decide) rfl (by decide) (fun m hm => ?_))
    · simp only [f_X5_levelAt, x_n10_f c1, bnd, bnX, bnN, q_1ne0, q_n1, q_n2, q_n3, eq_self, not_true_eq_false, not_false_eq_true, ↓reduceIte]
    · simp only [f_X6_levelAt, f_X6_levelNow, m_chan_f c1, m_fine1, bnd, bnX, bnN, q_1ne0, q_n1, q_n2, q_n3, eq_self, not_true_eq_false, not_false_eq_true, ↓reduceIte]
theorem k_levelBySeconds (p0 p1 : Int32) : LK (f_X5_levelBySeconds p0 p1) hc_L_levelBySeconds (f_X6_levelBySeconds p0 p1) := by
  intro n k q g x R
  by_cases c1 : inb p0 10 = true
  · by_cases c2 : 0 ≤ p1 ∧ p1 ≤ 2000
    · obtain ⟨h, hh, rfl⟩ := inb_of c1 (by omega)
      obtain ⟨t, ht, rfl⟩ := q_time c2
      refine Or.inr (LA.ro (x' := x) (LV x h (nI t)) R ?_ KX.rf KR.rf (fun m hm => ?_))
      · simp only [f_X5_levelBySeconds, x_n10_t c1, x_rng_t c2, x_ticks R.px hh ht, bnd, bnX, bnN, q_1ne0, q_n1, q_n2, q_n3, eq_self, not_true_eq_false, not_false_eq_true, ↓reduceIte]
      · obtain ⟨m', a1, a2, a3, a4, a5⟩ := m_plays (m0_R hm)
        refine ⟨m', ?_, a4.trans mput_self, a0_km.1.tr a2, a0_km.2.tr ⟨fun a ha => a3 a (by omega) (by omega), a3 178 (by decide) (by decide)⟩⟩
        simp only [f_X6_levelBySeconds, f_X6_levelNow, m_chan_t c1, m_time_t c2, m_fine0, a1, m_level ((m0_R hm).km a2) a5 hh (show t ≤ 5000 by omega), bnd, bnX, bnN, q_1ne0, q_n1, q_n2, q_n3, eq_self, not_true_eq_false, not_false_eq_true, ↓reduceIte]
    · refine Or.inl (LT.of 2 2 ?_ (by decide) rfl (by decide) (fun m hm => ?_))
      · simp only [f_X5_levelBySeconds, x_n10_t c1, x_rng_f c2, bnd, bnX, bnN, q_1ne0, q_n1, q_n2, q_n3, eq_self, not_true_eq_false, not_false_eq_true, ↓reduceIte]
      · simp only [f_X6_levelBySeconds, f_X6_levelNow, m_chan_t c1, m_time_f c2, m_fine2, bnd, bnX, bnN, q_1ne0, q_n1, q_n2, q_n3, eq_self, not_true_eq_false, not_false_eq_true, ↓reduceIte]
  · refine Or.inl (LT.of 1 1 ?_ (by decide) rfl (by decide) (fun m hm => ?_))
    · simp only [f_X5_levelBySeconds, x_n10_f c1, bnd, bnX, bnN, q_1ne0, q_n1, q_n2, q_n3, eq_self, not_true_eq_false, not_false_eq_true, ↓reduceIte]
    · simp only [f_X6_levelBySeconds, f_X6_levelNow, m_chan_f c1, m_fine1, bnd, bnX, bnN, q_1ne0, q_n1, q_n2, q_n3, eq_self, not_true_eq_false, not_false_eq_true, ↓reduceIte]
