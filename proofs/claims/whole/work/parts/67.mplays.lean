/-! the reference's order, starts and plays -/
def qc_n (f : Nat → Bool) : Nat → Nat
  | 0 => 0
  | n + 1 => qc_n f n + (if f n = true then 1 else 0)
def qc_b (x : aM) (c d : Nat) : Bool := decide ((x 11 c).toInt < (x 11 d).toInt ∨ ((x 11 c).toInt = (x 11 d).toInt ∧ ((x 12 c).toInt < (x 12 d).toInt ∨ ((x 12 c).toInt = (x 12 d).toInt ∧ c < d))))
theorem qc_b_iff {x : aM} {c d : Nat} : qc_b x c d = true ↔ qc_ah x c d := decide_eq_true_iff
theorem qc_n_le {f : Nat → Bool} : ∀ n, qc_n f n ≤ n
  | 0 => Nat.le_refl _
  | n + 1 => by
    have := qc_n_le (f := f) n
    unfold qc_n
    split <;> omega
theorem qc_n_zero {f : Nat → Bool} : ∀ n, (∀ d, d < n → ¬ f d = true) → qc_n f n = 0
  | 0, _ => rfl
  | n + 1, h => by
    unfold qc_n
    rw [if_neg (h n (Nat.lt_succ_self n)), qc_n_zero n (fun d hd => h d (by omega))]
theorem qc_n_congr {f g : Nat → Bool} : ∀ n, (∀ d, d < n → (f d = true ↔ g d = true)) → qc_n f n = qc_n g n
  | 0, _ => rfl
  | n + 1, h => by
    unfold qc_n
    rw [qc_n_congr n (fun d hd => h d (by omega))]
    by_cases e : g n = true
    · rw [if_pos e, if_pos ((h n (Nat.lt_succ_self n)).mpr e)]
    · rw [if_neg e, if_neg (fun q => e ((h n (Nat.lt_succ_self n)).mp q))]
theorem qc_n_ins {f g : Nat → Bool} {a : Nat} (ha : ¬ g a = true) : ∀ n, a < n → (∀ d, d < n → (f d = true ↔ g d = true ∨ d = a)) → qc_n f n = qc_n g n + 1
  | 0, h, _ => absurd h (Nat.not_lt_zero a)
  | n + 1, h, hf => by
    unfold qc_n
    by_cases e : a = n
    · subst e
      rw [if_pos ((hf a (Nat.lt_succ_self a)).mpr (Or.inr rfl)), if_neg ha, qc_n_congr (g := g) a (fun d hd => ⟨fun q => ((hf d (by omega)).mp q).resolve_right (by omega), fun q => (hf d (by omega)).mpr (Or.inl q)⟩)]
    · rw [qc_n_ins ha n (by omega) (fun d hd => hf d (by omega))]
      by_cases e2 : g n = true
      · rw [if_pos e2, if_pos ((hf n (Nat.lt_succ_self n)).mpr (Or.inl e2))]
      · rw [if_neg e2, if_neg (fun q => ((hf n (Nat.lt_succ_self n)).mp q).elim e2 (fun q2 => e q2.symm))]
theorem AO.cmp {k p r : Nat} {x : aM} (H : AO k x) (hp : p < k) (hr : r < k) : qc_ah x (ix (x 14 p)) (ix (x 14 r)) ↔ p < r := by
  refine ⟨fun q => ?_, fun q => H.2.1 p r q hr⟩
  by_cases h1 : p < r
  · exact h1
  · exfalso
    by_cases h2 : p = r
    · subst h2
      unfold qc_ah at q
      omega
    · have := H.2.1 r p (by omega) hp
      unfold qc_ah at q this
      omega
theorem AO.rank {k : Nat} {x : aM} (hk : k ≤ 20) (H : AO k x) : ∀ p, p < k → qc_n (fun d => qc_b x d (ix (x 14 p))) k = p := by
  have sur : ∀ d, d < k → ∃ r, r < k ∧ ix (x 14 r) = d := fun d hd => by
    obtain ⟨r, h1, h2⟩ := H.2.2 d hd
    exact ⟨r, h1, by rw [h2, ix_nI (by omega)]⟩
  intro p
  induction p with
  | zero =>
    intro hp
    refine qc_n_zero k (fun d hd q => ?_)
    obtain ⟨r, h1, h2⟩ := sur d hd
    rw [qc_b_iff, ← h2, H.cmp h1 hp] at q
    exact absurd q (Nat.not_lt_zero r)
  | succ p ih =>
    intro hp
    rw [qc_n_ins (g := fun d => qc_b x d (ix (x 14 p))) (a := ix (x 14 p)) ?_ k ?_ (fun d hd => ?_), ih (by omega)]
    · show ¬ qc_b x (ix (x 14 p)) (ix (x 14 p)) = true
      rw [qc_b_iff, H.cmp (by omega) (by omega)]
      omega
    · obtain ⟨c, hc, e⟩ := H.1 p (by omega)
      rw [e, ix_nI (by omega)]
      exact hc
    · obtain ⟨r, h1, h2⟩ := sur d hd
      show qc_b x d (ix (x 14 (p + 1))) = true ↔ qc_b x d (ix (x 14 p)) = true ∨ d = ix (x 14 p)
      rw [qc_b_iff, qc_b_iff, ← h2, H.cmp h1 hp, H.cmp h1 (by omega)]
      refine ⟨fun q => ?_, fun q => ?_⟩
      · by_cases e : r = p
        · exact Or.inr (by rw [e])
        · exact Or.inl (by omega)
      · rcases q with q | q
        · omega
        · by_cases e : r = p
          · omega
          · exact absurd q (H.ne h1 (by omega) e)
theorem m_isAhead {n k q g c d : Nat} {x m : aM} (H : QL n k q g x m) (hc : c < k) (hd : d < k) : f_X6_isAhead (nI c) (nI d) m = some (if qc_b x c d = true then 1 else 0, m) := by
  have hk := H.2.2.1.1.1
  have e34 := H.2.2.1.2.2.1
  have e35 := H.2.2.1.2.2.2.1
  unfold f_X6_isAhead
  simp only [if_pos (inb_nI (show c < 20 by omega) (show 20 < 2 ^ 31 by decide)), if_pos (inb_nI (show d < 20 by omega) (show 20 < 2 ^ 31 by decide)), ix_nI (show c < 2 ^ 31 by omega), ix_nI (show d < 2 ^ 31 by omega), e34, e35]
  by_cases hb : qc_b x c d = true
  · rw [if_pos hb]
    rw [qc_b_iff] at hb
    unfold qc_ah at hb
    by_cases h1 : x 11 c = x 11 d
    · have h1' := congrArg Int32.toInt h1
      rw [if_pos h1]
      by_cases h2 : x 12 c < x 12 d
      · rw [if_pos h2]
      · rw [if_neg h2]
        rw [Int32.lt_iff_toInt_lt] at h2
        have h3 : x 12 c = x 12 d := Int32.toInt_inj.mp (by omega)
        rw [if_neg (fun q => q h3), if_neg (nI_ge (show c < d by omega) (by omega))]
    · have h1' : ¬ (x 11 c).toInt = (x 11 d).toInt := fun q => h1 (Int32.toInt_inj.mp q)
      rw [if_neg h1]
      have h2 : ¬ x 11 d ≤ x 11 c := by
        rw [Int32.le_iff_toInt_le]
        omega
      rw [if_neg h2]
  · rw [if_neg hb]
    rw [qc_b_iff] at hb
    unfold qc_ah at hb
    by_cases h1 : x 11 c = x 11 d
    · have h1' := congrArg Int32.toInt h1
      rw [if_pos h1]
      have h2 : ¬ x 12 c < x 12 d := by
        rw [Int32.lt_iff_toInt_lt]
        omega
      rw [if_neg h2]
      by_cases h3 : x 12 c = x 12 d
      · have h3' := congrArg Int32.toInt h3
        rw [if_neg (fun q => q h3), if_pos (nI_le (show d ≤ c by omega) (by omega))]
      · rw [if_pos h3]
    · have h1' : ¬ (x 11 c).toInt = (x 11 d).toInt := fun q => h1 (Int32.toInt_inj.mp q)
      rw [if_neg h1]
      have h2 : x 11 d ≤ x 11 c := by
        rw [Int32.le_iff_toInt_le]
        omega
      rw [if_pos h2]
theorem m_rank {n k q g c : Nat} {x m : aM} (H : QL n k q g x m) (hc : c < k) (kk : Int32 → Int32 → aM → Option (Int32 × aM)) : l_X6_orders_14 (nI c) lf 0 0 m kk = kk (nI (qc_n (fun d => qc_b x d c) k)) (nI k) m := by
  have hk := H.2.2.1.1.1
  have e11 := H.2.2.1.2.1
  have key : l_X6_orders_14 (nI c) lf (nI (qc_n (fun d => qc_b x d c) 0)) (nI 0) m kk = kk (nI (qc_n (fun d => qc_b x d c) k)) (nI k) m := by
    refine qa_loop0 (fun fu i => l_X6_orders_14 (nI c) fu (nI (qc_n (fun d => qc_b x d c) i)) (nI i) m kk) k _ lf (lf_gt (by omega)) (fun i fu hi => ?_) (fun fu => ?_)
    · show l_X6_orders_14 (nI c) (fu + 1) (nI (qc_n (fun d => qc_b x d c) i)) (nI i) m kk = l_X6_orders_14 (nI c) fu (nI (qc_n (fun d => qc_b x d c) i + (if qc_b x i c = true then 1 else 0))) (nI (i + 1)) m kk
      rw [l_X6_orders_14, e11, if_neg (nI_ge hi (by omega)), m_isAhead H hi hc, nI_1, Int32.add_zero]
      simp only [bnd]
      by_cases e : i = c
      · subst e
        have hb : ¬ qc_b x i i = true := by
          rw [qc_b_iff]
          unfold qc_ah
          omega
        rw [if_pos rfl, if_neg hb]
        rfl
      · rw [if_neg (fun q => e ((nI_eq (by omega) (by omega)).mp q))]
        by_cases hb : qc_b x i c = true
        · rw [if_pos hb, if_pos hb, if_neg (show ¬ (1 : Int32) = 0 by decide), nI_1]
        · rw [if_neg hb, if_neg hb, if_pos rfl]
          rfl
    · show l_X6_orders_14 (nI c) (fu + 1) _ (nI k) m kk = _
      rw [l_X6_orders_14, e11, if_pos (q_le_self (by omega))]
  exact key
theorem m_orders {n k q g : Nat} {x m : aM} (H : QL n k q g x m) : ∃ m', f_X6_orders m = some (0, m') ∧ (∀ a, ¬ a = 47 → m' a = m a) ∧ ∀ p, p < k → m' 47 p = x 14 p := by
  have hk := H.2.2.1.1.1
  have hO := H.2.2.2.1.1
  have loop : ∀ (kk : Int32 → aM → Option (Int32 × aM)) d i fu y, i + d = k → d < fu → (∀ a, ¬ a = 47 → y a = m a) → (∀ p, p < k → ix (x 14 p) < i → y 47 p = x 14 p) → ∃ y', l_X6_orders_2 fu (nI i) y kk = kk (nI k) y' ∧ (∀ a, ¬ a = 47 → y' a = m a) ∧ (∀ p, p < k → ix (x 14 p) < k → y' 47 p = x 14 p) := by
    intro kk d
    induction d with
    | zero =>
      intro i fu y hi hf h1 h2
      obtain ⟨fu, rfl⟩ : ∃ z, fu = z + 1 := ⟨fu - 1, by omega⟩
      obtain rfl : i = k := by omega
      refine ⟨y, ?_, h1, h2⟩
      rw [l_X6_orders_2, h1 6 (by decide), H.2.2.1.2.1, if_pos (q_le_self (by omega))]
    | succ d ih =>
      intro i fu y hi hf h1 h2
      obtain ⟨fu, rfl⟩ : ∃ z, fu = z + 1 := ⟨fu - 1, by omega⟩
      have hKM : KM m y := ⟨fun a ha => h1 a (by omega), by rw [h1 6 (by decide)], by rw [h1 6 (by decide)], by rw [h1 6 (by decide)], by rw [h1 6 (by decide)]⟩
      obtain ⟨p, hp, e14⟩ := hO.2.2 i (by omega)
      have eix : ix (x 14 p) = i := by rw [e14, ix_nI (by omega)]
      have hrk : qc_n (fun d => qc_b x d i) k = p := by
        have := hO.rank hk p hp
        rw [eix] at this
        exact this
      rw [l_X6_orders_2, h1 6 (by decide), H.2.2.1.2.1, if_neg (nI_ge (by omega) (by omega)), m_rank (H.km hKM) (show i < k by omega), hrk, if_pos (inb_nI (show p < 20 by omega) (by decide)), ix_nI (show p < 2 ^ 31 by omega), nI_1]
      refine ih (i + 1) fu _ (by omega) (by omega) (fun a ha => (mput_ne ha).trans (h1 a ha)) (fun r hr hri => ?_)
      by_cases e : r = p
      · rw [e, mput_self, e14]
      · rw [mput_other e]
        refine h2 r hr ?_
        have := hO.ne hr hp e
        omega
  obtain ⟨m', e1, e2, e3⟩ := loop (fun v18 σ19 => some (0, σ19)) k 0 lf m (by omega) (lf_gt (by omega)) (fun _ _ => rfl) (fun p hp h => absurd h (Nat.not_lt_zero _))
  refine ⟨m', e1, e2, fun p hp => e3 p hp ?_⟩
  obtain ⟨c, hc, e⟩ := hO.1 p hp
  rw [e, ix_nI (by omega)]
  exact hc
theorem m_starts {n : Nat} {x m : aM} (H : RS n x m) (kk : Int32 → aM → Option (Int32 × aM)) : l_X6_plays_6 lf 0 m kk = kk (nI n) (mrow m 49 n (fun l => sa (x 7) (x 8) l)) := by
  obtain ⟨hn, -, e4, e29, e30, -, -⟩ := H
  have key : l_X6_plays_6 lf (nI 0) (mrow m 49 0 (fun l => sa (x 7) (x 8) l)) kk = kk (nI n) (mrow m 49 n (fun l => sa (x 7) (x 8) l)) := by
    refine qa_loop0 (fun fu i => l_X6_plays_6 fu (nI i) (mrow m 49 i (fun l => sa (x 7) (x 8) l)) kk) n _ lf (lf_gt (by omega)) (fun i fu hi => ?_) (fun fu => ?_)
    · show l_X6_plays_6 (fu + 1) (nI i) (mrow m 49 i (fun l => sa (x 7) (x 8) l)) kk = l_X6_plays_6 fu (nI (i + 1)) (mrow m 49 (i + 1) (fun l => sa (x 7) (x 8) l)) kk
      rw [l_X6_plays_6, mrow_ne (show ¬ 6 = 49 by decide), e4, if_neg (nI_ge hi (by omega)), nI_1, ← mrow_s (i := i)]
      match i, hi with
      | 0, hi =>
        rw [if_neg (fun q => q rfl), if_pos (inb_nI (show 0 < 30 by decide) (by decide)), ix_nI (show 0 < 2 ^ 31 by decide)]
        rfl
      | i + 1, hi =>
        rw [if_pos (nI_ne0 (by omega) (by omega)), nI_pred, mrow_ne (show ¬ 30 = 49 by decide), mrow_ne (show ¬ 29 = 49 by decide), e29, e30]
        simp only [if_pos (inb_nI (show i < 30 by omega) (show 30 < 2 ^ 31 by decide)), if_pos (inb_nI (show i + 1 < 30 by omega) (show 30 < 2 ^ 31 by decide)), ix_nI (show i < 2 ^ 31 by omega), ix_nI (show i + 1 < 2 ^ 31 by omega), mrow_at (show i < i + 1 by omega), Int32.add_zero]
        by_cases e : x 8 i = 0
        · rw [if_pos e, show sa (x 7) (x 8) (i + 1) = sa (x 7) (x 8) i + x 7 i by rw [sa, if_pos e]]
        · rw [if_neg e, show sa (x 7) (x 8) (i + 1) = sa (x 7) (x 8) i by rw [sa, if_neg e]]
    · show l_X6_plays_6 (fu + 1) (nI n) (mrow m 49 n (fun l => sa (x 7) (x 8) l)) kk = _
      rw [l_X6_plays_6, mrow_ne (show ¬ 6 = 49 by decide), e4, if_pos (q_le_self (by omega))]
  rw [mrow_0] at key
  exact key
theorem m_when {n k q g d : Nat} {x m : aM} (H : QL n k q g x m) (h49 : ∀ l, l < n → m 49 l = sa (x 7) (x 8) l) (hd : d < k) (hp : ¬ x 15 d = -1) : f_X6_when (nI d) m = some (x 15 d, m) := by
  have hk := H.2.2.1.1.1
  obtain ⟨L, hL1, hL2⟩ := H.2.2.1.1.2.2.1 d hd
  have hn := H.1.1
  unfold f_X6_when
  rw [if_pos (inb_nI (show d < 20 by omega) (by decide)), ix_nI (show d < 2 ^ 31 by omega), H.2.2.1.2.2.1, hL2, if_pos (inb_nI (show L < 30 by omega) (by decide)), if_pos (inb_nI (show d < 20 by omega) (by decide)), ix_nI (show L < 2 ^ 31 by omega), h49 L hL1, H.2.2.1.2.2.2.1]
  have h8 : x 8 (ix (x 11 d)) = 0 := Decidable.byContradiction fun q => hp ((m_played H hd).2.mpr q)
  have e15 := H.2.2.2.1.2.1 d hd
  unfold qc_t at e15
  rw [if_pos h8, hL2, ix_nI (by omega)] at e15
  rw [e15]
/-- one play is put in its place -/
theorem m_ins {n k q g z : Nat} {x m : aM} (H : QL n k q g x m) (hz : z < k) (hpz : ¬ pT x z = -1) (kk : Int32 → aM → Option (Int32 × aM)) : ∀ (a fu : Nat) (r : Nat → Nat) (y : aM) (N : Nat), a < N → N ≤ 20 → a < fu → KM m y → (∀ p, p < k → y 47 p = x 14 p) → (∀ l, l < n → y 49 l = sa (x 7) (x 8) l) → (∀ j, j < N → ¬ j = a → (r j < k ∧ ¬ pT x (r j) = -1) ∧ y 48 j = nI (r j)) → ∃ b y', b ≤ a ∧ l_X6_plays_99 (nI z) fu (nI a) y kk = kk (nI b) y' ∧ (∀ b, ¬ b = 48 → y' b = y b) ∧ ∀ j, j < N → mput y' 48 b (nI z) 48 j = nI (qc_I (pT x) z a r j) := by
  have hk := H.2.2.1.1.1
  have hO := H.2.2.2.1.1
  intro a
  induction a with
  | zero =>
    intro fu r y N ha hN hf hy h47 h49 hr
    obtain ⟨fu, rfl⟩ : ∃ z, fu = z + 1 := ⟨fu - 1, by omega⟩
    refine ⟨0, y, Nat.le_refl _, ?_, fun _ _ => rfl, fun j hj => ?_⟩
    · rw [l_X6_plays_99, if_pos (show nI 0 ≤ 0 from Int32.le_refl 0)]
    · show _ = nI (qc_u r 0 z j)
      by_cases e : j = 0
      · rw [e, mput_self, qc_u_at]
      · rw [mput_other e, qc_u_ne e]
        exact (hr j hj e).2
  | succ a ih =>
    intro fu r y N ha hN hf hy h47 h49 hr
    obtain ⟨fu, rfl⟩ : ∃ z, fu = z + 1 := ⟨fu - 1, by omega⟩
    obtain ⟨⟨h1, h0⟩, h2⟩ := hr a (by omega) (by omega)
    obtain ⟨d, hd, e14⟩ := hO.1 (r a) h1
    obtain ⟨c, hc, e14z⟩ := hO.1 z hz
    have eTz : pT x z = x 15 c := by
      unfold pT
      rw [e14z, ix_nI (by omega)]
    have eTa : pT x (r a) = x 15 d := by
      unfold pT
      rw [e14, ix_nI (by omega)]
    have w1 := m_when (H.km hy) h49 hd (eTa ▸ h0)
    have w2 := m_when (H.km hy) h49 hc (eTz ▸ hpz)
    rw [l_X6_plays_99, if_neg (nI_nle (by omega) (by omega)), nI_pred, if_pos (inb_nI (show a < 20 by omega) (by decide)), ix_nI (show a < 2 ^ 31 by omega), h2, if_pos (inb_nI (show r a < 20 by omega) (by decide)), ix_nI (show r a < 2 ^ 31 by omega), h47 _ h1, e14, w1]
    simp only [bnd]
    rw [if_pos (inb_nI (show z < 20 by omega) (by decide)), ix_nI (show z < 2 ^ 31 by omega), h47 z hz, e14z, w2]
    simp only []
    unfold qc_I
    rw [eTz, eTa]
    by_cases hle : x 15 d ≤ x 15 c
    · rw [if_pos hle]
      rw [Int32.le_iff_toInt_le] at hle
      rw [if_neg (show ¬ (x 15 c).toInt < (x 15 d).toInt by omega)]
      refine ⟨a + 1, y, Nat.le_refl _, rfl, fun _ _ => rfl, fun j hj => ?_⟩
      by_cases e : j = a + 1
      · rw [e, mput_self, qc_u_at]
      · rw [mput_other e, qc_u_ne e]
        exact (hr j hj e).2
    · rw [if_neg hle]
      rw [Int32.le_iff_toInt_le] at hle
      rw [if_pos (show (x 15 c).toInt < (x 15 d).toInt by omega), if_pos (inb_nI (show a < 20 by omega) (by decide)), if_pos (inb_nI (show a + 1 < 20 by omega) (by decide)), ix_nI (show a + 1 < 2 ^ 31 by omega), pk_m1, h2]
      obtain ⟨b, y', g1, g2, g3, g4⟩ := ih fu (qc_u r (a + 1) (r a)) (mput y 48 (a + 1) (nI (r a))) N (by omega) hN (by omega) (hy.tr (KM.put (by decide))) (fun p hp => (congrFun (mput_ne (by decide)) p).trans (h47 p hp)) (fun l hl => (congrFun (mput_ne (by decide)) l).trans (h49 l hl)) (fun j hj hja => by
        by_cases e : j = a + 1
        · rw [e, qc_u_at, mput_self]
          exact ⟨⟨h1, h0⟩, rfl⟩
        · rw [qc_u_ne e, mput_other e]
          exact hr j hj e)
      exact ⟨b, y', by omega, g2, fun b hb => (g3 b hb).trans (mput_ne hb), g4⟩
theorem m_plays {n k q g : Nat} {x m : aM} (H : QL n k q g x m) : ∃ m', f_X6_plays m = some (0, m') ∧ KM m m' ∧ (∀ a, ¬ (47 ≤ a ∧ a ≤ 49) → ¬ a = 6 → m' a = m a) ∧ m' 6 0 = m 6 0 ∧ PM n k x m' := by
  have hk := H.2.2.1.1.1
  have hO := H.2.2.2.1.1
  have hP := H.2.2.2.1.2.2.2
  obtain ⟨m1, a1, a2, a3⟩ := m_orders H
  have k1 : KM m m1 := ⟨fun a ha => a2 a (by omega), by rw [a2 6 (by decide)], by rw [a2 6 (by decide)], by rw [a2 6 (by decide)], by rw [a2 6 (by decide)]⟩
  have k2 : KM m1 (mrow m1 49 n (fun l => sa (x 7) (x 8) l)) := KM.row (by decide)
  have k3 : KM m (mput (mrow m1 49 n (fun l => sa (x 7) (x 8) l)) 6 25 0) := (k1.tr k2).tr (KM.fld (by decide))
  have loop : ∀ (kk : Int32 → aM → Option (Int32 × aM)) d p fu y, p + d = k → d < fu → KM m y → (∀ a, ¬ (47 ≤ a ∧ a ≤ 49) → ¬ a = 6 → y a = m a) → y 6 0 = m 6 0 → (∀ p, p < k → y 47 p = x 14 p) → (∀ l, l < n → y 49 l = sa (x 7) (x 8) l) → y 6 25 = nI (qc_P (pT x) p).1 → (∀ j, j < (qc_P (pT x) p).1 → y 48 j = nI ((qc_P (pT x) p).2 j)) → ∃ y', l_X6_plays_73 fu (nI p) y kk = kk (nI k) y' ∧ KM m y' ∧ (∀ a, ¬ (47 ≤ a ∧ a ≤ 49) → ¬ a = 6 → y' a = m a) ∧ y' 6 0 = m 6 0 ∧ (∀ p, p < k → y' 47 p = x 14 p) ∧ (∀ l, l < n → y' 49 l = sa (x 7) (x 8) l) ∧ y' 6 25 = nI (qc_P (pT x) k).1 ∧ (∀ j, j < (qc_P (pT x) k).1 → y' 48 j = nI ((qc_P (pT x) k).2 j)) := by
    intro kk d
    induction d with
    | zero =>
      intro p fu y hp hf h1 h2 h3 h4 h5 h6 h7
      obtain ⟨fu, rfl⟩ : ∃ z, fu = z + 1 := ⟨fu - 1, by omega⟩
      obtain rfl : p = k := by omega
      refine ⟨y, ?_, h1, h2, h3, h4, h5, h6, h7⟩
      rw [l_X6_plays_73, h1.2.2.1, H.2.2.1.2.1, if_pos (q_le_self (by omega))]
    | succ d ih =>
      intro p fu y hp hf h1 h2 h3 h4 h5 h6 h7
      obtain ⟨fu, rfl⟩ : ∃ z, fu = z + 1 := ⟨fu - 1, by omega⟩
      obtain ⟨c, hc, e14⟩ := hO.1 p (by omega)
      obtain ⟨f1, f2, f3⟩ := qc_P_facts (tm := pT x) p
      have eT : pT x p = x 15 c := by
        unfold pT
        rw [e14, ix_nI (by omega)]
      rw [l_X6_plays_73, h1.2.2.1, H.2.2.1.2.1, if_neg (nI_ge (by omega) (by omega)), if_pos (inb_nI (show p < 20 by omega) (by decide)), ix_nI (show p < 2 ^ 31 by omega), h4 p (by omega), e14, (m_played (H.km h1) hc).1, ← eT, nI_1]
      simp only [bnd]
      by_cases ht : pT x p = -1
      · have eP : qc_P (pT x) (p + 1) = qc_P (pT x) p := by rw [qc_P, if_pos ht]
        rw [if_pos ht, if_pos rfl]
        exact ih (p + 1) fu y (by omega) (by omega) h1 h2 h3 h4 h5 (by rw [eP]; exact h6) (by rw [eP]; exact h7)
      · have eP : qc_P (pT x) (p + 1) = ((qc_P (pT x) p).1 + 1, qc_I (pT x) p (qc_P (pT x) p).1 (qc_P (pT x) p).2) := by rw [qc_P, if_neg ht]
        rw [if_neg ht, if_neg (show ¬ (1 : Int32) = 0 by decide), h6]
        obtain ⟨b, y', g1, g2, g3, g4⟩ := m_ins H (show p < k by omega) ht (fun v41 σ42 => if inb v41 20 = true then l_X6_plays_73 fu (nI (p + 1)) (mput (mput σ42 48 (ix v41) (nI p)) 6 25 ((σ42 6 25) + 1)) kk else none) (qc_P (pT x) p).1 lf (qc_P (pT x) p).2 y ((qc_P (pT x) p).1 + 1) (Nat.lt_succ_self _) (by omega) (lf_gt (by omega)) h1 h4 h5 (fun j hj hj2 => ⟨⟨by have := (f2 j (by omega)).1; omega, (f2 j (by omega)).2⟩, h7 j (by omega)⟩)
        rw [g2, if_pos (inb_nI (show b < 20 by omega) (by decide)), ix_nI (show b < 2 ^ 31 by omega)]
        have ky : KM y y' := ⟨fun a ha => g3 a (by omega), by rw [g3 6 (by decide)], by rw [g3 6 (by decide)], by rw [g3 6 (by decide)], by rw [g3 6 (by decide)]⟩
        refine ih (p + 1) fu _ (by omega) (by omega) (((h1.tr ky).tr (KM.put (by decide))).tr (KM.fld (by decide))) (fun a ha hb => ?_) ?_ (fun r hr => ?_) (fun l hl => ?_) ?_ (fun j hj => ?_)
        · rw [mput_ne hb, mput_ne (by omega), g3 a (by omega)]
          exact h2 a ha hb
        · rw [mput_other (by decide), mput_ne (by decide), g3 6 (by decide)]
          exact h3
        · rw [mput_ne (by decide), mput_ne (by decide), g3 47 (by decide)]
          exact h4 r hr
        · rw [mput_ne (by decide), mput_ne (by decide), g3 49 (by decide)]
          exact h5 l hl
        · rw [mput_self, g3 6 (by decide), h6, eP, nI_1]
        · rw [eP] at hj ⊢
          rw [mput_ne (by decide)]
          exact g4 j hj
  obtain ⟨y, e1, e2, e3, e4, e5, e6, e7, e8⟩ := loop (fun v44 σ45 => some (0, σ45)) k 0 lf (mput (mrow m1 49 n (fun l => sa (x 7) (x 8) l)) 6 25 0) (by omega) (lf_gt (by omega)) k3 (fun a ha hb => by rw [mput_ne hb, mrow_ne (by omega), a2 a (by omega)]) (by rw [mput_other (by decide), mrow_ne (by decide), a2 6 (by decide)]) (fun p hp => by rw [mput_ne (by decide), mrow_ne (by decide)]; exact a3 p hp) (fun l hl => by rw [mput_ne (by decide), mrow_at hl]) mput_self (fun j hj => absurd hj (Nat.not_lt_zero j))
  refine ⟨y, ?_, e2, e3, e4, e7.trans hP.1.symm, e5, e6, e8⟩
  unfold f_X6_plays
  rw [a1]
  simp only [bnd]
  rw [m_starts (H.km k1).1]
  exact e1
theorem m_placeOf {n k q g p : Nat} {x m : aM} (H : QL n k q g x m) (h47 : ∀ p, p < k → m 47 p = x 14 p) (hp : p < k) : f_X6_placeOf (x 14 p) m = some (nI p, m) := by
  have hk := H.2.2.1.1.1
  have hO := H.2.2.2.1.1
  have key : l_X6_placeOf_2 (x 14 p) lf (nI 0) m (fun v6 σ7 => some (v6, σ7)) = some (nI p, m) := by
    refine qa_loop0 (fun fu i => l_X6_placeOf_2 (x 14 p) fu (nI i) m (fun v6 σ7 => some (v6, σ7))) p _ lf (lf_gt (by omega)) (fun i fu hi => ?_) (fun fu => ?_)
    · show l_X6_placeOf_2 (x 14 p) (fu + 1) (nI i) m _ = l_X6_placeOf_2 (x 14 p) fu (nI (i + 1)) m _
      rw [l_X6_placeOf_2, if_pos (inb_nI (show i < 20 by omega) (by decide)), ix_nI (show i < 2 ^ 31 by omega), h47 i (by omega), if_neg (fun q => hO.ne (show i < k by omega) hp (by omega) (congrArg ix q)), nI_1]
    · show l_X6_placeOf_2 (x 14 p) (fu + 1) (nI p) m _ = _
      rw [l_X6_placeOf_2, if_pos (inb_nI (show p < 20 by omega) (by decide)), ix_nI (show p < 2 ^ 31 by omega), h47 p hp, if_pos rfl]
  exact key
theorem m_folded {n k q g : Nat} {x m : aM} (H : QL n k q g x m) (h47 : ∀ p, p < k → m 47 p = x 14 p) (u : Int32) : ∀ (d p fu : Nat), p + d = k → d < fu → l_X6_foldedInto_32 u fu (nI p) m (fun v24 σ25 => if (σ25 6 11) ≤ v24 then some ((-1), σ25) else if inb v24 20 = true then some (σ25 47 (ix v24), σ25) else none) = some (qc_N (pT x) (x 14) k (k - p), m) := by
  have hk := H.2.2.1.1.1
  have hO := H.2.2.2.1.1
  have e11 := H.2.2.1.2.1
  intro d
  induction d with
  | zero =>
    intro p fu hp hf
    obtain ⟨fu, rfl⟩ : ∃ z, fu = z + 1 := ⟨fu - 1, by omega⟩
    obtain rfl : p = k := by omega
    rw [l_X6_foldedInto_32, e11, if_pos (q_le_self (by omega)), if_pos (q_le_self (by omega)), Nat.sub_self]
    rfl
  | succ d ih =>
    intro p fu hp hf
    obtain ⟨fu, rfl⟩ : ∃ z, fu = z + 1 := ⟨fu - 1, by omega⟩
    obtain ⟨c, hc, e14⟩ := hO.1 p (by omega)
    have eT : pT x p = x 15 c := by
      unfold pT
      rw [e14, ix_nI (by omega)]
    have hN : qc_N (pT x) (x 14) k (k - p) = if pT x p = -1 then qc_N (pT x) (x 14) k (k - (p + 1)) else x 14 p := by
      rw [show k - p = (k - (p + 1)) + 1 by omega, qc_N, show k - (k - (p + 1) + 1) = p by omega]
    rw [l_X6_foldedInto_32, e11, if_neg (nI_ge (show p < k by omega) (by omega)), if_pos (inb_nI (show p < 20 by omega) (by decide)), ix_nI (show p < 2 ^ 31 by omega), h47 p (by omega), e14, (m_played H hc).1, ← eT, nI_1, hN]
    simp only [bnd]
    by_cases ht : pT x p = -1
    · rw [if_pos ht, if_pos ht, if_neg (fun q => q rfl)]
      exact ih (p + 1) fu (by omega) (by omega)
    · rw [if_neg ht, if_neg ht, if_pos (show ¬ (1 : Int32) = 0 by decide), e11, if_neg (nI_ge (show p < k by omega) (by omega)), if_pos (inb_nI (show p < 20 by omega) (by decide)), h47 p (by omega)]
