/-! arrange: folding, the plays by time, the whole -/
theorem mrow_same {x : aM} {k i : Nat} {f : Nat → Int32} (h : f i = x k i) : mrow x k (i + 1) f = mrow x k i f := by
  funext a j
  by_cases ha : a = k
  · subst ha
    by_cases h1 : j < i
    · rw [mrow_at h1, mrow_at (by omega)]
    · rw [mrow_out h1]
      by_cases h2 : j = i
      · subst h2
        rw [mrow_at (by omega), h]
      · rw [mrow_out (by omega)]
  · rw [mrow_ne ha, mrow_ne ha]
theorem x_forget {x : aM} {c : Nat} (hc : c < 20) : f_X1_forget (nI c) x = some (0, mrow x (108 + c) 10 (fun _ => -1)) := by
  have hl : ∀ kk : Int32 → aM → Option (Int32 × aM), l_X1_forget_2 (nI c) lf 0 x kk = kk (nI 10) (mrow x (108 + c) 10 (fun _ => -1)) := by
    intro kk
    have key : l_X1_forget_2 (nI c) lf (nI 0) (mrow x (108 + c) 0 (fun _ => -1)) kk = kk (nI 10) (mrow x (108 + c) 10 (fun _ => -1)) := by
      refine qa_loop0 (fun fu i => l_X1_forget_2 (nI c) fu (nI i) (mrow x (108 + c) i (fun _ => -1)) kk) 10 _ lf (lf_gt (by decide)) (fun i fu hi => ?_) (fun fu => ?_)
      · show l_X1_forget_2 (nI c) (fu + 1) (nI i) (mrow x (108 + c) i (fun _ => -1)) kk = l_X1_forget_2 (nI c) fu (nI (i + 1)) (mrow x (108 + c) (i + 1) (fun _ => -1)) kk
        rw [l_X1_forget_2, if_neg (q10_lt hi), if_pos (inb_nI hc (by decide)), if_pos (inb_nI hi (by decide)), ix_nI (show c < 2 ^ 31 by omega), ix_nI (show i < 2 ^ 31 by omega), nI_1, ← mrow_s (i := i)]
      · show l_X1_forget_2 (nI c) (fu + 1) (nI 10) _ kk = _
        rw [l_X1_forget_2, if_pos q10_ge]
    rw [mrow_0] at key
    exact key
  unfold f_X1_forget
  rw [hl]
theorem x_fillIn {x : aM} {d c : Nat} (hd : d < 20) (hc : c < 20) : f_X1_fillIn (nI d) (nI c) x = some (0, mrow x (108 + d) 10 (fun h => if x (108 + d) h = -1 then x (88 + c) h else x (108 + d) h)) := by
  have hl : ∀ kk : Int32 → aM → Option (Int32 × aM), l_X1_fillIn_2 (nI d) (nI c) lf 0 x kk = kk (nI 10) (mrow x (108 + d) 10 (fun h => if x (108 + d) h = -1 then x (88 + c) h else x (108 + d) h)) := by
    intro kk
    have key : l_X1_fillIn_2 (nI d) (nI c) lf (nI 0) (mrow x (108 + d) 0 (fun h => if x (108 + d) h = -1 then x (88 + c) h else x (108 + d) h)) kk = kk (nI 10) (mrow x (108 + d) 10 (fun h => if x (108 + d) h = -1 then x (88 + c) h else x (108 + d) h)) := by
      refine qa_loop0 (fun fu i => l_X1_fillIn_2 (nI d) (nI c) fu (nI i) (mrow x (108 + d) i (fun h => if x (108 + d) h = -1 then x (88 + c) h else x (108 + d) h)) kk) 10 _ lf (lf_gt (by decide)) (fun i fu hi => ?_) (fun fu => ?_)
      · show l_X1_fillIn_2 (nI d) (nI c) (fu + 1) (nI i) (mrow x (108 + d) i (fun h => if x (108 + d) h = -1 then x (88 + c) h else x (108 + d) h)) kk = l_X1_fillIn_2 (nI d) (nI c) fu (nI (i + 1)) (mrow x (108 + d) (i + 1) (fun h => if x (108 + d) h = -1 then x (88 + c) h else x (108 + d) h)) kk
        rw [l_X1_fillIn_2, if_neg (q10_lt hi)]
        simp only [if_pos (inb_nI hd (show 20 < 2 ^ 31 by decide)), if_pos (inb_nI hc (show 20 < 2 ^ 31 by decide)), if_pos (inb_nI hi (show 10 < 2 ^ 31 by decide)), ix_nI (show d < 2 ^ 31 by omega), ix_nI (show c < 2 ^ 31 by omega), ix_nI (show i < 2 ^ 31 by omega), nI_1]
        rw [mrow_out (Nat.lt_irrefl i), mrow_ne (show ¬ 88 + c = 108 + d by omega)]
        by_cases e : x (108 + d) i = -1
        · rw [if_neg (fun q => q e), ← mrow_s (i := i), if_pos e]
        · rw [if_pos e, mrow_same (if_neg e)]
      · show l_X1_fillIn_2 (nI d) (nI c) (fu + 1) (nI 10) _ kk = _
        rw [l_X1_fillIn_2, if_pos q10_ge]
    rw [mrow_0] at key
    exact key
  unfold f_X1_fillIn
  rw [hl]
theorem AO.ne {k p r : Nat} {x : aM} (H : AO k x) (hp : p < k) (hr : r < k) (h : ¬ p = r) : ¬ ix (x 14 p) = ix (x 14 r) := by
  intro e
  by_cases h1 : p < r
  · have := H.2.1 p r h1 hr
    rw [e] at this
    unfold qc_ah at this
    omega
  · have := H.2.1 r p (by omega) hp
    rw [e] at this
    unfold qc_ah at this
    omega
theorem qc_C_ne {tm ow : Nat → Int32} {v : Int32} (h : ¬ v = -1) : ∀ m, qc_C tm ow m v = v
  | 0 => rfl
  | m + 1 => by rw [qc_C, if_neg h]
/-- the folding behind the places from r on -/
def FI (k : Nat) (tm ov : Nat → Int32) (ow : Nat → Nat → Int32) (r : Nat) (nx : Int32) (y : aM) : Prop :=
  nx = qc_N tm ov k (k - r) ∧ (∀ p, r ≤ p → p < k → y 16 (ix (ov p)) = qc_N tm ov k (k - p)) ∧ (∀ p h, r ≤ p → p < k → h < 10 → tm p = -1 → y (108 + ix (ov p)) h = -1) ∧ (∀ p h, r ≤ p → p < k → h < 10 → ¬ tm p = -1 → (∃ s, r ≤ s ∧ s < p ∧ ¬ tm s = -1) → y (108 + ix (ov p)) h = qc_C tm (ow h) p (ow h p)) ∧ ((nx = -1 ∧ ∀ p, r ≤ p → p < k → tm p = -1) ∨ ∃ q, r ≤ q ∧ q < k ∧ nx = ov q ∧ ¬ tm q = -1 ∧ (∀ p, r ≤ p → p < q → tm p = -1) ∧ ∀ h, h < 10 → qc_C tm (ow h) r (y (108 + ix (ov q)) h) = qc_C tm (ow h) q (ow h q))
theorem FI.cut0 {k r c : Nat} {tm ov : Nat → Int32} {ow : Nat → Nat → Int32} {nx : Int32} {y y' : aM} (H : FI k tm ov ow (r + 1) nx y) (hr : r < k) (hc : ix (ov r) = c) (hd : ∀ p, p < k → ¬ p = r → ¬ ix (ov p) = c) (ht : tm r = -1) (e16 : y' 16 c = nx) (k16 : ∀ d, ¬ d = c → y' 16 d = y 16 d) (eF : ∀ h, h < 10 → y' (108 + c) h = -1) (hn : nx = -1) (f5 : ∀ p, r + 1 ≤ p → p < k → tm p = -1) (kF : ∀ d h, ¬ d = c → y' (108 + d) h = y (108 + d) h) : FI k tm ov ow r nx y' := by
  obtain ⟨f1, f2, f3, f4, -⟩ := H
  have hN : qc_N tm ov k (k - r) = nx := by
    rw [show k - r = (k - (r + 1)) + 1 by omega, qc_N, show k - (k - (r + 1) + 1) = r by omega, if_pos ht, f1]
  have all : ∀ p, r ≤ p → p < k → tm p = -1 := fun p hp hp2 => by
    by_cases e : p = r
    · rw [e]; exact ht
    · exact f5 p (by omega) hp2
  refine ⟨hN.symm, fun p hp hp2 => ?_, fun p h hp hp2 hh htp => ?_, fun p h hp hp2 hh htp _ => absurd (all p hp hp2) htp, Or.inl ⟨hn, all⟩⟩
  · by_cases e : p = r
    · rw [e, hc, e16, hN]
    · rw [k16 _ (hd p hp2 e)]
      exact f2 p (by omega) hp2
  · by_cases e : p = r
    · rw [e, hc]; exact eF h hh
    · rw [kF _ _ (hd p hp2 e)]
      exact f3 p h (by omega) hp2 hh htp
theorem FI.cutQ {k r c q e : Nat} {tm ov : Nat → Int32} {ow : Nat → Nat → Int32} {nx : Int32} {y y' : aM} (H : FI k tm ov ow (r + 1) nx y) (hr : r < k) (hc : ix (ov r) = c) (hd : ∀ p, p < k → ¬ p = r → ¬ ix (ov p) = c) (ht : tm r = -1) (e16 : y' 16 c = nx) (k16 : ∀ d, ¬ d = c → y' 16 d = y 16 d) (eF : ∀ h, h < 10 → y' (108 + c) h = -1) (g1 : r + 1 ≤ q) (g2 : q < k) (g3 : nx = ov q) (g4 : ¬ tm q = -1) (g5 : ∀ p, r + 1 ≤ p → p < q → tm p = -1) (g6 : ∀ h, h < 10 → qc_C tm (ow h) (r + 1) (y (108 + ix (ov q)) h) = qc_C tm (ow h) q (ow h q)) (he : ix (ov q) = e) (hde : ∀ p, p < k → ¬ p = q → ¬ ix (ov p) = e) (eQ : ∀ h, h < 10 → y' (108 + e) h = if y (108 + e) h = -1 then ow h r else y (108 + e) h) (kF : ∀ d h, ¬ d = c → ¬ d = e → y' (108 + d) h = y (108 + d) h) : FI k tm ov ow r nx y' := by
  obtain ⟨f1, f2, f3, f4, -⟩ := H
  have hN : qc_N tm ov k (k - r) = nx := by
    rw [show k - r = (k - (r + 1)) + 1 by omega, qc_N, show k - (k - (r + 1) + 1) = r by omega, if_pos ht, f1]
  refine ⟨hN.symm, fun p hp hp2 => ?_, fun p h hp hp2 hh htp => ?_, fun p h hp hp2 hh htp hs => ?_, Or.inr ⟨q, by omega, g2, g3, g4, fun p hp hp2 => ?_, fun h hh => ?_⟩⟩
  · by_cases e1 : p = r
    · rw [e1, hc, e16, hN]
    · rw [k16 _ (hd p hp2 e1)]
      exact f2 p (by omega) hp2
  · by_cases e1 : p = r
    · rw [e1, hc]; exact eF h hh
    · by_cases e2 : p = q
      · rw [e2] at htp; exact absurd htp g4
      · rw [kF _ _ (hd p hp2 e1) (hde p hp2 e2)]
        exact f3 p h (by omega) hp2 hh htp
  · obtain ⟨s, s1, s2, s3⟩ := hs
    have hsr : ¬ s = r := fun q => s3 (by rw [q]; exact ht)
    have hpq : ¬ p = q := fun q9 => s3 (g5 s (by omega) (by omega))
    rw [kF _ _ (hd p hp2 (by omega)) (hde p hp2 hpq)]
    exact f4 p h (by omega) hp2 hh htp ⟨s, by omega, s2, s3⟩
  · by_cases e1 : p = r
    · rw [e1]; exact ht
    · exact g5 p (by omega) hp2
  · have h6 := g6 h hh
    rw [he] at h6 ⊢
    rw [eQ h hh]
    by_cases e1 : y (108 + e) h = -1
    · rw [if_pos e1]
      rw [qc_C, if_pos e1, if_pos ht] at h6
      exact h6
    · rw [if_neg e1]
      rw [qc_C_ne e1] at h6 ⊢
      exact h6
theorem FI.play {k r c : Nat} {tm ov : Nat → Int32} {ow : Nat → Nat → Int32} {nx : Int32} {y y' : aM} (H : FI k tm ov ow (r + 1) nx y) (hr : r < k) (hc : ix (ov r) = c) (hd : ∀ p, p < k → ¬ p = r → ¬ ix (ov p) = c) (ht : ¬ tm r = -1) (e16 : y' 16 c = ov r) (k16 : ∀ d, ¬ d = c → y' 16 d = y 16 d) (eF : ∀ h, h < 10 → y' (108 + c) h = ow h r) (kF : ∀ d h, ¬ d = c → y' (108 + d) h = y (108 + d) h) : FI k tm ov ow r (ov r) y' := by
  obtain ⟨f1, f2, f3, f4, f5⟩ := H
  have hN : qc_N tm ov k (k - r) = ov r := by
    rw [show k - r = (k - (r + 1)) + 1 by omega, qc_N, show k - (k - (r + 1) + 1) = r by omega, if_neg ht]
  refine ⟨hN.symm, fun p hp hp2 => ?_, fun p h hp hp2 hh htp => ?_, fun p h hp hp2 hh htp hs => ?_, Or.inr ⟨r, Nat.le_refl _, hr, rfl, ht, fun p hp hp2 => absurd hp (by omega), fun h hh => ?_⟩⟩
  · by_cases e1 : p = r
    · rw [e1, hc, e16, hN]
    · rw [k16 _ (hd p hp2 e1)]
      exact f2 p (by omega) hp2
  · by_cases e1 : p = r
    · rw [e1] at htp; exact absurd htp ht
    · rw [kF _ _ (hd p hp2 e1)]
      exact f3 p h (by omega) hp2 hh htp
  · obtain ⟨s, s1, s2, s3⟩ := hs
    have hpr : ¬ p = r := by omega
    rw [kF _ _ (hd p hp2 hpr)]
    by_cases e1 : ∃ s, r + 1 ≤ s ∧ s < p ∧ ¬ tm s = -1
    · exact f4 p h (by omega) hp2 hh htp e1
    · rcases f5 with ⟨-, f5⟩ | ⟨q, g1, g2, g3, g4, g5, g6⟩
      · exact absurd (f5 p (by omega) hp2) htp
      · have hpq : p = q := by
          by_cases h1 : p < q
          · exact absurd (g5 p (by omega) h1) htp
          · by_cases h2 : q < p
            · exact absurd ⟨q, g1, h2, g4⟩ e1
            · omega
        have h6 := g6 h hh
        rw [← hpq] at h6
        rw [qc_C] at h6
        by_cases e2 : y (108 + ix (ov p)) h = -1
        · rw [if_pos e2, if_neg ht] at h6; exact h6
        · rw [if_neg e2] at h6; exact h6
  · rw [hc, eF h hh]
theorem x_fold {x : aM} {k : Nat} (hk : k ≤ 20) (h34 : x 3 4 = nI k) (hO : AO k x) : ∃ x', f_X1_fold x = some (0, x') ∧ (∀ a, ¬ a = 16 → ¬ (108 ≤ a ∧ a < 128) → x' a = x a) ∧ AF k x' := by
  have loop : ∀ (kk : Int32 → Int32 → aM → Option (Int32 × aM)) (hkk : ∀ a b c d y, kk a b y = kk c d y) (r fu : Nat) (nx : Int32) (y : aM), r ≤ k → r < fu → (∀ a, ¬ a = 16 → ¬ (108 ≤ a ∧ a < 128) → y a = x a) → FI k (pT x) (x 14) (pO x) r nx y → ∃ y' nx', l_X1_fold_9 fu nx (nI r - 1) y kk = kk 0 0 y' ∧ (∀ a, ¬ a = 16 → ¬ (108 ≤ a ∧ a < 128) → y' a = x a) ∧ FI k (pT x) (x 14) (pO x) 0 nx' y' := by
    intro kk hkk r
    induction r with
    | zero =>
      intro fu nx y hr hf hy H
      obtain ⟨fu, rfl⟩ : ∃ z, fu = z + 1 := ⟨fu - 1, by omega⟩
      refine ⟨y, nx, ?_, hy, H⟩
      rw [l_X1_fold_9, if_pos (show nI 0 - 1 < 0 by decide)]
      exact hkk _ _ _ _ _
    | succ r ih =>
      intro fu nx y hr hf hy H
      obtain ⟨fu, rfl⟩ : ∃ z, fu = z + 1 := ⟨fu - 1, by omega⟩
      obtain ⟨c, hc, e14⟩ := hO.1 r (by omega)
      have ec : ix (x 14 r) = c := by rw [e14, ix_nI (by omega)]
      have hd : ∀ p, p < k → ¬ p = r → ¬ ix (x 14 p) = c := fun p hp hpr q => hO.ne hp (show r < k by omega) hpr (q.trans ec.symm)
      have ey14 : y 14 = x 14 := hy 14 (by decide) (by decide)
      have ey15 : y 15 = x 15 := hy 15 (by decide) (by decide)
      have hc20 : inb (nI c) 20 = true := inb_nI (by omega) (by decide)
      have eT : pT x r = x 15 c := by
        unfold pT
        rw [ec]
      have eO : ∀ h, pO x h r = x (88 + c) h := fun h => by
        unfold pO
        rw [ec, if_pos (by omega)]
      have hm1 : ∀ e : Nat, e < 20 → ¬ nI e = -1 := fun e he q => by
        have q2 := congrArg Int32.toInt q
        rw [nI_toInt (by omega), show (-1 : Int32).toInt = -1 from rfl] at q2
        omega
      rw [l_X1_fold_9, nI_pred, if_neg (nI_pos (by omega)), if_pos (inb_nI (show r < 20 by omega) (by decide)), ix_nI (show r < 2 ^ 31 by omega), ey14, e14, x_forget (by omega)]
      simp only [bnd, if_pos hc20, ix_nI (show c < 2 ^ 31 by omega)]
      rw [mrow_ne (show ¬ 15 = 108 + c by omega), ey15, ← eT, show nI r + (-1) = nI r - 1 by rw [Int32.sub_eq_add_neg]]
      by_cases ht : pT x r = -1
      · rw [if_pos ht]
        rcases H.2.2.2.2 with ⟨g0, g5⟩ | ⟨q, g1, g2, g3, g4, g5, g6⟩
        · rw [if_pos g0]
          refine ih fu nx _ (by omega) (by omega) (fun a h1 h2 => ?_) (H.cut0 (c := c) (by omega) ec hd ht ?_ (fun d hd2 => ?_) (fun h hh => ?_) g0 g5 (fun d h hd2 => ?_))
          · rw [mput_ne h1, mrow_ne (by omega)]
            exact hy a h1 h2
          · rw [mput_self]
          · rw [mput_other hd2, mrow_ne (by omega)]
          · rw [mput_ne (by omega), mrow_at hh]
          · rw [mput_ne (by omega), mrow_ne (by omega)]
        · obtain ⟨e, he, e14q⟩ := hO.1 q g2
          have eq' : ix (x 14 q) = e := by rw [e14q, ix_nI (by omega)]
          have hde : ∀ p, p < k → ¬ p = q → ¬ ix (x 14 p) = e := fun p hp hpr q9 => hO.ne hp g2 hpr (q9.trans eq'.symm)
          have hec : ¬ e = c := fun q9 => hd q g2 (by omega) (eq'.trans q9)
          have enx : nx = nI e := g3.trans e14q
          rw [if_neg (show ¬ nx = -1 by rw [enx]; exact hm1 e (by omega)), enx, x_fillIn (by omega) (by omega)]
          simp only []
          have hmem : ∀ a, ¬ a = 16 → ¬ a = 108 + c → ¬ a = 108 + e → mrow (mput (mrow y (108 + c) 10 fun _ => -1) 16 c (nI e)) (108 + e) 10 (fun h => if mput (mrow y (108 + c) 10 fun _ => -1) 16 c (nI e) (108 + e) h = -1 then mput (mrow y (108 + c) 10 fun _ => -1) 16 c (nI e) (88 + c) h else mput (mrow y (108 + c) 10 fun _ => -1) 16 c (nI e) (108 + e) h) a = y a := fun a h1 h2 h3 => by
            rw [mrow_ne h3, mput_ne h1, mrow_ne h2]
          refine ih fu (nI e) _ (by omega) (by omega) (fun a h1 h2 => ?_) (FI.cutQ (nx := nI e) (c := c) (q := q) (e := e) (enx ▸ H) (by omega) ec hd ht ?_ (fun d hd2 => ?_) (fun h hh => ?_) g1 g2 (enx ▸ g3) g4 g5 g6 eq' hde (fun h hh => ?_) (fun d h hd2 hd3 => ?_))
          · rw [hmem a h1 (by omega) (by omega)]
            exact hy a h1 h2
          · rw [mrow_ne (by omega), mput_self]
          · rw [mrow_ne (by omega), mput_other hd2, mrow_ne (by omega)]
          · rw [mrow_ne (by omega), mput_ne (by omega), mrow_at hh]
          · rw [mrow_at hh, mput_ne (by omega), mput_ne (by omega), mrow_ne (by omega), mrow_ne (by omega), hy (88 + c) (by omega) (by omega), eO]
          · rw [hmem (108 + d) (by omega) (by omega) (by omega)]
      · rw [if_neg ht, if_neg (hm1 c (by omega)), x_fillIn (by omega) (by omega)]
        simp only []
        rw [← e14]
        refine ih fu (x 14 r) _ (by omega) (by omega) (fun a h1 h2 => ?_) (H.play (c := c) (by omega) ec hd ht ?_ (fun d hd2 => ?_) (fun h hh => ?_) (fun d h hd2 => ?_))
        · rw [mrow_ne (by omega), mput_ne h1, mrow_ne (by omega)]
          exact hy a h1 h2
        · rw [mrow_ne (by omega), mput_self]
        · rw [mrow_ne (by omega), mput_other hd2, mrow_ne (by omega)]
        · rw [mrow_at hh, mput_ne (by omega), mput_ne (by omega), mrow_at hh, if_pos rfl, mrow_ne (by omega), hy (88 + c) (by omega) (by omega), eO]
        · rw [mrow_ne (by omega), mput_ne (by omega), mrow_ne (by omega)]
  have h0 : FI k (pT x) (x 14) (pO x) k (-1) x := by
    refine ⟨?_, fun p h1 h2 => absurd h1 (by omega), fun p h h1 h2 => absurd h1 (by omega), fun p h h1 h2 => absurd h1 (by omega), Or.inl ⟨rfl, fun p h1 h2 => absurd h1 (by omega)⟩⟩
    rw [Nat.sub_self]
    rfl
  obtain ⟨y, nx, e1, e2, g1, g2, g3, g4, g5⟩ := loop (fun v21 v22 σ23 => some (0, σ23)) (fun _ _ _ _ _ => rfl) k lf (-1) x (Nat.le_refl _) (lf_gt (by omega)) (fun _ _ _ => rfl) h0
  refine ⟨y, ?_, e2, ?_⟩
  · unfold f_X1_fold
    rw [h34]
    exact e1
  · have e14 : y 14 = x 14 := e2 14 (by decide) (by decide)
    have e15 : y 15 = x 15 := e2 15 (by decide) (by decide)
    have eT : pT y = pT x := by
      funext p
      unfold pT
      rw [e14, e15]
    have eO : ∀ h, pO y h = pO x h := fun h => by
      funext p
      unfold pO
      rw [e14]
      by_cases e : ix (x 14 p) < 20
      · rw [if_pos e, if_pos e, e2 _ (by omega) (by omega)]
      · rw [if_neg e, if_neg e]
    refine ⟨fun p hp => ?_, fun p h hp hh => ?_⟩
    · rw [eT, e14]; exact g2 p (by omega) hp
    · rw [eT, e14, eO]
      by_cases ht : pT x p = -1
      · rw [if_pos ht]; exact g3 p h (by omega) hp hh ht
      · rw [if_neg ht]
        by_cases hs : ∃ s, 0 ≤ s ∧ s < p ∧ ¬ pT x s = -1
        · exact g4 p h (by omega) hp hh ht hs
        · rcases g5 with ⟨-, g5⟩ | ⟨q, h1, h2, h3, h4, h5, h6⟩
          · exact absurd (g5 p (by omega) hp) ht
          · have hpq : p = q := by
              by_cases h7 : p < q
              · exact absurd (h5 p (by omega) h7) ht
              · by_cases h8 : q < p
                · exact absurd ⟨q, by omega, h8, h4⟩ hs
                · omega
            rw [hpq]
            exact h6 h hh
/-- one play is put in its place -/
theorem x_ins {x : aM} {k z c : Nat} (hk : k ≤ 20) (hO : AO k x) (hz : z < k) (hc20 : c < 20) (hc : x 14 z = nI c) (kk : Int32 → aM → Option (Int32 × aM)) : ∀ (a fu : Nat) (r : Nat → Nat) (y : aM) (N : Nat), a < N → N ≤ 20 → a < fu → (∀ b, ¬ b = 17 → ¬ b = 3 → y b = x b) → (∀ j, j < N → ¬ j = a → r j < k ∧ y 17 j = x 14 (r j)) → ∃ b y', b ≤ a ∧ l_X1_insertPlay_5 (nI c) fu (nI a) y kk = kk (nI b) y' ∧ (∀ b, ¬ b = 17 → y' b = y b) ∧ ∀ j, j < N → mput y' 17 b (nI c) 17 j = x 14 (qc_I (pT x) z a r j) := by
  intro a
  induction a with
  | zero =>
    intro fu r y N ha hN hf hy hr
    obtain ⟨fu, rfl⟩ : ∃ z, fu = z + 1 := ⟨fu - 1, by omega⟩
    refine ⟨0, y, Nat.le_refl _, ?_, fun _ _ => rfl, fun j hj => ?_⟩
    · rw [l_X1_insertPlay_5, if_pos (show nI 0 ≤ 0 from Int32.le_refl 0)]
    · show _ = x 14 (qc_u r 0 z j)
      by_cases e : j = 0
      · rw [e, mput_self, qc_u_at, hc]
      · rw [mput_other e, qc_u_ne e]
        exact (hr j hj e).2
  | succ a ih =>
    intro fu r y N ha hN hf hy hr
    obtain ⟨fu, rfl⟩ : ∃ z, fu = z + 1 := ⟨fu - 1, by omega⟩
    obtain ⟨h1, h2⟩ := hr a (by omega) (by omega)
    obtain ⟨d, hd, e14⟩ := hO.1 (r a) h1
    have e17 : y 17 a = nI d := h2.trans e14
    have ey15 : y 15 = x 15 := hy 15 (by decide) (by decide)
    have eTz : pT x z = x 15 c := by
      unfold pT
      rw [hc, ix_nI (by omega)]
    have eTa : pT x (r a) = x 15 d := by
      unfold pT
      rw [e14, ix_nI (by omega)]
    rw [l_X1_insertPlay_5, if_neg (nI_nle (by omega) (by omega)), nI_pred]
    simp only [if_pos (inb_nI (show a < 20 by omega) (show 20 < 2 ^ 31 by decide)), ix_nI (show a < 2 ^ 31 by omega), e17, if_pos (inb_nI (show d < 20 by omega) (show 20 < 2 ^ 31 by decide)), ix_nI (show d < 2 ^ 31 by omega), if_pos (inb_nI hc20 (show 20 < 2 ^ 31 by decide)), ix_nI (show c < 2 ^ 31 by omega), ey15, if_pos (inb_nI (show a + 1 < 20 by omega) (show 20 < 2 ^ 31 by decide)), ix_nI (show a + 1 < 2 ^ 31 by omega), pk_m1]
    unfold qc_I
    rw [eTz, eTa]
    by_cases hle : x 15 d ≤ x 15 c
    · rw [if_pos hle]
      rw [Int32.le_iff_toInt_le] at hle
      rw [if_neg (show ¬ (x 15 c).toInt < (x 15 d).toInt by omega)]
      refine ⟨a + 1, y, Nat.le_refl _, rfl, fun _ _ => rfl, fun j hj => ?_⟩
      by_cases e : j = a + 1
      · rw [e, mput_self, qc_u_at, hc]
      · rw [mput_other e, qc_u_ne e]
        exact (hr j hj e).2
    · rw [if_neg hle]
      rw [Int32.le_iff_toInt_le] at hle
      rw [if_pos (show (x 15 c).toInt < (x 15 d).toInt by omega)]
      obtain ⟨b, y', g1, g2, g3, g4⟩ := ih fu (qc_u r (a + 1) (r a)) (mput y 17 (a + 1) (nI d)) N (by omega) hN (by omega) (fun b h3 h4 => (mput_ne h3).trans (hy b h3 h4)) (fun j hj hja => by
        by_cases e : j = a + 1
        · rw [e, qc_u_at, mput_self]
          exact ⟨h1, e14.symm⟩
        · rw [qc_u_ne e, mput_other e]
          exact hr j hj e)
      exact ⟨b, y', by omega, g2, fun b hb => (g3 b hb).trans (mput_ne hb), g4⟩
theorem x_sortPlays {x : aM} {k : Nat} (hk : k ≤ 20) (h34 : x 3 4 = nI k) (hO : AO k x) : ∃ x', f_X1_sortPlays x = some (0, x') ∧ (∀ a, ¬ a = 17 → ¬ a = 3 → x' a = x a) ∧ (∀ j, ¬ j = 10 → x' 3 j = x 3 j) ∧ AP k x' := by
  have loop : ∀ (kk : Int32 → aM → Option (Int32 × aM)) d p fu y, p + d = k → d < fu → (∀ a, ¬ a = 17 → ¬ a = 3 → y a = x a) → (∀ j, ¬ j = 10 → y 3 j = x 3 j) → y 3 10 = nI (qc_P (pT x) p).1 → (∀ j, j < (qc_P (pT x) p).1 → y 17 j = x 14 ((qc_P (pT x) p).2 j)) → ∃ y', l_X1_sortPlays_7 fu (nI p) y kk = kk (nI k) y' ∧ (∀ a, ¬ a = 17 → ¬ a = 3 → y' a = x a) ∧ (∀ j, ¬ j = 10 → y' 3 j = x 3 j) ∧ y' 3 10 = nI (qc_P (pT x) k).1 ∧ (∀ j, j < (qc_P (pT x) k).1 → y' 17 j = x 14 ((qc_P (pT x) k).2 j)) := by
    intro kk d
    induction d with
    | zero =>
      intro p fu y hp hf h1 h2 h3 h4
      obtain ⟨fu, rfl⟩ : ∃ z, fu = z + 1 := ⟨fu - 1, by omega⟩
      obtain rfl : p = k := by omega
      refine ⟨y, ?_, h1, h2, h3, h4⟩
      rw [l_X1_sortPlays_7, h2 4 (by decide), h34, if_pos (q_le_self (by omega))]
    | succ d ih =>
      intro p fu y hp hf h1 h2 h3 h4
      obtain ⟨fu, rfl⟩ : ∃ z, fu = z + 1 := ⟨fu - 1, by omega⟩
      obtain ⟨c, hc, e14⟩ := hO.1 p (by omega)
      obtain ⟨f1, f2, f3⟩ := qc_P_facts (tm := pT x) p
      have eT : pT x p = x 15 c := by
        unfold pT
        rw [e14, ix_nI (by omega)]
      have e4 : y 3 4 = nI k := (h2 4 (by decide)).trans h34
      have ey14 : y 14 p = nI c := (congrFun (h1 14 (by decide) (by decide)) p).trans e14
      have ey15 : y 15 = x 15 := h1 15 (by decide) (by decide)
      rw [l_X1_sortPlays_7, e4, if_neg (nI_ge (by omega) (by omega)), if_pos (inb_nI (show p < 20 by omega) (by decide)), ix_nI (show p < 2 ^ 31 by omega), ey14, if_pos (inb_nI (show c < 20 by omega) (by decide)), ix_nI (show c < 2 ^ 31 by omega), ey15, ← eT, nI_1]
      by_cases ht : pT x p = -1
      · have eP : qc_P (pT x) (p + 1) = qc_P (pT x) p := by rw [qc_P, if_pos ht]
        rw [if_pos ht]
        exact ih (p + 1) fu y (by omega) (by omega) h1 h2 (by rw [eP]; exact h3) (by rw [eP]; exact h4)
      · have eP : qc_P (pT x) (p + 1) = ((qc_P (pT x) p).1 + 1, qc_I (pT x) p (qc_P (pT x) p).1 (qc_P (pT x) p).2) := by rw [qc_P, if_neg ht]
        rw [if_neg ht, if_pos (inb_nI (show p < 20 by omega) (by decide))]
        unfold f_X1_insertPlay
        rw [h3]
        obtain ⟨b, y', g1, g2, g3, g4⟩ := x_ins hk hO (show p < k by omega) (show c < 20 by omega) e14 (fun v11 σ12 => if inb v11 20 = true then some (0, mput (mput σ12 17 (ix v11) (nI c)) 3 10 ((σ12 3 10) + 1)) else none) (qc_P (pT x) p).1 lf (qc_P (pT x) p).2 y ((qc_P (pT x) p).1 + 1) (Nat.lt_succ_self _) (by omega) (lf_gt (by omega)) h1 (fun j hj hj2 => ⟨by have := (f2 j (by omega)).1; omega, h4 j (by omega)⟩)
        rw [g2, if_pos (inb_nI (show b < 20 by omega) (by decide))]
        simp only [bnd]
        rw [ix_nI (show b < 2 ^ 31 by omega)]
        refine ih (p + 1) fu _ (by omega) (by omega) (fun a ha hb => ?_) (fun j hj => ?_) ?_ (fun j hj => ?_)
        · rw [mput_ne hb, mput_ne ha, g3 a ha]
          exact h1 a ha hb
        · rw [mput_other hj, mput_ne (by decide), g3 3 (by decide)]
          exact h2 j hj
        · rw [mput_self, g3 3 (by decide), h3, eP, nI_1]
        · rw [eP] at hj ⊢
          rw [mput_ne (by decide)]
          exact g4 j hj
  obtain ⟨y, e1, e2, e3, e4, e5⟩ := loop (fun v11 σ12 => some (0, σ12)) k 0 lf (mput x 3 10 0) (by omega) (lf_gt (by omega)) (fun a _ hb => mput_ne hb) (fun j hj => mput_other hj) mput_self (fun j hj => absurd hj (Nat.not_lt_zero j))
  refine ⟨y, e1, e2, e3, ?_⟩
  have e14 : y 14 = x 14 := e2 14 (by decide) (by decide)
  have eT : pT y = pT x := by
    funext p
    unfold pT
    rw [e14, e2 15 (by decide) (by decide)]
  unfold AP
  rw [eT, e14]
  exact ⟨e4, e5⟩
theorem x_arrange {x : aM} {n k : Nat} (hn : n ≤ 30) (hC : RC0 n k x) : ∃ x', f_X1_arrange x = some (0, x') ∧ (∀ a, ¬ (14 ≤ a ∧ a ≤ 17) → ¬ (108 ≤ a ∧ a < 128) → ¬ a = 3 → x' a = x a) ∧ (∀ j, ¬ j = 10 → x' 3 j = x 3 j) ∧ AR k x' := by
  obtain ⟨hk, h34, hL, -, -⟩ := hC
  obtain ⟨x1, a1, a2, a3⟩ := x_sortCues hk h34
  have b34 : x1 3 4 = nI k := by rw [a2 3 (by decide)]; exact h34
  have bL : ∀ c, c < k → ∃ L, L < n ∧ x1 11 c = nI L := by rw [a2 11 (by decide)]; exact hL
  have b1 := x_setTimes hn hk b34 bL
  have b2 : AO k (mrow x1 15 k (qc_t x1)) := by
    unfold AO qc_ah at a3 ⊢
    rw [mrow_ne (show ¬ 14 = 15 by decide), mrow_ne (show ¬ 11 = 15 by decide), mrow_ne (show ¬ 12 = 15 by decide)]
    exact a3
  have c34 : mrow x1 15 k (qc_t x1) 3 4 = nI k := by rw [mrow_ne (by decide)]; exact b34
  obtain ⟨x3, c1, c2, c3⟩ := x_fold hk c34 b2
  have d34 : x3 3 4 = nI k := by rw [c2 3 (by decide) (by decide)]; exact c34
  have d0 : AO k x3 := by
    unfold AO qc_ah at b2 ⊢
    rw [c2 14 (by decide) (by decide), c2 11 (by decide) (by decide), c2 12 (by decide) (by decide)]
    exact b2
  obtain ⟨x4, d1, d2, d3, d4⟩ := x_sortPlays hk d34 d0
  have keep : ∀ a, ¬ (14 ≤ a ∧ a ≤ 17) → ¬ (108 ≤ a ∧ a < 128) → ¬ a = 3 → x4 a = x a := fun a h1 h2 h3 => by
    rw [d2 a (by omega) h3, c2 a (by omega) h2, mrow_ne (by omega), a2 a (by omega)]
  refine ⟨x4, ?_, keep, fun j hj => ?_, ?_, fun c hc => ?_, ?_, d4⟩
  · unfold f_X1_arrange
    rw [a1]
    simp only [bnd]
    rw [b1]
    simp only []
    rw [c1]
    simp only []
    rw [d1]
  · rw [d3 j hj, c2 3 (by decide) (by decide), mrow_ne (by decide), a2 3 (by decide)]
  · unfold AO qc_ah at d0 ⊢
    rw [d2 14 (by decide) (by decide), d2 11 (by decide) (by decide), d2 12 (by decide) (by decide)]
    exact d0
  · rw [d2 15 (by decide) (by decide), c2 15 (by decide) (by decide), mrow_at hc]
    unfold qc_t
    rw [keep 8 (by decide) (by decide) (by decide), keep 11 (by decide) (by decide) (by decide), keep 7 (by decide) (by decide) (by decide), keep 12 (by decide) (by decide) (by decide), a2 8 (by decide), a2 11 (by decide), a2 7 (by decide), a2 12 (by decide)]
  · have e14 : x4 14 = x3 14 := d2 14 (by decide) (by decide)
    have eT : pT x4 = pT x3 := by
      funext p
      unfold pT
      rw [e14, d2 15 (by decide) (by decide)]
    have eO : ∀ h, pO x4 h = pO x3 h := fun h => by
      funext p
      unfold pO
      rw [e14]
      by_cases e : ix (x3 14 p) < 20
      · rw [if_pos e, if_pos e, d2 _ (by omega) (by omega)]
      · rw [if_neg e, if_neg e]
    refine ⟨?_, fun p h hp hh => ?_⟩
    · rw [eT, e14, d2 16 (by decide) (by decide)]
      exact c3.1
    · obtain ⟨c, hc, e⟩ := d0.1 p hp
      have e2 : ix (x3 14 p) = c := by rw [e, ix_nI (by omega)]
      rw [eT, e14, eO, d2 (108 + ix (x3 14 p)) (by omega) (by omega)]
      exact c3.2 p h hp hh
