/-! a performance: the log, and the wear -/
theorem KX.bothP {v y : aM} {k i : Nat} {c : Int32} (h : KX v y) : KX (mput v k i c) (mput y k i c) := fun a ha => by
  by_cases e : a = k
  · subst e
    rw [mput_row, mput_row, h a ha]
  · rw [mput_ne e, mput_ne e]
    exact h a ha
theorem mrow_row {v : aM} {k n : Nat} {f : Nat → Int32} : mrow v k n f k = fun j => if j < n then f j else v k j := if_pos rfl
theorem KX.bothR {v y : aM} {k n : Nat} {f : Nat → Int32} (h : KX v y) : KX (mrow v k n f) (mrow y k n f) := fun a ha => by
  by_cases e : a = k
  · subst e
    rw [mrow_row, mrow_row, h a ha]
  · rw [mrow_ne e, mrow_ne e]
    exact h a ha
theorem mrow_cg {v : aM} {k n : Nat} {f f' : Nat → Int32} (h : ∀ j, j < n → f j = f' j) : mrow v k n f = mrow v k n f' := by
  funext a j
  by_cases e : a = k
  · subst e
    by_cases e2 : j < n
    · rw [mrow_at e2, mrow_at e2, h j e2]
    · rw [mrow_out e2, mrow_out e2]
  · rw [mrow_ne e, mrow_ne e]
theorem mput_mrow {v : aM} {k n a i : Nat} {f : Nat → Int32} {c : Int32} (h : ¬ a = k) : mput (mrow v k n f) a i c = mrow (mput v a i c) k n f := by
  funext b j
  by_cases e : b = a
  · subst e
    rw [mput_row, mrow_ne h, mrow_ne h, mput_row]
  · rw [mput_ne e]
    by_cases e2 : b = k
    · subst e2
      rw [mrow_row, mrow_row, mput_ne e]
    · rw [mrow_ne e2, mrow_ne e2, mput_ne e]
theorem SH_ky {x x' : aM} {q l : Nat} {s : Int32} (h : KY x x') (hl : l < 30) : SH q x' s l = SH q x s l := by
  have e : LD q x' s = LD q x s := by
    funext c
    unfold LD
    rw [h 22 (by omega), h 23 (by omega), h 20 (by omega), h 9 (by omega), h 10 (by omega)]
  have e2 : (fun c => LV x' c (lastS x' l)) = fun c => LV x c (lastS x l) := by
    funext c
    rw [h.LVe, h.lastSe]
  unfold SH
  rw [e, e2, h 8 (by omega), h 22 (by omega), h 23 (by omega), h 21 (by omega), h 24 (by omega), h (58 + l) (by omega)]
theorem LD_ky {x x' : aM} {q c : Nat} {s : Int32} (h : KY x x') : LD q x' s c = LD q x s c := by
  unfold LD
  rw [h 22 (by omega), h 23 (by omega), h 20 (by omega), h 9 (by omega), h 10 (by omega)]
/-- for how many seconds a lamp has burnt -/
def qg_B (x : aM) (q : Nat) (s : Int32) (l : Nat) : Nat → Int32
  | 0 => 0
  | t + 1 => if x 22 l = s ∧ 0 < qa_L (x 24) (LD q x s) (fun h => LV x h (nI t)) l then qg_B x q s l t + 1 else qg_B x q s l t
theorem x_burn {x w : aM} {q t : Nat} {s : Int32} (hq : q ≤ 20) (h48 : x 4 8 = nI q) (hK : KY x w) (h28 : ∀ h, h < 10 → w 28 h = LD q x s h) (h27 : ∀ h, h < 10 → w 27 h = LV x h (nI t)) (h25 : ∀ l, l < q → w 25 l = qg_B x q s l t) : f_X3_burn s 28 27 w = some (0, mrow w 25 q (fun l => qg_B x q s l (t + 1))) := by
  have hl : ∀ kk : Int32 → aM → Option (Int32 × aM), l_X3_burn_3 s 28 27 lf 0 w kk = kk (nI q) (mrow w 25 q (fun l => qg_B x q s l (t + 1))) := by
    intro kk
    have key : l_X3_burn_3 s 28 27 lf (nI 0) (mrow w 25 0 (fun l => qg_B x q s l (t + 1))) kk = kk (nI q) (mrow w 25 q (fun l => qg_B x q s l (t + 1))) := by
      refine qa_loop0 (fun fu i => l_X3_burn_3 s 28 27 fu (nI i) (mrow w 25 i (fun l => qg_B x q s l (t + 1))) kk) q _ lf (lf_gt (by omega)) (fun i fu hi => ?_) (fun fu => ?_)
      · show l_X3_burn_3 s 28 27 (fu + 1) (nI i) (mrow w 25 i (fun l => qg_B x q s l (t + 1))) kk = l_X3_burn_3 s 28 27 fu (nI (i + 1)) (mrow w 25 (i + 1) (fun l => qg_B x q s l (t + 1))) kk
        have hlv := x_levelOf (x := mrow w 25 i (fun l => qg_B x q s l (t + 1))) (l := i) (a5 := 27) (ld := LD q x s) (lv := fun h => LV x h (nI t)) (by omega) (by decide) (by decide) (fun h hh => by rw [mrow_ne (by decide)]; exact h28 h hh) (fun h hh => by rw [mrow_ne (by decide)]; exact h27 h hh)
        rw [l_X3_burn_3, mrow_ne (show ¬ 4 = 25 by decide), hK 4 (by omega), h48, if_neg (nI_ge hi (by omega)), if_pos (q_i20 (show i < 20 by omega)), hlv, mrow_ne (show ¬ 22 = 25 by decide), mrow_ne (show ¬ 24 = 25 by decide), hK 22 (by omega), hK 24 (by omega), ix_nI (show i < 2 ^ 31 by omega), nI_1]
        simp only [bnd, if_pos (q_i20 (show i < 20 by omega))]
        by_cases e1 : x 22 i = s
        · rw [if_neg (fun z => z e1)]
          by_cases e2 : qa_L (x 24) (LD q x s) (fun h => LV x h (nI t)) i ≤ 0
          · have e3 : qg_B x q s i (t + 1) = qg_B x q s i t := by rw [qg_B, if_neg (fun z => i_nlt.mpr e2 z.2)]
            rw [if_pos e2, mrow_same (by rw [e3, h25 i hi])]
          · have e3 : qg_B x q s i (t + 1) = qg_B x q s i t + 1 := by rw [qg_B, if_pos ⟨e1, i_nle.mp e2⟩]
            rw [if_neg e2, mrow_out (Nat.lt_irrefl i), h25 i hi, ← e3, ← mrow_s (i := i)]
        · have e3 : qg_B x q s i (t + 1) = qg_B x q s i t := by rw [qg_B, if_neg (fun z => e1 z.1)]
          rw [if_pos e1, mrow_same (by rw [e3, h25 i hi])]
      · show l_X3_burn_3 s 28 27 (fu + 1) (nI q) _ kk = _
        rw [l_X3_burn_3, mrow_ne (show ¬ 4 = 25 by decide), hK 4 (by omega), h48, if_pos (q_le_self (by omega))]
    rw [mrow_0] at key
    exact key
  unfold f_X3_burn
  rw [hl]
theorem x_start {w : aM} {q : Nat} (hq : q ≤ 20) (h48 : w 4 8 = nI q) : f_X3_startBurning w = some (0, mrow w 25 q (fun _ => 0)) := by
  have hl : ∀ kk : Int32 → aM → Option (Int32 × aM), l_X3_startBurning_2 lf 0 w kk = kk (nI q) (mrow w 25 q (fun _ => 0)) := by
    intro kk
    have key : l_X3_startBurning_2 lf (nI 0) (mrow w 25 0 (fun _ => 0)) kk = kk (nI q) (mrow w 25 q (fun _ => 0)) := by
      refine qa_loop0 (fun fu i => l_X3_startBurning_2 fu (nI i) (mrow w 25 i (fun _ => 0)) kk) q _ lf (lf_gt (by omega)) (fun i fu hi => ?_) (fun fu => ?_)
      · show l_X3_startBurning_2 (fu + 1) (nI i) (mrow w 25 i (fun _ => 0)) kk = l_X3_startBurning_2 fu (nI (i + 1)) (mrow w 25 (i + 1) (fun _ => 0)) kk
        rw [l_X3_startBurning_2, mrow_ne (show ¬ 4 = 25 by decide), h48, if_neg (nI_ge hi (by omega)), if_pos (q_i20 (show i < 20 by omega)), ix_nI (show i < 2 ^ 31 by omega), nI_1, ← mrow_s (i := i)]
      · show l_X3_startBurning_2 (fu + 1) (nI q) _ kk = _
        rw [l_X3_startBurning_2, mrow_ne (show ¬ 4 = 25 by decide), h48, if_pos (q_le_self (by omega))]
    rw [mrow_0] at key
    exact key
  unfold f_X3_startBurning
  rw [hl]
theorem x_addBurnt {z : aM} {q : Nat} (hq : q ≤ 20) (h48 : z 4 8 = nI q) : f_X3_addBurnt z = some (0, mrow z 24 q (fun l => z 24 l + z 25 l)) := by
  have hl : ∀ kk : Int32 → aM → Option (Int32 × aM), l_X3_addBurnt_2 lf 0 z kk = kk (nI q) (mrow z 24 q (fun l => z 24 l + z 25 l)) := by
    intro kk
    have key : l_X3_addBurnt_2 lf (nI 0) (mrow z 24 0 (fun l => z 24 l + z 25 l)) kk = kk (nI q) (mrow z 24 q (fun l => z 24 l + z 25 l)) := by
      refine qa_loop0 (fun fu i => l_X3_addBurnt_2 fu (nI i) (mrow z 24 i (fun l => z 24 l + z 25 l)) kk) q _ lf (lf_gt (by omega)) (fun i fu hi => ?_) (fun fu => ?_)
      · show l_X3_addBurnt_2 (fu + 1) (nI i) (mrow z 24 i (fun l => z 24 l + z 25 l)) kk = l_X3_addBurnt_2 fu (nI (i + 1)) (mrow z 24 (i + 1) (fun l => z 24 l + z 25 l)) kk
        rw [l_X3_addBurnt_2, mrow_ne (show ¬ 4 = 24 by decide), h48, if_neg (nI_ge hi (by omega)), if_pos (q_i20 (show i < 20 by omega)), if_pos (q_i20 (show i < 20 by omega)), if_pos (q_i20 (show i < 20 by omega)), ix_nI (show i < 2 ^ 31 by omega), mrow_out (Nat.lt_irrefl i), mrow_ne (show ¬ 25 = 24 by decide), nI_1, ← mrow_s (i := i)]
      · show l_X3_addBurnt_2 (fu + 1) (nI q) _ kk = _
        rw [l_X3_addBurnt_2, mrow_ne (show ¬ 4 = 24 by decide), h48, if_pos (q_le_self (by omega))]
    rw [mrow_0] at key
    exact key
  unfold f_X3_addBurnt
  rw [hl]
/-- CueTour's rows behind t seconds -/
def zC (x b : aM) (q : Nat) (s : Int32) : Nat → aM
  | 0 => mrow b 25 q (fun _ => 0)
  | t + 1 => mrow (mrow (zC x b q s t) 27 10 (fun h => LV x h (nI t))) 25 q (fun l => qg_B x q s l (t + 1))
theorem zC_ne {x b : aM} {q a : Nat} {s : Int32} (h : ¬ a = 25) (h2 : ¬ a = 27) : ∀ t, zC x b q s t a = b a
  | 0 => mrow_ne h
  | t + 1 => by
    unfold zC
    rw [mrow_ne h, mrow_ne h2, zC_ne h h2 t]
theorem zC_25 {x b : aM} {q l : Nat} {s : Int32} (hl : l < q) : ∀ t, zC x b q s t 25 l = qg_B x q s l t
  | 0 => by
    unfold zC
    rw [mrow_at hl]
    rfl
  | t + 1 => by
    unfold zC
    rw [mrow_at hl]
theorem x_wearOut {x b : aM} {n q T : Nat} {s : Int32} (hn : n ≤ 30) (h13 : x 1 3 = nI n) (hq : q ≤ 20) (h48 : x 4 8 = nI q) (hPX : QX x) (hK : KY x b) (h28 : ∀ h, h < 10 → b 28 h = LD q x s h) (hT : sa (x 7) (x 8) n = nI T) (hT2 : T ≤ 1000) : f_X5_wearOut s b = some (0, mrow (zC x b q s T) 24 q (fun l => x 24 l + qg_B x q s l T)) := by
  have hz : ∀ t, KY x (zC x b q s t) := fun t a ha => (zC_ne (by omega) (by omega) t).trans (hK a ha)
  have e48 : ∀ t, zC x b q s t 4 8 = nI q := fun t => by rw [hz t 4 (by omega)]; exact h48
  have hl : ∀ kk : Int32 → aM → Option (Int32 × aM), l_X5_wearOut_17 s (nI T) lf 0 (mrow b 25 q (fun _ => 0)) kk = kk (nI T) (zC x b q s T) := by
    intro kk
    have key : l_X5_wearOut_17 s (nI T) lf (nI 0) (zC x b q s 0) kk = kk (nI T) (zC x b q s T) := by
      refine qa_loop0 (fun fu t => l_X5_wearOut_17 s (nI T) fu (nI t) (zC x b q s t) kk) T _ lf (lf_gt (by omega)) (fun t fu ht => ?_) (fun fu => ?_)
      · show l_X5_wearOut_17 s (nI T) (fu + 1) (nI t) (zC x b q s t) kk = l_X5_wearOut_17 s (nI T) fu (nI (t + 1)) (zC x b q s (t + 1)) kk
        have b1 := x_fill (x := zC x b q s t) (a := 27) (t := nI t) (hPX.ky (hz t)) (by decide) (by decide) (Or.inl rfl)
        have e1 : (fun h => LV (zC x b q s t) h (nI t)) = fun h => LV x h (nI t) := by
          funext h
          rw [(hz t).LVe]
        rw [e1] at b1
        have b2 := x_burn (x := x) (w := mrow (zC x b q s t) 27 10 (fun h => LV x h (nI t))) (q := q) (t := t) (s := s) hq h48 ((hz t).tr (KY.row (by decide))) (fun h hh => by rw [mrow_ne (by decide), zC_ne (by decide) (by decide) t]; exact h28 h hh) (fun h hh => by rw [mrow_at hh]) (fun l hl => by rw [mrow_ne (by decide), zC_25 hl t])
        rw [l_X5_wearOut_17, if_neg (nI_ge ht (by omega)), b1]
        simp only [bnd]
        rw [b2]
        simp only []
        rw [nI_1]
        rfl
      · show l_X5_wearOut_17 s (nI T) (fu + 1) (nI T) _ kk = _
        rw [l_X5_wearOut_17, if_pos (q_le_self (by omega))]
    exact key
  unfold f_X5_wearOut f_X4_total
  rw [hK 1 (by omega), h13, x_ahead hn, hK 7 (by omega), hK 8 (by omega), hT]
  simp only [bnd]
  rw [x_start hq (by rw [hK 4 (by omega)]; exact h48)]
  simp only []
  rw [hl]
  rw [x_addBurnt hq (e48 T)]
  simp only []
  rw [mrow_cg (f' := fun l => x 24 l + qg_B x q s l T) (fun l hl => by rw [hz T 24 (by omega), zC_25 hl T])]
theorem x_writeLog {x y : aM} {n q g : Nat} {s : Int32} (hn : n ≤ 30) (h13 : x 1 3 = nI n) (hq : q ≤ 20) (h48 : x 4 8 = nI q) (hg : g < 20) (h52 : y 5 2 = nI g) (hK : KY x y) (h28 : ∀ h, h < 10 → y 28 h = LD q x s h) (hE : EN n x y) : f_X5_writeLog s y = some (0, mrow (mput (mput y 26 g s) 5 2 (nI (g + 1))) (158 + g) n (SH q x s)) := by
  generalize hw : mput (mput y 26 g s) 5 2 (nI (g + 1)) = w
  have hKw : KY x w := by rw [← hw]; exact (hK.tr (KY.put (by decide))).tr (KY.put (by decide))
  have w28 : ∀ h, h < 10 → w 28 h = LD q x s h := fun h hh => by rw [← hw, mput_ne (by decide), mput_ne (by decide)]; exact h28 h hh
  have wE : EN n x w := fun l hl h8 h hh => by rw [← hw, mput_ne (by omega), mput_ne (by omega)]; exact hE l hl h8 h hh
  have hl : ∀ kk : Int32 → aM → Option (Int32 × aM), l_X5_writeLog_11 s (nI g) lf 0 w kk = kk (nI n) (mrow w (158 + g) n (SH q x s)) := by
    intro kk
    have key : l_X5_writeLog_11 s (nI g) lf (nI 0) (mrow w (158 + g) 0 (SH q x s)) kk = kk (nI n) (mrow w (158 + g) n (SH q x s)) := by
      refine qa_loop0 (fun fu i => l_X5_writeLog_11 s (nI g) fu (nI i) (mrow w (158 + g) i (SH q x s)) kk) n _ lf (lf_gt (by omega)) (fun i fu hi => ?_) (fun fu => ?_)
      · show l_X5_writeLog_11 s (nI g) (fu + 1) (nI i) (mrow w (158 + g) i (SH q x s)) kk = l_X5_writeLog_11 s (nI g) fu (nI (i + 1)) (mrow w (158 + g) (i + 1) (SH q x s)) kk
        have hKi : KY x (mrow w (158 + g) i (SH q x s)) := hKw.tr (KY.row (by omega))
        rw [l_X5_writeLog_11, hKi 1 (by omega), h13, if_neg (nI_ge hi (by omega)), if_pos (q_i20 hg), x_short hq h48 hKi (by omega) (fun h hh => by rw [mrow_ne (by omega)]; exact w28 h hh) (fun h8 h hh => by rw [mrow_ne (by omega)]; exact wE i hi h8 h hh)]
        simp only [bnd]
        rw [if_pos (q_i30 (show i < 30 by omega)), ix_nI (show g < 2 ^ 31 by omega), ix_nI (show i < 2 ^ 31 by omega), nI_1, ← mrow_s (i := i)]
      · show l_X5_writeLog_11 s (nI g) (fu + 1) (nI n) _ kk = _
        rw [l_X5_writeLog_11, mrow_ne (by omega), hKw 1 (by omega), h13, if_pos (q_le_self (by omega))]
    rw [mrow_0] at key
    exact key
  unfold f_X5_writeLog f_X0_append
  rw [h52, if_pos (q_i20 hg), ix_nI (show g < 2 ^ 31 by omega), nI_1, nI_pred]
  simp only [bnd]
  rw [hw, hl]
