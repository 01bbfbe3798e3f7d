/-! the law's loop over the abstract machine, from the 35 agreements -/
def AG (CP : aM → Prop) : Prop := (∀ p0 : Int32, agW CP (f_L_addLine p0) (f_X6_addLine p0)) ∧ (∀ p0 p1 p2 : Int32, agW CP (f_L_need p0 p1 p2) (f_X6_need p0 p1 p2)) ∧ (∀ p0 p1 : Int32, (p1 = 0 ∨ p1 = 1) → agW CP (f_L_cut p0 p1) (f_X6_cut p0 p1)) ∧ (agD CP f_X5_lines f_X6_lines) ∧ (∀ p0 : Int32, agW CP (f_L_startOf p0) (f_X6_startOf p0)) ∧ (agD CP f_X5_length f_X6_length) ∧ (∀ p0 p1 p2 : Int32, agW CP (f_L_setChannel p0 p1 p2) (f_X6_setChannel p0 p1 p2)) ∧ (∀ p0 p1 p2 : Int32, agW CP (f_L_addCue p0 p1 p2) (f_X6_addCue p0 p1 p2)) ∧ (∀ p0 p1 p2 p3 : Int32, agW CP (f_L_move p0 p1 p2 p3) (f_X6_move p0 p1 p2 p3)) ∧ (∀ p0 p1 p2 : Int32, agW CP (f_L_change p0 p1 p2) (f_X6_change p0 p1 p2)) ∧ (agD CP f_X5_cues f_X6_cues) ∧ (∀ p0 : Int32, agW CP (f_L_cueAt p0) (f_X6_cueAt p0)) ∧ (∀ p0 : Int32, agW CP (f_L_timeOf p0) (f_X6_timeOf p0)) ∧ (∀ p0 : Int32, agW CP (f_L_foldedInto p0) (f_X6_foldedInto p0)) ∧ (∀ p0 p1 : Int32, agW CP (f_L_changes p0 p1) (f_X6_changes p0 p1)) ∧ (∀ p0 p1 : Int32, agW CP (f_L_levelAt p0 p1) (f_X6_levelAt p0 p1)) ∧ (∀ p0 p1 : Int32, agW CP (f_L_levelBySeconds p0 p1) (f_X6_levelBySeconds p0 p1)) ∧ (∀ p0 p1 p2 p3 : Int32, agW CP (f_L_addLamp p0 p1 p2 p3) (f_X6_addLamp p0 p1 p2 p3)) ∧ (∀ p0 p1 p2 : Int32, agW CP (f_L_borrow p0 p1 p2) (f_X6_borrow p0 p1 p2)) ∧ (∀ p0 : Int32, agW CP (f_L_bringBack p0) (f_X6_bringBack p0)) ∧ (∀ p0 : Int32, agW CP (f_L_replace p0) (f_X6_replace p0)) ∧ (agD CP f_X5_lamps f_X6_lamps) ∧ (∀ p0 : Int32, agW CP (f_L_whereIs p0) (f_X6_whereIs p0)) ∧ (∀ p0 : Int32, agW CP (f_L_wear p0) (f_X6_wear p0)) ∧ (∀ p0 p1 : Int32, agW CP (f_L_laidOn p0 p1) (f_X6_laidOn p0 p1)) ∧ (∀ p0 p1 : Int32, agW CP (f_L_lampLevel p0 p1) (f_X6_lampLevel p0 p1)) ∧ (∀ p0 p1 p2 : Int32, agW CP (f_L_light p0 p1 p2) (f_X6_light p0 p1 p2)) ∧ (∀ p0 p1 : Int32, agW CP (f_L_shortOf p0 p1) (f_X6_shortOf p0 p1)) ∧ (agD CP f_X5_bestStage f_X6_bestStage) ∧ (∀ p0 p1 : Int32, agW CP (f_L_bestToBorrow p0 p1) (f_X6_bestToBorrow p0 p1)) ∧ (∀ p0 : Int32, agW CP (f_L_perform p0) (f_X6_perform p0)) ∧ (agD CP f_X5_logs f_X6_logs) ∧ (∀ p0 : Int32, agW CP (f_L_stageOf p0) (f_X6_stageOf p0)) ∧ (∀ p0 p1 : Int32, agW CP (f_L_wasShortOf p0 p1) (f_X6_wasShortOf p0 p1)) ∧ (∀ p0 : Int32, agW CP (f_L_timesShort p0) (f_X6_timesShort p0))
theorem wpB_eq {b n : Nat} {T T2 : List aI} {K : aS → Prop} {x : aS} (h : T = T2) (k : wpB b T n K x) : wpB b T2 n K x := by subst h; exact k
theorem lawsub {N : Nat} (hN : N ≤ 2560) : (nI N - 5).toInt = (N : Int) - 5 := by
  rw [Int32.toInt_sub, nI_toInt (by omega), show (5 : Int32).toInt = 5 from rfl]
  exact Int.bmod_eq_of_le (by omega) (by omega)
section LAWLOOP
variable {p : Program} {l : Launch} {e : Env} {s : State} {m : MethodId} {below : List Frame} {meth : Method} {c : Code} {D : va_G} {cI cZ cA cL : ClassId} {ad sa : Nat → Nat} {b N : Nat} {xs : Nat → Int32}
theorem lh_null {ls : Array Slot} {n i : Nat} {L : List Value} (h : lh ad ls n L) : lh ad ls n (L.set i .null) := by
  refine ⟨h.1, h.2.1, by rw [List.length_set]; exact h.2.2.1, fun v hv => ?_, fun k v hk hv => ?_⟩
  · rcases List.mem_or_eq_of_mem_set hv with h1 | h1
    · exact h.2.2.2.1 v h1
    · rw [h1]; rfl
  · rw [List.getElem?_set] at hk
    by_cases e : i = k
    · subst e
      rw [if_pos rfl] at hk
      split at hk
      · cases hk
        exact absurd rfl hv
      · cases hk
    · rw [if_neg e] at hk
      exact h.2.2.2.2 k v hk hv
/-- the law's state after n units of room -/
def KW (p : Program) (l : Launch) (e : Env) (s : State) (m : MethodId) (below : List Frame) (meth : Method) (c : Code) (D : va_G) (cI cZ cA cL : ClassId) (ad : Nat → Nat) (b c0 s0 n : Nat) : aS → Prop := WS p l e room_1 s m #[Value.ref b] below meth c (c0 + n) (s0 + 6 * n) (lw_Z below #[Value.ref b] s) 7 D cI cZ cA cL ad (AA ad s.heap.size) s.heap
theorem kw_eq {c0 s0 k : Nat} : (fun d => KW p l e s m below meth c D cI cZ cA cL ad b c0 s0 (k + d)) = (fun d => WS p l e room_1 s m #[Value.ref b] below meth c (c0 + k + d) (s0 + 6 * k + 6 * d) (lw_Z below #[Value.ref b] s) 7 D cI cZ cA cL ad (AA ad s.heap.size) s.heap) := by
  funext d
  unfold KW
  rw [show c0 + (k + d) = c0 + k + d by omega, show s0 + 6 * (k + d) = s0 + 6 * k + 6 * d by omega]
theorem kw_null {c0 s0 : Nat} (k pc : Nat) (L : List Value) (i : Nat) (st : List Value) (σ : aM) (h : KW p l e s m below meth c D cI cZ cA cL ad b c0 s0 k (pc, L.set i .null, st, σ)) : KW p l e s m below meth c D cI cZ cA cL ad b c0 s0 k (pc, L, st, σ) := fun H locs ls hl hP hS => h H locs ls (lh_null hl) hP hS

theorem inb_nI2 {j N : Nat} (h : j < N) (hN : N < 100000) : inb (nI j) N = true := by
  simp only [inb, Bool.and_eq_true, decide_eq_true_eq]
  rw [nI_toInt (by omega)]
  omega
theorem kk_law0 (Z : LCX p l e s m meth c b N xs D cI cZ cA cL ad sa) {c0 s0 : Nat} (h0 : c0 + 9000 ≤ 601024) (h1 : s0 + 60000 ≤ 7293034) : ∀ k, k ≤ 8000 → ∀ n x, wpB 192 (T_law0 (fun d => KW p l e s m below meth c D cI cZ cA cL ad b c0 s0 (k + d)) N xs) n (KW p l e s m below meth c D cI cZ cA cL ad b c0 s0 k) x → KW p l e s m below meth c D cI cZ cA cL ad b c0 s0 k x := by
  intro k hk n x h
  rw [kw_eq] at h
  exact wpB_WS (r_law0 (below := below) Z (c0 + k) (s0 + 6 * k) (by omega) (by omega)) n x h
theorem kk_law1 (Z : LCX p l e s m meth c b N xs D cI cZ cA cL ad sa) {c0 s0 : Nat} (h0 : c0 + 9000 ≤ 601024) (h1 : s0 + 60000 ≤ 7293034) : ∀ k, k ≤ 8000 → ∀ n x, wpB 248 (T_law1 (fun d => KW p l e s m below meth c D cI cZ cA cL ad b c0 s0 (k + d)) N xs) n (KW p l e s m below meth c D cI cZ cA cL ad b c0 s0 k) x → KW p l e s m below meth c D cI cZ cA cL ad b c0 s0 k x := by
  intro k hk n x h
  rw [kw_eq] at h
  exact wpB_WS (r_law1 (below := below) Z (c0 + k) (s0 + 6 * k) (by omega) (by omega)) n x h
theorem kk_law2 (Z : LCX p l e s m meth c b N xs D cI cZ cA cL ad sa) {c0 s0 : Nat} (h0 : c0 + 9000 ≤ 601024) (h1 : s0 + 60000 ≤ 7293034) : ∀ k, k ≤ 8000 → ∀ n x, wpB 328 (T_law2 (fun d => KW p l e s m below meth c D cI cZ cA cL ad b c0 s0 (k + d)) N xs) n (KW p l e s m below meth c D cI cZ cA cL ad b c0 s0 k) x → KW p l e s m below meth c D cI cZ cA cL ad b c0 s0 k x := by
  intro k hk n x h
  rw [kw_eq] at h
  exact wpB_WS (r_law2 (below := below) Z (c0 + k) (s0 + 6 * k) (by omega) (by omega)) n x h
theorem kk_law3 (Z : LCX p l e s m meth c b N xs D cI cZ cA cL ad sa) {c0 s0 : Nat} (h0 : c0 + 9000 ≤ 601024) (h1 : s0 + 60000 ≤ 7293034) : ∀ k, k ≤ 8000 → ∀ n x, wpB 412 (T_law3 (fun d => KW p l e s m below meth c D cI cZ cA cL ad b c0 s0 (k + d)) N xs) n (KW p l e s m below meth c D cI cZ cA cL ad b c0 s0 k) x → KW p l e s m below meth c D cI cZ cA cL ad b c0 s0 k x := by
  intro k hk n x h
  rw [kw_eq] at h
  exact wpB_WS (r_law3 (below := below) Z (c0 + k) (s0 + 6 * k) (by omega) (by omega)) n x h
theorem kk_law4 (Z : LCX p l e s m meth c b N xs D cI cZ cA cL ad sa) {c0 s0 : Nat} (h0 : c0 + 9000 ≤ 601024) (h1 : s0 + 60000 ≤ 7293034) : ∀ k, k ≤ 8000 → ∀ n x, wpB 425 (T_law4 (fun d => KW p l e s m below meth c D cI cZ cA cL ad b c0 s0 (k + d)) N xs) n (KW p l e s m below meth c D cI cZ cA cL ad b c0 s0 k) x → KW p l e s m below meth c D cI cZ cA cL ad b c0 s0 k x := by
  intro k hk n x h
  rw [kw_eq] at h
  exact wpB_WS (r_law4 (below := below) Z (c0 + k) (s0 + 6 * k) (by omega) (by omega)) n x h
theorem kk_law5 (Z : LCX p l e s m meth c b N xs D cI cZ cA cL ad sa) {c0 s0 : Nat} (h0 : c0 + 9000 ≤ 601024) (h1 : s0 + 60000 ≤ 7293034) : ∀ k, k ≤ 8000 → ∀ n x, wpB 481 (T_law5 (fun d => KW p l e s m below meth c D cI cZ cA cL ad b c0 s0 (k + d)) N xs) n (KW p l e s m below meth c D cI cZ cA cL ad b c0 s0 k) x → KW p l e s m below meth c D cI cZ cA cL ad b c0 s0 k x := by
  intro k hk n x h
  rw [kw_eq] at h
  exact wpB_WS (r_law5 (below := below) Z (c0 + k) (s0 + 6 * k) (by omega) (by omega)) n x h
theorem kk_law6 (Z : LCX p l e s m meth c b N xs D cI cZ cA cL ad sa) {c0 s0 : Nat} (h0 : c0 + 9000 ≤ 601024) (h1 : s0 + 60000 ≤ 7293034) : ∀ k, k ≤ 8000 → ∀ n x, wpB 494 (T_law6 (fun d => KW p l e s m below meth c D cI cZ cA cL ad b c0 s0 (k + d)) N xs) n (KW p l e s m below meth c D cI cZ cA cL ad b c0 s0 k) x → KW p l e s m below meth c D cI cZ cA cL ad b c0 s0 k x := by
  intro k hk n x h
  rw [kw_eq] at h
  exact wpB_WS (r_law6 (below := below) Z (c0 + k) (s0 + 6 * k) (by omega) (by omega)) n x h
theorem kk_law7 (Z : LCX p l e s m meth c b N xs D cI cZ cA cL ad sa) {c0 s0 : Nat} (h0 : c0 + 9000 ≤ 601024) (h1 : s0 + 60000 ≤ 7293034) : ∀ k, k ≤ 8000 → ∀ n x, wpB 574 (T_law7 (fun d => KW p l e s m below meth c D cI cZ cA cL ad b c0 s0 (k + d)) N xs) n (KW p l e s m below meth c D cI cZ cA cL ad b c0 s0 k) x → KW p l e s m below meth c D cI cZ cA cL ad b c0 s0 k x := by
  intro k hk n x h
  rw [kw_eq] at h
  exact wpB_WS (r_law7 (below := below) Z (c0 + k) (s0 + 6 * k) (by omega) (by omega)) n x h
theorem kk_law8 (Z : LCX p l e s m meth c b N xs D cI cZ cA cL ad sa) {c0 s0 : Nat} (h0 : c0 + 9000 ≤ 601024) (h1 : s0 + 60000 ≤ 7293034) : ∀ k, k ≤ 8000 → ∀ n x, wpB 654 (T_law8 (fun d => KW p l e s m below meth c D cI cZ cA cL ad b c0 s0 (k + d)) N xs) n (KW p l e s m below meth c D cI cZ cA cL ad b c0 s0 k) x → KW p l e s m below meth c D cI cZ cA cL ad b c0 s0 k x := by
  intro k hk n x h
  rw [kw_eq] at h
  exact wpB_WS (r_law8 (below := below) Z (c0 + k) (s0 + 6 * k) (by omega) (by omega)) n x h
theorem kk_law9 (Z : LCX p l e s m meth c b N xs D cI cZ cA cL ad sa) {c0 s0 : Nat} (h0 : c0 + 9000 ≤ 601024) (h1 : s0 + 60000 ≤ 7293034) : ∀ k, k ≤ 8000 → ∀ n x, wpB 746 (T_law9 (fun d => KW p l e s m below meth c D cI cZ cA cL ad b c0 s0 (k + d)) N xs) n (KW p l e s m below meth c D cI cZ cA cL ad b c0 s0 k) x → KW p l e s m below meth c D cI cZ cA cL ad b c0 s0 k x := by
  intro k hk n x h
  rw [kw_eq] at h
  exact wpB_WS (r_law9 (below := below) Z (c0 + k) (s0 + 6 * k) (by omega) (by omega)) n x h
theorem kk_law10 (Z : LCX p l e s m meth c b N xs D cI cZ cA cL ad sa) {c0 s0 : Nat} (h0 : c0 + 9000 ≤ 601024) (h1 : s0 + 60000 ≤ 7293034) : ∀ k, k ≤ 8000 → ∀ n x, wpB 826 (T_law10 (fun d => KW p l e s m below meth c D cI cZ cA cL ad b c0 s0 (k + d)) N xs) n (KW p l e s m below meth c D cI cZ cA cL ad b c0 s0 k) x → KW p l e s m below meth c D cI cZ cA cL ad b c0 s0 k x := by
  intro k hk n x h
  rw [kw_eq] at h
  exact wpB_WS (r_law10 (below := below) Z (c0 + k) (s0 + 6 * k) (by omega) (by omega)) n x h
theorem kk_law11 (Z : LCX p l e s m meth c b N xs D cI cZ cA cL ad sa) {c0 s0 : Nat} (h0 : c0 + 9000 ≤ 601024) (h1 : s0 + 60000 ≤ 7293034) : ∀ k, k ≤ 8000 → ∀ n x, wpB 839 (T_law11 (fun d => KW p l e s m below meth c D cI cZ cA cL ad b c0 s0 (k + d)) N xs) n (KW p l e s m below meth c D cI cZ cA cL ad b c0 s0 k) x → KW p l e s m below meth c D cI cZ cA cL ad b c0 s0 k x := by
  intro k hk n x h
  rw [kw_eq] at h
  exact wpB_WS (r_law11 (below := below) Z (c0 + k) (s0 + 6 * k) (by omega) (by omega)) n x h
theorem kk_law12 (Z : LCX p l e s m meth c b N xs D cI cZ cA cL ad sa) {c0 s0 : Nat} (h0 : c0 + 9000 ≤ 601024) (h1 : s0 + 60000 ≤ 7293034) : ∀ k, k ≤ 8000 → ∀ n x, wpB 895 (T_law12 (fun d => KW p l e s m below meth c D cI cZ cA cL ad b c0 s0 (k + d)) N xs) n (KW p l e s m below meth c D cI cZ cA cL ad b c0 s0 k) x → KW p l e s m below meth c D cI cZ cA cL ad b c0 s0 k x := by
  intro k hk n x h
  rw [kw_eq] at h
  exact wpB_WS (r_law12 (below := below) Z (c0 + k) (s0 + 6 * k) (by omega) (by omega)) n x h
theorem kk_law13 (Z : LCX p l e s m meth c b N xs D cI cZ cA cL ad sa) {c0 s0 : Nat} (h0 : c0 + 9000 ≤ 601024) (h1 : s0 + 60000 ≤ 7293034) : ∀ k, k ≤ 8000 → ∀ n x, wpB 951 (T_law13 (fun d => KW p l e s m below meth c D cI cZ cA cL ad b c0 s0 (k + d)) N xs) n (KW p l e s m below meth c D cI cZ cA cL ad b c0 s0 k) x → KW p l e s m below meth c D cI cZ cA cL ad b c0 s0 k x := by
  intro k hk n x h
  rw [kw_eq] at h
  exact wpB_WS (r_law13 (below := below) Z (c0 + k) (s0 + 6 * k) (by omega) (by omega)) n x h
theorem kk_law14 (Z : LCX p l e s m meth c b N xs D cI cZ cA cL ad sa) {c0 s0 : Nat} (h0 : c0 + 9000 ≤ 601024) (h1 : s0 + 60000 ≤ 7293034) : ∀ k, k ≤ 8000 → ∀ n x, wpB 1007 (T_law14 (fun d => KW p l e s m below meth c D cI cZ cA cL ad b c0 s0 (k + d)) N xs) n (KW p l e s m below meth c D cI cZ cA cL ad b c0 s0 k) x → KW p l e s m below meth c D cI cZ cA cL ad b c0 s0 k x := by
  intro k hk n x h
  rw [kw_eq] at h
  exact wpB_WS (r_law14 (below := below) Z (c0 + k) (s0 + 6 * k) (by omega) (by omega)) n x h
theorem kk_law15 (Z : LCX p l e s m meth c b N xs D cI cZ cA cL ad sa) {c0 s0 : Nat} (h0 : c0 + 9000 ≤ 601024) (h1 : s0 + 60000 ≤ 7293034) : ∀ k, k ≤ 8000 → ∀ n x, wpB 1075 (T_law15 (fun d => KW p l e s m below meth c D cI cZ cA cL ad b c0 s0 (k + d)) N xs) n (KW p l e s m below meth c D cI cZ cA cL ad b c0 s0 k) x → KW p l e s m below meth c D cI cZ cA cL ad b c0 s0 k x := by
  intro k hk n x h
  rw [kw_eq] at h
  exact wpB_WS (r_law15 (below := below) Z (c0 + k) (s0 + 6 * k) (by omega) (by omega)) n x h
theorem kk_law16 (Z : LCX p l e s m meth c b N xs D cI cZ cA cL ad sa) {c0 s0 : Nat} (h0 : c0 + 9000 ≤ 601024) (h1 : s0 + 60000 ≤ 7293034) : ∀ k, k ≤ 8000 → ∀ n x, wpB 1143 (T_law16 (fun d => KW p l e s m below meth c D cI cZ cA cL ad b c0 s0 (k + d)) N xs) n (KW p l e s m below meth c D cI cZ cA cL ad b c0 s0 k) x → KW p l e s m below meth c D cI cZ cA cL ad b c0 s0 k x := by
  intro k hk n x h
  rw [kw_eq] at h
  exact wpB_WS (r_law16 (below := below) Z (c0 + k) (s0 + 6 * k) (by omega) (by omega)) n x h
theorem kk_law17 (Z : LCX p l e s m meth c b N xs D cI cZ cA cL ad sa) {c0 s0 : Nat} (h0 : c0 + 9000 ≤ 601024) (h1 : s0 + 60000 ≤ 7293034) : ∀ k, k ≤ 8000 → ∀ n x, wpB 1211 (T_law17 (fun d => KW p l e s m below meth c D cI cZ cA cL ad b c0 s0 (k + d)) N xs) n (KW p l e s m below meth c D cI cZ cA cL ad b c0 s0 k) x → KW p l e s m below meth c D cI cZ cA cL ad b c0 s0 k x := by
  intro k hk n x h
  rw [kw_eq] at h
  exact wpB_WS (r_law17 (below := below) Z (c0 + k) (s0 + 6 * k) (by omega) (by omega)) n x h
theorem kk_law18 (Z : LCX p l e s m meth c b N xs D cI cZ cA cL ad sa) {c0 s0 : Nat} (h0 : c0 + 9000 ≤ 601024) (h1 : s0 + 60000 ≤ 7293034) : ∀ k, k ≤ 8000 → ∀ n x, wpB 1303 (T_law18 (fun d => KW p l e s m below meth c D cI cZ cA cL ad b c0 s0 (k + d)) N xs) n (KW p l e s m below meth c D cI cZ cA cL ad b c0 s0 k) x → KW p l e s m below meth c D cI cZ cA cL ad b c0 s0 k x := by
  intro k hk n x h
  rw [kw_eq] at h
  exact wpB_WS (r_law18 (below := below) Z (c0 + k) (s0 + 6 * k) (by omega) (by omega)) n x h
theorem kk_law19 (Z : LCX p l e s m meth c b N xs D cI cZ cA cL ad sa) {c0 s0 : Nat} (h0 : c0 + 9000 ≤ 601024) (h1 : s0 + 60000 ≤ 7293034) : ∀ k, k ≤ 8000 → ∀ n x, wpB 1383 (T_law19 (fun d => KW p l e s m below meth c D cI cZ cA cL ad b c0 s0 (k + d)) N xs) n (KW p l e s m below meth c D cI cZ cA cL ad b c0 s0 k) x → KW p l e s m below meth c D cI cZ cA cL ad b c0 s0 k x := by
  intro k hk n x h
  rw [kw_eq] at h
  exact wpB_WS (r_law19 (below := below) Z (c0 + k) (s0 + 6 * k) (by omega) (by omega)) n x h
theorem kk_law20 (Z : LCX p l e s m meth c b N xs D cI cZ cA cL ad sa) {c0 s0 : Nat} (h0 : c0 + 9000 ≤ 601024) (h1 : s0 + 60000 ≤ 7293034) : ∀ k, k ≤ 8000 → ∀ n x, wpB 1439 (T_law20 (fun d => KW p l e s m below meth c D cI cZ cA cL ad b c0 s0 (k + d)) N xs) n (KW p l e s m below meth c D cI cZ cA cL ad b c0 s0 k) x → KW p l e s m below meth c D cI cZ cA cL ad b c0 s0 k x := by
  intro k hk n x h
  rw [kw_eq] at h
  exact wpB_WS (r_law20 (below := below) Z (c0 + k) (s0 + 6 * k) (by omega) (by omega)) n x h
theorem kk_law21 (Z : LCX p l e s m meth c b N xs D cI cZ cA cL ad sa) {c0 s0 : Nat} (h0 : c0 + 9000 ≤ 601024) (h1 : s0 + 60000 ≤ 7293034) : ∀ k, k ≤ 8000 → ∀ n x, wpB 1495 (T_law21 (fun d => KW p l e s m below meth c D cI cZ cA cL ad b c0 s0 (k + d)) N xs) n (KW p l e s m below meth c D cI cZ cA cL ad b c0 s0 k) x → KW p l e s m below meth c D cI cZ cA cL ad b c0 s0 k x := by
  intro k hk n x h
  rw [kw_eq] at h
  exact wpB_WS (r_law21 (below := below) Z (c0 + k) (s0 + 6 * k) (by omega) (by omega)) n x h
theorem kk_law22 (Z : LCX p l e s m meth c b N xs D cI cZ cA cL ad sa) {c0 s0 : Nat} (h0 : c0 + 9000 ≤ 601024) (h1 : s0 + 60000 ≤ 7293034) : ∀ k, k ≤ 8000 → ∀ n x, wpB 1508 (T_law22 (fun d => KW p l e s m below meth c D cI cZ cA cL ad b c0 s0 (k + d)) N xs) n (KW p l e s m below meth c D cI cZ cA cL ad b c0 s0 k) x → KW p l e s m below meth c D cI cZ cA cL ad b c0 s0 k x := by
  intro k hk n x h
  rw [kw_eq] at h
  exact wpB_WS (r_law22 (below := below) Z (c0 + k) (s0 + 6 * k) (by omega) (by omega)) n x h
theorem kk_law23 (Z : LCX p l e s m meth c b N xs D cI cZ cA cL ad sa) {c0 s0 : Nat} (h0 : c0 + 9000 ≤ 601024) (h1 : s0 + 60000 ≤ 7293034) : ∀ k, k ≤ 8000 → ∀ n x, wpB 1564 (T_law23 (fun d => KW p l e s m below meth c D cI cZ cA cL ad b c0 s0 (k + d)) N xs) n (KW p l e s m below meth c D cI cZ cA cL ad b c0 s0 k) x → KW p l e s m below meth c D cI cZ cA cL ad b c0 s0 k x := by
  intro k hk n x h
  rw [kw_eq] at h
  exact wpB_WS (r_law23 (below := below) Z (c0 + k) (s0 + 6 * k) (by omega) (by omega)) n x h
theorem kk_law24 (Z : LCX p l e s m meth c b N xs D cI cZ cA cL ad sa) {c0 s0 : Nat} (h0 : c0 + 9000 ≤ 601024) (h1 : s0 + 60000 ≤ 7293034) : ∀ k, k ≤ 8000 → ∀ n x, wpB 1620 (T_law24 (fun d => KW p l e s m below meth c D cI cZ cA cL ad b c0 s0 (k + d)) N xs) n (KW p l e s m below meth c D cI cZ cA cL ad b c0 s0 k) x → KW p l e s m below meth c D cI cZ cA cL ad b c0 s0 k x := by
  intro k hk n x h
  rw [kw_eq] at h
  exact wpB_WS (r_law24 (below := below) Z (c0 + k) (s0 + 6 * k) (by omega) (by omega)) n x h
theorem kk_law25 (Z : LCX p l e s m meth c b N xs D cI cZ cA cL ad sa) {c0 s0 : Nat} (h0 : c0 + 9000 ≤ 601024) (h1 : s0 + 60000 ≤ 7293034) : ∀ k, k ≤ 8000 → ∀ n x, wpB 1688 (T_law25 (fun d => KW p l e s m below meth c D cI cZ cA cL ad b c0 s0 (k + d)) N xs) n (KW p l e s m below meth c D cI cZ cA cL ad b c0 s0 k) x → KW p l e s m below meth c D cI cZ cA cL ad b c0 s0 k x := by
  intro k hk n x h
  rw [kw_eq] at h
  exact wpB_WS (r_law25 (below := below) Z (c0 + k) (s0 + 6 * k) (by omega) (by omega)) n x h
theorem kk_law26 (Z : LCX p l e s m meth c b N xs D cI cZ cA cL ad sa) {c0 s0 : Nat} (h0 : c0 + 9000 ≤ 601024) (h1 : s0 + 60000 ≤ 7293034) : ∀ k, k ≤ 8000 → ∀ n x, wpB 1756 (T_law26 (fun d => KW p l e s m below meth c D cI cZ cA cL ad b c0 s0 (k + d)) N xs) n (KW p l e s m below meth c D cI cZ cA cL ad b c0 s0 k) x → KW p l e s m below meth c D cI cZ cA cL ad b c0 s0 k x := by
  intro k hk n x h
  rw [kw_eq] at h
  exact wpB_WS (r_law26 (below := below) Z (c0 + k) (s0 + 6 * k) (by omega) (by omega)) n x h
theorem kk_law27 (Z : LCX p l e s m meth c b N xs D cI cZ cA cL ad sa) {c0 s0 : Nat} (h0 : c0 + 9000 ≤ 601024) (h1 : s0 + 60000 ≤ 7293034) : ∀ k, k ≤ 8000 → ∀ n x, wpB 1836 (T_law27 (fun d => KW p l e s m below meth c D cI cZ cA cL ad b c0 s0 (k + d)) N xs) n (KW p l e s m below meth c D cI cZ cA cL ad b c0 s0 k) x → KW p l e s m below meth c D cI cZ cA cL ad b c0 s0 k x := by
  intro k hk n x h
  rw [kw_eq] at h
  exact wpB_WS (r_law27 (below := below) Z (c0 + k) (s0 + 6 * k) (by omega) (by omega)) n x h
theorem kk_law28 (Z : LCX p l e s m meth c b N xs D cI cZ cA cL ad sa) {c0 s0 : Nat} (h0 : c0 + 9000 ≤ 601024) (h1 : s0 + 60000 ≤ 7293034) : ∀ k, k ≤ 8000 → ∀ n x, wpB 1904 (T_law28 (fun d => KW p l e s m below meth c D cI cZ cA cL ad b c0 s0 (k + d)) N xs) n (KW p l e s m below meth c D cI cZ cA cL ad b c0 s0 k) x → KW p l e s m below meth c D cI cZ cA cL ad b c0 s0 k x := by
  intro k hk n x h
  rw [kw_eq] at h
  exact wpB_WS (r_law28 (below := below) Z (c0 + k) (s0 + 6 * k) (by omega) (by omega)) n x h
theorem kk_law29 (Z : LCX p l e s m meth c b N xs D cI cZ cA cL ad sa) {c0 s0 : Nat} (h0 : c0 + 9000 ≤ 601024) (h1 : s0 + 60000 ≤ 7293034) : ∀ k, k ≤ 8000 → ∀ n x, wpB 1917 (T_law29 (fun d => KW p l e s m below meth c D cI cZ cA cL ad b c0 s0 (k + d)) N xs) n (KW p l e s m below meth c D cI cZ cA cL ad b c0 s0 k) x → KW p l e s m below meth c D cI cZ cA cL ad b c0 s0 k x := by
  intro k hk n x h
  rw [kw_eq] at h
  exact wpB_WS (r_law29 (below := below) Z (c0 + k) (s0 + 6 * k) (by omega) (by omega)) n x h
theorem kk_law30 (Z : LCX p l e s m meth c b N xs D cI cZ cA cL ad sa) {c0 s0 : Nat} (h0 : c0 + 9000 ≤ 601024) (h1 : s0 + 60000 ≤ 7293034) : ∀ k, k ≤ 8000 → ∀ n x, wpB 1985 (T_law30 (fun d => KW p l e s m below meth c D cI cZ cA cL ad b c0 s0 (k + d)) N xs) n (KW p l e s m below meth c D cI cZ cA cL ad b c0 s0 k) x → KW p l e s m below meth c D cI cZ cA cL ad b c0 s0 k x := by
  intro k hk n x h
  rw [kw_eq] at h
  exact wpB_WS (r_law30 (below := below) Z (c0 + k) (s0 + 6 * k) (by omega) (by omega)) n x h
theorem kk_law31 (Z : LCX p l e s m meth c b N xs D cI cZ cA cL ad sa) {c0 s0 : Nat} (h0 : c0 + 9000 ≤ 601024) (h1 : s0 + 60000 ≤ 7293034) : ∀ k, k ≤ 8000 → ∀ n x, wpB 2041 (T_law31 (fun d => KW p l e s m below meth c D cI cZ cA cL ad b c0 s0 (k + d)) N xs) n (KW p l e s m below meth c D cI cZ cA cL ad b c0 s0 k) x → KW p l e s m below meth c D cI cZ cA cL ad b c0 s0 k x := by
  intro k hk n x h
  rw [kw_eq] at h
  exact wpB_WS (r_law31 (below := below) Z (c0 + k) (s0 + 6 * k) (by omega) (by omega)) n x h
theorem kk_law32 (Z : LCX p l e s m meth c b N xs D cI cZ cA cL ad sa) {c0 s0 : Nat} (h0 : c0 + 9000 ≤ 601024) (h1 : s0 + 60000 ≤ 7293034) : ∀ k, k ≤ 8000 → ∀ n x, wpB 2054 (T_law32 (fun d => KW p l e s m below meth c D cI cZ cA cL ad b c0 s0 (k + d)) N xs) n (KW p l e s m below meth c D cI cZ cA cL ad b c0 s0 k) x → KW p l e s m below meth c D cI cZ cA cL ad b c0 s0 k x := by
  intro k hk n x h
  rw [kw_eq] at h
  exact wpB_WS (r_law32 (below := below) Z (c0 + k) (s0 + 6 * k) (by omega) (by omega)) n x h
theorem kk_law33 (Z : LCX p l e s m meth c b N xs D cI cZ cA cL ad sa) {c0 s0 : Nat} (h0 : c0 + 9000 ≤ 601024) (h1 : s0 + 60000 ≤ 7293034) : ∀ k, k ≤ 8000 → ∀ n x, wpB 2110 (T_law33 (fun d => KW p l e s m below meth c D cI cZ cA cL ad b c0 s0 (k + d)) N xs) n (KW p l e s m below meth c D cI cZ cA cL ad b c0 s0 k) x → KW p l e s m below meth c D cI cZ cA cL ad b c0 s0 k x := by
  intro k hk n x h
  rw [kw_eq] at h
  exact wpB_WS (r_law33 (below := below) Z (c0 + k) (s0 + 6 * k) (by omega) (by omega)) n x h
theorem kk_law34 (Z : LCX p l e s m meth c b N xs D cI cZ cA cL ad sa) {c0 s0 : Nat} (h0 : c0 + 9000 ≤ 601024) (h1 : s0 + 60000 ≤ 7293034) : ∀ k, k ≤ 8000 → ∀ n x, wpB 2178 (T_law34 (fun d => KW p l e s m below meth c D cI cZ cA cL ad b c0 s0 (k + d)) N xs) n (KW p l e s m below meth c D cI cZ cA cL ad b c0 s0 k) x → KW p l e s m below meth c D cI cZ cA cL ad b c0 s0 k x := by
  intro k hk n x h
  rw [kw_eq] at h
  exact wpB_WS (r_law34 (below := below) Z (c0 + k) (s0 + 6 * k) (by omega) (by omega)) n x h
set_option maxHeartbeats 4000000 in
theorem law_switch {CP : aM → Prop} (G : AG CP) (Z : LCX p l e s m meth c b N xs D cI cZ cA cL ad sa) {c0 s0 : Nat} (h0 : c0 + 9000 ≤ 601024) (h1 : s0 + 60000 ≤ 7293034) (k i : Nat) (hk : k ≤ 7900) (hi : i + 5 ≤ N) (hN : N ≤ 2560) (σ : aM) (hCP : CP σ) (hback : ∀ c2 σ2, c2 ≤ k + 12 → CP σ2 → KW p l e s m below meth c D cI cZ cA cL ad b c0 s0 c2 (2234, [.ref 200, .ref 0, .ref 6, .ref 178, .int (nI i), .null, .null], [], σ2)) :
    ∀ (q t : Nat), ([192, 248, 328, 412, 425, 481, 494, 574, 654, 746, 826, 839, 895, 951, 1007, 1075, 1143, 1211, 1303, 1383, 1439, 1495, 1508, 1564, 1620, 1688, 1756, 1836, 1904, 1917, 1985, 2041, 2054, 2110, 2178] : List Nat)[q]? = some t → KW p l e s m below meth c D cI cZ cA cL ad b c0 s0 k (t, [.ref 200, .ref 0, .ref 6, .ref 178, .int (nI i), .null, .null], [], σ) := by
  have g1 : inb (nI i + 1) N = true := by rw [nI_1]; exact inb_nI2 (by omega) (by omega)
  have g2 : inb (nI i + 2) N = true := by rw [show nI i + 2 = nI (i + 2) from nI_add i 2]; exact inb_nI2 (by omega) (by omega)
  have g3 : inb (nI i + 3) N = true := by rw [show nI i + 3 = nI (i + 3) from nI_add i 3]; exact inb_nI2 (by omega) (by omega)
  have g4 : inb (nI i + 4) N = true := by rw [show nI i + 4 = nI (i + 4) from nI_add i 4]; exact inb_nI2 (by omega) (by omega)
  obtain ⟨a0, a1, a2, a3, a4, a5, a6, a7, a8, a9, a10, a11, a12, a13, a14, a15, a16, a17, a18, a19, a20, a21, a22, a23, a24, a25, a26, a27, a28, a29, a30, a31, a32, a33, a34⟩ := G
  intro q t hq
  have hq9 : q < 35 := (List.getElem?_eq_some_iff.mp hq).1
  match q, hq with
  | 0, hq => cases hq; exact k_law0 (kk_law0 Z h0 h1) kw_null a0 k i hk g1 g2 g3 g4 σ hCP hback
  | 1, hq => cases hq; exact k_law1 (kk_law1 Z h0 h1) kw_null a1 k i hk g1 g2 g3 g4 σ hCP hback
  | 2, hq => cases hq; exact k_law2 (kk_law2 Z h0 h1) kw_null a2 k i hk g1 g2 g3 g4 σ hCP hback
  | 3, hq => cases hq; exact k_law3 (kk_law3 Z h0 h1) kw_null a3 k i hk g1 g2 g3 g4 σ hCP hback
  | 4, hq => cases hq; exact k_law4 (kk_law4 Z h0 h1) kw_null a4 k i hk g1 g2 g3 g4 σ hCP hback
  | 5, hq => cases hq; exact k_law5 (kk_law5 Z h0 h1) kw_null a5 k i hk g1 g2 g3 g4 σ hCP hback
  | 6, hq => cases hq; exact k_law6 (kk_law6 Z h0 h1) kw_null a6 k i hk g1 g2 g3 g4 σ hCP hback
  | 7, hq => cases hq; exact k_law7 (kk_law7 Z h0 h1) kw_null a7 k i hk g1 g2 g3 g4 σ hCP hback
  | 8, hq => cases hq; exact k_law8 (kk_law8 Z h0 h1) kw_null a8 k i hk g1 g2 g3 g4 σ hCP hback
  | 9, hq => cases hq; exact k_law9 (kk_law9 Z h0 h1) kw_null a9 k i hk g1 g2 g3 g4 σ hCP hback
  | 10, hq => cases hq; exact k_law10 (kk_law10 Z h0 h1) kw_null a10 k i hk g1 g2 g3 g4 σ hCP hback
  | 11, hq => cases hq; exact k_law11 (kk_law11 Z h0 h1) kw_null a11 k i hk g1 g2 g3 g4 σ hCP hback
  | 12, hq => cases hq; exact k_law12 (kk_law12 Z h0 h1) kw_null a12 k i hk g1 g2 g3 g4 σ hCP hback
  | 13, hq => cases hq; exact k_law13 (kk_law13 Z h0 h1) kw_null a13 k i hk g1 g2 g3 g4 σ hCP hback
  | 14, hq => cases hq; exact k_law14 (kk_law14 Z h0 h1) kw_null a14 k i hk g1 g2 g3 g4 σ hCP hback
  | 15, hq => cases hq; exact k_law15 (kk_law15 Z h0 h1) kw_null a15 k i hk g1 g2 g3 g4 σ hCP hback
  | 16, hq => cases hq; exact k_law16 (kk_law16 Z h0 h1) kw_null a16 k i hk g1 g2 g3 g4 σ hCP hback
  | 17, hq => cases hq; exact k_law17 (kk_law17 Z h0 h1) kw_null a17 k i hk g1 g2 g3 g4 σ hCP hback
  | 18, hq => cases hq; exact k_law18 (kk_law18 Z h0 h1) kw_null a18 k i hk g1 g2 g3 g4 σ hCP hback
  | 19, hq => cases hq; exact k_law19 (kk_law19 Z h0 h1) kw_null a19 k i hk g1 g2 g3 g4 σ hCP hback
  | 20, hq => cases hq; exact k_law20 (kk_law20 Z h0 h1) kw_null a20 k i hk g1 g2 g3 g4 σ hCP hback
  | 21, hq => cases hq; exact k_law21 (kk_law21 Z h0 h1) kw_null a21 k i hk g1 g2 g3 g4 σ hCP hback
  | 22, hq => cases hq; exact k_law22 (kk_law22 Z h0 h1) kw_null a22 k i hk g1 g2 g3 g4 σ hCP hback
  | 23, hq => cases hq; exact k_law23 (kk_law23 Z h0 h1) kw_null a23 k i hk g1 g2 g3 g4 σ hCP hback
  | 24, hq => cases hq; exact k_law24 (kk_law24 Z h0 h1) kw_null a24 k i hk g1 g2 g3 g4 σ hCP hback
  | 25, hq => cases hq; exact k_law25 (kk_law25 Z h0 h1) kw_null a25 k i hk g1 g2 g3 g4 σ hCP hback
  | 26, hq => cases hq; exact k_law26 (kk_law26 Z h0 h1) kw_null a26 k i hk g1 g2 g3 g4 σ hCP hback
  | 27, hq => cases hq; exact k_law27 (kk_law27 Z h0 h1) kw_null a27 k i hk g1 g2 g3 g4 σ hCP hback
  | 28, hq => cases hq; exact k_law28 (kk_law28 Z h0 h1) kw_null a28 k i hk g1 g2 g3 g4 σ hCP hback
  | 29, hq => cases hq; exact k_law29 (kk_law29 Z h0 h1) kw_null a29 k i hk g1 g2 g3 g4 σ hCP hback
  | 30, hq => cases hq; exact k_law30 (kk_law30 Z h0 h1) kw_null a30 k i hk g1 g2 g3 g4 σ hCP hback
  | 31, hq => cases hq; exact k_law31 (kk_law31 Z h0 h1) kw_null a31 k i hk g1 g2 g3 g4 σ hCP hback
  | 32, hq => cases hq; exact k_law32 (kk_law32 Z h0 h1) kw_null a32 k i hk g1 g2 g3 g4 σ hCP hback
  | 33, hq => cases hq; exact k_law33 (kk_law33 Z h0 h1) kw_null a33 k i hk g1 g2 g3 g4 σ hCP hback
  | 34, hq => cases hq; exact k_law34 (kk_law34 Z h0 h1) kw_null a34 k i hk g1 g2 g3 g4 σ hCP hback
  | q + 35, hq => omega
set_option maxHeartbeats 4000000 in
set_option maxRecDepth 100000 in
theorem law_loop {CP : aM → Prop} (G : AG CP) (Z : LCX p l e s m meth c b N xs D cI cZ cA cL ad sa) {c0 s0 : Nat} (h0 : c0 + 9000 ≤ 601024) (h1 : s0 + 60000 ≤ 7293034) (hN : N ≤ 2560) : ∀ (d k i : Nat) (σ : aM), N ≤ i + 5 * d → k ≤ 12 * (i / 5) → i % 5 = 0 → i ≤ N + 4 → CP σ → KW p l e s m below meth c D cI cZ cA cL ad b c0 s0 k (23, [.ref 200, .ref 0, .ref 6, .ref 178, .int (nI i), .null, .null], [], σ) := by
  intro d
  induction d with
  | zero =>
    intro k i σ hd hk h5 hi hCP
    refine wpB_WS (r_lawhead (below := below) Z (c0 + k) (s0 + 6 * k) (by omega) (by omega)) 6 _ ?_
    rw [← kw_eq]
    show ((nI N - 5 < nI i) → KW p l e s m below meth c D cI cZ cA cL ad b c0 s0 k (2240, [.ref 200, .ref 0, .ref 6, .ref 178, .int (nI i), .null, .null], [], σ)) ∧ (¬ (nI N - 5 < nI i) → KW p l e s m below meth c D cI cZ cA cL ad b c0 s0 k (32, [.ref 200, .ref 0, .ref 6, .ref 178, .int (nI i), .null, .null], [], σ))
    refine ⟨fun _ => ?_, fun q => absurd ?_ q⟩
    · refine wpB_WS (r_lawtail (below := below) Z (c0 + k) (s0 + 6 * k) (by omega) (by omega)) 2 _ ?_
      exact rfl
    · rw [Int32.lt_iff_toInt_lt, lawsub hN, nI_toInt (by omega)]
      omega
  | succ d ih =>
    intro k i σ hd hk h5 hi hCP
    refine wpB_WS (r_lawhead (below := below) Z (c0 + k) (s0 + 6 * k) (by omega) (by omega)) 6 _ ?_
    rw [← kw_eq]
    show ((nI N - 5 < nI i) → KW p l e s m below meth c D cI cZ cA cL ad b c0 s0 k (2240, [.ref 200, .ref 0, .ref 6, .ref 178, .int (nI i), .null, .null], [], σ)) ∧ (¬ (nI N - 5 < nI i) → KW p l e s m below meth c D cI cZ cA cL ad b c0 s0 k (32, [.ref 200, .ref 0, .ref 6, .ref 178, .int (nI i), .null, .null], [], σ))
    refine ⟨fun _ => ?_, fun q => ?_⟩
    · refine wpB_WS (r_lawtail (below := below) Z (c0 + k) (s0 + 6 * k) (by omega) (by omega)) 2 _ ?_
      exact rfl
    · have hi5 : i + 5 ≤ N := by
        rw [Int32.lt_iff_toInt_lt, lawsub hN, nI_toInt (by omega)] at q
        omega
      obtain ⟨j, hj, ej⟩ := pk_andE (xs (ix (nI i))) (m := 63) 6 (by decide)
      have hback : ∀ c2 σ2, c2 ≤ k + 12 → CP σ2 → KW p l e s m below meth c D cI cZ cA cL ad b c0 s0 c2 (2234, [.ref 200, .ref 0, .ref 6, .ref 178, .int (nI i), .null, .null], [], σ2) := by
        intro c2 σ2 hc2 hCP2
        refine wpB_WS (r_lawtail (below := below) Z (c0 + c2) (s0 + 6 * c2) (by omega) (by omega)) 2 _ ?_
        have e5 : nI i + 5 = nI (i + 5) := nI_add i 5
        show KW p l e s m below meth c D cI cZ cA cL ad b c0 s0 c2 (23, [.ref 200, .ref 0, .ref 6, .ref 178, .int (nI i + 5), .null, .null], [], σ2)
        rw [e5]
        exact ih c2 (i + 5) σ2 (by omega) (by omega) (by omega) (by omega) hCP2
      refine wpB_WS (r_lawhead (below := below) Z (c0 + k) (s0 + 6 * k) (by omega) (by omega)) 6 _ ?_
      rw [← kw_eq]
      show inb (nI i) N = true ∧ ((∀ (q t : Nat), ([192, 248, 328, 412, 425, 481, 494, 574, 654, 746, 826, 839, 895, 951, 1007, 1075, 1143, 1211, 1303, 1383, 1439, 1495, 1508, 1564, 1620, 1688, 1756, 1836, 1904, 1917, 1985, 2041, 2054, 2110, 2178] : List Nat)[q]? = some t → xs (ix (nI i)) &&& 63 = nI q → KW p l e s m below meth c D cI cZ cA cL ad b c0 s0 k (t, [.ref 200, .ref 0, .ref 6, .ref 178, .int (nI i), .null, .null], [], σ)) ∧ (((xs (ix (nI i)) &&& 63).toInt < 0 ∨ ((35 : Nat) : Int) ≤ (xs (ix (nI i)) &&& 63).toInt) → KW p l e s m below meth c D cI cZ cA cL ad b c0 s0 k (2234, [.ref 200, .ref 0, .ref 6, .ref 178, .int (nI i), .null, .null], [], σ)))
      refine ⟨inb_nI2 (by omega) (by omega), fun q t hq _ => law_switch G Z h0 h1 k i (by omega) hi5 hN σ hCP hback q t hq, fun _ => hback k σ (by omega) hCP⟩
end LAWLOOP
