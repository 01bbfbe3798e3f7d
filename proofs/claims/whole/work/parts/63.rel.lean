/-! what the two systems hold in common; what follows for the plays -/
def qc_N (tm ov : Nat → Int32) (k : Nat) : Nat → Int32
  | 0 => -1
  | d + 1 => if tm (k - (d + 1)) = -1 then qc_N tm ov k d else ov (k - (d + 1))
def qc_C (tm ow : Nat → Int32) : Nat → Int32 → Int32
  | 0, v => v
  | m + 1, v => if v = -1 then (if tm m = -1 then qc_C tm ow m (ow m) else v) else v
def qc_u (r : Nat → Nat) (i v : Nat) : Nat → Nat := fun j => if j = i then v else r j
def qc_I (tm : Nat → Int32) (z : Nat) : Nat → (Nat → Nat) → (Nat → Nat)
  | 0, r => qc_u r 0 z
  | a + 1, r => if (tm z).toInt < (tm (r a)).toInt then qc_I tm z a (qc_u r (a + 1) (r a)) else qc_u r (a + 1) z
def qc_P (tm : Nat → Int32) : Nat → Nat × (Nat → Nat)
  | 0 => (0, fun _ => 0)
  | p + 1 => if tm p = -1 then qc_P tm p else ((qc_P tm p).1 + 1, qc_I tm p (qc_P tm p).1 (qc_P tm p).2)
theorem qc_u_at {r : Nat → Nat} {i v : Nat} : qc_u r i v i = v := if_pos rfl
theorem qc_u_ne {r : Nat → Nat} {i v j : Nat} (h : ¬ j = i) : qc_u r i v j = r j := if_neg h
theorem qc_I_all {tm : Nat → Int32} {z : Nat} (P : Nat → Prop) (hz : P z) : ∀ (a : Nat) (r : Nat → Nat) (N : Nat), a < N → (∀ j, j < N → ¬ j = a → P (r j)) → ∀ j, j < N → P (qc_I tm z a r j)
  | 0, r, N, ha, h, j, hj => by
    show P (qc_u r 0 z j)
    by_cases e : j = 0
    · rw [e, qc_u_at]; exact hz
    · rw [qc_u_ne e]; exact h j hj e
  | a + 1, r, N, ha, h, j, hj => by
    unfold qc_I
    split
    · refine qc_I_all P hz a _ N (by omega) (fun i hi hia => ?_) j hj
      by_cases e : i = a + 1
      · rw [e, qc_u_at]; exact h a (by omega) (by omega)
      · rw [qc_u_ne e]; exact h i hi e
    · by_cases e : j = a + 1
      · rw [e, qc_u_at]; exact hz
      · rw [qc_u_ne e]; exact h j hj e
theorem qc_I_sorted {tm : Nat → Int32} {z : Nat} : ∀ (a : Nat) (r : Nat → Nat) (N : Nat), a < N → (∀ i j, i < j → j < N → ¬ i = a → ¬ j = a → (tm (r i)).toInt ≤ (tm (r j)).toInt) → (∀ j, a < j → j < N → (tm z).toInt ≤ (tm (r j)).toInt) → ∀ i j, i < j → j < N → (tm (qc_I tm z a r i)).toInt ≤ (tm (qc_I tm z a r j)).toInt
  | 0, r, N, ha, h, h2, i, j, hij, hj => by
    show (tm (qc_u r 0 z i)).toInt ≤ (tm (qc_u r 0 z j)).toInt
    rw [qc_u_ne (show ¬ j = 0 by omega)]
    by_cases e : i = 0
    · rw [e, qc_u_at]; exact h2 j (by omega) hj
    · rw [qc_u_ne e]; exact h i j hij hj e (by omega)
  | a + 1, r, N, ha, h, h2, i, j, hij, hj => by
    unfold qc_I
    split
    · rename_i hlt
      refine qc_I_sorted a _ N (by omega) (fun i j h3 h4 h5 h6 => ?_) (fun j h3 h4 => ?_) i j hij hj
      · by_cases e1 : i = a + 1
        · rw [e1, qc_u_at, qc_u_ne (show ¬ j = a + 1 by omega)]
          exact h a j (by omega) h4 (by omega) (by omega)
        · rw [qc_u_ne e1]
          by_cases e2 : j = a + 1
          · rw [e2, qc_u_at]
            exact h i a (by omega) (by omega) (by omega) (by omega)
          · rw [qc_u_ne e2]
            exact h i j h3 h4 e1 e2
      · by_cases e2 : j = a + 1
        · rw [e2, qc_u_at]
          omega
        · rw [qc_u_ne e2]
          exact h2 j (by omega) h4
    · rename_i hlt
      by_cases e1 : i = a + 1
      · rw [e1, qc_u_at, qc_u_ne (show ¬ j = a + 1 by omega)]
        exact h2 j (by omega) hj
      · rw [qc_u_ne e1]
        by_cases e2 : j = a + 1
        · rw [e2, qc_u_at]
          by_cases e3 : i = a
          · rw [e3]; omega
          · have := h i a (by omega) (by omega) e1 (by omega)
            omega
        · rw [qc_u_ne e2]
          exact h i j hij hj e1 e2
theorem qc_P_facts {tm : Nat → Int32} : ∀ p : Nat, (qc_P tm p).1 ≤ p ∧ (∀ j, j < (qc_P tm p).1 → (qc_P tm p).2 j < p ∧ ¬ tm ((qc_P tm p).2 j) = -1) ∧ ∀ i j, i < j → j < (qc_P tm p).1 → (tm ((qc_P tm p).2 i)).toInt ≤ (tm ((qc_P tm p).2 j)).toInt
  | 0 => ⟨Nat.le_refl _, fun j h => absurd h (Nat.not_lt_zero j), fun i j _ h => absurd h (Nat.not_lt_zero j)⟩
  | p + 1 => by
    obtain ⟨h1, h2, h3⟩ := qc_P_facts (tm := tm) p
    unfold qc_P
    split
    · exact ⟨by omega, fun j hj => ⟨by have := (h2 j hj).1; omega, (h2 j hj).2⟩, h3⟩
    · rename_i hp
      refine ⟨Nat.succ_le_succ h1, ?_, ?_⟩
      · exact qc_I_all (fun r => r < p + 1 ∧ ¬ tm r = -1) ⟨Nat.lt_succ_self p, hp⟩ _ _ _ (Nat.lt_succ_self _) (fun j hj he => ⟨by have := (h2 j (by omega)).1; omega, (h2 j (by omega)).2⟩)
      · exact qc_I_sorted _ _ _ (Nat.lt_succ_self _) (fun i j a b c d => h3 i j a (by omega)) (fun j a b => absurd a (by omega))
/-- the lines' starts as numbers -/
theorem sa_nat {x7 x8 : Nat → Int32} {n : Nat} (h : ∀ l, l < n → ∃ s, 1 ≤ s ∧ s ≤ 30 ∧ x7 l = nI s) : ∀ l, l ≤ n → ∃ T, T ≤ 30 * l ∧ sa x7 x8 l = nI T
  | 0, _ => ⟨0, by omega, rfl⟩
  | l + 1, hl => by
    obtain ⟨T, h1, h2⟩ := sa_nat h l (by omega)
    obtain ⟨s, h3, h4, h5⟩ := h l (by omega)
    unfold sa
    split
    · exact ⟨T + s, by omega, by rw [h2, h5, nI_add]⟩
    · exact ⟨T, by omega, h2⟩
def qc_ah (x : aM) (c d : Nat) : Prop := (x 11 c).toInt < (x 11 d).toInt ∨ ((x 11 c).toInt = (x 11 d).toInt ∧ ((x 12 c).toInt < (x 12 d).toInt ∨ ((x 12 c).toInt = (x 12 d).toInt ∧ c < d)))
def qc_t (x : aM) (c : Nat) : Int32 := if x 8 (ix (x 11 c)) = 0 then sa (x 7) (x 8) (ix (x 11 c)) + x 12 c else -1
def pT (x : aM) (p : Nat) : Int32 := x 15 (ix (x 14 p))
def pO (x : aM) (h p : Nat) : Int32 := if ix (x 14 p) < 20 then x (88 + ix (x 14 p)) h else 0
def AO (k : Nat) (x : aM) : Prop := (∀ p, p < k → ∃ c, c < k ∧ x 14 p = nI c) ∧ (∀ p r, p < r → r < k → qc_ah x (ix (x 14 p)) (ix (x 14 r))) ∧ (∀ c, c < k → ∃ p, p < k ∧ x 14 p = nI c)
def AF (k : Nat) (x : aM) : Prop := (∀ p, p < k → x 16 (ix (x 14 p)) = qc_N (pT x) (x 14) k (k - p)) ∧ (∀ p h, p < k → h < 10 → x (108 + ix (x 14 p)) h = if pT x p = -1 then -1 else qc_C (pT x) (pO x h) p (pO x h p))
def AP (k : Nat) (x : aM) : Prop := x 3 10 = nI (qc_P (pT x) k).1 ∧ ∀ j, j < (qc_P (pT x) k).1 → x 17 j = x 14 ((qc_P (pT x) k).2 j)
def AR (k : Nat) (x : aM) : Prop := AO k x ∧ (∀ c, c < k → x 15 c = qc_t x c) ∧ AF k x ∧ AP k x
def RS (n : Nat) (x m : aM) : Prop := n ≤ 30 ∧ x 1 3 = nI n ∧ m 6 4 = nI n ∧ m 29 = x 7 ∧ m 30 = x 8 ∧ (∀ l, l < n → ∃ s, 1 ≤ s ∧ s ≤ 30 ∧ x 7 l = nI s) ∧ (∀ l a, l < 30 → a < 4 → m 31 (4 * l + a) = x (58 + l) a)
def RP (x m : aM) : Prop := m 32 = x 9 ∧ m 33 = x 10
def RC0 (n k : Nat) (x : aM) : Prop := k ≤ 20 ∧ x 3 4 = nI k ∧ (∀ c, c < k → ∃ L, L < n ∧ x 11 c = nI L) ∧ (∀ c, c < k → ∃ o, o ≤ 60 ∧ x 12 c = nI o) ∧ (∀ c, c < k → ∃ f, f ≤ 60 ∧ x 13 c = nI f)
def RC (n k : Nat) (x m : aM) : Prop := RC0 n k x ∧ m 6 11 = nI k ∧ m 34 = x 11 ∧ m 35 = x 12 ∧ m 36 = x 13 ∧ (∀ c h, c < 20 → h < 10 → m 37 (10 * c + h) = x (88 + c) h)
def RG (q : Nat) (x m : aM) : Prop := q ≤ 20 ∧ x 4 8 = nI q ∧ m 6 19 = nI q ∧ m 38 = x 18 ∧ m 39 = x 19 ∧ m 40 = x 22 ∧ m 41 = x 23 ∧ m 42 = x 20 ∧ m 43 = x 21 ∧ m 44 = x 24
def RB (g : Nat) (x m : aM) : Prop := g ≤ 20 ∧ x 5 2 = nI g ∧ m 6 22 = nI g ∧ m 45 = x 26 ∧ (∀ u l, u < 20 → l < 30 → m 46 (30 * u + l) = x (158 + u) l)
def QL (n k q g : Nat) (x m : aM) : Prop := RS n x m ∧ RP x m ∧ RC n k x m ∧ AR k x ∧ RG q x m ∧ RB g x m
/-- CueTour's own rows are kept; the reference's are -/
def KX (x x' : aM) : Prop := ∀ a, (1 ≤ a ∧ a ≤ 5 ∨ 7 ≤ a ∧ a ≤ 24 ∨ a = 26 ∨ 58 ≤ a ∧ a < 128 ∨ 158 ≤ a ∧ a < 178) → x' a = x a
def KM (m m' : aM) : Prop := (∀ a, 29 ≤ a ∧ a ≤ 46 → m' a = m a) ∧ m' 6 4 = m 6 4 ∧ m' 6 11 = m 6 11 ∧ m' 6 19 = m 6 19 ∧ m' 6 22 = m 6 22
/-- what the arrangement reads and writes is kept -/
def KA (x x' : aM) : Prop := ∀ a, (a = 3 ∨ 11 ≤ a ∧ a ≤ 17 ∨ 88 ≤ a ∧ a < 128) → x' a = x a
theorem KX.ka {x x' : aM} (h : KX x x') : KA x x' := fun a ha => h a (by omega)
theorem KX.rf {x : aM} : KX x x := fun _ _ => rfl
theorem KX.tr {x y z : aM} (h : KX x y) (h2 : KX y z) : KX x z := fun a ha => (h2 a ha).trans (h a ha)
theorem KM.rf {m : aM} : KM m m := ⟨fun _ _ => rfl, rfl, rfl, rfl, rfl⟩
theorem KM.tr {x y z : aM} (h : KM x y) (h2 : KM y z) : KM x z := ⟨fun a ha => (h2.1 a ha).trans (h.1 a ha), h2.2.1.trans h.2.1, h2.2.2.1.trans h.2.2.1, h2.2.2.2.1.trans h.2.2.2.1, h2.2.2.2.2.trans h.2.2.2.2⟩
theorem KX.row {x : aM} {k n : Nat} {f : Nat → Int32} (h : ¬ (1 ≤ k ∧ k ≤ 5 ∨ 7 ≤ k ∧ k ≤ 24 ∨ k = 26 ∨ 58 ≤ k ∧ k < 128 ∨ 158 ≤ k ∧ k < 178)) : KX x (mrow x k n f) := fun a ha => mrow_ne (fun e => h (e ▸ ha))
theorem KX.put {x : aM} {k i : Nat} {v : Int32} (h : ¬ (1 ≤ k ∧ k ≤ 5 ∨ 7 ≤ k ∧ k ≤ 24 ∨ k = 26 ∨ 58 ≤ k ∧ k < 128 ∨ 158 ≤ k ∧ k < 178)) : KX x (mput x k i v) := fun a ha => mput_ne (fun e => h (e ▸ ha))
theorem KM.row {m : aM} {k n : Nat} {f : Nat → Int32} (h : ¬ (29 ≤ k ∧ k ≤ 46 ∨ k = 6)) : KM m (mrow m k n f) :=
  have e : mrow m k n f 6 = m 6 := mrow_ne (fun e => h (Or.inr e.symm))
  ⟨fun a ha => mrow_ne (fun e => h (Or.inl (e ▸ ha))), by rw [e], by rw [e], by rw [e], by rw [e]⟩
theorem KM.put {m : aM} {k i : Nat} {v : Int32} (h : ¬ (29 ≤ k ∧ k ≤ 46 ∨ k = 6)) : KM m (mput m k i v) :=
  have e : mput m k i v 6 = m 6 := mput_ne (fun e => h (Or.inr e.symm))
  ⟨fun a ha => mput_ne (fun e => h (Or.inl (e ▸ ha))), by rw [e], by rw [e], by rw [e], by rw [e]⟩
theorem KM.fld {m : aM} {i : Nat} {v : Int32} (h : ¬ (i = 4 ∨ i = 11 ∨ i = 19 ∨ i = 22)) : KM m (mput m 6 i v) :=
  ⟨fun a ha => mput_ne (by omega), mput_other (by omega), mput_other (by omega), mput_other (by omega), mput_other (by omega)⟩
theorem KA.pTe {x x' : aM} (h : KA x x') : pT x' = pT x := by
  funext p
  unfold pT
  rw [h 15 (by omega), h 14 (by omega)]
theorem KA.pOe {x x' : aM} (h : KA x x') {c : Nat} : pO x' c = pO x c := by
  funext p
  unfold pO
  rw [h 14 (by omega)]
  by_cases e : ix (x 14 p) < 20
  · rw [if_pos e, if_pos e, h _ (by omega)]
  · rw [if_neg e, if_neg e]
theorem RS.cg {n : Nat} {x x' m m' : aM} (h : ∀ a, (a = 1 ∨ a = 7 ∨ a = 8 ∨ 58 ≤ a ∧ a < 88) → x' a = x a) (h4 : m' 6 4 = m 6 4) (h9 : ∀ a, 29 ≤ a ∧ a ≤ 31 → m' a = m a) (H : RS n x m) : RS n x' m' := by
  obtain ⟨h1, h2, h3, h5, h6, h7, h8⟩ := H
  refine ⟨h1, ?_, ?_, ?_, ?_, ?_, fun l a hl ha => ?_⟩
  · rw [h 1 (by omega)]; exact h2
  · rw [h4]; exact h3
  · rw [h 7 (by omega), h9 29 (by omega)]; exact h5
  · rw [h 8 (by omega), h9 30 (by omega)]; exact h6
  · rw [h 7 (by omega)]; exact h7
  · rw [h (58 + l) (by omega), h9 31 (by omega)]; exact h8 l a hl ha
theorem RP.cg {x x' m m' : aM} (h1 : x' 9 = x 9) (h2 : x' 10 = x 10) (h3 : m' 32 = m 32) (h4 : m' 33 = m 33) (H : RP x m) : RP x' m' := by
  unfold RP at H ⊢
  rw [h1, h2, h3, h4]
  exact H
theorem RC0.cg {n k : Nat} {x x' : aM} (h3 : x' 3 4 = x 3 4) (h : ∀ a, 11 ≤ a ∧ a ≤ 13 → x' a = x a) (H : RC0 n k x) : RC0 n k x' := by
  unfold RC0 at H ⊢
  rw [h3, h 11 (by omega), h 12 (by omega), h 13 (by omega)]
  exact H
theorem RC.cg {n k : Nat} {x x' m m' : aM} (h3 : x' 3 4 = x 3 4) (h : ∀ a, (11 ≤ a ∧ a ≤ 13 ∨ 88 ≤ a ∧ a < 108) → x' a = x a) (h4 : m' 6 11 = m 6 11) (h9 : ∀ a, 34 ≤ a ∧ a ≤ 37 → m' a = m a) (H : RC n k x m) : RC n k x' m' := by
  obtain ⟨g1, g2, g3, g4, g5, g6⟩ := H
  refine ⟨g1.cg h3 (fun a ha => h a (by omega)), h4.trans g2, ?_, ?_, ?_, fun c a hc ha => ?_⟩
  · rw [h 11 (by omega), h9 34 (by omega)]; exact g3
  · rw [h 12 (by omega), h9 35 (by omega)]; exact g4
  · rw [h 13 (by omega), h9 36 (by omega)]; exact g5
  · rw [h (88 + c) (by omega), h9 37 (by omega)]; exact g6 c a hc ha
theorem AO.ka {k : Nat} {x x' : aM} (h : KA x x') (H : AO k x) : AO k x' := by
  unfold AO qc_ah at H ⊢
  rw [h 14 (by omega), h 11 (by omega), h 12 (by omega)]
  exact H
theorem AP.ka {k : Nat} {x x' : aM} (h : KA x x') (H : AP k x) : AP k x' := by
  unfold AP at H ⊢
  rw [h.pTe, h 3 (by omega), h 14 (by omega), h 17 (by omega)]
  exact H
theorem AF.ka {k : Nat} {x x' : aM} (hk : k ≤ 20) (ho : AO k x) (h : KA x x') (H : AF k x) : AF k x' := by
  refine ⟨?_, fun p c hp hc => ?_⟩
  · rw [h.pTe, h 16 (by omega), h 14 (by omega)]; exact H.1
  · obtain ⟨d, hd, e⟩ := ho.1 p hp
    have e2 : ix (x 14 p) = d := by rw [e, ix_nI (by omega)]
    rw [h.pTe, h.pOe, h 14 (by omega), h (108 + ix (x 14 p)) (by omega)]
    exact H.2 p c hp hc
theorem AR.ka {k : Nat} {x x' : aM} (hk : k ≤ 20) (h : KA x x') (ht : ∀ c, c < k → qc_t x' c = qc_t x c) (H : AR k x) : AR k x' := by
  obtain ⟨h1, h2, h3, h4⟩ := H
  refine ⟨h1.ka h, ?_, h3.ka hk h1 h, h4.ka h⟩
  intro c hc
  rw [h 15 (by omega), ht c hc]
  exact h2 c hc
theorem qc_t_eq {x x' : aM} {c : Nat} (h7 : x' 7 = x 7) (h8 : x' 8 = x 8) (h11 : x' 11 = x 11) (h12 : x' 12 = x 12) : qc_t x' c = qc_t x c := by
  unfold qc_t
  rw [h7, h8, h11, h12]
theorem RG.cg {q : Nat} {x x' m m' : aM} (h : ∀ a, (a = 4 ∨ 18 ≤ a ∧ a ≤ 24) → x' a = x a) (h4 : m' 6 19 = m 6 19) (h9 : ∀ a, 38 ≤ a ∧ a ≤ 44 → m' a = m a) (H : RG q x m) : RG q x' m' := by
  unfold RG at H ⊢
  rw [h 4 (by omega), h 18 (by omega), h 19 (by omega), h 22 (by omega), h 23 (by omega), h 20 (by omega), h 21 (by omega), h 24 (by omega), h4, h9 38 (by omega), h9 39 (by omega), h9 40 (by omega), h9 41 (by omega), h9 42 (by omega), h9 43 (by omega), h9 44 (by omega)]
  exact H
theorem RB.cg {g : Nat} {x x' m m' : aM} (h : ∀ a, (a = 5 ∨ a = 26 ∨ 158 ≤ a ∧ a < 178) → x' a = x a) (h4 : m' 6 22 = m 6 22) (h9 : ∀ a, 45 ≤ a ∧ a ≤ 46 → m' a = m a) (H : RB g x m) : RB g x' m' := by
  obtain ⟨g1, g2, g3, g5, g6⟩ := H
  refine ⟨g1, ?_, h4.trans g3, ?_, fun u l hu hl => ?_⟩
  · rw [h 5 (by omega)]; exact g2
  · rw [h 26 (by omega), h9 45 (by omega)]; exact g5
  · rw [h (158 + u) (by omega), h9 46 (by omega)]; exact g6 u l hu hl
theorem QL.cg {n k q g : Nat} {x x' m m' : aM} (h : KX x x') (h2 : KM m m') (H : QL n k q g x m) : QL n k q g x' m' := by
  obtain ⟨g1, g2, g3, g4, g5, g6⟩ := H
  exact ⟨g1.cg (fun a ha => h a (by omega)) h2.2.1 (fun a ha => h2.1 a (by omega)), g2.cg (h 9 (by omega)) (h 10 (by omega)) (h2.1 32 (by omega)) (h2.1 33 (by omega)), g3.cg (by rw [h 3 (by omega)]) (fun a ha => h a (by omega)) h2.2.2.1 (fun a ha => h2.1 a (by omega)), g4.ka g3.1.1 h.ka (fun c _ => qc_t_eq (h 7 (by omega)) (h 8 (by omega)) (h 11 (by omega)) (h 12 (by omega))), g5.cg (fun a ha => h a (by omega)) h2.2.2.2.1 (fun a ha => h2.1 a (by omega)), g6.cg (fun a ha => h a (by omega)) h2.2.2.2.2 (fun a ha => h2.1 a (by omega))⟩
theorem QL.kx {n k q g : Nat} {x x' m : aM} (h : KX x x') (H : QL n k q g x m) : QL n k q g x' m := H.cg h KM.rf
theorem QL.km {n k q g : Nat} {x m m' : aM} (h : KM m m') (H : QL n k q g x m) : QL n k q g x m' := H.cg KX.rf h
/-- the plays, as the levels need them -/
def tX (x : aM) (j : Nat) : Int32 := x 15 (ix (x 17 j))
def mX (x : aM) (h j : Nat) : Int32 := if ix (x 17 j) < 20 then x (108 + ix (x 17 j)) h else 0
def fX (x : aM) (j : Nat) : Int32 := x 13 (ix (x 17 j))
def LV (x : aM) (h : Nat) (t : Int32) : Int32 := qb_L (ix (x 3 10)) (tX x) (mX x h) (fX x) t
def QX (x : aM) : Prop := ∃ c, c ≤ 20 ∧ x 3 10 = nI c ∧ (∀ j, j < c → (∃ d, d < 20 ∧ x 17 j = nI d) ∧ (∃ v, v < 5000 ∧ tX x j = nI v) ∧ (∃ v, v ≤ 60 ∧ fX x j = nI v)) ∧ ∀ i j, i < j → j < c → tX x i ≤ tX x j
/-- what the levels and the light read is kept -/
def KY (x x' : aM) : Prop := ∀ a, (1 ≤ a ∧ a ≤ 4 ∨ 7 ≤ a ∧ a ≤ 24 ∨ 58 ≤ a ∧ a < 128) → x' a = x a
theorem KX.ky {x x' : aM} (h : KX x x') : KY x x' := fun a ha => h a (by omega)
theorem KY.rf {x : aM} : KY x x := fun _ _ => rfl
theorem KY.tr {x y z : aM} (h : KY x y) (h2 : KY y z) : KY x z := fun a ha => (h2 a ha).trans (h a ha)
theorem KY.row {x : aM} {k n : Nat} {f : Nat → Int32} (h : ¬ (1 ≤ k ∧ k ≤ 4 ∨ 7 ≤ k ∧ k ≤ 24 ∨ 58 ≤ k ∧ k < 128)) : KY x (mrow x k n f) := fun a ha => mrow_ne (fun e => h (e ▸ ha))
theorem KY.put {x : aM} {k i : Nat} {v : Int32} (h : ¬ (1 ≤ k ∧ k ≤ 4 ∨ 7 ≤ k ∧ k ≤ 24 ∨ 58 ≤ k ∧ k < 128)) : KY x (mput x k i v) := fun a ha => mput_ne (fun e => h (e ▸ ha))
theorem KY.tXe {x x' : aM} (h : KY x x') : tX x' = tX x := by
  funext p
  unfold tX
  rw [h 15 (by omega), h 17 (by omega)]
theorem KY.fXe {x x' : aM} (h : KY x x') : fX x' = fX x := by
  funext p
  unfold fX
  rw [h 13 (by omega), h 17 (by omega)]
theorem KY.mXe {x x' : aM} (h : KY x x') {c : Nat} : mX x' c = mX x c := by
  funext p
  unfold mX
  rw [h 17 (by omega)]
  by_cases e : ix (x 17 p) < 20
  · rw [if_pos e, if_pos e, h _ (by omega)]
  · rw [if_neg e, if_neg e]
theorem KY.LVe {x x' : aM} (h : KY x x') {c : Nat} {t : Int32} : LV x' c t = LV x c t := by
  unfold LV
  rw [h.tXe, h.fXe, h.mXe, h 3 (by omega)]
theorem QX.ky {x x' : aM} (h : KY x x') (H : QX x) : QX x' := by
  unfold QX at H ⊢
  rw [h.tXe, h.fXe, h 3 (by omega), h 17 (by omega)]
  exact H
theorem x_fades {x : aM} {h : Nat} {t : Int32} (H : QX x) (hh : h < 10) : f_X1_levelByFades (nI h) t x = some (LV x h t, x) := by
  obtain ⟨c, hc, e, h1, h2⟩ := H
  unfold LV
  rw [e, ix_nI (by omega)]
  refine x_fades_g hc e hh (fun j hj => ?_) (fun j hj => rfl) (fun j hj => ?_) (fun j hj => rfl) h2
  · obtain ⟨⟨d, hd, e1⟩, -, -⟩ := h1 j hj
    rw [e1]
    exact inb_nI hd (by decide)
  · obtain ⟨⟨d, hd, e1⟩, -, -⟩ := h1 j hj
    unfold mX
    rw [e1, ix_nI (by omega), if_pos hd]
theorem x_ticks {x : aM} {h t : Nat} (H : QX x) (hh : h < 10) (ht : t ≤ 2000) : f_X1_levelByTicks (nI h) (nI t) x = some (LV x h (nI t), x) := by
  obtain ⟨c, hc, e, h1, h2⟩ := H
  unfold LV
  rw [e, ix_nI (by omega)]
  refine x_ticks_g (T := fun j => ix (tX x j)) hc e hh ht (fun j hj => ?_) (fun j hj => rfl) (fun j hj => ?_) (fun j hj => rfl) h2 (fun j hj => ?_)
  · obtain ⟨⟨d, hd, e1⟩, -, -⟩ := h1 j hj
    rw [e1]
    exact inb_nI hd (by decide)
  · obtain ⟨⟨d, hd, e1⟩, -, -⟩ := h1 j hj
    unfold mX
    rw [e1, ix_nI (by omega), if_pos hd]
  · obtain ⟨-, ⟨v, hv, e1⟩, -⟩ := h1 j hj
    show tX x j = nI (ix (tX x j)) ∧ ix (tX x j) < 5000
    rw [e1, ix_nI (by omega)]
    exact ⟨rfl, hv⟩
theorem QL.px {n k q g : Nat} {x m : aM} (H : QL n k q g x m) : QX x := by
  obtain ⟨hS, -, hC, ⟨hO, hT, -, hP⟩, -, -⟩ := H
  obtain ⟨hk, -, hL, ho, hf⟩ := hC.1
  obtain ⟨f1, f2, f3⟩ := qc_P_facts (tm := pT x) k
  have hv : ∀ p, p < k → ¬ pT x p = -1 → ∃ v, v < 5000 ∧ pT x p = nI v := by
    intro p hp hne
    obtain ⟨c, hc, e⟩ := hO.1 p hp
    unfold pT at hne ⊢
    rw [e, ix_nI (by omega), hT c hc] at hne ⊢
    unfold qc_t at hne ⊢
    obtain ⟨L, hL1, hL2⟩ := hL c hc
    obtain ⟨o, ho1, ho2⟩ := ho c hc
    have hn := hS.1
    obtain ⟨T, hT1, hT2⟩ := sa_nat (x8 := x 8) hS.2.2.2.2.2.1 L (by omega)
    rw [hL2, ix_nI (by omega)] at hne ⊢
    by_cases e8 : x 8 L = 0
    · rw [if_pos e8, hT2, ho2, nI_add]
      exact ⟨T + o, by omega, rfl⟩
    · rw [if_neg e8] at hne
      exact absurd rfl hne
  refine ⟨(qc_P (pT x) k).1, by omega, hP.1, fun j hj => ?_, fun i j hij hj => ?_⟩
  · obtain ⟨g1, g2⟩ := f2 j hj
    obtain ⟨d, hd, e⟩ := hO.1 _ g1
    have e17 : x 17 j = nI d := (hP.2 j hj).trans e
    refine ⟨⟨d, by omega, e17⟩, ?_, ?_⟩
    · obtain ⟨v, hv1, hv2⟩ := hv _ g1 g2
      refine ⟨v, hv1, ?_⟩
      unfold tX
      rw [hP.2 j hj]
      exact hv2
    · obtain ⟨v, hv1, hv2⟩ := hf d hd
      refine ⟨v, hv1, ?_⟩
      unfold fX
      rw [e17, ix_nI (by omega)]
      exact hv2
  · unfold tX
    rw [hP.2 i (by omega), hP.2 j hj, Int32.le_iff_toInt_le]
    exact f3 i j hij hj
