/-! the abstract machine: all objects and arrays of the two systems bear numbers (0 .. 177), the memory is a function of number and place; an instruction is a transformer of predicates of (pc, locals, stack, memory); once for all methods it is shown that what is true of the transformers is true of the machine -/
abbrev aM : Type := Nat → Nat → Int32
abbrev aS : Type := Nat × List Value × List Value × aM
abbrev aI : Type := (aS → Prop) → aS → Prop
def mput (σ : aM) (k i : Nat) (v : Int32) : aM := fun a => if a = k then upd (σ a) i v else σ a
def ix (i : Int32) : Nat := i.toNatClampNeg
def inb (i : Int32) (n : Nat) : Bool := decide (0 ≤ i.toInt) && decide (i.toInt < n)
theorem inb_in {i : Int32} {n : Nat} (h : inb i n = true) : vp_in i n := by
  simp only [inb, Bool.and_eq_true, decide_eq_true_eq] at h
  exact vp_in_iff.mpr h
/-- kinds: 0 an object, 1 ints, 2 booleans, 3 an array of rows -/
def kd (k : Nat) : Nat := if k < 7 then 0 else if k = 8 ∨ k = 30 then 2 else if k < 53 then 1 else if k < 58 then 3 else if k < 178 then 1 else if k = 178 then 4 else 9
def lnT : List Nat := [0, 0, 0, 0, 0, 0, 0, 30, 30, 10, 10, 20, 20, 20, 20, 20, 20, 20, 20, 20, 20, 20, 20, 20, 20, 20, 20, 10, 10, 30, 30, 120, 10, 10, 20, 20, 20, 200, 20, 20, 20, 20, 20, 20, 20, 20, 600, 20, 20, 30, 10, 10, 20, 30, 20, 20, 30, 20]
def ln (k : Nat) : Nat := if k < 58 then lnT.getD k 0 else if k < 88 then 4 else if k < 158 then 10 else if k < 178 then 30 else 1
def rb (k : Nat) : Nat := if k = 53 then 58 else if k = 54 then 88 else if k = 55 then 108 else if k = 56 then 128 else 158
def cn (o : Nat) : Nat := [5, 4, 2, 1, 3, 0, 6].getD o 0
def ft (o : Nat) : List (Option Nat) := match o with
  | 0 => [some 1, some 2, some 3, some 4, some 5, some 27, some 28, some 56]
  | 1 => [some 7, some 8, some 53, none]
  | 2 => [some 9, some 10]
  | 3 => [some 11, some 12, some 13, some 54, none, some 14, some 15, some 16, some 55, some 17, none]
  | 4 => [some 18, some 19, some 20, some 21, some 22, some 23, some 24, some 25, none]
  | 5 => [some 26, some 57, none]
  | 6 => [none, some 29, some 30, some 31, none, some 32, some 33, some 34, some 35, some 36, some 37, none, some 38, some 39, some 40, some 41, some 42, some 43, some 44, none, some 45, some 46, none, some 47, some 48, none, some 49, some 50, some 51, some 52]
  | _ => []
theorem kd_lt {k : Nat} (h : kd k = 1 ∨ kd k = 2 ∨ kd k = 3 ∨ kd k = 4) : 7 ≤ k ∧ k < 179 := by
  unfold kd at h
  by_cases h1 : k < 7
  · simp [h1] at h
  · by_cases h2 : k < 179
    · omega
    · rw [if_neg h1, if_neg (by omega), if_neg (by omega), if_neg (by omega), if_neg (by omega), if_neg (by omega)] at h
      omega
def fsL (ad : Nat → Nat) (f : Nat → Int32) : Nat → List (Option Nat) → List Value
  | _, [] => []
  | j, some k :: t => .ref (ad k) :: fsL ad f (j + 1) t
  | j, none :: t => .int (f j) :: fsL ad f (j + 1) t
theorem fsL_int {ad : Nat → Nat} {f : Nat → Int32} : ∀ (t : List (Option Nat)) (j0 j : Nat), t[j]? = some none → (fsL ad f j0 t)[j]? = some (.int (f (j0 + j)))
  | [], _, j, h => by simp at h
  | some k :: t, j0, 0, h => by simp at h
  | none :: t, j0, 0, h => by simp [fsL]
  | some k :: t, j0, j + 1, h => by
    have := fsL_int (ad := ad) (f := f) t (j0 + 1) j (by simpa using h)
    simp only [fsL, List.getElem?_cons_succ]
    rw [this]
    congr 3
    omega
  | none :: t, j0, j + 1, h => by
    have := fsL_int (ad := ad) (f := f) t (j0 + 1) j (by simpa using h)
    simp only [fsL, List.getElem?_cons_succ]
    rw [this]
    congr 3
    omega
theorem fsL_ref {ad : Nat → Nat} {f : Nat → Int32} {k : Nat} : ∀ (t : List (Option Nat)) (j0 j : Nat), t[j]? = some (some k) → (fsL ad f j0 t)[j]? = some (.ref (ad k))
  | [], _, j, h => by simp at h
  | some k :: t, j0, 0, h => by simp at h; simp [fsL, h]
  | none :: t, j0, 0, h => by simp at h
  | some k :: t, j0, j + 1, h => by simpa [fsL] using fsL_ref t (j0 + 1) j (by simpa using h)
  | none :: t, j0, j + 1, h => by simpa [fsL] using fsL_ref t (j0 + 1) j (by simpa using h)
theorem fsL_len {ad : Nat → Nat} {f : Nat → Int32} : ∀ (t : List (Option Nat)) (j0 : Nat), (fsL ad f j0 t).length = t.length
  | [], _ => rfl
  | some k :: t, j0 => by simp [fsL, fsL_len t]
  | none :: t, j0 => by simp [fsL, fsL_len t]
theorem fsL_low {ad : Nat → Nat} {f : Nat → Int32} {i : Nat} {v : Int32} : ∀ (t : List (Option Nat)) (j0 : Nat), i < j0 → fsL ad (upd f i v) j0 t = fsL ad f j0 t
  | [], _, _ => rfl
  | some k :: t, j0, h => by simp [fsL, fsL_low (i := i) (v := v) t (j0 + 1) (by omega)]
  | none :: t, j0, h => by simp [fsL, fsL_low (i := i) (v := v) t (j0 + 1) (by omega), upd, show ¬ j0 = i by omega]
theorem fsL_set {ad : Nat → Nat} {f : Nat → Int32} {v : Int32} : ∀ (t : List (Option Nat)) (j0 j : Nat), t[j]? = some none → (fsL ad f j0 t).set j (.int v) = fsL ad (upd f (j0 + j) v) j0 t
  | [], _, j, h => by simp at h
  | some k :: t, j0, 0, h => by simp at h
  | none :: t, j0, 0, h => by simp [fsL, fsL_low t (j0 + 1) (show j0 < j0 + 1 by omega), upd]
  | some k :: t, j0, j + 1, h => by
    have := fsL_set (ad := ad) (f := f) (v := v) t (j0 + 1) j (by simpa using h)
    rw [show j0 + 1 + j = j0 + (j + 1) by omega] at this
    simp [fsL, this]
  | none :: t, j0, j + 1, h => by
    have := fsL_set (ad := ad) (f := f) (v := v) t (j0 + 1) j (by simpa using h)
    rw [show j0 + 1 + j = j0 + (j + 1) by omega] at this
    simp [fsL, this, upd, show ¬ j0 = j0 + (j + 1) by omega]
def cellE (cI cZ cA cL : ClassId) (ad : Nat → Nat) (σ : aM) (k : Nat) : va_E :=
  if kd k = 0 then .inr (cn k, fsL ad (σ k) 0 (ft k)) else if kd k = 3 then .inl (cA, ln k, .inr (.inr (.inr (.inr (fun i => if i < ln k then some (ad (rb k + i)) else none))))) else if kd k = 4 then .inl (cL, ln k, .inr (.inl (fun j => (σ k j).toInt64))) else .inl (if kd k = 2 then cZ else cI, ln k, .inl (σ k))
def wl (cI cZ cA cL : ClassId) (ad : Nat → Nat) (σ : aM) : va_W := (List.range 179).map (fun k => (ad k, cellE cI cZ cA cL ad σ k))
def TY (cI cZ cA cL : ClassId) : List (ClassId × FieldType) := [(cI, .int), (cZ, .boolean), (cA, .array .int), (cL, .long)]
def AA (ad : Nat → Nat) (sz : Nat) : Nat → Prop := fun q => (∃ k, k < 179 ∧ q = ad k) ∨ sz ≤ q
def adI (ad : Nat → Nat) : Prop := ∀ i j, i < 179 → j < 179 → ad i = ad j → i = j
theorem wl_at {cI cZ cA cL : ClassId} {ad : Nat → Nat} {σ : aM} {k : Nat} (h : k < 179) : (wl cI cZ cA cL ad σ)[k]? = some (ad k, cellE cI cZ cA cL ad σ k) := by
  simp [wl, h]
theorem wl_D {cI cZ cA cL : ClassId} {ad : Nat → Nat} (hi : adI ad) (σ : aM) (sz : Nat) : va_D (AA ad sz) (wl cI cZ cA cL ad σ) := by
  have key : ∀ (k : Nat) (q : Nat × va_E), (wl cI cZ cA cL ad σ)[k]? = some q → k < 179 ∧ q.1 = ad k := by
    intro k q h
    have hk : k < 179 := by
      have := (List.getElem?_eq_some_iff.mp h).1
      simpa [wl] using this
    rw [wl_at hk] at h
    cases h
    exact ⟨hk, rfl⟩
  refine ⟨fun i j p q h1 h2 e => ?_, fun k q h => Or.inl ⟨k, (key k q h).1, (key k q h).2⟩⟩
  obtain ⟨a1, a2⟩ := key i p h1
  obtain ⟨b1, b2⟩ := key j q h2
  exact hi i j a1 b1 (by rw [← a2, ← b2, e])
theorem cellE_ne {cI cZ cA cL : ClassId} {ad : Nat → Nat} {σ : aM} {k i j : Nat} {v : Int32} (h : j ≠ k) : cellE cI cZ cA cL ad (mput σ k i v) j = cellE cI cZ cA cL ad σ j := by
  have e : mput σ k i v j = σ j := by simp [mput, h]
  simp only [cellE, e]
theorem wl_set {cI cZ cA cL : ClassId} {ad : Nat → Nat} {σ : aM} {k i : Nat} {v : Int32} {e : va_E} (he : cellE cI cZ cA cL ad (mput σ k i v) k = e) : (wl cI cZ cA cL ad σ).set k (ad k, e) = wl cI cZ cA cL ad (mput σ k i v) := by
  apply List.ext_getElem?
  intro j
  rw [List.getElem?_set]
  by_cases hj : j < 179
  · by_cases hk : k = j
    · subst hk
      simp [wl, hj, he]
    · simp only [if_neg hk]
      rw [wl_at hj, wl_at hj, cellE_ne (fun h => hk h.symm)]
  · have : ¬ j < (wl cI cZ cA cL ad σ).length := by simpa [wl] using hj
    by_cases hk : k = j
    · subst hk
      simp [wl, hj]
    · simp only [if_neg hk]
      simp [wl, hj]
theorem cellE_int {cI cZ cA cL : ClassId} {ad : Nat → Nat} {σ : aM} {k : Nat} (h : kd k = 1) : cellE cI cZ cA cL ad σ k = .inl (cI, ln k, .inl (σ k)) := by
  simp [cellE, h]
theorem cellE_bool {cI cZ cA cL : ClassId} {ad : Nat → Nat} {σ : aM} {k : Nat} (h : kd k = 2) : cellE cI cZ cA cL ad σ k = .inl (cZ, ln k, .inl (σ k)) := by
  simp [cellE, h]
theorem cellE_rows {cI cZ cA cL : ClassId} {ad : Nat → Nat} {σ : aM} {k : Nat} (h : kd k = 3) : cellE cI cZ cA cL ad σ k = .inl (cA, ln k, .inr (.inr (.inr (.inr (fun i => if i < ln k then some (ad (rb k + i)) else none))))) := by
  simp [cellE, h]
theorem cellE_long {cI cZ cA cL : ClassId} {ad : Nat → Nat} {σ : aM} {k : Nat} (h : kd k = 4) : cellE cI cZ cA cL ad σ k = .inl (cL, ln k, .inr (.inl (fun j => (σ k j).toInt64))) := by
  simp [cellE, h]
theorem cellE_obj {cI cZ cA cL : ClassId} {ad : Nat → Nat} {σ : aM} {k : Nat} (h : k < 7) : cellE cI cZ cA cL ad σ k = .inr (cn k, fsL ad (σ k) 0 (ft k)) := by
  simp [cellE, kd, h]
def cv (ad : Nat → Nat) (v : Value) : Value := match v with
  | .ref k => .ref (ad k)
  | w => w
theorem cv_cat (ad : Nat → Nat) (v : Value) : (cv ad v).category = v.category := by
  cases v <;> rfl
/-- the locals; null stands for a place of which nothing is said -/
def lh (ad : Nat → Nat) (ls : Array Slot) (n : Nat) (L : List Value) : Prop := ls.size = n ∧ lv_wf ls ∧ L.length = n ∧ (∀ v ∈ L, v.category = 1) ∧ ∀ (k : Nat) (v : Value), L[k]? = some v → v ≠ .null → ls[k]? = some (.val (cv ad v))
def lhP (ad : Nat → Nat) (q : Value × Nat) : Option (Nat × Value) := match q.1 with
  | .null => none
  | v => some (q.2, cv ad v)
def lhL (ad : Nat → Nat) (L : List Value) : List (Nat × Value) := L.zipIdx.filterMap (lhP ad)
theorem lhP_some {ad : Nat → Nat} {v : Value} {k : Nat} (h : v ≠ .null) : lhP ad (v, k) = some (k, cv ad v) := by
  cases v <;> first | rfl | exact absurd rfl h
theorem lhL_in {ad : Nat → Nat} {L : List Value} {k : Nat} {v : Value} (h : L[k]? = some v) (hv : v ≠ .null) : (k, cv ad v) ∈ lhL ad L := by
  refine List.mem_filterMap.mpr ⟨(v, k), ?_, lhP_some hv⟩
  rw [List.mem_zipIdx_iff_getElem?]
  exact h
theorem lhL_has {ad : Nat → Nat} {ls : Array Slot} {n : Nat} {L : List Value} (h : lh ad ls n L) : lv_has ls n (lhL ad L) := by
  refine ⟨h.1, h.2.1, fun q hq => ?_⟩
  obtain ⟨⟨v, k⟩, hm, he⟩ := List.mem_filterMap.mp hq
  rw [List.mem_zipIdx_iff_getElem?] at hm
  by_cases hn : v = .null
  · subst hn
    simp [lhP] at he
  · rw [lhP_some hn] at he
    cases he
    exact h.2.2.2.2 k v hm hn
theorem lh_set {ad : Nat → Nat} {ls ls' : Array Slot} {n i : Nat} {L : List Value} {w : Value} (h : lh ad ls n L) (hc : w.category = 1)
    (hs : lv_has ls' n ((i, cv ad w) :: (lhL ad L).filter (fun q => !(q.1 == i) && !(q.1 + 1 == i && q.2.category == 2)))) : lh ad ls' n (L.set i w) := by
  refine ⟨hs.1, hs.2.1, by rw [List.length_set]; exact h.2.2.1, fun v hv => ?_, fun k v hk hv => ?_⟩
  · rcases List.mem_or_eq_of_mem_set hv with h1 | h1
    · exact h.2.2.2.1 v h1
    · rw [h1]; exact hc
  · rw [List.getElem?_set] at hk
    by_cases e : i = k
    · subst e
      rw [if_pos rfl] at hk
      split at hk
      · cases hk
        exact hs.2.2 _ List.mem_cons_self
      · cases hk
    · rw [if_neg e] at hk
      refine hs.2.2 (k, cv ad v) (List.mem_cons_of_mem _ (List.mem_filter.mpr ⟨lhL_in hk hv, ?_⟩))
      have h1 : (cv ad v).category = 1 := by
        rw [cv_cat]
        exact h.2.2.2.1 v (List.mem_of_getElem? hk)
      simp [h1, show ¬ k = i from fun q => e q.symm]
theorem lh_args {ad : Nat → Nat} : ∀ (vs : List Value) (i : Nat), (∀ v ∈ vs, v.category = 1) → ∀ (k : Nat) (v : Value), vs[k]? = some v → (i + k, cv ad v) ∈ lv_args i (vs.map (cv ad))
  | [], _, _, k, v, h => by simp at h
  | w :: vs, i, hc, 0, v, h => by
    simp at h
    subst h
    simp [lv_args]
  | w :: vs, i, hc, k + 1, v, h => by
    have h1 : (cv ad w).category = 1 := by rw [cv_cat]; exact hc w List.mem_cons_self
    have := lh_args (ad := ad) vs (i + 1) (fun v hv => hc v (List.mem_cons_of_mem _ hv)) k v (by simpa using h)
    simp only [List.map_cons, lv_args, h1]
    rw [show i + (k + 1) = i + 1 + k by omega]
    exact List.mem_cons_of_mem _ this
theorem lh_entry {ad : Nat → Nat} (vs : List Value) {n : Nat} (hc : ∀ v ∈ vs, v.category = 1) (hn : vs.length ≤ n) : lh ad ((lg_sl (vs.map (cv ad)) ++ List.replicate (n - (lg_sl (vs.map (cv ad))).length) Slot.unset).toArray) n (vs ++ List.replicate (n - vs.length) .null) := by
  have hsl : ∀ ws : List Value, (∀ v ∈ ws, v.category = 1) → (lg_sl (ws.map (cv ad))).length = ws.length := by
    intro ws
    induction ws with
    | nil => intro _; rfl
    | cons w ws ih =>
      intro h
      have h1 : (cv ad w).category = 1 := by rw [cv_cat]; exact h w List.mem_cons_self
      have := ih (fun v hv => h v (List.mem_cons_of_mem _ hv))
      simp only [lg_sl] at this ⊢
      simp [h1, this]
  have hl := lv_entry (vs.map (cv ad)) (n := n) (by rw [hsl vs hc]; exact hn)
  refine ⟨hl.1, hl.2.1, by simp; omega, fun v hv => ?_, fun k v hk hv => ?_⟩
  · rcases List.mem_append.mp hv with h | h
    · exact hc v h
    · rw [List.eq_of_mem_replicate h]; rfl
  · by_cases hlt : k < vs.length
    · rw [List.getElem?_append_left hlt] at hk
      have := hl.2.2 (0 + k, cv ad v) (lh_args vs 0 hc k v hk)
      simpa using this
    · rw [List.getElem?_append_right (by omega)] at hk
      rw [List.getElem?_replicate] at hk
      split at hk
      · cases hk
        exact absurd rfl hv
      · cases hk
section MACHI
/-! the instructions -/
def I_bot : aI := fun _ _ => False
def I_iload (i len : Nat) : aI := fun K x => match x with
  | (pc, L, st, σ) => match L[i]? with
    | some (.int v) => K (pc + len, L, .int v :: st, σ)
    | _ => False
def I_aload (i len : Nat) : aI := fun K x => match x with
  | (pc, L, st, σ) => match L[i]? with
    | some (.ref v) => K (pc + len, L, .ref v :: st, σ)
    | _ => False
def I_const (v : Int32) (len : Nat) : aI := fun K x => match x with
  | (pc, L, st, σ) => K (pc + len, L, .int v :: st, σ)
def I_istore (i len : Nat) : aI := fun K x => match x with
  | (pc, L, .int v :: st, σ) => match L[i]? with
    | some _ => K (pc + len, L.set i (.int v), st, σ)
    | none => False
  | _ => False
def I_iinc (i : Nat) (n : Int32) : aI := fun K x => match x with
  | (pc, L, st, σ) => match L[i]? with
    | some (.int v) => K (pc + 3, L.set i (.int (v + n)), st, σ)
    | _ => False
def I_bin (f : Int32 → Int32 → Int32) : aI := fun K x => match x with
  | (pc, L, .int b :: .int a :: st, σ) => K (pc + 1, L, .int (f a b) :: st, σ)
  | _ => False
def I_div (f : Int32 → Int32 → Int32) : aI := fun K x => match x with
  | (pc, L, .int b :: .int a :: st, σ) => ¬ b = 0 ∧ K (pc + 1, L, .int (f a b) :: st, σ)
  | _ => False
def I_dup : aI := fun K x => match x with
  | (pc, L, .int a :: st, σ) => K (pc + 1, L, .int a :: .int a :: st, σ)
  | (pc, L, .ref a :: st, σ) => K (pc + 1, L, .ref a :: .ref a :: st, σ)
  | _ => False
def I_dup2 : aI := fun K x => match x with
  | (pc, L, .int b :: .ref a :: st, σ) => K (pc + 1, L, .int b :: .ref a :: .int b :: .ref a :: st, σ)
  | _ => False
def I_if (c : Int32 → Prop) (tgt : Nat) : aI := fun K x => match x with
  | (pc, L, .int a :: st, σ) => (c a → K (tgt, L, st, σ)) ∧ (¬ c a → K (pc + 3, L, st, σ))
  | _ => False
def I_icmp (c : Int32 → Int32 → Prop) (tgt : Nat) : aI := fun K x => match x with
  | (pc, L, .int b :: .int a :: st, σ) => (c a b → K (tgt, L, st, σ)) ∧ (¬ c a b → K (pc + 3, L, st, σ))
  | _ => False
def I_goto (tgt : Nat) : aI := fun K x => match x with
  | (_, L, st, σ) => K (tgt, L, st, σ)
def I_getI (o j : Nat) : aI := fun K x => match x with
  | (pc, L, .ref a :: st, σ) => bif Nat.beq a o then K (pc + 3, L, .int (σ o j) :: st, σ) else False
  | _ => False
def I_getR (o k : Nat) : aI := fun K x => match x with
  | (pc, L, .ref a :: st, σ) => bif Nat.beq a o then K (pc + 3, L, .ref k :: st, σ) else False
  | _ => False
def I_putI (o j : Nat) : aI := fun K x => match x with
  | (pc, L, .int v :: .ref a :: st, σ) => bif Nat.beq a o then K (pc + 3, L, st, mput σ o j v) else False
  | _ => False
def I_iald : aI := fun K x => match x with
  | (pc, L, .int i :: .ref a :: st, σ) => kd a = 1 ∧ inb i (ln a) = true ∧ K (pc + 1, L, .int (σ a (ix i)) :: st, σ)
  | _ => False
def I_zald : aI := fun K x => match x with
  | (pc, L, .int i :: .ref a :: st, σ) => kd a = 2 ∧ inb i (ln a) = true ∧ K (pc + 1, L, .int (σ a (ix i)) :: st, σ)
  | _ => False
def I_iast : aI := fun K x => match x with
  | (pc, L, .int v :: .int i :: .ref a :: st, σ) => kd a = 1 ∧ inb i (ln a) = true ∧ K (pc + 1, L, st, mput σ a (ix i) v)
  | _ => False
def I_zast : aI := fun K x => match x with
  | (pc, L, .int v :: .int i :: .ref a :: st, σ) => kd a = 2 ∧ inb i (ln a) = true ∧ (v = 0 ∨ v = 1) ∧ K (pc + 1, L, st, mput σ a (ix i) v)
  | _ => False
def I_aald : aI := fun K x => match x with
  | (pc, L, .int i :: .ref a :: st, σ) => kd a = 3 ∧ inb i (ln a) = true ∧ K (pc + 1, L, .ref (rb a + ix i) :: st, σ)
  | _ => False
def I_iret (Qa : Int32 → aM → Prop) : aI := fun _ x => match x with
  | (_, _, [.int v], σ) => Qa v σ
  | _ => False
def I_zret (Qa : Int32 → aM → Prop) : aI := fun _ x => match x with
  | (_, _, [.int v], σ) => (v = 0 ∨ v = 1) ∧ Qa v σ
  | _ => False
def I_vret (Qa : Int32 → aM → Prop) : aI := fun _ x => match x with
  | (_, _, [], σ) => Qa 0 σ
  | _ => False
abbrev aF : Type := List Value → aM → Option (Int32 × aM)
def catS (st : List Value) : Bool := Nat.ble (st.map fun v => v.category).sum 8
/-- a call on the object o with n arguments -/
def I_callV (o n : Nat) (F : aF) : aI := fun K x => match x with
  | (pc, L, st, σ) => match st.drop n with
    | .ref a :: rest => bif Nat.beq a o && catS rest then (∃ r σ', F (st.take n).reverse σ = some (r, σ') ∧ K (pc + 3, L, .int r :: rest, σ')) else False
    | _ => False
def I_callVv (o n : Nat) (F : aF) : aI := fun K x => match x with
  | (pc, L, st, σ) => match st.drop n with
    | .ref a :: rest => bif Nat.beq a o && catS rest then (∃ r σ', F (st.take n).reverse σ = some (r, σ') ∧ K (pc + 3, L, rest, σ')) else False
    | _ => False
def I_callS (n : Nat) (F : aF) : aI := fun K x => match x with
  | (pc, L, st, σ) => bif Nat.ble n st.length && catS (st.drop n) then (∃ r σ', F (st.take n).reverse σ = some (r, σ') ∧ K (pc + 3, L, .int r :: st.drop n, σ')) else False
def I_callSv (n : Nat) (F : aF) : aI := fun K x => match x with
  | (pc, L, st, σ) => bif Nat.ble n st.length && catS (st.drop n) then (∃ r σ', F (st.take n).reverse σ = some (r, σ') ∧ K (pc + 3, L, st.drop n, σ')) else False
/-- k instructions on -/
def wp (T : List aI) : Nat → (aS → Prop) → aS → Prop
  | 0, K, x => K x
  | n + 1, K, x => T.getD x.1 I_bot (wp T n K) x
def mono (i : aI) : Prop := ∀ (K K' : aS → Prop) (x : aS), (∀ y, K y → K' y) → i K x → i K' x
theorem mono_bot : mono I_bot := fun _ _ _ _ h => h
theorem mono_iload (i len : Nat) : mono (I_iload i len) := by
  intro K K' x hK h
  obtain ⟨pc, L, st, σ⟩ := x
  revert h
  simp only [I_iload]
  split <;> intro h
  · exact hK _ h
  · exact h
theorem mono_aload (i len : Nat) : mono (I_aload i len) := by
  intro K K' x hK h
  obtain ⟨pc, L, st, σ⟩ := x
  revert h
  simp only [I_aload]
  split <;> intro h
  · exact hK _ h
  · exact h
theorem mono_const (v : Int32) (len : Nat) : mono (I_const v len) := by
  intro K K' x hK h
  obtain ⟨pc, L, st, σ⟩ := x
  exact hK _ h
theorem mono_goto (t : Nat) : mono (I_goto t) := by
  intro K K' x hK h
  obtain ⟨pc, L, st, σ⟩ := x
  exact hK _ h
theorem mono_istore (i len : Nat) : mono (I_istore i len) := by
  intro K K' x hK h
  revert h
  unfold I_istore
  split
  · split <;> intro h
    · exact hK _ h
    · exact h
  · exact id
theorem mono_iinc (i : Nat) (n : Int32) : mono (I_iinc i n) := by
  intro K K' x hK h
  obtain ⟨pc, L, st, σ⟩ := x
  revert h
  simp only [I_iinc]
  split <;> intro h
  · exact hK _ h
  · exact h
theorem mono_bin (f : Int32 → Int32 → Int32) : mono (I_bin f) := by
  intro K K' x hK h
  revert h
  unfold I_bin
  split
  · exact hK _
  · exact id
theorem mono_div (f : Int32 → Int32 → Int32) : mono (I_div f) := by
  intro K K' x hK h
  revert h
  unfold I_div
  split
  · exact fun h => ⟨h.1, hK _ h.2⟩
  · exact id
theorem mono_dup : mono I_dup := by
  intro K K' x hK h
  revert h
  unfold I_dup
  split
  · exact hK _
  · exact hK _
  · exact id
theorem mono_dup2 : mono I_dup2 := by
  intro K K' x hK h
  revert h
  unfold I_dup2
  split
  · exact hK _
  · exact id
theorem mono_if (c : Int32 → Prop) (t : Nat) : mono (I_if c t) := by
  intro K K' x hK h
  revert h
  unfold I_if
  split
  · exact fun h => ⟨fun q => hK _ (h.1 q), fun q => hK _ (h.2 q)⟩
  · exact id
theorem mono_icmp (c : Int32 → Int32 → Prop) (t : Nat) : mono (I_icmp c t) := by
  intro K K' x hK h
  revert h
  unfold I_icmp
  split
  · exact fun h => ⟨fun q => hK _ (h.1 q), fun q => hK _ (h.2 q)⟩
  · exact id
theorem mono_bif {b : Bool} {P P' : Prop} (h : P → P') : (bif b then P else False) → (bif b then P' else False) := by
  cases b
  · exact id
  · exact h
theorem mono_getI (o j : Nat) : mono (I_getI o j) := by
  intro K K' x hK h
  revert h
  unfold I_getI
  split
  · exact mono_bif (hK _)
  · exact id
theorem mono_getR (o k : Nat) : mono (I_getR o k) := by
  intro K K' x hK h
  revert h
  unfold I_getR
  split
  · exact mono_bif (hK _)
  · exact id
theorem mono_putI (o j : Nat) : mono (I_putI o j) := by
  intro K K' x hK h
  revert h
  unfold I_putI
  split
  · exact mono_bif (hK _)
  · exact id
theorem mono_iald : mono I_iald := by
  intro K K' x hK h
  revert h
  unfold I_iald
  split
  · exact fun h => ⟨h.1, h.2.1, hK _ h.2.2⟩
  · exact id
theorem mono_zald : mono I_zald := by
  intro K K' x hK h
  revert h
  unfold I_zald
  split
  · exact fun h => ⟨h.1, h.2.1, hK _ h.2.2⟩
  · exact id
theorem mono_aald : mono I_aald := by
  intro K K' x hK h
  revert h
  unfold I_aald
  split
  · exact fun h => ⟨h.1, h.2.1, hK _ h.2.2⟩
  · exact id
theorem mono_iast : mono I_iast := by
  intro K K' x hK h
  revert h
  unfold I_iast
  split
  · exact fun h => ⟨h.1, h.2.1, hK _ h.2.2⟩
  · exact id
theorem mono_zast : mono I_zast := by
  intro K K' x hK h
  revert h
  unfold I_zast
  split
  · exact fun h => ⟨h.1, h.2.1, h.2.2.1, hK _ h.2.2.2⟩
  · exact id
theorem mono_iret (Qa : Int32 → aM → Prop) : mono (I_iret Qa) := fun _ _ _ _ h => h
theorem mono_zret (Qa : Int32 → aM → Prop) : mono (I_zret Qa) := fun _ _ _ _ h => h
theorem mono_vret (Qa : Int32 → aM → Prop) : mono (I_vret Qa) := fun _ _ _ _ h => h
theorem mono_callV (o n : Nat) (F : aF) : mono (I_callV o n F) := by
  intro K K' x hK h
  obtain ⟨pc, L, st, σ⟩ := x
  revert h
  simp only [I_callV]
  split
  · exact mono_bif fun ⟨r, σ', h1, h2⟩ => ⟨r, σ', h1, hK _ h2⟩
  · exact id
theorem mono_callVv (o n : Nat) (F : aF) : mono (I_callVv o n F) := by
  intro K K' x hK h
  obtain ⟨pc, L, st, σ⟩ := x
  revert h
  simp only [I_callVv]
  split
  · exact mono_bif fun ⟨r, σ', h1, h2⟩ => ⟨r, σ', h1, hK _ h2⟩
  · exact id
theorem mono_callS (n : Nat) (F : aF) : mono (I_callS n F) := by
  intro K K' x hK h
  obtain ⟨pc, L, st, σ⟩ := x
  exact mono_bif (fun ⟨r, σ', h1, h2⟩ => ⟨r, σ', h1, hK _ h2⟩) h
theorem mono_callSv (n : Nat) (F : aF) : mono (I_callSv n F) := by
  intro K K' x hK h
  obtain ⟨pc, L, st, σ⟩ := x
  exact mono_bif (fun ⟨r, σ', h1, h2⟩ => ⟨r, σ', h1, hK _ h2⟩) h
end MACHI
