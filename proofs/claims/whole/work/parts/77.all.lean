/-! the 35 agreements together -/
theorem σ0_z {a : Nat} (h : ¬ a = 9) (h2 : ¬ a = 32) : σ0 a = fun _ => 0 := by
  unfold σ0
  have e1 : Nat.beq a 9 = false := by
    cases e : Nat.beq a 9 with
    | false => rfl
    | true => exact absurd (Nat.eq_of_beq_eq_true e) h
  have e2 : Nat.beq a 32 = false := by
    cases e : Nat.beq a 32 with
    | false => rfl
    | true => exact absurd (Nat.eq_of_beq_eq_true e) h2
  rw [e1, e2]
  rfl
theorem CP_0 : CP σ0 := by
  have z : ∀ a i, ¬ a = 9 → ¬ a = 32 → σ0 a i = 0 := fun a i h h2 => by rw [σ0_z h h2]
  have no : ∀ i : Nat, ¬ i < 0 := fun i => Nat.not_lt_zero i
  refine ⟨0, 0, 0, 0, ⟨by decide, z 1 3 (by decide) (by decide), z 6 4 (by decide) (by decide), ?_, ?_, fun l h => absurd h (no l), fun l a hl ha => ?_⟩, ⟨rfl, ?_⟩, ⟨⟨by decide, z 3 4 (by decide) (by decide), fun c h => absurd h (no c), fun c h => absurd h (no c), fun c h => absurd h (no c)⟩, z 6 11 (by decide) (by decide), ?_, ?_, ?_, fun c h hc hh => ?_⟩, ⟨⟨fun p h => absurd h (no p), fun p r _ h => absurd h (no r), fun p h => absurd h (no p)⟩, fun c h => absurd h (no c), ⟨fun p h => absurd h (no p), fun p _ h => absurd h (no p)⟩, z 3 10 (by decide) (by decide), fun j h => absurd h (no j)⟩, ⟨by decide, z 4 8 (by decide) (by decide), z 6 19 (by decide) (by decide), ?_, ?_, ?_, ?_, ?_, ?_, ?_⟩, ⟨by decide, z 5 2 (by decide) (by decide), z 6 22 (by decide) (by decide), ?_, fun u l hu hl => ?_⟩⟩
  · rw [σ0_z (a := 29) (by decide) (by decide), σ0_z (a := 7) (by decide) (by decide)]
  · rw [σ0_z (a := 30) (by decide) (by decide), σ0_z (a := 8) (by decide) (by decide)]
  · rw [z 31 _ (by decide) (by decide), z (58 + l) _ (by omega) (by omega)]
  · rw [σ0_z (a := 33) (by decide) (by decide), σ0_z (a := 10) (by decide) (by decide)]
  · rw [σ0_z (a := 34) (by decide) (by decide), σ0_z (a := 11) (by decide) (by decide)]
  · rw [σ0_z (a := 35) (by decide) (by decide), σ0_z (a := 12) (by decide) (by decide)]
  · rw [σ0_z (a := 36) (by decide) (by decide), σ0_z (a := 13) (by decide) (by decide)]
  · rw [z 37 _ (by decide) (by decide), z (88 + c) _ (by omega) (by omega)]
  · rw [σ0_z (a := 38) (by decide) (by decide), σ0_z (a := 18) (by decide) (by decide)]
  · rw [σ0_z (a := 39) (by decide) (by decide), σ0_z (a := 19) (by decide) (by decide)]
  · rw [σ0_z (a := 40) (by decide) (by decide), σ0_z (a := 22) (by decide) (by decide)]
  · rw [σ0_z (a := 41) (by decide) (by decide), σ0_z (a := 23) (by decide) (by decide)]
  · rw [σ0_z (a := 42) (by decide) (by decide), σ0_z (a := 20) (by decide) (by decide)]
  · rw [σ0_z (a := 43) (by decide) (by decide), σ0_z (a := 21) (by decide) (by decide)]
  · rw [σ0_z (a := 44) (by decide) (by decide), σ0_z (a := 24) (by decide) (by decide)]
  · rw [σ0_z (a := 45) (by decide) (by decide), σ0_z (a := 26) (by decide) (by decide)]
  · rw [z 46 _ (by decide) (by decide), z (158 + u) _ (by omega) (by omega)]
theorem AG_CP : AG CP :=
  ⟨fun p0 => agW_of (fun _ => rfl) (k_addLine p0), fun p0 p1 p2 => agW_of (fun _ => rfl) (k_need p0 p1 p2), fun p0 p1 h => agW_of (fun _ => rfl) (k_cut p0 p1 h), g_lines, fun p0 => agW_of (fun _ => rfl) (k_startOf p0), g_length, fun p0 p1 p2 => agW_of (fun _ => rfl) (k_setChannel p0 p1 p2), fun p0 p1 p2 => agW_of (fun _ => rfl) (k_addCue p0 p1 p2), fun p0 p1 p2 p3 => agW_of (fun _ => rfl) (k_move p0 p1 p2 p3), fun p0 p1 p2 => agW_of (fun _ => rfl) (k_change p0 p1 p2), g_cues, fun p0 => agW_of (fun _ => rfl) (k_cueAt p0), fun p0 => agW_of (fun _ => rfl) (k_timeOf p0), fun p0 => agW_of (fun _ => rfl) (k_foldedInto p0), fun p0 p1 => agW_of (fun _ => rfl) (k_changes p0 p1), fun p0 p1 => agW_of (fun _ => rfl) (k_levelAt p0 p1), fun p0 p1 => agW_of (fun _ => rfl) (k_levelBySeconds p0 p1), fun p0 p1 p2 p3 => agW_of (fun _ => rfl) (k_addLamp p0 p1 p2 p3), fun p0 p1 p2 => agW_of (fun _ => rfl) (k_borrow p0 p1 p2), fun p0 => agW_of (fun _ => rfl) (k_bringBack p0), fun p0 => agW_of (fun _ => rfl) (k_replace p0), g_lamps, fun p0 => agW_of (fun _ => rfl) (k_whereIs p0), fun p0 => agW_of (fun _ => rfl) (k_wear p0), fun p0 p1 => agW_of (fun _ => rfl) (k_laidOn p0 p1), fun p0 p1 => agW_of (fun _ => rfl) (k_lampLevel p0 p1), fun p0 p1 p2 => agW_of (fun _ => rfl) (k_light p0 p1 p2), fun p0 p1 => agW_of (fun _ => rfl) (k_shortOf p0 p1), g_bestStage, fun p0 p1 => agW_of (fun _ => rfl) (k_bestToBorrow p0 p1), fun p0 => agW_of (fun _ => rfl) (k_perform p0), g_logs, fun p0 => agW_of (fun _ => rfl) (k_stageOf p0), fun p0 p1 => agW_of (fun _ => rfl) (k_wasShortOf p0 p1), fun p0 => agW_of (fun _ => rfl) (k_timesShort p0)⟩
theorem all_ag : ∃ CP : aM → Prop, AG CP ∧ CP σ0 := ⟨CP, AG_CP, CP_0⟩
