def T_law9 (KN : Nat → aS → Prop) (N : Nat) (xs : Nat → Int32) : List aI := [I_aload 1 1, I_aload 0 1, I_iload 4 2, I_bot, I_const 1 1, I_bin fun x y => x + y, I_sld N xs, I_aload 0 1, I_iload 4 2, I_bot, I_const 2 1, I_bin fun x y => x + y, I_sld N xs, I_aload 0 1, I_iload 4 2, I_bot, I_const 3 1, I_bin fun x y => x + y, I_sld N xs, I_aload 3 1, I_callW 5 F_L_change (KN 8), I_bot, I_bot, I_istore 5 2, I_bot, I_aload 2 1, I_aload 0 1, I_iload 4 2, I_bot, I_const 1 1, I_bin fun x y => x + y, I_sld N xs, I_aload 0 1, I_iload 4 2, I_bot, I_const 2 1, I_bin fun x y => x + y, I_sld N xs, I_aload 0 1, I_iload 4 2, I_bot, I_const 3 1, I_bin fun x y => x + y, I_sld N xs, I_callV 6 3 F_X6_change, I_bot, I_bot, I_istore 6 2, I_bot, I_aload 2 1, I_callV 6 0 F_X6_thrown, I_bot, I_bot, I_iload 5 2, I_bot, I_icmp (fun x y => x = y) 806, I_bot, I_bot, I_const 0 1, I_lret, I_iload 5 2, I_bot, I_if (fun x => ¬ x = 0) 823, I_bot, I_bot, I_aload 3 1, I_const 0 1, I_lald, I_iload 6 2, I_bot, I_i2l, I_lcmp, I_if (fun x => x = 0) 823, I_bot, I_bot, I_const 0 1, I_lret, I_goto 2234, I_bot, I_bot]
set_option maxHeartbeats 8000000 in
set_option maxRecDepth 100000 in
theorem r_law9 {p : Program} {l : Launch} {e : Env} {s : State} {m : MethodId} {below : List Frame} {meth : Method} {c : Code} {D : va_G} {cI cZ cA cL : ClassId} {ad sa : Nat → Nat} {b N : Nat} {xs : Nat → Int32} (Z : LCX p l e s m meth c b N xs D cI cZ cA cL ad sa) (cells slots : Nat) (hcell : cells + 20 ≤ 601024) (hslot : slots + 120 ≤ 7293034) :
    ruL (Ru p l e room_1 s m #[Value.ref b] below meth c cells slots (lw_Z below #[Value.ref b] s) 7 D cI cZ cA cL ad (AA ad s.heap.size) s.heap) 746 (T_law9 (fun d => WS p l e room_1 s m #[Value.ref b] below meth c (cells + d) (slots + 6 * d) (lw_Z below #[Value.ref b] s) 7 D cI cZ cA cL ad (AA ad s.heap.size) s.heap) N xs) := by
  obtain ⟨hx, hb, hml, hown, hts, hr, hlocks, hK, hN, hX, hC, hXs, hbl, hbA, had, hi, hlt, hA9⟩ := Z
  refine ruL_c (n := 746) (n2 := 747) rfl (ru_aload_n (k := 1) hx hb dL_law_746) ?_
  refine ruL_c (n := 747) (n2 := 748) rfl (ru_aload_n (k := 0) hx hb dL_law_747) ?_
  refine ruL_c (n := 748) (n2 := 749) rfl (ru_iload hx hb dL_law_748) ?_
  refine ruL_c (n := 749) (n2 := 750) rfl (ru_bot) ?_
  refine ruL_c (n := 750) (n2 := 751) rfl (ru_iconst hx hb dL_law_750 rfl) ?_
  refine ruL_c (n := 751) (n2 := 752) rfl (ru_iadd hx hb dL_law_751) ?_
  refine ruL_c (n := 752) (n2 := 753) rfl (ru_sld hx hb hXs hbl hbA had dL_law_752) ?_
  refine ruL_c (n := 753) (n2 := 754) rfl (ru_aload_n (k := 0) hx hb dL_law_753) ?_
  refine ruL_c (n := 754) (n2 := 755) rfl (ru_iload hx hb dL_law_754) ?_
  refine ruL_c (n := 755) (n2 := 756) rfl (ru_bot) ?_
  refine ruL_c (n := 756) (n2 := 757) rfl (ru_iconst hx hb dL_law_756 rfl) ?_
  refine ruL_c (n := 757) (n2 := 758) rfl (ru_iadd hx hb dL_law_757) ?_
  refine ruL_c (n := 758) (n2 := 759) rfl (ru_sld hx hb hXs hbl hbA had dL_law_758) ?_
  refine ruL_c (n := 759) (n2 := 760) rfl (ru_aload_n (k := 0) hx hb dL_law_759) ?_
  refine ruL_c (n := 760) (n2 := 761) rfl (ru_iload hx hb dL_law_760) ?_
  refine ruL_c (n := 761) (n2 := 762) rfl (ru_bot) ?_
  refine ruL_c (n := 762) (n2 := 763) rfl (ru_iconst hx hb dL_law_762 rfl) ?_
  refine ruL_c (n := 763) (n2 := 764) rfl (ru_iadd hx hb dL_law_763) ?_
  refine ruL_c (n := 764) (n2 := 765) rfl (ru_sld hx hb hXs hbl hbA had dL_law_764) ?_
  refine ruL_c (n := 765) (n2 := 766) rfl (ru_aload_n (k := 3) hx hb dL_law_765) ?_
  refine ruL_c (n := 766) (n2 := 767) rfl (ru_callW (own := RL) hx hb hml hown hts hK hN hX hC (c_L_change l hlt D cI cZ cA cL ad sa hi) (vx_cwSW 5 hts gL_law_L_change rfl rfl rfl (by decide +kernel) ⟨Nat.le_of_ble_eq_true rfl, Nat.le_of_ble_eq_true rfl⟩) dL_law_766 ⟨Nat.le_trans (Nat.add_le_add_left (by decide) _) hcell, Nat.le_trans (Nat.add_le_add_left (by decide) _) hslot⟩) ?_
  refine ruL_c (n := 767) (n2 := 768) rfl (ru_bot) ?_
  refine ruL_c (n := 768) (n2 := 769) rfl (ru_bot) ?_
  refine ruL_c (n := 769) (n2 := 770) rfl (ru_istore hx hb dL_law_769) ?_
  refine ruL_c (n := 770) (n2 := 771) rfl (ru_bot) ?_
  refine ruL_c (n := 771) (n2 := 772) rfl (ru_aload_n (k := 2) hx hb dL_law_771) ?_
  refine ruL_c (n := 772) (n2 := 773) rfl (ru_aload_n (k := 0) hx hb dL_law_772) ?_
  refine ruL_c (n := 773) (n2 := 774) rfl (ru_iload hx hb dL_law_773) ?_
  refine ruL_c (n := 774) (n2 := 775) rfl (ru_bot) ?_
  refine ruL_c (n := 775) (n2 := 776) rfl (ru_iconst hx hb dL_law_775 rfl) ?_
  refine ruL_c (n := 776) (n2 := 777) rfl (ru_iadd hx hb dL_law_776) ?_
  refine ruL_c (n := 777) (n2 := 778) rfl (ru_sld hx hb hXs hbl hbA had dL_law_777) ?_
  refine ruL_c (n := 778) (n2 := 779) rfl (ru_aload_n (k := 0) hx hb dL_law_778) ?_
  refine ruL_c (n := 779) (n2 := 780) rfl (ru_iload hx hb dL_law_779) ?_
  refine ruL_c (n := 780) (n2 := 781) rfl (ru_bot) ?_
  refine ruL_c (n := 781) (n2 := 782) rfl (ru_iconst hx hb dL_law_781 rfl) ?_
  refine ruL_c (n := 782) (n2 := 783) rfl (ru_iadd hx hb dL_law_782) ?_
  refine ruL_c (n := 783) (n2 := 784) rfl (ru_sld hx hb hXs hbl hbA had dL_law_783) ?_
  refine ruL_c (n := 784) (n2 := 785) rfl (ru_aload_n (k := 0) hx hb dL_law_784) ?_
  refine ruL_c (n := 785) (n2 := 786) rfl (ru_iload hx hb dL_law_785) ?_
  refine ruL_c (n := 786) (n2 := 787) rfl (ru_bot) ?_
  refine ruL_c (n := 787) (n2 := 788) rfl (ru_iconst hx hb dL_law_787 rfl) ?_
  refine ruL_c (n := 788) (n2 := 789) rfl (ru_iadd hx hb dL_law_788) ?_
  refine ruL_c (n := 789) (n2 := 790) rfl (ru_sld hx hb hXs hbl hbA had dL_law_789) ?_
  refine ruL_c (n := 790) (n2 := 791) rfl (ru_callV (own := RL) hx hb hml hown hts hK hN (by decide) rfl (c_X6_change l D cI cZ cA cL ad hi) (cwV 3 hts gL_law_X6_change rfl rfl rfl (by decide +kernel) ⟨Nat.le_of_ble_eq_true rfl, Nat.le_of_ble_eq_true rfl⟩) dL_law_790 ⟨Nat.le_trans (Nat.le_add_right _ 20) hcell, Nat.le_trans (Nat.le_add_right _ 120) hslot⟩) ?_
  refine ruL_c (n := 791) (n2 := 792) rfl (ru_bot) ?_
  refine ruL_c (n := 792) (n2 := 793) rfl (ru_bot) ?_
  refine ruL_c (n := 793) (n2 := 794) rfl (ru_istore hx hb dL_law_793) ?_
  refine ruL_c (n := 794) (n2 := 795) rfl (ru_bot) ?_
  refine ruL_c (n := 795) (n2 := 796) rfl (ru_aload_n (k := 2) hx hb dL_law_795) ?_
  refine ruL_c (n := 796) (n2 := 797) rfl (ru_callV (own := RL) hx hb hml hown hts hK hN (by decide) rfl (c_X6_thrown l D cI cZ cA cL ad hi) (cwV 0 hts gL_law_X6_thrown rfl rfl rfl (by decide +kernel) ⟨Nat.le_of_ble_eq_true rfl, Nat.le_of_ble_eq_true rfl⟩) dL_law_796 ⟨Nat.le_trans (Nat.le_add_right _ 20) hcell, Nat.le_trans (Nat.le_add_right _ 120) hslot⟩) ?_
  refine ruL_c (n := 797) (n2 := 798) rfl (ru_bot) ?_
  refine ruL_c (n := 798) (n2 := 799) rfl (ru_bot) ?_
  refine ruL_c (n := 799) (n2 := 800) rfl (ru_iload hx hb dL_law_799) ?_
  refine ruL_c (n := 800) (n2 := 801) rfl (ru_bot) ?_
  refine ruL_c (n := 801) (n2 := 802) rfl (ru_icmpeq hx hb dL_law_801 (by decide)) ?_
  refine ruL_c (n := 802) (n2 := 803) rfl (ru_bot) ?_
  refine ruL_c (n := 803) (n2 := 804) rfl (ru_bot) ?_
  refine ruL_c (n := 804) (n2 := 805) rfl (ru_iconst hx hb dL_law_804 rfl) ?_
  refine ruL_c (n := 805) (n2 := 806) rfl (ru_lret hx hb hr hlocks hA9 dL_law_805 hcell hslot) ?_
  refine ruL_c (n := 806) (n2 := 807) rfl (ru_iload hx hb dL_law_806) ?_
  refine ruL_c (n := 807) (n2 := 808) rfl (ru_bot) ?_
  refine ruL_c (n := 808) (n2 := 809) rfl (ru_ifne hx hb dL_law_808 (by decide)) ?_
  refine ruL_c (n := 809) (n2 := 810) rfl (ru_bot) ?_
  refine ruL_c (n := 810) (n2 := 811) rfl (ru_bot) ?_
  refine ruL_c (n := 811) (n2 := 812) rfl (ru_aload_n (k := 3) hx hb dL_law_811) ?_
  refine ruL_c (n := 812) (n2 := 813) rfl (ru_iconst hx hb dL_law_812 rfl) ?_
  refine ruL_c (n := 813) (n2 := 814) rfl (ru_lald hx hb hK dL_law_813) ?_
  refine ruL_c (n := 814) (n2 := 815) rfl (ru_iload hx hb dL_law_814) ?_
  refine ruL_c (n := 815) (n2 := 816) rfl (ru_bot) ?_
  refine ruL_c (n := 816) (n2 := 817) rfl (ru_i2l hx hb dL_law_816) ?_
  refine ruL_c (n := 817) (n2 := 818) rfl (ru_lcmp hx hb dL_law_817) ?_
  refine ruL_c (n := 818) (n2 := 819) rfl (ru_ifeq hx hb dL_law_818 (by decide)) ?_
  refine ruL_c (n := 819) (n2 := 820) rfl (ru_bot) ?_
  refine ruL_c (n := 820) (n2 := 821) rfl (ru_bot) ?_
  refine ruL_c (n := 821) (n2 := 822) rfl (ru_iconst hx hb dL_law_821 rfl) ?_
  refine ruL_c (n := 822) (n2 := 823) rfl (ru_lret hx hb hr hlocks hA9 dL_law_822 hcell hslot) ?_
  refine ruL_c (n := 823) (n2 := 824) rfl (ru_goto hx hb dL_law_823 (by decide)) ?_
  refine ruL_c (n := 824) (n2 := 825) rfl (ru_bot) ?_
  refine ruL_c (n := 825) (n2 := 826) rfl (ru_bot) ?_
  exact trivial
set_option maxHeartbeats 8000000 in
set_option maxRecDepth 100000 in
theorem k_law9 {CP : aM → Prop} {N : Nat} {xs : Nat → Int32} {K : Nat → aS → Prop} (hw : ∀ c, c ≤ 8000 → ∀ n x, wpB 746 (T_law9 (fun d => K (c + d)) N xs) n (K c) x → K c x) (hf : ∀ c pc L i st σ, K c (pc, L.set i .null, st, σ) → K c (pc, L, st, σ)) (ag : ∀ p0 p1 p2 : Int32, agW CP (f_L_change p0 p1 p2) (f_X6_change p0 p1 p2)) (c i : Nat) (hc : c ≤ 7900) (g1 : inb (nI i + 1) N = true) (g2 : inb (nI i + 2) N = true) (g3 : inb (nI i + 3) N = true) (g4 : inb (nI i + 4) N = true) (σ : aM) (hCP : CP σ)
    (hback : ∀ c2 σ2, c2 ≤ c + 12 → CP σ2 → K c2 (2234, [.ref 200, .ref 0, .ref 6, .ref 178, .int (nI i), .null, .null], [], σ2)) : K c (746, [.ref 200, .ref 0, .ref 6, .ref 178, .int (nI i), .null, .null], [], σ) := by
  obtain ⟨k1, σ1, b1, σ2, e1, e2, e3, e4, hcp⟩ := ag (xs (ix (nI i + 1))) (xs (ix (nI i + 2))) (xs (ix (nI i + 3))) σ hCP
  refine hw c (by omega) 18 _ ?_
  show inb (nI i + 1) N = true ∧ (inb (nI i + 2) N = true ∧ (inb (nI i + 3) N = true ∧ (∃ k1 σ1, f_L_change (xs (ix (nI i + 1))) (xs (ix (nI i + 2))) (xs (ix (nI i + 3))) σ = some (k1, σ1) ∧ K (c + 8) (769, [.ref 200, .ref 0, .ref 6, .ref 178, .int (nI i), .null, .null], [.int k1], σ1))))
  refine ⟨g1, g2, g3, ⟨k1, σ1, e1, ?_⟩⟩
  refine hw (c + 8) (by omega) 18 _ ?_
  show inb (nI i + 1) N = true ∧ (inb (nI i + 2) N = true ∧ (inb (nI i + 3) N = true ∧ (∃ b1 σ2, f_X6_change (xs (ix (nI i + 1))) (xs (ix (nI i + 2))) (xs (ix (nI i + 3))) σ1 = some (b1, σ2) ∧ K (c + 8) (793, [.ref 200, .ref 0, .ref 6, .ref 178, .int (nI i), .int k1, .null], [.int b1], σ2))))
  refine ⟨g1, g2, g3, ⟨b1, σ2, e2, ?_⟩⟩
  refine hw (c + 8) (by omega) 3 _ ?_
  show ∃ r3 σ3, f_X6_thrown σ2 = some (r3, σ3) ∧ K (c + 8) (799, [.ref 200, .ref 0, .ref 6, .ref 178, .int (nI i), .int k1, .int b1], [.int r3], σ3)
  refine ⟨σ2 6 0, σ2, rfl, ?_⟩
  refine hw (c + 8) (by omega) 2 _ ?_
  show (((σ2 6 0) = k1) → K (c + 8) (806, [.ref 200, .ref 0, .ref 6, .ref 178, .int (nI i), .int k1, .int b1], [], σ2)) ∧ (¬ ((σ2 6 0) = k1) → K (c + 8) (804, [.ref 200, .ref 0, .ref 6, .ref 178, .int (nI i), .int k1, .int b1], [], σ2))
  refine ⟨fun _ => ?_, fun q => absurd e3 q⟩
  by_cases hk : k1 = 0
  · have hz : σ2 178 (ix 0) = b1 := e4 hk
    refine hw (c + 8) (by omega) 2 _ ?_
    show ((¬ k1 = 0) → K (c + 8) (823, [.ref 200, .ref 0, .ref 6, .ref 178, .int (nI i), .int k1, .int b1], [], σ2)) ∧ (¬ (¬ k1 = 0) → K (c + 8) (811, [.ref 200, .ref 0, .ref 6, .ref 178, .int (nI i), .int k1, .int b1], [], σ2))
    refine ⟨fun q => absurd hk q, fun _ => ?_⟩
    refine hw (c + 8) (by omega) 7 _ ?_
    show kd 178 = 4 ∧ (inb 0 1 = true ∧ ((((lg_cmp (σ2 178 (ix 0)).toInt64 b1.toInt64) = 0) → K (c + 8) (823, [.ref 200, .ref 0, .ref 6, .ref 178, .int (nI i), .int k1, .int b1], [], σ2)) ∧ (¬ ((lg_cmp (σ2 178 (ix 0)).toInt64 b1.toInt64) = 0) → K (c + 8) (821, [.ref 200, .ref 0, .ref 6, .ref 178, .int (nI i), .int k1, .int b1], [], σ2))))
    refine ⟨rfl, by decide, ⟨fun _ => ?_, fun q => absurd (by rw [hz]; exact lcmp_eq _) q⟩⟩
    refine hw (c + 8) (by omega) 1 _ ?_
    show K (c + 8) (2234, [.ref 200, .ref 0, .ref 6, .ref 178, .int (nI i), .int k1, .int b1], [], σ2)
    refine hf _ _ _ 5 _ _ ?_
    show K (c + 8) (2234, [.ref 200, .ref 0, .ref 6, .ref 178, .int (nI i), .null, .int b1], [], σ2)
    refine hf _ _ _ 6 _ _ ?_
    show K (c + 8) (2234, [.ref 200, .ref 0, .ref 6, .ref 178, .int (nI i), .null, .null], [], σ2)
    exact hback _ _ (by omega) hcp
  · refine hw (c + 8) (by omega) 2 _ ?_
    show ((¬ k1 = 0) → K (c + 8) (823, [.ref 200, .ref 0, .ref 6, .ref 178, .int (nI i), .int k1, .int b1], [], σ2)) ∧ (¬ (¬ k1 = 0) → K (c + 8) (811, [.ref 200, .ref 0, .ref 6, .ref 178, .int (nI i), .int k1, .int b1], [], σ2))
    refine ⟨fun _ => ?_, fun q => absurd hk q⟩
    refine hw (c + 8) (by omega) 1 _ ?_
    show K (c + 8) (2234, [.ref 200, .ref 0, .ref 6, .ref 178, .int (nI i), .int k1, .int b1], [], σ2)
    refine hf _ _ _ 5 _ _ ?_
    show K (c + 8) (2234, [.ref 200, .ref 0, .ref 6, .ref 178, .int (nI i), .null, .int b1], [], σ2)
    refine hf _ _ _ 6 _ _ ?_
    show K (c + 8) (2234, [.ref 200, .ref 0, .ref 6, .ref 178, .int (nI i), .null, .null], [], σ2)
    exact hback _ _ (by omega) hcp
def T_law10 (KN : Nat → aS → Prop) (N : Nat) (xs : Nat → Int32) : List aI := [I_aload 1 1, I_callV 0 0 F_X5_cues, I_bot, I_bot, I_aload 2 1, I_callV 6 0 F_X6_cues, I_bot, I_bot, I_icmp (fun x y => x = y) 2234, I_bot, I_bot, I_const 0 1, I_lret]
set_option maxHeartbeats 8000000 in
set_option maxRecDepth 100000 in
theorem r_law10 {p : Program} {l : Launch} {e : Env} {s : State} {m : MethodId} {below : List Frame} {meth : Method} {c : Code} {D : va_G} {cI cZ cA cL : ClassId} {ad sa : Nat → Nat} {b N : Nat} {xs : Nat → Int32} (Z : LCX p l e s m meth c b N xs D cI cZ cA cL ad sa) (cells slots : Nat) (hcell : cells + 20 ≤ 601024) (hslot : slots + 120 ≤ 7293034) :
    ruL (Ru p l e room_1 s m #[Value.ref b] below meth c cells slots (lw_Z below #[Value.ref b] s) 7 D cI cZ cA cL ad (AA ad s.heap.size) s.heap) 826 (T_law10 (fun d => WS p l e room_1 s m #[Value.ref b] below meth c (cells + d) (slots + 6 * d) (lw_Z below #[Value.ref b] s) 7 D cI cZ cA cL ad (AA ad s.heap.size) s.heap) N xs) := by
  obtain ⟨hx, hb, hml, hown, hts, hr, hlocks, hK, hN, hX, hC, hXs, hbl, hbA, had, hi, hlt, hA9⟩ := Z
  refine ruL_c (n := 826) (n2 := 827) rfl (ru_aload_n (k := 1) hx hb dL_law_826) ?_
  refine ruL_c (n := 827) (n2 := 828) rfl (ru_callV (own := RL) hx hb hml hown hts hK hN (by decide) rfl (c_X5_cues l D cI cZ cA cL ad hi) (cwV 0 hts gL_law_X5_cues rfl rfl rfl (by decide +kernel) ⟨Nat.le_of_ble_eq_true rfl, Nat.le_of_ble_eq_true rfl⟩) dL_law_827 ⟨Nat.le_trans (Nat.le_add_right _ 20) hcell, Nat.le_trans (Nat.le_add_right _ 120) hslot⟩) ?_
  refine ruL_c (n := 828) (n2 := 829) rfl (ru_bot) ?_
  refine ruL_c (n := 829) (n2 := 830) rfl (ru_bot) ?_
  refine ruL_c (n := 830) (n2 := 831) rfl (ru_aload_n (k := 2) hx hb dL_law_830) ?_
  refine ruL_c (n := 831) (n2 := 832) rfl (ru_callV (own := RL) hx hb hml hown hts hK hN (by decide) rfl (c_X6_cues l D cI cZ cA cL ad hi) (cwV 0 hts gL_law_X6_cues rfl rfl rfl (by decide +kernel) ⟨Nat.le_of_ble_eq_true rfl, Nat.le_of_ble_eq_true rfl⟩) dL_law_831 ⟨Nat.le_trans (Nat.le_add_right _ 20) hcell, Nat.le_trans (Nat.le_add_right _ 120) hslot⟩) ?_
  refine ruL_c (n := 832) (n2 := 833) rfl (ru_bot) ?_
  refine ruL_c (n := 833) (n2 := 834) rfl (ru_bot) ?_
  refine ruL_c (n := 834) (n2 := 835) rfl (ru_icmpeq hx hb dL_law_834 (by decide)) ?_
  refine ruL_c (n := 835) (n2 := 836) rfl (ru_bot) ?_
  refine ruL_c (n := 836) (n2 := 837) rfl (ru_bot) ?_
  refine ruL_c (n := 837) (n2 := 838) rfl (ru_iconst hx hb dL_law_837 rfl) ?_
  refine ruL_c (n := 838) (n2 := 839) rfl (ru_lret hx hb hr hlocks hA9 dL_law_838 hcell hslot) ?_
  exact trivial
set_option maxHeartbeats 8000000 in
set_option maxRecDepth 100000 in
theorem k_law10 {CP : aM → Prop} {N : Nat} {xs : Nat → Int32} {K : Nat → aS → Prop} (hw : ∀ c, c ≤ 8000 → ∀ n x, wpB 826 (T_law10 (fun d => K (c + d)) N xs) n (K c) x → K c x) (hf : ∀ c pc L i st σ, K c (pc, L.set i .null, st, σ) → K c (pc, L, st, σ)) (ag : agD CP f_X5_cues f_X6_cues) (c i : Nat) (hc : c ≤ 7900) (g1 : inb (nI i + 1) N = true) (g2 : inb (nI i + 2) N = true) (g3 : inb (nI i + 3) N = true) (g4 : inb (nI i + 4) N = true) (σ : aM) (hCP : CP σ)
    (hback : ∀ c2 σ2, c2 ≤ c + 12 → CP σ2 → K c2 (2234, [.ref 200, .ref 0, .ref 6, .ref 178, .int (nI i), .null, .null], [], σ2)) : K c (826, [.ref 200, .ref 0, .ref 6, .ref 178, .int (nI i), .null, .null], [], σ) := by
  obtain ⟨k1, σ1, σ2, e1, e2, hcp⟩ := ag σ hCP
  refine hw c (by omega) 2 _ ?_
  show ∃ k1 σ1, f_X5_cues σ = some (k1, σ1) ∧ K c (830, [.ref 200, .ref 0, .ref 6, .ref 178, .int (nI i), .null, .null], [.int k1], σ1)
  refine ⟨k1, σ1, e1, ?_⟩
  refine hw c (by omega) 2 _ ?_
  show ∃ b1 σ2, f_X6_cues σ1 = some (b1, σ2) ∧ K c (834, [.ref 200, .ref 0, .ref 6, .ref 178, .int (nI i), .null, .null], [.int b1, .int k1], σ2)
  refine ⟨k1, σ2, e2, ?_⟩
  refine hw c (by omega) 1 _ ?_
  show ((k1 = k1) → K c (2234, [.ref 200, .ref 0, .ref 6, .ref 178, .int (nI i), .null, .null], [], σ2)) ∧ (¬ (k1 = k1) → K c (837, [.ref 200, .ref 0, .ref 6, .ref 178, .int (nI i), .null, .null], [], σ2))
  refine ⟨fun _ => ?_, fun q => absurd rfl q⟩
  exact hback _ _ (by omega) hcp
def T_law11 (KN : Nat → aS → Prop) (N : Nat) (xs : Nat → Int32) : List aI := [I_aload 1 1, I_aload 0 1, I_iload 4 2, I_bot, I_const 1 1, I_bin fun x y => x + y, I_sld N xs, I_aload 3 1, I_callW 3 F_L_cueAt (KN 4), I_bot, I_bot, I_istore 5 2, I_bot, I_aload 2 1, I_aload 0 1, I_iload 4 2, I_bot, I_const 1 1, I_bin fun x y => x + y, I_sld N xs, I_callV 6 1 F_X6_cueAt, I_bot, I_bot, I_istore 6 2, I_bot, I_aload 2 1, I_callV 6 0 F_X6_thrown, I_bot, I_bot, I_iload 5 2, I_bot, I_icmp (fun x y => x = y) 875, I_bot, I_bot, I_const 0 1, I_lret, I_iload 5 2, I_bot, I_if (fun x => ¬ x = 0) 892, I_bot, I_bot, I_aload 3 1, I_const 0 1, I_lald, I_iload 6 2, I_bot, I_i2l, I_lcmp, I_if (fun x => x = 0) 892, I_bot, I_bot, I_const 0 1, I_lret, I_goto 2234, I_bot, I_bot]
set_option maxHeartbeats 8000000 in
set_option maxRecDepth 100000 in
theorem r_law11 {p : Program} {l : Launch} {e : Env} {s : State} {m : MethodId} {below : List Frame} {meth : Method} {c : Code} {D : va_G} {cI cZ cA cL : ClassId} {ad sa : Nat → Nat} {b N : Nat} {xs : Nat → Int32} (Z : LCX p l e s m meth c b N xs D cI cZ cA cL ad sa) (cells slots : Nat) (hcell : cells + 20 ≤ 601024) (hslot : slots + 120 ≤ 7293034) :
    ruL (Ru p l e room_1 s m #[Value.ref b] below meth c cells slots (lw_Z below #[Value.ref b] s) 7 D cI cZ cA cL ad (AA ad s.heap.size) s.heap) 839 (T_law11 (fun d => WS p l e room_1 s m #[Value.ref b] below meth c (cells + d) (slots + 6 * d) (lw_Z below #[Value.ref b] s) 7 D cI cZ cA cL ad (AA ad s.heap.size) s.heap) N xs) := by
  obtain ⟨hx, hb, hml, hown, hts, hr, hlocks, hK, hN, hX, hC, hXs, hbl, hbA, had, hi, hlt, hA9⟩ := Z
  refine ruL_c (n := 839) (n2 := 840) rfl (ru_aload_n (k := 1) hx hb dL_law_839) ?_
  refine ruL_c (n := 840) (n2 := 841) rfl (ru_aload_n (k := 0) hx hb dL_law_840) ?_
  refine ruL_c (n := 841) (n2 := 842) rfl (ru_iload hx hb dL_law_841) ?_
  refine ruL_c (n := 842) (n2 := 843) rfl (ru_bot) ?_
  refine ruL_c (n := 843) (n2 := 844) rfl (ru_iconst hx hb dL_law_843 rfl) ?_
  refine ruL_c (n := 844) (n2 := 845) rfl (ru_iadd hx hb dL_law_844) ?_
  refine ruL_c (n := 845) (n2 := 846) rfl (ru_sld hx hb hXs hbl hbA had dL_law_845) ?_
  refine ruL_c (n := 846) (n2 := 847) rfl (ru_aload_n (k := 3) hx hb dL_law_846) ?_
  refine ruL_c (n := 847) (n2 := 848) rfl (ru_callW (own := RL) hx hb hml hown hts hK hN hX hC (c_L_cueAt l hlt D cI cZ cA cL ad sa hi) (vx_cwSW 3 hts gL_law_L_cueAt rfl rfl rfl (by decide +kernel) ⟨Nat.le_of_ble_eq_true rfl, Nat.le_of_ble_eq_true rfl⟩) dL_law_847 ⟨Nat.le_trans (Nat.add_le_add_left (by decide) _) hcell, Nat.le_trans (Nat.add_le_add_left (by decide) _) hslot⟩) ?_
  refine ruL_c (n := 848) (n2 := 849) rfl (ru_bot) ?_
  refine ruL_c (n := 849) (n2 := 850) rfl (ru_bot) ?_
  refine ruL_c (n := 850) (n2 := 851) rfl (ru_istore hx hb dL_law_850) ?_
  refine ruL_c (n := 851) (n2 := 852) rfl (ru_bot) ?_
  refine ruL_c (n := 852) (n2 := 853) rfl (ru_aload_n (k := 2) hx hb dL_law_852) ?_
  refine ruL_c (n := 853) (n2 := 854) rfl (ru_aload_n (k := 0) hx hb dL_law_853) ?_
  refine ruL_c (n := 854) (n2 := 855) rfl (ru_iload hx hb dL_law_854) ?_
  refine ruL_c (n := 855) (n2 := 856) rfl (ru_bot) ?_
  refine ruL_c (n := 856) (n2 := 857) rfl (ru_iconst hx hb dL_law_856 rfl) ?_
  refine ruL_c (n := 857) (n2 := 858) rfl (ru_iadd hx hb dL_law_857) ?_
  refine ruL_c (n := 858) (n2 := 859) rfl (ru_sld hx hb hXs hbl hbA had dL_law_858) ?_
  refine ruL_c (n := 859) (n2 := 860) rfl (ru_callV (own := RL) hx hb hml hown hts hK hN (by decide) rfl (c_X6_cueAt l D cI cZ cA cL ad hi) (cwV 1 hts gL_law_X6_cueAt rfl rfl rfl (by decide +kernel) ⟨Nat.le_of_ble_eq_true rfl, Nat.le_of_ble_eq_true rfl⟩) dL_law_859 ⟨Nat.le_trans (Nat.le_add_right _ 20) hcell, Nat.le_trans (Nat.le_add_right _ 120) hslot⟩) ?_
  refine ruL_c (n := 860) (n2 := 861) rfl (ru_bot) ?_
  refine ruL_c (n := 861) (n2 := 862) rfl (ru_bot) ?_
  refine ruL_c (n := 862) (n2 := 863) rfl (ru_istore hx hb dL_law_862) ?_
  refine ruL_c (n := 863) (n2 := 864) rfl (ru_bot) ?_
  refine ruL_c (n := 864) (n2 := 865) rfl (ru_aload_n (k := 2) hx hb dL_law_864) ?_
  refine ruL_c (n := 865) (n2 := 866) rfl (ru_callV (own := RL) hx hb hml hown hts hK hN (by decide) rfl (c_X6_thrown l D cI cZ cA cL ad hi) (cwV 0 hts gL_law_X6_thrown rfl rfl rfl (by decide +kernel) ⟨Nat.le_of_ble_eq_true rfl, Nat.le_of_ble_eq_true rfl⟩) dL_law_865 ⟨Nat.le_trans (Nat.le_add_right _ 20) hcell, Nat.le_trans (Nat.le_add_right _ 120) hslot⟩) ?_
  refine ruL_c (n := 866) (n2 := 867) rfl (ru_bot) ?_
  refine ruL_c (n := 867) (n2 := 868) rfl (ru_bot) ?_
  refine ruL_c (n := 868) (n2 := 869) rfl (ru_iload hx hb dL_law_868) ?_
  refine ruL_c (n := 869) (n2 := 870) rfl (ru_bot) ?_
  refine ruL_c (n := 870) (n2 := 871) rfl (ru_icmpeq hx hb dL_law_870 (by decide)) ?_
  refine ruL_c (n := 871) (n2 := 872) rfl (ru_bot) ?_
  refine ruL_c (n := 872) (n2 := 873) rfl (ru_bot) ?_
  refine ruL_c (n := 873) (n2 := 874) rfl (ru_iconst hx hb dL_law_873 rfl) ?_
  refine ruL_c (n := 874) (n2 := 875) rfl (ru_lret hx hb hr hlocks hA9 dL_law_874 hcell hslot) ?_
  refine ruL_c (n := 875) (n2 := 876) rfl (ru_iload hx hb dL_law_875) ?_
  refine ruL_c (n := 876) (n2 := 877) rfl (ru_bot) ?_
  refine ruL_c (n := 877) (n2 := 878) rfl (ru_ifne hx hb dL_law_877 (by decide)) ?_
  refine ruL_c (n := 878) (n2 := 879) rfl (ru_bot) ?_
  refine ruL_c (n := 879) (n2 := 880) rfl (ru_bot) ?_
  refine ruL_c (n := 880) (n2 := 881) rfl (ru_aload_n (k := 3) hx hb dL_law_880) ?_
  refine ruL_c (n := 881) (n2 := 882) rfl (ru_iconst hx hb dL_law_881 rfl) ?_
  refine ruL_c (n := 882) (n2 := 883) rfl (ru_lald hx hb hK dL_law_882) ?_
  refine ruL_c (n := 883) (n2 := 884) rfl (ru_iload hx hb dL_law_883) ?_
  refine ruL_c (n := 884) (n2 := 885) rfl (ru_bot) ?_
  refine ruL_c (n := 885) (n2 := 886) rfl (ru_i2l hx hb dL_law_885) ?_
  refine ruL_c (n := 886) (n2 := 887) rfl (ru_lcmp hx hb dL_law_886) ?_
  refine ruL_c (n := 887) (n2 := 888) rfl (ru_ifeq hx hb dL_law_887 (by decide)) ?_
  refine ruL_c (n := 888) (n2 := 889) rfl (ru_bot) ?_
  refine ruL_c (n := 889) (n2 := 890) rfl (ru_bot) ?_
  refine ruL_c (n := 890) (n2 := 891) rfl (ru_iconst hx hb dL_law_890 rfl) ?_
  refine ruL_c (n := 891) (n2 := 892) rfl (ru_lret hx hb hr hlocks hA9 dL_law_891 hcell hslot) ?_
  refine ruL_c (n := 892) (n2 := 893) rfl (ru_goto hx hb dL_law_892 (by decide)) ?_
  refine ruL_c (n := 893) (n2 := 894) rfl (ru_bot) ?_
  refine ruL_c (n := 894) (n2 := 895) rfl (ru_bot) ?_
  exact trivial
set_option maxHeartbeats 8000000 in
set_option maxRecDepth 100000 in
theorem k_law11 {CP : aM → Prop} {N : Nat} {xs : Nat → Int32} {K : Nat → aS → Prop} (hw : ∀ c, c ≤ 8000 → ∀ n x, wpB 839 (T_law11 (fun d => K (c + d)) N xs) n (K c) x → K c x) (hf : ∀ c pc L i st σ, K c (pc, L.set i .null, st, σ) → K c (pc, L, st, σ)) (ag : ∀ p0 : Int32, agW CP (f_L_cueAt p0) (f_X6_cueAt p0)) (c i : Nat) (hc : c ≤ 7900) (g1 : inb (nI i + 1) N = true) (g2 : inb (nI i + 2) N = true) (g3 : inb (nI i + 3) N = true) (g4 : inb (nI i + 4) N = true) (σ : aM) (hCP : CP σ)
    (hback : ∀ c2 σ2, c2 ≤ c + 12 → CP σ2 → K c2 (2234, [.ref 200, .ref 0, .ref 6, .ref 178, .int (nI i), .null, .null], [], σ2)) : K c (839, [.ref 200, .ref 0, .ref 6, .ref 178, .int (nI i), .null, .null], [], σ) := by
  obtain ⟨k1, σ1, b1, σ2, e1, e2, e3, e4, hcp⟩ := ag (xs (ix (nI i + 1))) σ hCP
  refine hw c (by omega) 8 _ ?_
  show inb (nI i + 1) N = true ∧ (∃ k1 σ1, f_L_cueAt (xs (ix (nI i + 1))) σ = some (k1, σ1) ∧ K (c + 4) (850, [.ref 200, .ref 0, .ref 6, .ref 178, .int (nI i), .null, .null], [.int k1], σ1))
  refine ⟨g1, ⟨k1, σ1, e1, ?_⟩⟩
  refine hw (c + 4) (by omega) 8 _ ?_
  show inb (nI i + 1) N = true ∧ (∃ b1 σ2, f_X6_cueAt (xs (ix (nI i + 1))) σ1 = some (b1, σ2) ∧ K (c + 4) (862, [.ref 200, .ref 0, .ref 6, .ref 178, .int (nI i), .int k1, .null], [.int b1], σ2))
  refine ⟨g1, ⟨b1, σ2, e2, ?_⟩⟩
  refine hw (c + 4) (by omega) 3 _ ?_
  show ∃ r3 σ3, f_X6_thrown σ2 = some (r3, σ3) ∧ K (c + 4) (868, [.ref 200, .ref 0, .ref 6, .ref 178, .int (nI i), .int k1, .int b1], [.int r3], σ3)
  refine ⟨σ2 6 0, σ2, rfl, ?_⟩
  refine hw (c + 4) (by omega) 2 _ ?_
  show (((σ2 6 0) = k1) → K (c + 4) (875, [.ref 200, .ref 0, .ref 6, .ref 178, .int (nI i), .int k1, .int b1], [], σ2)) ∧ (¬ ((σ2 6 0) = k1) → K (c + 4) (873, [.ref 200, .ref 0, .ref 6, .ref 178, .int (nI i), .int k1, .int b1], [], σ2))
  refine ⟨fun _ => ?_, fun q => absurd e3 q⟩
  by_cases hk : k1 = 0
  · have hz : σ2 178 (ix 0) = b1 := e4 hk
    refine hw (c + 4) (by omega) 2 _ ?_
    show ((¬ k1 = 0) → K (c + 4) (892, [.ref 200, .ref 0, .ref 6, .ref 178, .int (nI i), .int k1, .int b1], [], σ2)) ∧ (¬ (¬ k1 = 0) → K (c + 4) (880, [.ref 200, .ref 0, .ref 6, .ref 178, .int (nI i), .int k1, .int b1], [], σ2))
    refine ⟨fun q => absurd hk q, fun _ => ?_⟩
    refine hw (c + 4) (by omega) 7 _ ?_
    show kd 178 = 4 ∧ (inb 0 1 = true ∧ ((((lg_cmp (σ2 178 (ix 0)).toInt64 b1.toInt64) = 0) → K (c + 4) (892, [.ref 200, .ref 0, .ref 6, .ref 178, .int (nI i), .int k1, .int b1], [], σ2)) ∧ (¬ ((lg_cmp (σ2 178 (ix 0)).toInt64 b1.toInt64) = 0) → K (c + 4) (890, [.ref 200, .ref 0, .ref 6, .ref 178, .int (nI i), .int k1, .int b1], [], σ2))))
    refine ⟨rfl, by decide, ⟨fun _ => ?_, fun q => absurd (by rw [hz]; exact lcmp_eq _) q⟩⟩
    refine hw (c + 4) (by omega) 1 _ ?_
    show K (c + 4) (2234, [.ref 200, .ref 0, .ref 6, .ref 178, .int (nI i), .int k1, .int b1], [], σ2)
    refine hf _ _ _ 5 _ _ ?_
    show K (c + 4) (2234, [.ref 200, .ref 0, .ref 6, .ref 178, .int (nI i), .null, .int b1], [], σ2)
    refine hf _ _ _ 6 _ _ ?_
    show K (c + 4) (2234, [.ref 200, .ref 0, .ref 6, .ref 178, .int (nI i), .null, .null], [], σ2)
    exact hback _ _ (by omega) hcp
  · refine hw (c + 4) (by omega) 2 _ ?_
    show ((¬ k1 = 0) → K (c + 4) (892, [.ref 200, .ref 0, .ref 6, .ref 178, .int (nI i), .int k1, .int b1], [], σ2)) ∧ (¬ (¬ k1 = 0) → K (c + 4) (880, [.ref 200, .ref 0, .ref 6, .ref 178, .int (nI i), .int k1, .int b1], [], σ2))
    refine ⟨fun _ => ?_, fun q => absurd hk q⟩
    refine hw (c + 4) (by omega) 1 _ ?_
    show K (c + 4) (2234, [.ref 200, .ref 0, .ref 6, .ref 178, .int (nI i), .int k1, .int b1], [], σ2)
    refine hf _ _ _ 5 _ _ ?_
    show K (c + 4) (2234, [.ref 200, .ref 0, .ref 6, .ref 178, .int (nI i), .null, .int b1], [], σ2)
    refine hf _ _ _ 6 _ _ ?_
    show K (c + 4) (2234, [.ref 200, .ref 0, .ref 6, .ref 178, .int (nI i), .null, .null], [], σ2)
    exact hback _ _ (by omega) hcp
def T_law12 (KN : Nat → aS → Prop) (N : Nat) (xs : Nat → Int32) : List aI := [I_aload 1 1, I_aload 0 1, I_iload 4 2, I_bot, I_const 1 1, I_bin fun x y => x + y, I_sld N xs, I_aload 3 1, I_callW 3 F_L_timeOf (KN 4), I_bot, I_bot, I_istore 5 2, I_bot, I_aload 2 1, I_aload 0 1, I_iload 4 2, I_bot, I_const 1 1, I_bin fun x y => x + y, I_sld N xs, I_callV 6 1 F_X6_timeOf, I_bot, I_bot, I_istore 6 2, I_bot, I_aload 2 1, I_callV 6 0 F_X6_thrown, I_bot, I_bot, I_iload 5 2, I_bot, I_icmp (fun x y => x = y) 931, I_bot, I_bot, I_const 0 1, I_lret, I_iload 5 2, I_bot, I_if (fun x => ¬ x = 0) 948, I_bot, I_bot, I_aload 3 1, I_const 0 1, I_lald, I_iload 6 2, I_bot, I_i2l, I_lcmp, I_if (fun x => x = 0) 948, I_bot, I_bot, I_const 0 1, I_lret, I_goto 2234, I_bot, I_bot]
set_option maxHeartbeats 8000000 in
set_option maxRecDepth 100000 in
theorem r_law12 {p : Program} {l : Launch} {e : Env} {s : State} {m : MethodId} {below : List Frame} {meth : Method} {c : Code} {D : va_G} {cI cZ cA cL : ClassId} {ad sa : Nat → Nat} {b N : Nat} {xs : Nat → Int32} (Z : LCX p l e s m meth c b N xs D cI cZ cA cL ad sa) (cells slots : Nat) (hcell : cells + 20 ≤ 601024) (hslot : slots + 120 ≤ 7293034) :
    ruL (Ru p l e room_1 s m #[Value.ref b] below meth c cells slots (lw_Z below #[Value.ref b] s) 7 D cI cZ cA cL ad (AA ad s.heap.size) s.heap) 895 (T_law12 (fun d => WS p l e room_1 s m #[Value.ref b] below meth c (cells + d) (slots + 6 * d) (lw_Z below #[Value.ref b] s) 7 D cI cZ cA cL ad (AA ad s.heap.size) s.heap) N xs) := by
  obtain ⟨hx, hb, hml, hown, hts, hr, hlocks, hK, hN, hX, hC, hXs, hbl, hbA, had, hi, hlt, hA9⟩ := Z
  refine ruL_c (n := 895) (n2 := 896) rfl (ru_aload_n (k := 1) hx hb dL_law_895) ?_
  refine ruL_c (n := 896) (n2 := 897) rfl (ru_aload_n (k := 0) hx hb dL_law_896) ?_
  refine ruL_c (n := 897) (n2 := 898) rfl (ru_iload hx hb dL_law_897) ?_
  refine ruL_c (n := 898) (n2 := 899) rfl (ru_bot) ?_
  refine ruL_c (n := 899) (n2 := 900) rfl (ru_iconst hx hb dL_law_899 rfl) ?_
  refine ruL_c (n := 900) (n2 := 901) rfl (ru_iadd hx hb dL_law_900) ?_
  refine ruL_c (n := 901) (n2 := 902) rfl (ru_sld hx hb hXs hbl hbA had dL_law_901) ?_
  refine ruL_c (n := 902) (n2 := 903) rfl (ru_aload_n (k := 3) hx hb dL_law_902) ?_
  refine ruL_c (n := 903) (n2 := 904) rfl (ru_callW (own := RL) hx hb hml hown hts hK hN hX hC (c_L_timeOf l hlt D cI cZ cA cL ad sa hi) (vx_cwSW 3 hts gL_law_L_timeOf rfl rfl rfl (by decide +kernel) ⟨Nat.le_of_ble_eq_true rfl, Nat.le_of_ble_eq_true rfl⟩) dL_law_903 ⟨Nat.le_trans (Nat.add_le_add_left (by decide) _) hcell, Nat.le_trans (Nat.add_le_add_left (by decide) _) hslot⟩) ?_
  refine ruL_c (n := 904) (n2 := 905) rfl (ru_bot) ?_
  refine ruL_c (n := 905) (n2 := 906) rfl (ru_bot) ?_
  refine ruL_c (n := 906) (n2 := 907) rfl (ru_istore hx hb dL_law_906) ?_
  refine ruL_c (n := 907) (n2 := 908) rfl (ru_bot) ?_
  refine ruL_c (n := 908) (n2 := 909) rfl (ru_aload_n (k := 2) hx hb dL_law_908) ?_
  refine ruL_c (n := 909) (n2 := 910) rfl (ru_aload_n (k := 0) hx hb dL_law_909) ?_
  refine ruL_c (n := 910) (n2 := 911) rfl (ru_iload hx hb dL_law_910) ?_
  refine ruL_c (n := 911) (n2 := 912) rfl (ru_bot) ?_
  refine ruL_c (n := 912) (n2 := 913) rfl (ru_iconst hx hb dL_law_912 rfl) ?_
  refine ruL_c (n := 913) (n2 := 914) rfl (ru_iadd hx hb dL_law_913) ?_
  refine ruL_c (n := 914) (n2 := 915) rfl (ru_sld hx hb hXs hbl hbA had dL_law_914) ?_
  refine ruL_c (n := 915) (n2 := 916) rfl (ru_callV (own := RL) hx hb hml hown hts hK hN (by decide) rfl (c_X6_timeOf l D cI cZ cA cL ad hi) (cwV 1 hts gL_law_X6_timeOf rfl rfl rfl (by decide +kernel) ⟨Nat.le_of_ble_eq_true rfl, Nat.le_of_ble_eq_true rfl⟩) dL_law_915 ⟨Nat.le_trans (Nat.le_add_right _ 20) hcell, Nat.le_trans (Nat.le_add_right _ 120) hslot⟩) ?_
  refine ruL_c (n := 916) (n2 := 917) rfl (ru_bot) ?_
  refine ruL_c (n := 917) (n2 := 918) rfl (ru_bot) ?_
  refine ruL_c (n := 918) (n2 := 919) rfl (ru_istore hx hb dL_law_918) ?_
  refine ruL_c (n := 919) (n2 := 920) rfl (ru_bot) ?_
  refine ruL_c (n := 920) (n2 := 921) rfl (ru_aload_n (k := 2) hx hb dL_law_920) ?_
  refine ruL_c (n := 921) (n2 := 922) rfl (ru_callV (own := RL) hx hb hml hown hts hK hN (by decide) rfl (c_X6_thrown l D cI cZ cA cL ad hi) (cwV 0 hts gL_law_X6_thrown rfl rfl rfl (by decide +kernel) ⟨Nat.le_of_ble_eq_true rfl, Nat.le_of_ble_eq_true rfl⟩) dL_law_921 ⟨Nat.le_trans (Nat.le_add_right _ 20) hcell, Nat.le_trans (Nat.le_add_right _ 120) hslot⟩) ?_
  refine ruL_c (n := 922) (n2 := 923) rfl (ru_bot) ?_
  refine ruL_c (n := 923) (n2 := 924) rfl (ru_bot) ?_
  refine ruL_c (n := 924) (n2 := 925) rfl (ru_iload hx hb dL_law_924) ?_
  refine ruL_c (n := 925) (n2 := 926) rfl (ru_bot) ?_
  refine ruL_c (n := 926) (n2 := 927) rfl (ru_icmpeq hx hb dL_law_926 (by decide)) ?_
  refine ruL_c (n := 927) (n2 := 928) rfl (ru_bot) ?_
  refine ruL_c (n := 928) (n2 := 929) rfl (ru_bot) ?_
  refine ruL_c (n := 929) (n2 := 930) rfl (ru_iconst hx hb dL_law_929 rfl) ?_
  refine ruL_c (n := 930) (n2 := 931) rfl (ru_lret hx hb hr hlocks hA9 dL_law_930 hcell hslot) ?_
  refine ruL_c (n := 931) (n2 := 932) rfl (ru_iload hx hb dL_law_931) ?_
  refine ruL_c (n := 932) (n2 := 933) rfl (ru_bot) ?_
  refine ruL_c (n := 933) (n2 := 934) rfl (ru_ifne hx hb dL_law_933 (by decide)) ?_
  refine ruL_c (n := 934) (n2 := 935) rfl (ru_bot) ?_
  refine ruL_c (n := 935) (n2 := 936) rfl (ru_bot) ?_
  refine ruL_c (n := 936) (n2 := 937) rfl (ru_aload_n (k := 3) hx hb dL_law_936) ?_
  refine ruL_c (n := 937) (n2 := 938) rfl (ru_iconst hx hb dL_law_937 rfl) ?_
  refine ruL_c (n := 938) (n2 := 939) rfl (ru_lald hx hb hK dL_law_938) ?_
  refine ruL_c (n := 939) (n2 := 940) rfl (ru_iload hx hb dL_law_939) ?_
  refine ruL_c (n := 940) (n2 := 941) rfl (ru_bot) ?_
  refine ruL_c (n := 941) (n2 := 942) rfl (ru_i2l hx hb dL_law_941) ?_
  refine ruL_c (n := 942) (n2 := 943) rfl (ru_lcmp hx hb dL_law_942) ?_
  refine ruL_c (n := 943) (n2 := 944) rfl (ru_ifeq hx hb dL_law_943 (by decide)) ?_
  refine ruL_c (n := 944) (n2 := 945) rfl (ru_bot) ?_
  refine ruL_c (n := 945) (n2 := 946) rfl (ru_bot) ?_
  refine ruL_c (n := 946) (n2 := 947) rfl (ru_iconst hx hb dL_law_946 rfl) ?_
  refine ruL_c (n := 947) (n2 := 948) rfl (ru_lret hx hb hr hlocks hA9 dL_law_947 hcell hslot) ?_
  refine ruL_c (n := 948) (n2 := 949) rfl (ru_goto hx hb dL_law_948 (by decide)) ?_
  refine ruL_c (n := 949) (n2 := 950) rfl (ru_bot) ?_
  refine ruL_c (n := 950) (n2 := 951) rfl (ru_bot) ?_
  exact trivial
set_option maxHeartbeats 8000000 in
set_option maxRecDepth 100000 in
theorem k_law12 {CP : aM → Prop} {N : Nat} {xs : Nat → Int32} {K : Nat → aS → Prop} (hw : ∀ c, c ≤ 8000 → ∀ n x, wpB 895 (T_law12 (fun d => K (c + d)) N xs) n (K c) x → K c x) (hf : ∀ c pc L i st σ, K c (pc, L.set i .null, st, σ) → K c (pc, L, st, σ)) (ag : ∀ p0 : Int32, agW CP (f_L_timeOf p0) (f_X6_timeOf p0)) (c i : Nat) (hc : c ≤ 7900) (g1 : inb (nI i + 1) N = true) (g2 : inb (nI i + 2) N = true) (g3 : inb (nI i + 3) N = true) (g4 : inb (nI i + 4) N = true) (σ : aM) (hCP : CP σ)
    (hback : ∀ c2 σ2, c2 ≤ c + 12 → CP σ2 → K c2 (2234, [.ref 200, .ref 0, .ref 6, .ref 178, .int (nI i), .null, .null], [], σ2)) : K c (895, [.ref 200, .ref 0, .ref 6, .ref 178, .int (nI i), .null, .null], [], σ) := by
  obtain ⟨k1, σ1, b1, σ2, e1, e2, e3, e4, hcp⟩ := ag (xs (ix (nI i + 1))) σ hCP
  refine hw c (by omega) 8 _ ?_
  show inb (nI i + 1) N = true ∧ (∃ k1 σ1, f_L_timeOf (xs (ix (nI i + 1))) σ = some (k1, σ1) ∧ K (c + 4) (906, [.ref 200, .ref 0, .ref 6, .ref 178, .int (nI i), .null, .null], [.int k1], σ1))
  refine ⟨g1, ⟨k1, σ1, e1, ?_⟩⟩
  refine hw (c + 4) (by omega) 8 _ ?_
  show inb (nI i + 1) N = true ∧ (∃ b1 σ2, f_X6_timeOf (xs (ix (nI i + 1))) σ1 = some (b1, σ2) ∧ K (c + 4) (918, [.ref 200, .ref 0, .ref 6, .ref 178, .int (nI i), .int k1, .null], [.int b1], σ2))
  refine ⟨g1, ⟨b1, σ2, e2, ?_⟩⟩
  refine hw (c + 4) (by omega) 3 _ ?_
  show ∃ r3 σ3, f_X6_thrown σ2 = some (r3, σ3) ∧ K (c + 4) (924, [.ref 200, .ref 0, .ref 6, .ref 178, .int (nI i), .int k1, .int b1], [.int r3], σ3)
  refine ⟨σ2 6 0, σ2, rfl, ?_⟩
  refine hw (c + 4) (by omega) 2 _ ?_
  show (((σ2 6 0) = k1) → K (c + 4) (931, [.ref 200, .ref 0, .ref 6, .ref 178, .int (nI i), .int k1, .int b1], [], σ2)) ∧ (¬ ((σ2 6 0) = k1) → K (c + 4) (929, [.ref 200, .ref 0, .ref 6, .ref 178, .int (nI i), .int k1, .int b1], [], σ2))
  refine ⟨fun _ => ?_, fun q => absurd e3 q⟩
  by_cases hk : k1 = 0
  · have hz : σ2 178 (ix 0) = b1 := e4 hk
    refine hw (c + 4) (by omega) 2 _ ?_
    show ((¬ k1 = 0) → K (c + 4) (948, [.ref 200, .ref 0, .ref 6, .ref 178, .int (nI i), .int k1, .int b1], [], σ2)) ∧ (¬ (¬ k1 = 0) → K (c + 4) (936, [.ref 200, .ref 0, .ref 6, .ref 178, .int (nI i), .int k1, .int b1], [], σ2))
    refine ⟨fun q => absurd hk q, fun _ => ?_⟩
    refine hw (c + 4) (by omega) 7 _ ?_
    show kd 178 = 4 ∧ (inb 0 1 = true ∧ ((((lg_cmp (σ2 178 (ix 0)).toInt64 b1.toInt64) = 0) → K (c + 4) (948, [.ref 200, .ref 0, .ref 6, .ref 178, .int (nI i), .int k1, .int b1], [], σ2)) ∧ (¬ ((lg_cmp (σ2 178 (ix 0)).toInt64 b1.toInt64) = 0) → K (c + 4) (946, [.ref 200, .ref 0, .ref 6, .ref 178, .int (nI i), .int k1, .int b1], [], σ2))))
    refine ⟨rfl, by decide, ⟨fun _ => ?_, fun q => absurd (by rw [hz]; exact lcmp_eq _) q⟩⟩
    refine hw (c + 4) (by omega) 1 _ ?_
    show K (c + 4) (2234, [.ref 200, .ref 0, .ref 6, .ref 178, .int (nI i), .int k1, .int b1], [], σ2)
    refine hf _ _ _ 5 _ _ ?_
    show K (c + 4) (2234, [.ref 200, .ref 0, .ref 6, .ref 178, .int (nI i), .null, .int b1], [], σ2)
    refine hf _ _ _ 6 _ _ ?_
    show K (c + 4) (2234, [.ref 200, .ref 0, .ref 6, .ref 178, .int (nI i), .null, .null], [], σ2)
    exact hback _ _ (by omega) hcp
  · refine hw (c + 4) (by omega) 2 _ ?_
    show ((¬ k1 = 0) → K (c + 4) (948, [.ref 200, .ref 0, .ref 6, .ref 178, .int (nI i), .int k1, .int b1], [], σ2)) ∧ (¬ (¬ k1 = 0) → K (c + 4) (936, [.ref 200, .ref 0, .ref 6, .ref 178, .int (nI i), .int k1, .int b1], [], σ2))
    refine ⟨fun _ => ?_, fun q => absurd hk q⟩
    refine hw (c + 4) (by omega) 1 _ ?_
    show K (c + 4) (2234, [.ref 200, .ref 0, .ref 6, .ref 178, .int (nI i), .int k1, .int b1], [], σ2)
    refine hf _ _ _ 5 _ _ ?_
    show K (c + 4) (2234, [.ref 200, .ref 0, .ref 6, .ref 178, .int (nI i), .null, .int b1], [], σ2)
    refine hf _ _ _ 6 _ _ ?_
    show K (c + 4) (2234, [.ref 200, .ref 0, .ref 6, .ref 178, .int (nI i), .null, .null], [], σ2)
    exact hback _ _ (by omega) hcp
def T_law13 (KN : Nat → aS → Prop) (N : Nat) (xs : Nat → Int32) : List aI := [I_aload 1 1, I_aload 0 1, I_iload 4 2, I_bot, I_const 1 1, I_bin fun x y => x + y, I_sld N xs, I_aload 3 1, I_callW 3 F_L_foldedInto (KN 4), I_bot, I_bot, I_istore 5 2, I_bot, I_aload 2 1, I_aload 0 1, I_iload 4 2, I_bot, I_const 1 1, I_bin fun x y => x + y, I_sld N xs, I_callV 6 1 F_X6_foldedInto, I_bot, I_bot, I_istore 6 2, I_bot, I_aload 2 1, I_callV 6 0 F_X6_thrown, I_bot, I_bot, I_iload 5 2, I_bot, I_icmp (fun x y => x = y) 987, I_bot, I_bot, I_const 0 1, I_lret, I_iload 5 2, I_bot, I_if (fun x => ¬ x = 0) 1004, I_bot, I_bot, I_aload 3 1, I_const 0 1, I_lald, I_iload 6 2, I_bot, I_i2l, I_lcmp, I_if (fun x => x = 0) 1004, I_bot, I_bot, I_const 0 1, I_lret, I_goto 2234, I_bot, I_bot]
set_option maxHeartbeats 8000000 in
set_option maxRecDepth 100000 in
theorem r_law13 {p : Program} {l : Launch} {e : Env} {s : State} {m : MethodId} {below : List Frame} {meth : Method} {c : Code} {D : va_G} {cI cZ cA cL : ClassId} {ad sa : Nat → Nat} {b N : Nat} {xs : Nat → Int32} (Z : LCX p l e s m meth c b N xs D cI cZ cA cL ad sa) (cells slots : Nat) (hcell : cells + 20 ≤ 601024) (hslot : slots + 120 ≤ 7293034) :
    ruL (Ru p l e room_1 s m #[Value.ref b] below meth c cells slots (lw_Z below #[Value.ref b] s) 7 D cI cZ cA cL ad (AA ad s.heap.size) s.heap) 951 (T_law13 (fun d => WS p l e room_1 s m #[Value.ref b] below meth c (cells + d) (slots + 6 * d) (lw_Z below #[Value.ref b] s) 7 D cI cZ cA cL ad (AA ad s.heap.size) s.heap) N xs) := by
  obtain ⟨hx, hb, hml, hown, hts, hr, hlocks, hK, hN, hX, hC, hXs, hbl, hbA, had, hi, hlt, hA9⟩ := Z
  refine ruL_c (n := 951) (n2 := 952) rfl (ru_aload_n (k := 1) hx hb dL_law_951) ?_
  refine ruL_c (n := 952) (n2 := 953) rfl (ru_aload_n (k := 0) hx hb dL_law_952) ?_
  refine ruL_c (n := 953) (n2 := 954) rfl (ru_iload hx hb dL_law_953) ?_
  refine ruL_c (n := 954) (n2 := 955) rfl (ru_bot) ?_
  refine ruL_c (n := 955) (n2 := 956) rfl (ru_iconst hx hb dL_law_955 rfl) ?_
  refine ruL_c (n := 956) (n2 := 957) rfl (ru_iadd hx hb dL_law_956) ?_
  refine ruL_c (n := 957) (n2 := 958) rfl (ru_sld hx hb hXs hbl hbA had dL_law_957) ?_
  refine ruL_c (n := 958) (n2 := 959) rfl (ru_aload_n (k := 3) hx hb dL_law_958) ?_
  refine ruL_c (n := 959) (n2 := 960) rfl (ru_callW (own := RL) hx hb hml hown hts hK hN hX hC (c_L_foldedInto l hlt D cI cZ cA cL ad sa hi) (vx_cwSW 3 hts gL_law_L_foldedInto rfl rfl rfl (by decide +kernel) ⟨Nat.le_of_ble_eq_true rfl, Nat.le_of_ble_eq_true rfl⟩) dL_law_959 ⟨Nat.le_trans (Nat.add_le_add_left (by decide) _) hcell, Nat.le_trans (Nat.add_le_add_left (by decide) _) hslot⟩) ?_
  refine ruL_c (n := 960) (n2 := 961) rfl (ru_bot) ?_
  refine ruL_c (n := 961) (n2 := 962) rfl (ru_bot) ?_
  refine ruL_c (n := 962) (n2 := 963) rfl (ru_istore hx hb dL_law_962) ?_
  refine ruL_c (n := 963) (n2 := 964) rfl (ru_bot) ?_
  refine ruL_c (n := 964) (n2 := 965) rfl (ru_aload_n (k := 2) hx hb dL_law_964) ?_
  refine ruL_c (n := 965) (n2 := 966) rfl (ru_aload_n (k := 0) hx hb dL_law_965) ?_
  refine ruL_c (n := 966) (n2 := 967) rfl (ru_iload hx hb dL_law_966) ?_
  refine ruL_c (n := 967) (n2 := 968) rfl (ru_bot) ?_
  refine ruL_c (n := 968) (n2 := 969) rfl (ru_iconst hx hb dL_law_968 rfl) ?_
  refine ruL_c (n := 969) (n2 := 970) rfl (ru_iadd hx hb dL_law_969) ?_
  refine ruL_c (n := 970) (n2 := 971) rfl (ru_sld hx hb hXs hbl hbA had dL_law_970) ?_
  refine ruL_c (n := 971) (n2 := 972) rfl (ru_callV (own := RL) hx hb hml hown hts hK hN (by decide) rfl (c_X6_foldedInto l D cI cZ cA cL ad hi) (cwV 1 hts gL_law_X6_foldedInto rfl rfl rfl (by decide +kernel) ⟨Nat.le_of_ble_eq_true rfl, Nat.le_of_ble_eq_true rfl⟩) dL_law_971 ⟨Nat.le_trans (Nat.le_add_right _ 20) hcell, Nat.le_trans (Nat.le_add_right _ 120) hslot⟩) ?_
  refine ruL_c (n := 972) (n2 := 973) rfl (ru_bot) ?_
  refine ruL_c (n := 973) (n2 := 974) rfl (ru_bot) ?_
  refine ruL_c (n := 974) (n2 := 975) rfl (ru_istore hx hb dL_law_974) ?_
  refine ruL_c (n := 975) (n2 := 976) rfl (ru_bot) ?_
  refine ruL_c (n := 976) (n2 := 977) rfl (ru_aload_n (k := 2) hx hb dL_law_976) ?_
  refine ruL_c (n := 977) (n2 := 978) rfl (ru_callV (own := RL) hx hb hml hown hts hK hN (by decide) rfl (c_X6_thrown l D cI cZ cA cL ad hi) (cwV 0 hts gL_law_X6_thrown rfl rfl rfl (by decide +kernel) ⟨Nat.le_of_ble_eq_true rfl, Nat.le_of_ble_eq_true rfl⟩) dL_law_977 ⟨Nat.le_trans (Nat.le_add_right _ 20) hcell, Nat.le_trans (Nat.le_add_right _ 120) hslot⟩) ?_
  refine ruL_c (n := 978) (n2 := 979) rfl (ru_bot) ?_
  refine ruL_c (n := 979) (n2 := 980) rfl (ru_bot) ?_
  refine ruL_c (n := 980) (n2 := 981) rfl (ru_iload hx hb dL_law_980) ?_
  refine ruL_c (n := 981) (n2 := 982) rfl (ru_bot) ?_
  refine ruL_c (n := 982) (n2 := 983) rfl (ru_icmpeq hx hb dL_law_982 (by decide)) ?_
  refine ruL_c (n := 983) (n2 := 984) rfl (ru_bot) ?_
  refine ruL_c (n := 984) (n2 := 985) rfl (ru_bot) ?_
  refine ruL_c (n := 985) (n2 := 986) rfl (ru_iconst hx hb dL_law_985 rfl) ?_
  refine ruL_c (n := 986) (n2 := 987) rfl (ru_lret hx hb hr hlocks hA9 dL_law_986 hcell hslot) ?_
  refine ruL_c (n := 987) (n2 := 988) rfl (ru_iload hx hb dL_law_987) ?_
  refine ruL_c (n := 988) (n2 := 989) rfl (ru_bot) ?_
  refine ruL_c (n := 989) (n2 := 990) rfl (ru_ifne hx hb dL_law_989 (by decide)) ?_
  refine ruL_c (n := 990) (n2 := 991) rfl (ru_bot) ?_
  refine ruL_c (n := 991) (n2 := 992) rfl (ru_bot) ?_
  refine ruL_c (n := 992) (n2 := 993) rfl (ru_aload_n (k := 3) hx hb dL_law_992) ?_
  refine ruL_c (n := 993) (n2 := 994) rfl (ru_iconst hx hb dL_law_993 rfl) ?_
  refine ruL_c (n := 994) (n2 := 995) rfl (ru_lald hx hb hK dL_law_994) ?_
  refine ruL_c (n := 995) (n2 := 996) rfl (ru_iload hx hb dL_law_995) ?_
  refine ruL_c (n := 996) (n2 := 997) rfl (ru_bot) ?_
  refine ruL_c (n := 997) (n2 := 998) rfl (ru_i2l hx hb dL_law_997) ?_
  refine ruL_c (n := 998) (n2 := 999) rfl (ru_lcmp hx hb dL_law_998) ?_
  refine ruL_c (n := 999) (n2 := 1000) rfl (ru_ifeq hx hb dL_law_999 (by decide)) ?_
  refine ruL_c (n := 1000) (n2 := 1001) rfl (ru_bot) ?_
  refine ruL_c (n := 1001) (n2 := 1002) rfl (ru_bot) ?_
  refine ruL_c (n := 1002) (n2 := 1003) rfl (ru_iconst hx hb dL_law_1002 rfl) ?_
  refine ruL_c (n := 1003) (n2 := 1004) rfl (ru_lret hx hb hr hlocks hA9 dL_law_1003 hcell hslot) ?_
  refine ruL_c (n := 1004) (n2 := 1005) rfl (ru_goto hx hb dL_law_1004 (by decide)) ?_
  refine ruL_c (n := 1005) (n2 := 1006) rfl (ru_bot) ?_
  refine ruL_c (n := 1006) (n2 := 1007) rfl (ru_bot) ?_
  exact trivial
set_option maxHeartbeats 8000000 in
set_option maxRecDepth 100000 in
theorem k_law13 {CP : aM → Prop} {N : Nat} {xs : Nat → Int32} {K : Nat → aS → Prop} (hw : ∀ c, c ≤ 8000 → ∀ n x, wpB 951 (T_law13 (fun d => K (c + d)) N xs) n (K c) x → K c x) (hf : ∀ c pc L i st σ, K c (pc, L.set i .null, st, σ) → K c (pc, L, st, σ)) (ag : ∀ p0 : Int32, agW CP (f_L_foldedInto p0) (f_X6_foldedInto p0)) (c i : Nat) (hc : c ≤ 7900) (g1 : inb (nI i + 1) N = true) (g2 : inb (nI i + 2) N = true) (g3 : inb (nI i + 3) N = true) (g4 : inb (nI i + 4) N = true) (σ : aM) (hCP : CP σ)
    (hback : ∀ c2 σ2, c2 ≤ c + 12 → CP σ2 → K c2 (2234, [.ref 200, .ref 0, .ref 6, .ref 178, .int (nI i), .null, .null], [], σ2)) : K c (951, [.ref 200, .ref 0, .ref 6, .ref 178, .int (nI i), .null, .null], [], σ) := by
  obtain ⟨k1, σ1, b1, σ2, e1, e2, e3, e4, hcp⟩ := ag (xs (ix (nI i + 1))) σ hCP
  refine hw c (by omega) 8 _ ?_
  show inb (nI i + 1) N = true ∧ (∃ k1 σ1, f_L_foldedInto (xs (ix (nI i + 1))) σ = some (k1, σ1) ∧ K (c + 4) (962, [.ref 200, .ref 0, .ref 6, .ref 178, .int (nI i), .null, .null], [.int k1], σ1))
  refine ⟨g1, ⟨k1, σ1, e1, ?_⟩⟩
  refine hw (c + 4) (by omega) 8 _ ?_
  show inb (nI i + 1) N = true ∧ (∃ b1 σ2, f_X6_foldedInto (xs (ix (nI i + 1))) σ1 = some (b1, σ2) ∧ K (c + 4) (974, [.ref 200, .ref 0, .ref 6, .ref 178, .int (nI i), .int k1, .null], [.int b1], σ2))
  refine ⟨g1, ⟨b1, σ2, e2, ?_⟩⟩
  refine hw (c + 4) (by omega) 3 _ ?_
  show ∃ r3 σ3, f_X6_thrown σ2 = some (r3, σ3) ∧ K (c + 4) (980, [.ref 200, .ref 0, .ref 6, .ref 178, .int (nI i), .int k1, .int b1], [.int r3], σ3)
  refine ⟨σ2 6 0, σ2, rfl, ?_⟩
  refine hw (c + 4) (by omega) 2 _ ?_
  show (((σ2 6 0) = k1) → K (c + 4) (987, [.ref 200, .ref 0, .ref 6, .ref 178, .int (nI i), .int k1, .int b1], [], σ2)) ∧ (¬ ((σ2 6 0) = k1) → K (c + 4) (985, [.ref 200, .ref 0, .ref 6, .ref 178, .int (nI i), .int k1, .int b1], [], σ2))
  refine ⟨fun _ => ?_, fun q => absurd e3 q⟩
  by_cases hk : k1 = 0
  · have hz : σ2 178 (ix 0) = b1 := e4 hk
    refine hw (c + 4) (by omega) 2 _ ?_
    show ((¬ k1 = 0) → K (c + 4) (1004, [.ref 200, .ref 0, .ref 6, .ref 178, .int (nI i), .int k1, .int b1], [], σ2)) ∧ (¬ (¬ k1 = 0) → K (c + 4) (992, [.ref 200, .ref 0, .ref 6, .ref 178, .int (nI i), .int k1, .int b1], [], σ2))
    refine ⟨fun q => absurd hk q, fun _ => ?_⟩
    refine hw (c + 4) (by omega) 7 _ ?_
    show kd 178 = 4 ∧ (inb 0 1 = true ∧ ((((lg_cmp (σ2 178 (ix 0)).toInt64 b1.toInt64) = 0) → K (c + 4) (1004, [.ref 200, .ref 0, .ref 6, .ref 178, .int (nI i), .int k1, .int b1], [], σ2)) ∧ (¬ ((lg_cmp (σ2 178 (ix 0)).toInt64 b1.toInt64) = 0) → K (c + 4) (1002, [.ref 200, .ref 0, .ref 6, .ref 178, .int (nI i), .int k1, .int b1], [], σ2))))
    refine ⟨rfl, by decide, ⟨fun _ => ?_, fun q => absurd (by rw [hz]; exact lcmp_eq _) q⟩⟩
    refine hw (c + 4) (by omega) 1 _ ?_
    show K (c + 4) (2234, [.ref 200, .ref 0, .ref 6, .ref 178, .int (nI i), .int k1, .int b1], [], σ2)
    refine hf _ _ _ 5 _ _ ?_
    show K (c + 4) (2234, [.ref 200, .ref 0, .ref 6, .ref 178, .int (nI i), .null, .int b1], [], σ2)
    refine hf _ _ _ 6 _ _ ?_
    show K (c + 4) (2234, [.ref 200, .ref 0, .ref 6, .ref 178, .int (nI i), .null, .null], [], σ2)
    exact hback _ _ (by omega) hcp
  · refine hw (c + 4) (by omega) 2 _ ?_
    show ((¬ k1 = 0) → K (c + 4) (1004, [.ref 200, .ref 0, .ref 6, .ref 178, .int (nI i), .int k1, .int b1], [], σ2)) ∧ (¬ (¬ k1 = 0) → K (c + 4) (992, [.ref 200, .ref 0, .ref 6, .ref 178, .int (nI i), .int k1, .int b1], [], σ2))
    refine ⟨fun _ => ?_, fun q => absurd hk q⟩
    refine hw (c + 4) (by omega) 1 _ ?_
    show K (c + 4) (2234, [.ref 200, .ref 0, .ref 6, .ref 178, .int (nI i), .int k1, .int b1], [], σ2)
    refine hf _ _ _ 5 _ _ ?_
    show K (c + 4) (2234, [.ref 200, .ref 0, .ref 6, .ref 178, .int (nI i), .null, .int b1], [], σ2)
    refine hf _ _ _ 6 _ _ ?_
    show K (c + 4) (2234, [.ref 200, .ref 0, .ref 6, .ref 178, .int (nI i), .null, .null], [], σ2)
    exact hback _ _ (by omega) hcp
def T_law14 (KN : Nat → aS → Prop) (N : Nat) (xs : Nat → Int32) : List aI := [I_aload 1 1, I_aload 0 1, I_iload 4 2, I_bot, I_const 1 1, I_bin fun x y => x + y, I_sld N xs, I_aload 0 1, I_iload 4 2, I_bot, I_const 2 1, I_bin fun x y => x + y, I_sld N xs, I_aload 3 1, I_callW 4 F_L_changes (KN 6), I_bot, I_bot, I_istore 5 2, I_bot, I_aload 2 1, I_aload 0 1, I_iload 4 2, I_bot, I_const 1 1, I_bin fun x y => x + y, I_sld N xs, I_aload 0 1, I_iload 4 2, I_bot, I_const 2 1, I_bin fun x y => x + y, I_sld N xs, I_callV 6 2 F_X6_changes, I_bot, I_bot, I_istore 6 2, I_bot, I_aload 2 1, I_callV 6 0 F_X6_thrown, I_bot, I_bot, I_iload 5 2, I_bot, I_icmp (fun x y => x = y) 1055, I_bot, I_bot, I_const 0 1, I_lret, I_iload 5 2, I_bot, I_if (fun x => ¬ x = 0) 1072, I_bot, I_bot, I_aload 3 1, I_const 0 1, I_lald, I_iload 6 2, I_bot, I_i2l, I_lcmp, I_if (fun x => x = 0) 1072, I_bot, I_bot, I_const 0 1, I_lret, I_goto 2234, I_bot, I_bot]
set_option maxHeartbeats 8000000 in
set_option maxRecDepth 100000 in
theorem r_law14 {p : Program} {l : Launch} {e : Env} {s : State} {m : MethodId} {below : List Frame} {meth : Method} {c : Code} {D : va_G} {cI cZ cA cL : ClassId} {ad sa : Nat → Nat} {b N : Nat} {xs : Nat → Int32} (Z : LCX p l e s m meth c b N xs D cI cZ cA cL ad sa) (cells slots : Nat) (hcell : cells + 20 ≤ 601024) (hslot : slots + 120 ≤ 7293034) :
    ruL (Ru p l e room_1 s m #[Value.ref b] below meth c cells slots (lw_Z below #[Value.ref b] s) 7 D cI cZ cA cL ad (AA ad s.heap.size) s.heap) 1007 (T_law14 (fun d => WS p l e room_1 s m #[Value.ref b] below meth c (cells + d) (slots + 6 * d) (lw_Z below #[Value.ref b] s) 7 D cI cZ cA cL ad (AA ad s.heap.size) s.heap) N xs) := by
  obtain ⟨hx, hb, hml, hown, hts, hr, hlocks, hK, hN, hX, hC, hXs, hbl, hbA, had, hi, hlt, hA9⟩ := Z
  refine ruL_c (n := 1007) (n2 := 1008) rfl (ru_aload_n (k := 1) hx hb dL_law_1007) ?_
  refine ruL_c (n := 1008) (n2 := 1009) rfl (ru_aload_n (k := 0) hx hb dL_law_1008) ?_
  refine ruL_c (n := 1009) (n2 := 1010) rfl (ru_iload hx hb dL_law_1009) ?_
  refine ruL_c (n := 1010) (n2 := 1011) rfl (ru_bot) ?_
  refine ruL_c (n := 1011) (n2 := 1012) rfl (ru_iconst hx hb dL_law_1011 rfl) ?_
  refine ruL_c (n := 1012) (n2 := 1013) rfl (ru_iadd hx hb dL_law_1012) ?_
  refine ruL_c (n := 1013) (n2 := 1014) rfl (ru_sld hx hb hXs hbl hbA had dL_law_1013) ?_
  refine ruL_c (n := 1014) (n2 := 1015) rfl (ru_aload_n (k := 0) hx hb dL_law_1014) ?_
  refine ruL_c (n := 1015) (n2 := 1016) rfl (ru_iload hx hb dL_law_1015) ?_
  refine ruL_c (n := 1016) (n2 := 1017) rfl (ru_bot) ?_
  refine ruL_c (n := 1017) (n2 := 1018) rfl (ru_iconst hx hb dL_law_1017 rfl) ?_
  refine ruL_c (n := 1018) (n2 := 1019) rfl (ru_iadd hx hb dL_law_1018) ?_
  refine ruL_c (n := 1019) (n2 := 1020) rfl (ru_sld hx hb hXs hbl hbA had dL_law_1019) ?_
  refine ruL_c (n := 1020) (n2 := 1021) rfl (ru_aload_n (k := 3) hx hb dL_law_1020) ?_
  refine ruL_c (n := 1021) (n2 := 1022) rfl (ru_callW (own := RL) hx hb hml hown hts hK hN hX hC (c_L_changes l hlt D cI cZ cA cL ad sa hi) (vx_cwSW 4 hts gL_law_L_changes rfl rfl rfl (by decide +kernel) ⟨Nat.le_of_ble_eq_true rfl, Nat.le_of_ble_eq_true rfl⟩) dL_law_1021 ⟨Nat.le_trans (Nat.add_le_add_left (by decide) _) hcell, Nat.le_trans (Nat.add_le_add_left (by decide) _) hslot⟩) ?_
  refine ruL_c (n := 1022) (n2 := 1023) rfl (ru_bot) ?_
  refine ruL_c (n := 1023) (n2 := 1024) rfl (ru_bot) ?_
  refine ruL_c (n := 1024) (n2 := 1025) rfl (ru_istore hx hb dL_law_1024) ?_
  refine ruL_c (n := 1025) (n2 := 1026) rfl (ru_bot) ?_
  refine ruL_c (n := 1026) (n2 := 1027) rfl (ru_aload_n (k := 2) hx hb dL_law_1026) ?_
  refine ruL_c (n := 1027) (n2 := 1028) rfl (ru_aload_n (k := 0) hx hb dL_law_1027) ?_
  refine ruL_c (n := 1028) (n2 := 1029) rfl (ru_iload hx hb dL_law_1028) ?_
  refine ruL_c (n := 1029) (n2 := 1030) rfl (ru_bot) ?_
  refine ruL_c (n := 1030) (n2 := 1031) rfl (ru_iconst hx hb dL_law_1030 rfl) ?_
  refine ruL_c (n := 1031) (n2 := 1032) rfl (ru_iadd hx hb dL_law_1031) ?_
  refine ruL_c (n := 1032) (n2 := 1033) rfl (ru_sld hx hb hXs hbl hbA had dL_law_1032) ?_
  refine ruL_c (n := 1033) (n2 := 1034) rfl (ru_aload_n (k := 0) hx hb dL_law_1033) ?_
  refine ruL_c (n := 1034) (n2 := 1035) rfl (ru_iload hx hb dL_law_1034) ?_
  refine ruL_c (n := 1035) (n2 := 1036) rfl (ru_bot) ?_
  refine ruL_c (n := 1036) (n2 := 1037) rfl (ru_iconst hx hb dL_law_1036 rfl) ?_
  refine ruL_c (n := 1037) (n2 := 1038) rfl (ru_iadd hx hb dL_law_1037) ?_
  refine ruL_c (n := 1038) (n2 := 1039) rfl (ru_sld hx hb hXs hbl hbA had dL_law_1038) ?_
  refine ruL_c (n := 1039) (n2 := 1040) rfl (ru_callV (own := RL) hx hb hml hown hts hK hN (by decide) rfl (c_X6_changes l D cI cZ cA cL ad hi) (cwV 2 hts gL_law_X6_changes rfl rfl rfl (by decide +kernel) ⟨Nat.le_of_ble_eq_true rfl, Nat.le_of_ble_eq_true rfl⟩) dL_law_1039 ⟨Nat.le_trans (Nat.le_add_right _ 20) hcell, Nat.le_trans (Nat.le_add_right _ 120) hslot⟩) ?_
  refine ruL_c (n := 1040) (n2 := 1041) rfl (ru_bot) ?_
  refine ruL_c (n := 1041) (n2 := 1042) rfl (ru_bot) ?_
  refine ruL_c (n := 1042) (n2 := 1043) rfl (ru_istore hx hb dL_law_1042) ?_
  refine ruL_c (n := 1043) (n2 := 1044) rfl (ru_bot) ?_
  refine ruL_c (n := 1044) (n2 := 1045) rfl (ru_aload_n (k := 2) hx hb dL_law_1044) ?_
  refine ruL_c (n := 1045) (n2 := 1046) rfl (ru_callV (own := RL) hx hb hml hown hts hK hN (by decide) rfl (c_X6_thrown l D cI cZ cA cL ad hi) (cwV 0 hts gL_law_X6_thrown rfl rfl rfl (by decide +kernel) ⟨Nat.le_of_ble_eq_true rfl, Nat.le_of_ble_eq_true rfl⟩) dL_law_1045 ⟨Nat.le_trans (Nat.le_add_right _ 20) hcell, Nat.le_trans (Nat.le_add_right _ 120) hslot⟩) ?_
  refine ruL_c (n := 1046) (n2 := 1047) rfl (ru_bot) ?_
  refine ruL_c (n := 1047) (n2 := 1048) rfl (ru_bot) ?_
  refine ruL_c (n := 1048) (n2 := 1049) rfl (ru_iload hx hb dL_law_1048) ?_
  refine ruL_c (n := 1049) (n2 := 1050) rfl (ru_bot) ?_
  refine ruL_c (n := 1050) (n2 := 1051) rfl (ru_icmpeq hx hb dL_law_1050 (by decide)) ?_
  refine ruL_c (n := 1051) (n2 := 1052) rfl (ru_bot) ?_
  refine ruL_c (n := 1052) (n2 := 1053) rfl (ru_bot) ?_
  refine ruL_c (n := 1053) (n2 := 1054) rfl (ru_iconst hx hb dL_law_1053 rfl) ?_
  refine ruL_c (n := 1054) (n2 := 1055) rfl (ru_lret hx hb hr hlocks hA9 dL_law_1054 hcell hslot) ?_
  refine ruL_c (n := 1055) (n2 := 1056) rfl (ru_iload hx hb dL_law_1055) ?_
  refine ruL_c (n := 1056) (n2 := 1057) rfl (ru_bot) ?_
  refine ruL_c (n := 1057) (n2 := 1058) rfl (ru_ifne hx hb dL_law_1057 (by decide)) ?_
  refine ruL_c (n := 1058) (n2 := 1059) rfl (ru_bot) ?_
  refine ruL_c (n := 1059) (n2 := 1060) rfl (ru_bot) ?_
  refine ruL_c (n := 1060) (n2 := 1061) rfl (ru_aload_n (k := 3) hx hb dL_law_1060) ?_
  refine ruL_c (n := 1061) (n2 := 1062) rfl (ru_iconst hx hb dL_law_1061 rfl) ?_
  refine ruL_c (n := 1062) (n2 := 1063) rfl (ru_lald hx hb hK dL_law_1062) ?_
  refine ruL_c (n := 1063) (n2 := 1064) rfl (ru_iload hx hb dL_law_1063) ?_
  refine ruL_c (n := 1064) (n2 := 1065) rfl (ru_bot) ?_
  refine ruL_c (n := 1065) (n2 := 1066) rfl (ru_i2l hx hb dL_law_1065) ?_
  refine ruL_c (n := 1066) (n2 := 1067) rfl (ru_lcmp hx hb dL_law_1066) ?_
  refine ruL_c (n := 1067) (n2 := 1068) rfl (ru_ifeq hx hb dL_law_1067 (by decide)) ?_
  refine ruL_c (n := 1068) (n2 := 1069) rfl (ru_bot) ?_
  refine ruL_c (n := 1069) (n2 := 1070) rfl (ru_bot) ?_
  refine ruL_c (n := 1070) (n2 := 1071) rfl (ru_iconst hx hb dL_law_1070 rfl) ?_
  refine ruL_c (n := 1071) (n2 := 1072) rfl (ru_lret hx hb hr hlocks hA9 dL_law_1071 hcell hslot) ?_
  refine ruL_c (n := 1072) (n2 := 1073) rfl (ru_goto hx hb dL_law_1072 (by decide)) ?_
  refine ruL_c (n := 1073) (n2 := 1074) rfl (ru_bot) ?_
  refine ruL_c (n := 1074) (n2 := 1075) rfl (ru_bot) ?_
  exact trivial
set_option maxHeartbeats 8000000 in
set_option maxRecDepth 100000 in
theorem k_law14 {CP : aM → Prop} {N : Nat} {xs : Nat → Int32} {K : Nat → aS → Prop} (hw : ∀ c, c ≤ 8000 → ∀ n x, wpB 1007 (T_law14 (fun d => K (c + d)) N xs) n (K c) x → K c x) (hf : ∀ c pc L i st σ, K c (pc, L.set i .null, st, σ) → K c (pc, L, st, σ)) (ag : ∀ p0 p1 : Int32, agW CP (f_L_changes p0 p1) (f_X6_changes p0 p1)) (c i : Nat) (hc : c ≤ 7900) (g1 : inb (nI i + 1) N = true) (g2 : inb (nI i + 2) N = true) (g3 : inb (nI i + 3) N = true) (g4 : inb (nI i + 4) N = true) (σ : aM) (hCP : CP σ)
    (hback : ∀ c2 σ2, c2 ≤ c + 12 → CP σ2 → K c2 (2234, [.ref 200, .ref 0, .ref 6, .ref 178, .int (nI i), .null, .null], [], σ2)) : K c (1007, [.ref 200, .ref 0, .ref 6, .ref 178, .int (nI i), .null, .null], [], σ) := by
  obtain ⟨k1, σ1, b1, σ2, e1, e2, e3, e4, hcp⟩ := ag (xs (ix (nI i + 1))) (xs (ix (nI i + 2))) σ hCP
  refine hw c (by omega) 13 _ ?_
  show inb (nI i + 1) N = true ∧ (inb (nI i + 2) N = true ∧ (∃ k1 σ1, f_L_changes (xs (ix (nI i + 1))) (xs (ix (nI i + 2))) σ = some (k1, σ1) ∧ K (c + 6) (1024, [.ref 200, .ref 0, .ref 6, .ref 178, .int (nI i), .null, .null], [.int k1], σ1)))
  refine ⟨g1, g2, ⟨k1, σ1, e1, ?_⟩⟩
  refine hw (c + 6) (by omega) 13 _ ?_
  show inb (nI i + 1) N = true ∧ (inb (nI i + 2) N = true ∧ (∃ b1 σ2, f_X6_changes (xs (ix (nI i + 1))) (xs (ix (nI i + 2))) σ1 = some (b1, σ2) ∧ K (c + 6) (1042, [.ref 200, .ref 0, .ref 6, .ref 178, .int (nI i), .int k1, .null], [.int b1], σ2)))
  refine ⟨g1, g2, ⟨b1, σ2, e2, ?_⟩⟩
  refine hw (c + 6) (by omega) 3 _ ?_
  show ∃ r3 σ3, f_X6_thrown σ2 = some (r3, σ3) ∧ K (c + 6) (1048, [.ref 200, .ref 0, .ref 6, .ref 178, .int (nI i), .int k1, .int b1], [.int r3], σ3)
  refine ⟨σ2 6 0, σ2, rfl, ?_⟩
  refine hw (c + 6) (by omega) 2 _ ?_
  show (((σ2 6 0) = k1) → K (c + 6) (1055, [.ref 200, .ref 0, .ref 6, .ref 178, .int (nI i), .int k1, .int b1], [], σ2)) ∧ (¬ ((σ2 6 0) = k1) → K (c + 6) (1053, [.ref 200, .ref 0, .ref 6, .ref 178, .int (nI i), .int k1, .int b1], [], σ2))
  refine ⟨fun _ => ?_, fun q => absurd e3 q⟩
  by_cases hk : k1 = 0
  · have hz : σ2 178 (ix 0) = b1 := e4 hk
    refine hw (c + 6) (by omega) 2 _ ?_
    show ((¬ k1 = 0) → K (c + 6) (1072, [.ref 200, .ref 0, .ref 6, .ref 178, .int (nI i), .int k1, .int b1], [], σ2)) ∧ (¬ (¬ k1 = 0) → K (c + 6) (1060, [.ref 200, .ref 0, .ref 6, .ref 178, .int (nI i), .int k1, .int b1], [], σ2))
    refine ⟨fun q => absurd hk q, fun _ => ?_⟩
    refine hw (c + 6) (by omega) 7 _ ?_
    show kd 178 = 4 ∧ (inb 0 1 = true ∧ ((((lg_cmp (σ2 178 (ix 0)).toInt64 b1.toInt64) = 0) → K (c + 6) (1072, [.ref 200, .ref 0, .ref 6, .ref 178, .int (nI i), .int k1, .int b1], [], σ2)) ∧ (¬ ((lg_cmp (σ2 178 (ix 0)).toInt64 b1.toInt64) = 0) → K (c + 6) (1070, [.ref 200, .ref 0, .ref 6, .ref 178, .int (nI i), .int k1, .int b1], [], σ2))))
    refine ⟨rfl, by decide, ⟨fun _ => ?_, fun q => absurd (by rw [hz]; exact lcmp_eq _) q⟩⟩
    refine hw (c + 6) (by omega) 1 _ ?_
    show K (c + 6) (2234, [.ref 200, .ref 0, .ref 6, .ref 178, .int (nI i), .int k1, .int b1], [], σ2)
    refine hf _ _ _ 5 _ _ ?_
    show K (c + 6) (2234, [.ref 200, .ref 0, .ref 6, .ref 178, .int (nI i), .null, .int b1], [], σ2)
    refine hf _ _ _ 6 _ _ ?_
    show K (c + 6) (2234, [.ref 200, .ref 0, .ref 6, .ref 178, .int (nI i), .null, .null], [], σ2)
    exact hback _ _ (by omega) hcp
  · refine hw (c + 6) (by omega) 2 _ ?_
    show ((¬ k1 = 0) → K (c + 6) (1072, [.ref 200, .ref 0, .ref 6, .ref 178, .int (nI i), .int k1, .int b1], [], σ2)) ∧ (¬ (¬ k1 = 0) → K (c + 6) (1060, [.ref 200, .ref 0, .ref 6, .ref 178, .int (nI i), .int k1, .int b1], [], σ2))
    refine ⟨fun _ => ?_, fun q => absurd hk q⟩
    refine hw (c + 6) (by omega) 1 _ ?_
    show K (c + 6) (2234, [.ref 200, .ref 0, .ref 6, .ref 178, .int (nI i), .int k1, .int b1], [], σ2)
    refine hf _ _ _ 5 _ _ ?_
    show K (c + 6) (2234, [.ref 200, .ref 0, .ref 6, .ref 178, .int (nI i), .null, .int b1], [], σ2)
    refine hf _ _ _ 6 _ _ ?_
    show K (c + 6) (2234, [.ref 200, .ref 0, .ref 6, .ref 178, .int (nI i), .null, .null], [], σ2)
    exact hback _ _ (by omega) hcp
def T_law15 (KN : Nat → aS → Prop) (N : Nat) (xs : Nat → Int32) : List aI := [I_aload 1 1, I_aload 0 1, I_iload 4 2, I_bot, I_const 1 1, I_bin fun x y => x + y, I_sld N xs, I_aload 0 1, I_iload 4 2, I_bot, I_const 2 1, I_bin fun x y => x + y, I_sld N xs, I_aload 3 1, I_callW 4 F_L_levelAt (KN 6), I_bot, I_bot, I_istore 5 2, I_bot, I_aload 2 1, I_aload 0 1, I_iload 4 2, I_bot, I_const 1 1, I_bin fun x y => x + y, I_sld N xs, I_aload 0 1, I_iload 4 2, I_bot, I_const 2 1, I_bin fun x y => x + y, I_sld N xs, I_callV 6 2 F_X6_levelAt, I_bot, I_bot, I_istore 6 2, I_bot, I_aload 2 1, I_callV 6 0 F_X6_thrown, I_bot, I_bot, I_iload 5 2, I_bot, I_icmp (fun x y => x = y) 1123, I_bot, I_bot, I_const 0 1, I_lret, I_iload 5 2, I_bot, I_if (fun x => ¬ x = 0) 1140, I_bot, I_bot, I_aload 3 1, I_const 0 1, I_lald, I_iload 6 2, I_bot, I_i2l, I_lcmp, I_if (fun x => x = 0) 1140, I_bot, I_bot, I_const 0 1, I_lret, I_goto 2234, I_bot, I_bot]
set_option maxHeartbeats 8000000 in
set_option maxRecDepth 100000 in
theorem r_law15 {p : Program} {l : Launch} {e : Env} {s : State} {m : MethodId} {below : List Frame} {meth : Method} {c : Code} {D : va_G} {cI cZ cA cL : ClassId} {ad sa : Nat → Nat} {b N : Nat} {xs : Nat → Int32} (Z : LCX p l e s m meth c b N xs D cI cZ cA cL ad sa) (cells slots : Nat) (hcell : cells + 20 ≤ 601024) (hslot : slots + 120 ≤ 7293034) :
    ruL (Ru p l e room_1 s m #[Value.ref b] below meth c cells slots (lw_Z below #[Value.ref b] s) 7 D cI cZ cA cL ad (AA ad s.heap.size) s.heap) 1075 (T_law15 (fun d => WS p l e room_1 s m #[Value.ref b] below meth c (cells + d) (slots + 6 * d) (lw_Z below #[Value.ref b] s) 7 D cI cZ cA cL ad (AA ad s.heap.size) s.heap) N xs) := by
  obtain ⟨hx, hb, hml, hown, hts, hr, hlocks, hK, hN, hX, hC, hXs, hbl, hbA, had, hi, hlt, hA9⟩ := Z
  refine ruL_c (n := 1075) (n2 := 1076) rfl (ru_aload_n (k := 1) hx hb dL_law_1075) ?_
  refine ruL_c (n := 1076) (n2 := 1077) rfl (ru_aload_n (k := 0) hx hb dL_law_1076) ?_
  refine ruL_c (n := 1077) (n2 := 1078) rfl (ru_iload hx hb dL_law_1077) ?_
  refine ruL_c (n := 1078) (n2 := 1079) rfl (ru_bot) ?_
  refine ruL_c (n := 1079) (n2 := 1080) rfl (ru_iconst hx hb dL_law_1079 rfl) ?_
  refine ruL_c (n := 1080) (n2 := 1081) rfl (ru_iadd hx hb dL_law_1080) ?_
  refine ruL_c (n := 1081) (n2 := 1082) rfl (ru_sld hx hb hXs hbl hbA had dL_law_1081) ?_
  refine ruL_c (n := 1082) (n2 := 1083) rfl (ru_aload_n (k := 0) hx hb dL_law_1082) ?_
  refine ruL_c (n := 1083) (n2 := 1084) rfl (ru_iload hx hb dL_law_1083) ?_
  refine ruL_c (n := 1084) (n2 := 1085) rfl (ru_bot) ?_
  refine ruL_c (n := 1085) (n2 := 1086) rfl (ru_iconst hx hb dL_law_1085 rfl) ?_
  refine ruL_c (n := 1086) (n2 := 1087) rfl (ru_iadd hx hb dL_law_1086) ?_
  refine ruL_c (n := 1087) (n2 := 1088) rfl (ru_sld hx hb hXs hbl hbA had dL_law_1087) ?_
  refine ruL_c (n := 1088) (n2 := 1089) rfl (ru_aload_n (k := 3) hx hb dL_law_1088) ?_
  refine ruL_c (n := 1089) (n2 := 1090) rfl (ru_callW (own := RL) hx hb hml hown hts hK hN hX hC (c_L_levelAt l hlt D cI cZ cA cL ad sa hi) (vx_cwSW 4 hts gL_law_L_levelAt rfl rfl rfl (by decide +kernel) ⟨Nat.le_of_ble_eq_true rfl, Nat.le_of_ble_eq_true rfl⟩) dL_law_1089 ⟨Nat.le_trans (Nat.add_le_add_left (by decide) _) hcell, Nat.le_trans (Nat.add_le_add_left (by decide) _) hslot⟩) ?_
  refine ruL_c (n := 1090) (n2 := 1091) rfl (ru_bot) ?_
  refine ruL_c (n := 1091) (n2 := 1092) rfl (ru_bot) ?_
  refine ruL_c (n := 1092) (n2 := 1093) rfl (ru_istore hx hb dL_law_1092) ?_
  refine ruL_c (n := 1093) (n2 := 1094) rfl (ru_bot) ?_
  refine ruL_c (n := 1094) (n2 := 1095) rfl (ru_aload_n (k := 2) hx hb dL_law_1094) ?_
  refine ruL_c (n := 1095) (n2 := 1096) rfl (ru_aload_n (k := 0) hx hb dL_law_1095) ?_
  refine ruL_c (n := 1096) (n2 := 1097) rfl (ru_iload hx hb dL_law_1096) ?_
  refine ruL_c (n := 1097) (n2 := 1098) rfl (ru_bot) ?_
  refine ruL_c (n := 1098) (n2 := 1099) rfl (ru_iconst hx hb dL_law_1098 rfl) ?_
  refine ruL_c (n := 1099) (n2 := 1100) rfl (ru_iadd hx hb dL_law_1099) ?_
  refine ruL_c (n := 1100) (n2 := 1101) rfl (ru_sld hx hb hXs hbl hbA had dL_law_1100) ?_
  refine ruL_c (n := 1101) (n2 := 1102) rfl (ru_aload_n (k := 0) hx hb dL_law_1101) ?_
  refine ruL_c (n := 1102) (n2 := 1103) rfl (ru_iload hx hb dL_law_1102) ?_
  refine ruL_c (n := 1103) (n2 := 1104) rfl (ru_bot) ?_
  refine ruL_c (n := 1104) (n2 := 1105) rfl (ru_iconst hx hb dL_law_1104 rfl) ?_
  refine ruL_c (n := 1105) (n2 := 1106) rfl (ru_iadd hx hb dL_law_1105) ?_
  refine ruL_c (n := 1106) (n2 := 1107) rfl (ru_sld hx hb hXs hbl hbA had dL_law_1106) ?_
  refine ruL_c (n := 1107) (n2 := 1108) rfl (ru_callV (own := RL) hx hb hml hown hts hK hN (by decide) rfl (c_X6_levelAt l D cI cZ cA cL ad hi) (cwV 2 hts gL_law_X6_levelAt rfl rfl rfl (by decide +kernel) ⟨Nat.le_of_ble_eq_true rfl, Nat.le_of_ble_eq_true rfl⟩) dL_law_1107 ⟨Nat.le_trans (Nat.le_add_right _ 20) hcell, Nat.le_trans (Nat.le_add_right _ 120) hslot⟩) ?_
  refine ruL_c (n := 1108) (n2 := 1109) rfl (ru_bot) ?_
  refine ruL_c (n := 1109) (n2 := 1110) rfl (ru_bot) ?_
  refine ruL_c (n := 1110) (n2 := 1111) rfl (ru_istore hx hb dL_law_1110) ?_
  refine ruL_c (n := 1111) (n2 := 1112) rfl (ru_bot) ?_
  refine ruL_c (n := 1112) (n2 := 1113) rfl (ru_aload_n (k := 2) hx hb dL_law_1112) ?_
  refine ruL_c (n := 1113) (n2 := 1114) rfl (ru_callV (own := RL) hx hb hml hown hts hK hN (by decide) rfl (c_X6_thrown l D cI cZ cA cL ad hi) (cwV 0 hts gL_law_X6_thrown rfl rfl rfl (by decide +kernel) ⟨Nat.le_of_ble_eq_true rfl, Nat.le_of_ble_eq_true rfl⟩) dL_law_1113 ⟨Nat.le_trans (Nat.le_add_right _ 20) hcell, Nat.le_trans (Nat.le_add_right _ 120) hslot⟩) ?_
  refine ruL_c (n := 1114) (n2 := 1115) rfl (ru_bot) ?_
  refine ruL_c (n := 1115) (n2 := 1116) rfl (ru_bot) ?_
  refine ruL_c (n := 1116) (n2 := 1117) rfl (ru_iload hx hb dL_law_1116) ?_
  refine ruL_c (n := 1117) (n2 := 1118) rfl (ru_bot) ?_
  refine ruL_c (n := 1118) (n2 := 1119) rfl (ru_icmpeq hx hb dL_law_1118 (by decide)) ?_
  refine ruL_c (n := 1119) (n2 := 1120) rfl (ru_bot) ?_
  refine ruL_c (n := 1120) (n2 := 1121) rfl (ru_bot) ?_
  refine ruL_c (n := 1121) (n2 := 1122) rfl (ru_iconst hx hb dL_law_1121 rfl) ?_
  refine ruL_c (n := 1122) (n2 := 1123) rfl (ru_lret hx hb hr hlocks hA9 dL_law_1122 hcell hslot) ?_
  refine ruL_c (n := 1123) (n2 := 1124) rfl (ru_iload hx hb dL_law_1123) ?_
  refine ruL_c (n := 1124) (n2 := 1125) rfl (ru_bot) ?_
  refine ruL_c (n := 1125) (n2 := 1126) rfl (ru_ifne hx hb dL_law_1125 (by decide)) ?_
  refine ruL_c (n := 1126) (n2 := 1127) rfl (ru_bot) ?_
  refine ruL_c (n := 1127) (n2 := 1128) rfl (ru_bot) ?_
  refine ruL_c (n := 1128) (n2 := 1129) rfl (ru_aload_n (k := 3) hx hb dL_law_1128) ?_
  refine ruL_c (n := 1129) (n2 := 1130) rfl (ru_iconst hx hb dL_law_1129 rfl) ?_
  refine ruL_c (n := 1130) (n2 := 1131) rfl (ru_lald hx hb hK dL_law_1130) ?_
  refine ruL_c (n := 1131) (n2 := 1132) rfl (ru_iload hx hb dL_law_1131) ?_
  refine ruL_c (n := 1132) (n2 := 1133) rfl (ru_bot) ?_
  refine ruL_c (n := 1133) (n2 := 1134) rfl (ru_i2l hx hb dL_law_1133) ?_
  refine ruL_c (n := 1134) (n2 := 1135) rfl (ru_lcmp hx hb dL_law_1134) ?_
  refine ruL_c (n := 1135) (n2 := 1136) rfl (ru_ifeq hx hb dL_law_1135 (by decide)) ?_
  refine ruL_c (n := 1136) (n2 := 1137) rfl (ru_bot) ?_
  refine ruL_c (n := 1137) (n2 := 1138) rfl (ru_bot) ?_
  refine ruL_c (n := 1138) (n2 := 1139) rfl (ru_iconst hx hb dL_law_1138 rfl) ?_
  refine ruL_c (n := 1139) (n2 := 1140) rfl (ru_lret hx hb hr hlocks hA9 dL_law_1139 hcell hslot) ?_
  refine ruL_c (n := 1140) (n2 := 1141) rfl (ru_goto hx hb dL_law_1140 (by decide)) ?_
  refine ruL_c (n := 1141) (n2 := 1142) rfl (ru_bot) ?_
  refine ruL_c (n := 1142) (n2 := 1143) rfl (ru_bot) ?_
  exact trivial
set_option maxHeartbeats 8000000 in
set_option maxRecDepth 100000 in
theorem k_law15 {CP : aM → Prop} {N : Nat} {xs : Nat → Int32} {K : Nat → aS → Prop} (hw : ∀ c, c ≤ 8000 → ∀ n x, wpB 1075 (T_law15 (fun d => K (c + d)) N xs) n (K c) x → K c x) (hf : ∀ c pc L i st σ, K c (pc, L.set i .null, st, σ) → K c (pc, L, st, σ)) (ag : ∀ p0 p1 : Int32, agW CP (f_L_levelAt p0 p1) (f_X6_levelAt p0 p1)) (c i : Nat) (hc : c ≤ 7900) (g1 : inb (nI i + 1) N = true) (g2 : inb (nI i + 2) N = true) (g3 : inb (nI i + 3) N = true) (g4 : inb (nI i + 4) N = true) (σ : aM) (hCP : CP σ)
    (hback : ∀ c2 σ2, c2 ≤ c + 12 → CP σ2 → K c2 (2234, [.ref 200, .ref 0, .ref 6, .ref 178, .int (nI i), .null, .null], [], σ2)) : K c (1075, [.ref 200, .ref 0, .ref 6, .ref 178, .int (nI i), .null, .null], [], σ) := by
  obtain ⟨k1, σ1, b1, σ2, e1, e2, e3, e4, hcp⟩ := ag (xs (ix (nI i + 1))) (xs (ix (nI i + 2))) σ hCP
  refine hw c (by omega) 13 _ ?_
  show inb (nI i + 1) N = true ∧ (inb (nI i + 2) N = true ∧ (∃ k1 σ1, f_L_levelAt (xs (ix (nI i + 1))) (xs (ix (nI i + 2))) σ = some (k1, σ1) ∧ K (c + 6) (1092, [.ref 200, .ref 0, .ref 6, .ref 178, .int (nI i), .null, .null], [.int k1], σ1)))
  refine ⟨g1, g2, ⟨k1, σ1, e1, ?_⟩⟩
  refine hw (c + 6) (by omega) 13 _ ?_
  show inb (nI i + 1) N = true ∧ (inb (nI i + 2) N = true ∧ (∃ b1 σ2, f_X6_levelAt (xs (ix (nI i + 1))) (xs (ix (nI i + 2))) σ1 = some (b1, σ2) ∧ K (c + 6) (1110, [.ref 200, .ref 0, .ref 6, .ref 178, .int (nI i), .int k1, .null], [.int b1], σ2)))
  refine ⟨g1, g2, ⟨b1, σ2, e2, ?_⟩⟩
  refine hw (c + 6) (by omega) 3 _ ?_
  show ∃ r3 σ3, f_X6_thrown σ2 = some (r3, σ3) ∧ K (c + 6) (1116, [.ref 200, .ref 0, .ref 6, .ref 178, .int (nI i), .int k1, .int b1], [.int r3], σ3)
  refine ⟨σ2 6 0, σ2, rfl, ?_⟩
  refine hw (c + 6) (by omega) 2 _ ?_
  show (((σ2 6 0) = k1) → K (c + 6) (1123, [.ref 200, .ref 0, .ref 6, .ref 178, .int (nI i), .int k1, .int b1], [], σ2)) ∧ (¬ ((σ2 6 0) = k1) → K (c + 6) (1121, [.ref 200, .ref 0, .ref 6, .ref 178, .int (nI i), .int k1, .int b1], [], σ2))
  refine ⟨fun _ => ?_, fun q => absurd e3 q⟩
  by_cases hk : k1 = 0
  · have hz : σ2 178 (ix 0) = b1 := e4 hk
    refine hw (c + 6) (by omega) 2 _ ?_
    show ((¬ k1 = 0) → K (c + 6) (1140, [.ref 200, .ref 0, .ref 6, .ref 178, .int (nI i), .int k1, .int b1], [], σ2)) ∧ (¬ (¬ k1 = 0) → K (c + 6) (1128, [.ref 200, .ref 0, .ref 6, .ref 178, .int (nI i), .int k1, .int b1], [], σ2))
    refine ⟨fun q => absurd hk q, fun _ => ?_⟩
    refine hw (c + 6) (by omega) 7 _ ?_
    show kd 178 = 4 ∧ (inb 0 1 = true ∧ ((((lg_cmp (σ2 178 (ix 0)).toInt64 b1.toInt64) = 0) → K (c + 6) (1140, [.ref 200, .ref 0, .ref 6, .ref 178, .int (nI i), .int k1, .int b1], [], σ2)) ∧ (¬ ((lg_cmp (σ2 178 (ix 0)).toInt64 b1.toInt64) = 0) → K (c + 6) (1138, [.ref 200, .ref 0, .ref 6, .ref 178, .int (nI i), .int k1, .int b1], [], σ2))))
    refine ⟨rfl, by decide, ⟨fun _ => ?_, fun q => absurd (by rw [hz]; exact lcmp_eq _) q⟩⟩
    refine hw (c + 6) (by omega) 1 _ ?_
    show K (c + 6) (2234, [.ref 200, .ref 0, .ref 6, .ref 178, .int (nI i), .int k1, .int b1], [], σ2)
    refine hf _ _ _ 5 _ _ ?_
    show K (c + 6) (2234, [.ref 200, .ref 0, .ref 6, .ref 178, .int (nI i), .null, .int b1], [], σ2)
    refine hf _ _ _ 6 _ _ ?_
    show K (c + 6) (2234, [.ref 200, .ref 0, .ref 6, .ref 178, .int (nI i), .null, .null], [], σ2)
    exact hback _ _ (by omega) hcp
  · refine hw (c + 6) (by omega) 2 _ ?_
    show ((¬ k1 = 0) → K (c + 6) (1140, [.ref 200, .ref 0, .ref 6, .ref 178, .int (nI i), .int k1, .int b1], [], σ2)) ∧ (¬ (¬ k1 = 0) → K (c + 6) (1128, [.ref 200, .ref 0, .ref 6, .ref 178, .int (nI i), .int k1, .int b1], [], σ2))
    refine ⟨fun _ => ?_, fun q => absurd hk q⟩
    refine hw (c + 6) (by omega) 1 _ ?_
    show K (c + 6) (2234, [.ref 200, .ref 0, .ref 6, .ref 178, .int (nI i), .int k1, .int b1], [], σ2)
    refine hf _ _ _ 5 _ _ ?_
    show K (c + 6) (2234, [.ref 200, .ref 0, .ref 6, .ref 178, .int (nI i), .null, .int b1], [], σ2)
    refine hf _ _ _ 6 _ _ ?_
    show K (c + 6) (2234, [.ref 200, .ref 0, .ref 6, .ref 178, .int (nI i), .null, .null], [], σ2)
    exact hback _ _ (by omega) hcp
def T_law16 (KN : Nat → aS → Prop) (N : Nat) (xs : Nat → Int32) : List aI := [I_aload 1 1, I_aload 0 1, I_iload 4 2, I_bot, I_const 1 1, I_bin fun x y => x + y, I_sld N xs, I_aload 0 1, I_iload 4 2, I_bot, I_const 2 1, I_bin fun x y => x + y, I_sld N xs, I_aload 3 1, I_callW 4 F_L_levelBySeconds (KN 6), I_bot, I_bot, I_istore 5 2, I_bot, I_aload 2 1, I_aload 0 1, I_iload 4 2, I_bot, I_const 1 1, I_bin fun x y => x + y, I_sld N xs, I_aload 0 1, I_iload 4 2, I_bot, I_const 2 1, I_bin fun x y => x + y, I_sld N xs, I_callV 6 2 F_X6_levelBySeconds, I_bot, I_bot, I_istore 6 2, I_bot, I_aload 2 1, I_callV 6 0 F_X6_thrown, I_bot, I_bot, I_iload 5 2, I_bot, I_icmp (fun x y => x = y) 1191, I_bot, I_bot, I_const 0 1, I_lret, I_iload 5 2, I_bot, I_if (fun x => ¬ x = 0) 1208, I_bot, I_bot, I_aload 3 1, I_const 0 1, I_lald, I_iload 6 2, I_bot, I_i2l, I_lcmp, I_if (fun x => x = 0) 1208, I_bot, I_bot, I_const 0 1, I_lret, I_goto 2234, I_bot, I_bot]
set_option maxHeartbeats 8000000 in
set_option maxRecDepth 100000 in
theorem r_law16 {p : Program} {l : Launch} {e : Env} {s : State} {m : MethodId} {below : List Frame} {meth : Method} {c : Code} {D : va_G} {cI cZ cA cL : ClassId} {ad sa : Nat → Nat} {b N : Nat} {xs : Nat → Int32} (Z : LCX p l e s m meth c b N xs D cI cZ cA cL ad sa) (cells slots : Nat) (hcell : cells + 20 ≤ 601024) (hslot : slots + 120 ≤ 7293034) :
    ruL (Ru p l e room_1 s m #[Value.ref b] below meth c cells slots (lw_Z below #[Value.ref b] s) 7 D cI cZ cA cL ad (AA ad s.heap.size) s.heap) 1143 (T_law16 (fun d => WS p l e room_1 s m #[Value.ref b] below meth c (cells + d) (slots + 6 * d) (lw_Z below #[Value.ref b] s) 7 D cI cZ cA cL ad (AA ad s.heap.size) s.heap) N xs) := by
  obtain ⟨hx, hb, hml, hown, hts, hr, hlocks, hK, hN, hX, hC, hXs, hbl, hbA, had, hi, hlt, hA9⟩ := Z
  refine ruL_c (n := 1143) (n2 := 1144) rfl (ru_aload_n (k := 1) hx hb dL_law_1143) ?_
  refine ruL_c (n := 1144) (n2 := 1145) rfl (ru_aload_n (k := 0) hx hb dL_law_1144) ?_
  refine ruL_c (n := 1145) (n2 := 1146) rfl (ru_iload hx hb dL_law_1145) ?_
  refine ruL_c (n := 1146) (n2 := 1147) rfl (ru_bot) ?_
  refine ruL_c (n := 1147) (n2 := 1148) rfl (ru_iconst hx hb dL_law_1147 rfl) ?_
  refine ruL_c (n := 1148) (n2 := 1149) rfl (ru_iadd hx hb dL_law_1148) ?_
  refine ruL_c (n := 1149) (n2 := 1150) rfl (ru_sld hx hb hXs hbl hbA had dL_law_1149) ?_
  refine ruL_c (n := 1150) (n2 := 1151) rfl (ru_aload_n (k := 0) hx hb dL_law_1150) ?_
  refine ruL_c (n := 1151) (n2 := 1152) rfl (ru_iload hx hb dL_law_1151) ?_
  refine ruL_c (n := 1152) (n2 := 1153) rfl (ru_bot) ?_
  refine ruL_c (n := 1153) (n2 := 1154) rfl (ru_iconst hx hb dL_law_1153 rfl) ?_
  refine ruL_c (n := 1154) (n2 := 1155) rfl (ru_iadd hx hb dL_law_1154) ?_
  refine ruL_c (n := 1155) (n2 := 1156) rfl (ru_sld hx hb hXs hbl hbA had dL_law_1155) ?_
  refine ruL_c (n := 1156) (n2 := 1157) rfl (ru_aload_n (k := 3) hx hb dL_law_1156) ?_
  refine ruL_c (n := 1157) (n2 := 1158) rfl (ru_callW (own := RL) hx hb hml hown hts hK hN hX hC (c_L_levelBySeconds l hlt D cI cZ cA cL ad sa hi) (vx_cwSW 4 hts gL_law_L_levelBySeconds rfl rfl rfl (by decide +kernel) ⟨Nat.le_of_ble_eq_true rfl, Nat.le_of_ble_eq_true rfl⟩) dL_law_1157 ⟨Nat.le_trans (Nat.add_le_add_left (by decide) _) hcell, Nat.le_trans (Nat.add_le_add_left (by decide) _) hslot⟩) ?_
  refine ruL_c (n := 1158) (n2 := 1159) rfl (ru_bot) ?_
  refine ruL_c (n := 1159) (n2 := 1160) rfl (ru_bot) ?_
  refine ruL_c (n := 1160) (n2 := 1161) rfl (ru_istore hx hb dL_law_1160) ?_
  refine ruL_c (n := 1161) (n2 := 1162) rfl (ru_bot) ?_
  refine ruL_c (n := 1162) (n2 := 1163) rfl (ru_aload_n (k := 2) hx hb dL_law_1162) ?_
  refine ruL_c (n := 1163) (n2 := 1164) rfl (ru_aload_n (k := 0) hx hb dL_law_1163) ?_
  refine ruL_c (n := 1164) (n2 := 1165) rfl (ru_iload hx hb dL_law_1164) ?_
  refine ruL_c (n := 1165) (n2 := 1166) rfl (ru_bot) ?_
  refine ruL_c (n := 1166) (n2 := 1167) rfl (ru_iconst hx hb dL_law_1166 rfl) ?_
  refine ruL_c (n := 1167) (n2 := 1168) rfl (ru_iadd hx hb dL_law_1167) ?_
  refine ruL_c (n := 1168) (n2 := 1169) rfl (ru_sld hx hb hXs hbl hbA had dL_law_1168) ?_
  refine ruL_c (n := 1169) (n2 := 1170) rfl (ru_aload_n (k := 0) hx hb dL_law_1169) ?_
  refine ruL_c (n := 1170) (n2 := 1171) rfl (ru_iload hx hb dL_law_1170) ?_
  refine ruL_c (n := 1171) (n2 := 1172) rfl (ru_bot) ?_
  refine ruL_c (n := 1172) (n2 := 1173) rfl (ru_iconst hx hb dL_law_1172 rfl) ?_
  refine ruL_c (n := 1173) (n2 := 1174) rfl (ru_iadd hx hb dL_law_1173) ?_
  refine ruL_c (n := 1174) (n2 := 1175) rfl (ru_sld hx hb hXs hbl hbA had dL_law_1174) ?_
  refine ruL_c (n := 1175) (n2 := 1176) rfl (ru_callV (own := RL) hx hb hml hown hts hK hN (by decide) rfl (c_X6_levelBySeconds l D cI cZ cA cL ad hi) (cwV 2 hts gL_law_X6_levelBySeconds rfl rfl rfl (by decide +kernel) ⟨Nat.le_of_ble_eq_true rfl, Nat.le_of_ble_eq_true rfl⟩) dL_law_1175 ⟨Nat.le_trans (Nat.le_add_right _ 20) hcell, Nat.le_trans (Nat.le_add_right _ 120) hslot⟩) ?_
  refine ruL_c (n := 1176) (n2 := 1177) rfl (ru_bot) ?_
  refine ruL_c (n := 1177) (n2 := 1178) rfl (ru_bot) ?_
  refine ruL_c (n := 1178) (n2 := 1179) rfl (ru_istore hx hb dL_law_1178) ?_
  refine ruL_c (n := 1179) (n2 := 1180) rfl (ru_bot) ?_
  refine ruL_c (n := 1180) (n2 := 1181) rfl (ru_aload_n (k := 2) hx hb dL_law_1180) ?_
  refine ruL_c (n := 1181) (n2 := 1182) rfl (ru_callV (own := RL) hx hb hml hown hts hK hN (by decide) rfl (c_X6_thrown l D cI cZ cA cL ad hi) (cwV 0 hts gL_law_X6_thrown rfl rfl rfl (by decide +kernel) ⟨Nat.le_of_ble_eq_true rfl, Nat.le_of_ble_eq_true rfl⟩) dL_law_1181 ⟨Nat.le_trans (Nat.le_add_right _ 20) hcell, Nat.le_trans (Nat.le_add_right _ 120) hslot⟩) ?_
  refine ruL_c (n := 1182) (n2 := 1183) rfl (ru_bot) ?_
  refine ruL_c (n := 1183) (n2 := 1184) rfl (ru_bot) ?_
  refine ruL_c (n := 1184) (n2 := 1185) rfl (ru_iload hx hb dL_law_1184) ?_
  refine ruL_c (n := 1185) (n2 := 1186) rfl (ru_bot) ?_
  refine ruL_c (n := 1186) (n2 := 1187) rfl (ru_icmpeq hx hb dL_law_1186 (by decide)) ?_
  refine ruL_c (n := 1187) (n2 := 1188) rfl (ru_bot) ?_
  refine ruL_c (n := 1188) (n2 := 1189) rfl (ru_bot) ?_
  refine ruL_c (n := 1189) (n2 := 1190) rfl (ru_iconst hx hb dL_law_1189 rfl) ?_
  refine ruL_c (n := 1190) (n2 := 1191) rfl (ru_lret hx hb hr hlocks hA9 dL_law_1190 hcell hslot) ?_
  refine ruL_c (n := 1191) (n2 := 1192) rfl (ru_iload hx hb dL_law_1191) ?_
  refine ruL_c (n := 1192) (n2 := 1193) rfl (ru_bot) ?_
  refine ruL_c (n := 1193) (n2 := 1194) rfl (ru_ifne hx hb dL_law_1193 (by decide)) ?_
  refine ruL_c (n := 1194) (n2 := 1195) rfl (ru_bot) ?_
  refine ruL_c (n := 1195) (n2 := 1196) rfl (ru_bot) ?_
  refine ruL_c (n := 1196) (n2 := 1197) rfl (ru_aload_n (k := 3) hx hb dL_law_1196) ?_
  refine ruL_c (n := 1197) (n2 := 1198) rfl (ru_iconst hx hb dL_law_1197 rfl) ?_
  refine ruL_c (n := 1198) (n2 := 1199) rfl (ru_lald hx hb hK dL_law_1198) ?_
  refine ruL_c (n := 1199) (n2 := 1200) rfl (ru_iload hx hb dL_law_1199) ?_
  refine ruL_c (n := 1200) (n2 := 1201) rfl (ru_bot) ?_
  refine ruL_c (n := 1201) (n2 := 1202) rfl (ru_i2l hx hb dL_law_1201) ?_
  refine ruL_c (n := 1202) (n2 := 1203) rfl (ru_lcmp hx hb dL_law_1202) ?_
  refine ruL_c (n := 1203) (n2 := 1204) rfl (ru_ifeq hx hb dL_law_1203 (by decide)) ?_
  refine ruL_c (n := 1204) (n2 := 1205) rfl (ru_bot) ?_
  refine ruL_c (n := 1205) (n2 := 1206) rfl (ru_bot) ?_
  refine ruL_c (n := 1206) (n2 := 1207) rfl (ru_iconst hx hb dL_law_1206 rfl) ?_
  refine ruL_c (n := 1207) (n2 := 1208) rfl (ru_lret hx hb hr hlocks hA9 dL_law_1207 hcell hslot) ?_
  refine ruL_c (n := 1208) (n2 := 1209) rfl (ru_goto hx hb dL_law_1208 (by decide)) ?_
  refine ruL_c (n := 1209) (n2 := 1210) rfl (ru_bot) ?_
  refine ruL_c (n := 1210) (n2 := 1211) rfl (ru_bot) ?_
  exact trivial
set_option maxHeartbeats 8000000 in
set_option maxRecDepth 100000 in
theorem k_law16 {CP : aM → Prop} {N : Nat} {xs : Nat → Int32} {K : Nat → aS → Prop} (hw : ∀ c, c ≤ 8000 → ∀ n x, wpB 1143 (T_law16 (fun d => K (c + d)) N xs) n (K c) x → K c x) (hf : ∀ c pc L i st σ, K c (pc, L.set i .null, st, σ) → K c (pc, L, st, σ)) (ag : ∀ p0 p1 : Int32, agW CP (f_L_levelBySeconds p0 p1) (f_X6_levelBySeconds p0 p1)) (c i : Nat) (hc : c ≤ 7900) (g1 : inb (nI i + 1) N = true) (g2 : inb (nI i + 2) N = true) (g3 : inb (nI i + 3) N = true) (g4 : inb (nI i + 4) N = true) (σ : aM) (hCP : CP σ)
    (hback : ∀ c2 σ2, c2 ≤ c + 12 → CP σ2 → K c2 (2234, [.ref 200, .ref 0, .ref 6, .ref 178, .int (nI i), .null, .null], [], σ2)) : K c (1143, [.ref 200, .ref 0, .ref 6, .ref 178, .int (nI i), .null, .null], [], σ) := by
  obtain ⟨k1, σ1, b1, σ2, e1, e2, e3, e4, hcp⟩ := ag (xs (ix (nI i + 1))) (xs (ix (nI i + 2))) σ hCP
  refine hw c (by omega) 13 _ ?_
  show inb (nI i + 1) N = true ∧ (inb (nI i + 2) N = true ∧ (∃ k1 σ1, f_L_levelBySeconds (xs (ix (nI i + 1))) (xs (ix (nI i + 2))) σ = some (k1, σ1) ∧ K (c + 6) (1160, [.ref 200, .ref 0, .ref 6, .ref 178, .int (nI i), .null, .null], [.int k1], σ1)))
  refine ⟨g1, g2, ⟨k1, σ1, e1, ?_⟩⟩
  refine hw (c + 6) (by omega) 13 _ ?_
  show inb (nI i + 1) N = true ∧ (inb (nI i + 2) N = true ∧ (∃ b1 σ2, f_X6_levelBySeconds (xs (ix (nI i + 1))) (xs (ix (nI i + 2))) σ1 = some (b1, σ2) ∧ K (c + 6) (1178, [.ref 200, .ref 0, .ref 6, .ref 178, .int (nI i), .int k1, .null], [.int b1], σ2)))
  refine ⟨g1, g2, ⟨b1, σ2, e2, ?_⟩⟩
  refine hw (c + 6) (by omega) 3 _ ?_
  show ∃ r3 σ3, f_X6_thrown σ2 = some (r3, σ3) ∧ K (c + 6) (1184, [.ref 200, .ref 0, .ref 6, .ref 178, .int (nI i), .int k1, .int b1], [.int r3], σ3)
  refine ⟨σ2 6 0, σ2, rfl, ?_⟩
  refine hw (c + 6) (by omega) 2 _ ?_
  show (((σ2 6 0) = k1) → K (c + 6) (1191, [.ref 200, .ref 0, .ref 6, .ref 178, .int (nI i), .int k1, .int b1], [], σ2)) ∧ (¬ ((σ2 6 0) = k1) → K (c + 6) (1189, [.ref 200, .ref 0, .ref 6, .ref 178, .int (nI i), .int k1, .int b1], [], σ2))
  refine ⟨fun _ => ?_, fun q => absurd e3 q⟩
  by_cases hk : k1 = 0
  · have hz : σ2 178 (ix 0) = b1 := e4 hk
    refine hw (c + 6) (by omega) 2 _ ?_
    show ((¬ k1 = 0) → K (c + 6) (1208, [.ref 200, .ref 0, .ref 6, .ref 178, .int (nI i), .int k1, .int b1], [], σ2)) ∧ (¬ (¬ k1 = 0) → K (c + 6) (1196, [.ref 200, .ref 0, .ref 6, .ref 178, .int (nI i), .int k1, .int b1], [], σ2))
    refine ⟨fun q => absurd hk q, fun _ => ?_⟩
    refine hw (c + 6) (by omega) 7 _ ?_
    show kd 178 = 4 ∧ (inb 0 1 = true ∧ ((((lg_cmp (σ2 178 (ix 0)).toInt64 b1.toInt64) = 0) → K (c + 6) (1208, [.ref 200, .ref 0, .ref 6, .ref 178, .int (nI i), .int k1, .int b1], [], σ2)) ∧ (¬ ((lg_cmp (σ2 178 (ix 0)).toInt64 b1.toInt64) = 0) → K (c + 6) (1206, [.ref 200, .ref 0, .ref 6, .ref 178, .int (nI i), .int k1, .int b1], [], σ2))))
    refine ⟨rfl, by decide, ⟨fun _ => ?_, fun q => absurd (by rw [hz]; exact lcmp_eq _) q⟩⟩
    refine hw (c + 6) (by omega) 1 _ ?_
    show K (c + 6) (2234, [.ref 200, .ref 0, .ref 6, .ref 178, .int (nI i), .int k1, .int b1], [], σ2)
    refine hf _ _ _ 5 _ _ ?_
    show K (c + 6) (2234, [.ref 200, .ref 0, .ref 6, .ref 178, .int (nI i), .null, .int b1], [], σ2)
    refine hf _ _ _ 6 _ _ ?_
    show K (c + 6) (2234, [.ref 200, .ref 0, .ref 6, .ref 178, .int (nI i), .null, .null], [], σ2)
    exact hback _ _ (by omega) hcp
  · refine hw (c + 6) (by omega) 2 _ ?_
    show ((¬ k1 = 0) → K (c + 6) (1208, [.ref 200, .ref 0, .ref 6, .ref 178, .int (nI i), .int k1, .int b1], [], σ2)) ∧ (¬ (¬ k1 = 0) → K (c + 6) (1196, [.ref 200, .ref 0, .ref 6, .ref 178, .int (nI i), .int k1, .int b1], [], σ2))
    refine ⟨fun _ => ?_, fun q => absurd hk q⟩
    refine hw (c + 6) (by omega) 1 _ ?_
    show K (c + 6) (2234, [.ref 200, .ref 0, .ref 6, .ref 178, .int (nI i), .int k1, .int b1], [], σ2)
    refine hf _ _ _ 5 _ _ ?_
    show K (c + 6) (2234, [.ref 200, .ref 0, .ref 6, .ref 178, .int (nI i), .null, .int b1], [], σ2)
    refine hf _ _ _ 6 _ _ ?_
    show K (c + 6) (2234, [.ref 200, .ref 0, .ref 6, .ref 178, .int (nI i), .null, .null], [], σ2)
    exact hback _ _ (by omega) hcp
def T_law17 (KN : Nat → aS → Prop) (N : Nat) (xs : Nat → Int32) : List aI := [I_aload 1 1, I_aload 0 1, I_iload 4 2, I_bot, I_const 1 1, I_bin fun x y => x + y, I_sld N xs, I_aload 0 1, I_iload 4 2, I_bot, I_const 2 1, I_bin fun x y => x + y, I_sld N xs, I_aload 0 1, I_iload 4 2, I_bot, I_const 3 1, I_bin fun x y => x + y, I_sld N xs, I_aload 0 1, I_iload 4 2, I_bot, I_const 4 1, I_bin fun x y => x + y, I_sld N xs, I_aload 3 1, I_callW 6 F_L_addLamp (KN 12), I_bot, I_bot, I_istore 5 2, I_bot, I_aload 2 1, I_aload 0 1, I_iload 4 2, I_bot, I_const 1 1, I_bin fun x y => x + y, I_sld N xs, I_aload 0 1, I_iload 4 2, I_bot, I_const 2 1, I_bin fun x y => x + y, I_sld N xs, I_aload 0 1, I_iload 4 2, I_bot, I_const 3 1, I_bin fun x y => x + y, I_sld N xs, I_aload 0 1, I_iload 4 2, I_bot, I_const 4 1, I_bin fun x y => x + y, I_sld N xs, I_callV 6 4 F_X6_addLamp, I_bot, I_bot, I_istore 6 2, I_bot, I_aload 2 1, I_callV 6 0 F_X6_thrown, I_bot, I_bot, I_iload 5 2, I_bot, I_icmp (fun x y => x = y) 1283, I_bot, I_bot, I_const 0 1, I_lret, I_iload 5 2, I_bot, I_if (fun x => ¬ x = 0) 1300, I_bot, I_bot, I_aload 3 1, I_const 0 1, I_lald, I_iload 6 2, I_bot, I_i2l, I_lcmp, I_if (fun x => x = 0) 1300, I_bot, I_bot, I_const 0 1, I_lret, I_goto 2234, I_bot, I_bot]
set_option maxHeartbeats 8000000 in
set_option maxRecDepth 100000 in
theorem r_law17 {p : Program} {l : Launch} {e : Env} {s : State} {m : MethodId} {below : List Frame} {meth : Method} {c : Code} {D : va_G} {cI cZ cA cL : ClassId} {ad sa : Nat → Nat} {b N : Nat} {xs : Nat → Int32} (Z : LCX p l e s m meth c b N xs D cI cZ cA cL ad sa) (cells slots : Nat) (hcell : cells + 20 ≤ 601024) (hslot : slots + 120 ≤ 7293034) :
    ruL (Ru p l e room_1 s m #[Value.ref b] below meth c cells slots (lw_Z below #[Value.ref b] s) 7 D cI cZ cA cL ad (AA ad s.heap.size) s.heap) 1211 (T_law17 (fun d => WS p l e room_1 s m #[Value.ref b] below meth c (cells + d) (slots + 6 * d) (lw_Z below #[Value.ref b] s) 7 D cI cZ cA cL ad (AA ad s.heap.size) s.heap) N xs) := by
  obtain ⟨hx, hb, hml, hown, hts, hr, hlocks, hK, hN, hX, hC, hXs, hbl, hbA, had, hi, hlt, hA9⟩ := Z
  refine ruL_c (n := 1211) (n2 := 1212) rfl (ru_aload_n (k := 1) hx hb dL_law_1211) ?_
  refine ruL_c (n := 1212) (n2 := 1213) rfl (ru_aload_n (k := 0) hx hb dL_law_1212) ?_
  refine ruL_c (n := 1213) (n2 := 1214) rfl (ru_iload hx hb dL_law_1213) ?_
  refine ruL_c (n := 1214) (n2 := 1215) rfl (ru_bot) ?_
  refine ruL_c (n := 1215) (n2 := 1216) rfl (ru_iconst hx hb dL_law_1215 rfl) ?_
  refine ruL_c (n := 1216) (n2 := 1217) rfl (ru_iadd hx hb dL_law_1216) ?_
  refine ruL_c (n := 1217) (n2 := 1218) rfl (ru_sld hx hb hXs hbl hbA had dL_law_1217) ?_
  refine ruL_c (n := 1218) (n2 := 1219) rfl (ru_aload_n (k := 0) hx hb dL_law_1218) ?_
  refine ruL_c (n := 1219) (n2 := 1220) rfl (ru_iload hx hb dL_law_1219) ?_
  refine ruL_c (n := 1220) (n2 := 1221) rfl (ru_bot) ?_
  refine ruL_c (n := 1221) (n2 := 1222) rfl (ru_iconst hx hb dL_law_1221 rfl) ?_
  refine ruL_c (n := 1222) (n2 := 1223) rfl (ru_iadd hx hb dL_law_1222) ?_
  refine ruL_c (n := 1223) (n2 := 1224) rfl (ru_sld hx hb hXs hbl hbA had dL_law_1223) ?_
  refine ruL_c (n := 1224) (n2 := 1225) rfl (ru_aload_n (k := 0) hx hb dL_law_1224) ?_
  refine ruL_c (n := 1225) (n2 := 1226) rfl (ru_iload hx hb dL_law_1225) ?_
  refine ruL_c (n := 1226) (n2 := 1227) rfl (ru_bot) ?_
  refine ruL_c (n := 1227) (n2 := 1228) rfl (ru_iconst hx hb dL_law_1227 rfl) ?_
  refine ruL_c (n := 1228) (n2 := 1229) rfl (ru_iadd hx hb dL_law_1228) ?_
  refine ruL_c (n := 1229) (n2 := 1230) rfl (ru_sld hx hb hXs hbl hbA had dL_law_1229) ?_
  refine ruL_c (n := 1230) (n2 := 1231) rfl (ru_aload_n (k := 0) hx hb dL_law_1230) ?_
  refine ruL_c (n := 1231) (n2 := 1232) rfl (ru_iload hx hb dL_law_1231) ?_
  refine ruL_c (n := 1232) (n2 := 1233) rfl (ru_bot) ?_
  refine ruL_c (n := 1233) (n2 := 1234) rfl (ru_iconst hx hb dL_law_1233 rfl) ?_
  refine ruL_c (n := 1234) (n2 := 1235) rfl (ru_iadd hx hb dL_law_1234) ?_
  refine ruL_c (n := 1235) (n2 := 1236) rfl (ru_sld hx hb hXs hbl hbA had dL_law_1235) ?_
  refine ruL_c (n := 1236) (n2 := 1237) rfl (ru_aload_n (k := 3) hx hb dL_law_1236) ?_
  refine ruL_c (n := 1237) (n2 := 1238) rfl (ru_callW (own := RL) hx hb hml hown hts hK hN hX hC (c_L_addLamp l hlt D cI cZ cA cL ad sa hi) (vx_cwSW 6 hts gL_law_L_addLamp rfl rfl rfl (by decide +kernel) ⟨Nat.le_of_ble_eq_true rfl, Nat.le_of_ble_eq_true rfl⟩) dL_law_1237 ⟨Nat.le_trans (Nat.add_le_add_left (by decide) _) hcell, Nat.le_trans (Nat.add_le_add_left (by decide) _) hslot⟩) ?_
  refine ruL_c (n := 1238) (n2 := 1239) rfl (ru_bot) ?_
  refine ruL_c (n := 1239) (n2 := 1240) rfl (ru_bot) ?_
  refine ruL_c (n := 1240) (n2 := 1241) rfl (ru_istore hx hb dL_law_1240) ?_
  refine ruL_c (n := 1241) (n2 := 1242) rfl (ru_bot) ?_
  refine ruL_c (n := 1242) (n2 := 1243) rfl (ru_aload_n (k := 2) hx hb dL_law_1242) ?_
  refine ruL_c (n := 1243) (n2 := 1244) rfl (ru_aload_n (k := 0) hx hb dL_law_1243) ?_
  refine ruL_c (n := 1244) (n2 := 1245) rfl (ru_iload hx hb dL_law_1244) ?_
  refine ruL_c (n := 1245) (n2 := 1246) rfl (ru_bot) ?_
  refine ruL_c (n := 1246) (n2 := 1247) rfl (ru_iconst hx hb dL_law_1246 rfl) ?_
  refine ruL_c (n := 1247) (n2 := 1248) rfl (ru_iadd hx hb dL_law_1247) ?_
  refine ruL_c (n := 1248) (n2 := 1249) rfl (ru_sld hx hb hXs hbl hbA had dL_law_1248) ?_
  refine ruL_c (n := 1249) (n2 := 1250) rfl (ru_aload_n (k := 0) hx hb dL_law_1249) ?_
  refine ruL_c (n := 1250) (n2 := 1251) rfl (ru_iload hx hb dL_law_1250) ?_
  refine ruL_c (n := 1251) (n2 := 1252) rfl (ru_bot) ?_
  refine ruL_c (n := 1252) (n2 := 1253) rfl (ru_iconst hx hb dL_law_1252 rfl) ?_
  refine ruL_c (n := 1253) (n2 := 1254) rfl (ru_iadd hx hb dL_law_1253) ?_
  refine ruL_c (n := 1254) (n2 := 1255) rfl (ru_sld hx hb hXs hbl hbA had dL_law_1254) ?_
  refine ruL_c (n := 1255) (n2 := 1256) rfl (ru_aload_n (k := 0) hx hb dL_law_1255) ?_
  refine ruL_c (n := 1256) (n2 := 1257) rfl (ru_iload hx hb dL_law_1256) ?_
  refine ruL_c (n := 1257) (n2 := 1258) rfl (ru_bot) ?_
  refine ruL_c (n := 1258) (n2 := 1259) rfl (ru_iconst hx hb dL_law_1258 rfl) ?_
  refine ruL_c (n := 1259) (n2 := 1260) rfl (ru_iadd hx hb dL_law_1259) ?_
  refine ruL_c (n := 1260) (n2 := 1261) rfl (ru_sld hx hb hXs hbl hbA had dL_law_1260) ?_
  refine ruL_c (n := 1261) (n2 := 1262) rfl (ru_aload_n (k := 0) hx hb dL_law_1261) ?_
  refine ruL_c (n := 1262) (n2 := 1263) rfl (ru_iload hx hb dL_law_1262) ?_
  refine ruL_c (n := 1263) (n2 := 1264) rfl (ru_bot) ?_
  refine ruL_c (n := 1264) (n2 := 1265) rfl (ru_iconst hx hb dL_law_1264 rfl) ?_
  refine ruL_c (n := 1265) (n2 := 1266) rfl (ru_iadd hx hb dL_law_1265) ?_
  refine ruL_c (n := 1266) (n2 := 1267) rfl (ru_sld hx hb hXs hbl hbA had dL_law_1266) ?_
  refine ruL_c (n := 1267) (n2 := 1268) rfl (ru_callV (own := RL) hx hb hml hown hts hK hN (by decide) rfl (c_X6_addLamp l D cI cZ cA cL ad hi) (cwV 4 hts gL_law_X6_addLamp rfl rfl rfl (by decide +kernel) ⟨Nat.le_of_ble_eq_true rfl, Nat.le_of_ble_eq_true rfl⟩) dL_law_1267 ⟨Nat.le_trans (Nat.le_add_right _ 20) hcell, Nat.le_trans (Nat.le_add_right _ 120) hslot⟩) ?_
  refine ruL_c (n := 1268) (n2 := 1269) rfl (ru_bot) ?_
  refine ruL_c (n := 1269) (n2 := 1270) rfl (ru_bot) ?_
  refine ruL_c (n := 1270) (n2 := 1271) rfl (ru_istore hx hb dL_law_1270) ?_
  refine ruL_c (n := 1271) (n2 := 1272) rfl (ru_bot) ?_
  refine ruL_c (n := 1272) (n2 := 1273) rfl (ru_aload_n (k := 2) hx hb dL_law_1272) ?_
  refine ruL_c (n := 1273) (n2 := 1274) rfl (ru_callV (own := RL) hx hb hml hown hts hK hN (by decide) rfl (c_X6_thrown l D cI cZ cA cL ad hi) (cwV 0 hts gL_law_X6_thrown rfl rfl rfl (by decide +kernel) ⟨Nat.le_of_ble_eq_true rfl, Nat.le_of_ble_eq_true rfl⟩) dL_law_1273 ⟨Nat.le_trans (Nat.le_add_right _ 20) hcell, Nat.le_trans (Nat.le_add_right _ 120) hslot⟩) ?_
  refine ruL_c (n := 1274) (n2 := 1275) rfl (ru_bot) ?_
  refine ruL_c (n := 1275) (n2 := 1276) rfl (ru_bot) ?_
  refine ruL_c (n := 1276) (n2 := 1277) rfl (ru_iload hx hb dL_law_1276) ?_
  refine ruL_c (n := 1277) (n2 := 1278) rfl (ru_bot) ?_
  refine ruL_c (n := 1278) (n2 := 1279) rfl (ru_icmpeq hx hb dL_law_1278 (by decide)) ?_
  refine ruL_c (n := 1279) (n2 := 1280) rfl (ru_bot) ?_
  refine ruL_c (n := 1280) (n2 := 1281) rfl (ru_bot) ?_
  refine ruL_c (n := 1281) (n2 := 1282) rfl (ru_iconst hx hb dL_law_1281 rfl) ?_
  refine ruL_c (n := 1282) (n2 := 1283) rfl (ru_lret hx hb hr hlocks hA9 dL_law_1282 hcell hslot) ?_
  refine ruL_c (n := 1283) (n2 := 1284) rfl (ru_iload hx hb dL_law_1283) ?_
  refine ruL_c (n := 1284) (n2 := 1285) rfl (ru_bot) ?_
  refine ruL_c (n := 1285) (n2 := 1286) rfl (ru_ifne hx hb dL_law_1285 (by decide)) ?_
  refine ruL_c (n := 1286) (n2 := 1287) rfl (ru_bot) ?_
  refine ruL_c (n := 1287) (n2 := 1288) rfl (ru_bot) ?_
  refine ruL_c (n := 1288) (n2 := 1289) rfl (ru_aload_n (k := 3) hx hb dL_law_1288) ?_
  refine ruL_c (n := 1289) (n2 := 1290) rfl (ru_iconst hx hb dL_law_1289 rfl) ?_
  refine ruL_c (n := 1290) (n2 := 1291) rfl (ru_lald hx hb hK dL_law_1290) ?_
  refine ruL_c (n := 1291) (n2 := 1292) rfl (ru_iload hx hb dL_law_1291) ?_
  refine ruL_c (n := 1292) (n2 := 1293) rfl (ru_bot) ?_
  refine ruL_c (n := 1293) (n2 := 1294) rfl (ru_i2l hx hb dL_law_1293) ?_
  refine ruL_c (n := 1294) (n2 := 1295) rfl (ru_lcmp hx hb dL_law_1294) ?_
  refine ruL_c (n := 1295) (n2 := 1296) rfl (ru_ifeq hx hb dL_law_1295 (by decide)) ?_
  refine ruL_c (n := 1296) (n2 := 1297) rfl (ru_bot) ?_
  refine ruL_c (n := 1297) (n2 := 1298) rfl (ru_bot) ?_
  refine ruL_c (n := 1298) (n2 := 1299) rfl (ru_iconst hx hb dL_law_1298 rfl) ?_
  refine ruL_c (n := 1299) (n2 := 1300) rfl (ru_lret hx hb hr hlocks hA9 dL_law_1299 hcell hslot) ?_
  refine ruL_c (n := 1300) (n2 := 1301) rfl (ru_goto hx hb dL_law_1300 (by decide)) ?_
  refine ruL_c (n := 1301) (n2 := 1302) rfl (ru_bot) ?_
  refine ruL_c (n := 1302) (n2 := 1303) rfl (ru_bot) ?_
  exact trivial
set_option maxHeartbeats 8000000 in
set_option maxRecDepth 100000 in
theorem k_law17 {CP : aM → Prop} {N : Nat} {xs : Nat → Int32} {K : Nat → aS → Prop} (hw : ∀ c, c ≤ 8000 → ∀ n x, wpB 1211 (T_law17 (fun d => K (c + d)) N xs) n (K c) x → K c x) (hf : ∀ c pc L i st σ, K c (pc, L.set i .null, st, σ) → K c (pc, L, st, σ)) (ag : ∀ p0 p1 p2 p3 : Int32, agW CP (f_L_addLamp p0 p1 p2 p3) (f_X6_addLamp p0 p1 p2 p3)) (c i : Nat) (hc : c ≤ 7900) (g1 : inb (nI i + 1) N = true) (g2 : inb (nI i + 2) N = true) (g3 : inb (nI i + 3) N = true) (g4 : inb (nI i + 4) N = true) (σ : aM) (hCP : CP σ)
    (hback : ∀ c2 σ2, c2 ≤ c + 12 → CP σ2 → K c2 (2234, [.ref 200, .ref 0, .ref 6, .ref 178, .int (nI i), .null, .null], [], σ2)) : K c (1211, [.ref 200, .ref 0, .ref 6, .ref 178, .int (nI i), .null, .null], [], σ) := by
  obtain ⟨k1, σ1, b1, σ2, e1, e2, e3, e4, hcp⟩ := ag (xs (ix (nI i + 1))) (xs (ix (nI i + 2))) (xs (ix (nI i + 3))) (xs (ix (nI i + 4))) σ hCP
  refine hw c (by omega) 23 _ ?_
  show inb (nI i + 1) N = true ∧ (inb (nI i + 2) N = true ∧ (inb (nI i + 3) N = true ∧ (inb (nI i + 4) N = true ∧ (∃ k1 σ1, f_L_addLamp (xs (ix (nI i + 1))) (xs (ix (nI i + 2))) (xs (ix (nI i + 3))) (xs (ix (nI i + 4))) σ = some (k1, σ1) ∧ K (c + 12) (1240, [.ref 200, .ref 0, .ref 6, .ref 178, .int (nI i), .null, .null], [.int k1], σ1)))))
  refine ⟨g1, g2, g3, g4, ⟨k1, σ1, e1, ?_⟩⟩
  refine hw (c + 12) (by omega) 23 _ ?_
  show inb (nI i + 1) N = true ∧ (inb (nI i + 2) N = true ∧ (inb (nI i + 3) N = true ∧ (inb (nI i + 4) N = true ∧ (∃ b1 σ2, f_X6_addLamp (xs (ix (nI i + 1))) (xs (ix (nI i + 2))) (xs (ix (nI i + 3))) (xs (ix (nI i + 4))) σ1 = some (b1, σ2) ∧ K (c + 12) (1270, [.ref 200, .ref 0, .ref 6, .ref 178, .int (nI i), .int k1, .null], [.int b1], σ2)))))
  refine ⟨g1, g2, g3, g4, ⟨b1, σ2, e2, ?_⟩⟩
  refine hw (c + 12) (by omega) 3 _ ?_
  show ∃ r3 σ3, f_X6_thrown σ2 = some (r3, σ3) ∧ K (c + 12) (1276, [.ref 200, .ref 0, .ref 6, .ref 178, .int (nI i), .int k1, .int b1], [.int r3], σ3)
  refine ⟨σ2 6 0, σ2, rfl, ?_⟩
  refine hw (c + 12) (by omega) 2 _ ?_
  show (((σ2 6 0) = k1) → K (c + 12) (1283, [.ref 200, .ref 0, .ref 6, .ref 178, .int (nI i), .int k1, .int b1], [], σ2)) ∧ (¬ ((σ2 6 0) = k1) → K (c + 12) (1281, [.ref 200, .ref 0, .ref 6, .ref 178, .int (nI i), .int k1, .int b1], [], σ2))
  refine ⟨fun _ => ?_, fun q => absurd e3 q⟩
  by_cases hk : k1 = 0
  · have hz : σ2 178 (ix 0) = b1 := e4 hk
    refine hw (c + 12) (by omega) 2 _ ?_
    show ((¬ k1 = 0) → K (c + 12) (1300, [.ref 200, .ref 0, .ref 6, .ref 178, .int (nI i), .int k1, .int b1], [], σ2)) ∧ (¬ (¬ k1 = 0) → K (c + 12) (1288, [.ref 200, .ref 0, .ref 6, .ref 178, .int (nI i), .int k1, .int b1], [], σ2))
    refine ⟨fun q => absurd hk q, fun _ => ?_⟩
    refine hw (c + 12) (by omega) 7 _ ?_
    show kd 178 = 4 ∧ (inb 0 1 = true ∧ ((((lg_cmp (σ2 178 (ix 0)).toInt64 b1.toInt64) = 0) → K (c + 12) (1300, [.ref 200, .ref 0, .ref 6, .ref 178, .int (nI i), .int k1, .int b1], [], σ2)) ∧ (¬ ((lg_cmp (σ2 178 (ix 0)).toInt64 b1.toInt64) = 0) → K (c + 12) (1298, [.ref 200, .ref 0, .ref 6, .ref 178, .int (nI i), .int k1, .int b1], [], σ2))))
    refine ⟨rfl, by decide, ⟨fun _ => ?_, fun q => absurd (by rw [hz]; exact lcmp_eq _) q⟩⟩
    refine hw (c + 12) (by omega) 1 _ ?_
    show K (c + 12) (2234, [.ref 200, .ref 0, .ref 6, .ref 178, .int (nI i), .int k1, .int b1], [], σ2)
    refine hf _ _ _ 5 _ _ ?_
    show K (c + 12) (2234, [.ref 200, .ref 0, .ref 6, .ref 178, .int (nI i), .null, .int b1], [], σ2)
    refine hf _ _ _ 6 _ _ ?_
    show K (c + 12) (2234, [.ref 200, .ref 0, .ref 6, .ref 178, .int (nI i), .null, .null], [], σ2)
    exact hback _ _ (by omega) hcp
  · refine hw (c + 12) (by omega) 2 _ ?_
    show ((¬ k1 = 0) → K (c + 12) (1300, [.ref 200, .ref 0, .ref 6, .ref 178, .int (nI i), .int k1, .int b1], [], σ2)) ∧ (¬ (¬ k1 = 0) → K (c + 12) (1288, [.ref 200, .ref 0, .ref 6, .ref 178, .int (nI i), .int k1, .int b1], [], σ2))
    refine ⟨fun _ => ?_, fun q => absurd hk q⟩
    refine hw (c + 12) (by omega) 1 _ ?_
    show K (c + 12) (2234, [.ref 200, .ref 0, .ref 6, .ref 178, .int (nI i), .int k1, .int b1], [], σ2)
    refine hf _ _ _ 5 _ _ ?_
    show K (c + 12) (2234, [.ref 200, .ref 0, .ref 6, .ref 178, .int (nI i), .null, .int b1], [], σ2)
    refine hf _ _ _ 6 _ _ ?_
    show K (c + 12) (2234, [.ref 200, .ref 0, .ref 6, .ref 178, .int (nI i), .null, .null], [], σ2)
    exact hback _ _ (by omega) hcp
