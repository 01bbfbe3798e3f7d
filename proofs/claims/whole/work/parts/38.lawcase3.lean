def T_law27 (KN : Nat → aS → Prop) (N : Nat) (xs : Nat → Int32) : List aI := [I_aload 1 1, I_aload 0 1, I_iload 4 2, I_bot, I_const 1 1, I_bin fun x y => x + y, I_sld N xs, I_aload 0 1, I_iload 4 2, I_bot, I_const 2 1, I_bin fun x y => x + y, I_sld N xs, I_aload 3 1, I_callW 4 F_L_shortOf (KN 6), I_bot, I_bot, I_istore 5 2, I_bot, I_aload 2 1, I_aload 0 1, I_iload 4 2, I_bot, I_const 1 1, I_bin fun x y => x + y, I_sld N xs, I_aload 0 1, I_iload 4 2, I_bot, I_const 2 1, I_bin fun x y => x + y, I_sld N xs, I_callV 6 2 F_X6_shortOf, I_bot, I_bot, I_istore 6 2, I_bot, I_aload 2 1, I_callV 6 0 F_X6_thrown, I_bot, I_bot, I_iload 5 2, I_bot, I_icmp (fun x y => x = y) 1884, I_bot, I_bot, I_const 0 1, I_lret, I_iload 5 2, I_bot, I_if (fun x => ¬ x = 0) 1901, I_bot, I_bot, I_aload 3 1, I_const 0 1, I_lald, I_iload 6 2, I_bot, I_i2l, I_lcmp, I_if (fun x => x = 0) 1901, I_bot, I_bot, I_const 0 1, I_lret, I_goto 2234, I_bot, I_bot]
set_option maxHeartbeats 8000000 in
set_option maxRecDepth 100000 in
theorem r_law27 {p : Program} {l : Launch} {e : Env} {s : State} {m : MethodId} {below : List Frame} {meth : Method} {c : Code} {D : va_G} {cI cZ cA cL : ClassId} {ad sa : Nat → Nat} {b N : Nat} {xs : Nat → Int32} (Z : LCX p l e s m meth c b N xs D cI cZ cA cL ad sa) (cells slots : Nat) (hcell : cells + 20 ≤ 601024) (hslot : slots + 120 ≤ 7293034) :
    ruL (Ru p l e room_1 s m #[Value.ref b] below meth c cells slots (lw_Z below #[Value.ref b] s) 7 D cI cZ cA cL ad (AA ad s.heap.size) s.heap) 1836 (T_law27 (fun d => WS p l e room_1 s m #[Value.ref b] below meth c (cells + d) (slots + 6 * d) (lw_Z below #[Value.ref b] s) 7 D cI cZ cA cL ad (AA ad s.heap.size) s.heap) N xs) := by
  obtain ⟨hx, hb, hml, hown, hts, hr, hlocks, hK, hN, hX, hC, hXs, hbl, hbA, had, hi, hlt, hA9⟩ := Z
  refine ruL_c (n := 1836) (n2 := 1837) rfl (ru_aload_n (k := 1) hx hb dL_law_1836) ?_
  refine ruL_c (n := 1837) (n2 := 1838) rfl (ru_aload_n (k := 0) hx hb dL_law_1837) ?_
  refine ruL_c (n := 1838) (n2 := 1839) rfl (ru_iload hx hb dL_law_1838) ?_
  refine ruL_c (n := 1839) (n2 := 1840) rfl (ru_bot) ?_
  refine ruL_c (n := 1840) (n2 := 1841) rfl (ru_iconst hx hb dL_law_1840 rfl) ?_
  refine ruL_c (n := 1841) (n2 := 1842) rfl (ru_iadd hx hb dL_law_1841) ?_
  refine ruL_c (n := 1842) (n2 := 1843) rfl (ru_sld hx hb hXs hbl hbA had dL_law_1842) ?_
  refine ruL_c (n := 1843) (n2 := 1844) rfl (ru_aload_n (k := 0) hx hb dL_law_1843) ?_
  refine ruL_c (n := 1844) (n2 := 1845) rfl (ru_iload hx hb dL_law_1844) ?_
  refine ruL_c (n := 1845) (n2 := 1846) rfl (ru_bot) ?_
  refine ruL_c (n := 1846) (n2 := 1847) rfl (ru_iconst hx hb dL_law_1846 rfl) ?_
  refine ruL_c (n := 1847) (n2 := 1848) rfl (ru_iadd hx hb dL_law_1847) ?_
  refine ruL_c (n := 1848) (n2 := 1849) rfl (ru_sld hx hb hXs hbl hbA had dL_law_1848) ?_
  refine ruL_c (n := 1849) (n2 := 1850) rfl (ru_aload_n (k := 3) hx hb dL_law_1849) ?_
  refine ruL_c (n := 1850) (n2 := 1851) rfl (ru_callW (own := RL) hx hb hml hown hts hK hN hX hC (c_L_shortOf l hlt D cI cZ cA cL ad sa hi) (vx_cwSW 4 hts gL_law_L_shortOf rfl rfl rfl (by decide +kernel) ⟨Nat.le_of_ble_eq_true rfl, Nat.le_of_ble_eq_true rfl⟩) dL_law_1850 ⟨Nat.le_trans (Nat.add_le_add_left (by decide) _) hcell, Nat.le_trans (Nat.add_le_add_left (by decide) _) hslot⟩) ?_
  refine ruL_c (n := 1851) (n2 := 1852) rfl (ru_bot) ?_
  refine ruL_c (n := 1852) (n2 := 1853) rfl (ru_bot) ?_
  refine ruL_c (n := 1853) (n2 := 1854) rfl (ru_istore hx hb dL_law_1853) ?_
  refine ruL_c (n := 1854) (n2 := 1855) rfl (ru_bot) ?_
  refine ruL_c (n := 1855) (n2 := 1856) rfl (ru_aload_n (k := 2) hx hb dL_law_1855) ?_
  refine ruL_c (n := 1856) (n2 := 1857) rfl (ru_aload_n (k := 0) hx hb dL_law_1856) ?_
  refine ruL_c (n := 1857) (n2 := 1858) rfl (ru_iload hx hb dL_law_1857) ?_
  refine ruL_c (n := 1858) (n2 := 1859) rfl (ru_bot) ?_
  refine ruL_c (n := 1859) (n2 := 1860) rfl (ru_iconst hx hb dL_law_1859 rfl) ?_
  refine ruL_c (n := 1860) (n2 := 1861) rfl (ru_iadd hx hb dL_law_1860) ?_
  refine ruL_c (n := 1861) (n2 := 1862) rfl (ru_sld hx hb hXs hbl hbA had dL_law_1861) ?_
  refine ruL_c (n := 1862) (n2 := 1863) rfl (ru_aload_n (k := 0) hx hb dL_law_1862) ?_
  refine ruL_c (n := 1863) (n2 := 1864) rfl (ru_iload hx hb dL_law_1863) ?_
  refine ruL_c (n := 1864) (n2 := 1865) rfl (ru_bot) ?_
  refine ruL_c (n := 1865) (n2 := 1866) rfl (ru_iconst hx hb dL_law_1865 rfl) ?_
  refine ruL_c (n := 1866) (n2 := 1867) rfl (ru_iadd hx hb dL_law_1866) ?_
  refine ruL_c (n := 1867) (n2 := 1868) rfl (ru_sld hx hb hXs hbl hbA had dL_law_1867) ?_
  refine ruL_c (n := 1868) (n2 := 1869) rfl (ru_callV (own := RL) hx hb hml hown hts hK hN (by decide) rfl (c_X6_shortOf l D cI cZ cA cL ad hi) (cwV 2 hts gL_law_X6_shortOf rfl rfl rfl (by decide +kernel) ⟨Nat.le_of_ble_eq_true rfl, Nat.le_of_ble_eq_true rfl⟩) dL_law_1868 ⟨Nat.le_trans (Nat.le_add_right _ 20) hcell, Nat.le_trans (Nat.le_add_right _ 120) hslot⟩) ?_
  refine ruL_c (n := 1869) (n2 := 1870) rfl (ru_bot) ?_
  refine ruL_c (n := 1870) (n2 := 1871) rfl (ru_bot) ?_
  refine ruL_c (n := 1871) (n2 := 1872) rfl (ru_istore hx hb dL_law_1871) ?_
  refine ruL_c (n := 1872) (n2 := 1873) rfl (ru_bot) ?_
  refine ruL_c (n := 1873) (n2 := 1874) rfl (ru_aload_n (k := 2) hx hb dL_law_1873) ?_
  refine ruL_c (n := 1874) (n2 := 1875) rfl (ru_callV (own := RL) hx hb hml hown hts hK hN (by decide) rfl (c_X6_thrown l D cI cZ cA cL ad hi) (cwV 0 hts gL_law_X6_thrown rfl rfl rfl (by decide +kernel) ⟨Nat.le_of_ble_eq_true rfl, Nat.le_of_ble_eq_true rfl⟩) dL_law_1874 ⟨Nat.le_trans (Nat.le_add_right _ 20) hcell, Nat.le_trans (Nat.le_add_right _ 120) hslot⟩) ?_
  refine ruL_c (n := 1875) (n2 := 1876) rfl (ru_bot) ?_
  refine ruL_c (n := 1876) (n2 := 1877) rfl (ru_bot) ?_
  refine ruL_c (n := 1877) (n2 := 1878) rfl (ru_iload hx hb dL_law_1877) ?_
  refine ruL_c (n := 1878) (n2 := 1879) rfl (ru_bot) ?_
  refine ruL_c (n := 1879) (n2 := 1880) rfl (ru_icmpeq hx hb dL_law_1879 (by decide)) ?_
  refine ruL_c (n := 1880) (n2 := 1881) rfl (ru_bot) ?_
  refine ruL_c (n := 1881) (n2 := 1882) rfl (ru_bot) ?_
  refine ruL_c (n := 1882) (n2 := 1883) rfl (ru_iconst hx hb dL_law_1882 rfl) ?_
  refine ruL_c (n := 1883) (n2 := 1884) rfl (ru_lret hx hb hr hlocks hA9 dL_law_1883 hcell hslot) ?_
  refine ruL_c (n := 1884) (n2 := 1885) rfl (ru_iload hx hb dL_law_1884) ?_
  refine ruL_c (n := 1885) (n2 := 1886) rfl (ru_bot) ?_
  refine ruL_c (n := 1886) (n2 := 1887) rfl (ru_ifne hx hb dL_law_1886 (by decide)) ?_
  refine ruL_c (n := 1887) (n2 := 1888) rfl (ru_bot) ?_
  refine ruL_c (n := 1888) (n2 := 1889) rfl (ru_bot) ?_
  refine ruL_c (n := 1889) (n2 := 1890) rfl (ru_aload_n (k := 3) hx hb dL_law_1889) ?_
  refine ruL_c (n := 1890) (n2 := 1891) rfl (ru_iconst hx hb dL_law_1890 rfl) ?_
  refine ruL_c (n := 1891) (n2 := 1892) rfl (ru_lald hx hb hK dL_law_1891) ?_
  refine ruL_c (n := 1892) (n2 := 1893) rfl (ru_iload hx hb dL_law_1892) ?_
  refine ruL_c (n := 1893) (n2 := 1894) rfl (ru_bot) ?_
  refine ruL_c (n := 1894) (n2 := 1895) rfl (ru_i2l hx hb dL_law_1894) ?_
  refine ruL_c (n := 1895) (n2 := 1896) rfl (ru_lcmp hx hb dL_law_1895) ?_
  refine ruL_c (n := 1896) (n2 := 1897) rfl (ru_ifeq hx hb dL_law_1896 (by decide)) ?_
  refine ruL_c (n := 1897) (n2 := 1898) rfl (ru_bot) ?_
  refine ruL_c (n := 1898) (n2 := 1899) rfl (ru_bot) ?_
  refine ruL_c (n := 1899) (n2 := 1900) rfl (ru_iconst hx hb dL_law_1899 rfl) ?_
  refine ruL_c (n := 1900) (n2 := 1901) rfl (ru_lret hx hb hr hlocks hA9 dL_law_1900 hcell hslot) ?_
  refine ruL_c (n := 1901) (n2 := 1902) rfl (ru_goto hx hb dL_law_1901 (by decide)) ?_
  refine ruL_c (n := 1902) (n2 := 1903) rfl (ru_bot) ?_
  refine ruL_c (n := 1903) (n2 := 1904) rfl (ru_bot) ?_
  exact trivial
set_option maxHeartbeats 8000000 in
set_option maxRecDepth 100000 in
theorem k_law27 {CP : aM → Prop} {N : Nat} {xs : Nat → Int32} {K : Nat → aS → Prop} (hw : ∀ c, c ≤ 8000 → ∀ n x, wpB 1836 (T_law27 (fun d => K (c + d)) N xs) n (K c) x → K c x) (hf : ∀ c pc L i st σ, K c (pc, L.set i .null, st, σ) → K c (pc, L, st, σ)) (ag : ∀ p0 p1 : Int32, agW CP (f_L_shortOf p0 p1) (f_X6_shortOf p0 p1)) (c i : Nat) (hc : c ≤ 7900) (g1 : inb (nI i + 1) N = true) (g2 : inb (nI i + 2) N = true) (g3 : inb (nI i + 3) N = true) (g4 : inb (nI i + 4) N = true) (σ : aM) (hCP : CP σ)
    (hback : ∀ c2 σ2, c2 ≤ c + 12 → CP σ2 → K c2 (2234, [.ref 200, .ref 0, .ref 6, .ref 178, .int (nI i), .null, .null], [], σ2)) : K c (1836, [.ref 200, .ref 0, .ref 6, .ref 178, .int (nI i), .null, .null], [], σ) := by
  obtain ⟨k1, σ1, b1, σ2, e1, e2, e3, e4, hcp⟩ := ag (xs (ix (nI i + 1))) (xs (ix (nI i + 2))) σ hCP
  refine hw c (by omega) 13 _ ?_
  show inb (nI i + 1) N = true ∧ (inb (nI i + 2) N = true ∧ (∃ k1 σ1, f_L_shortOf (xs (ix (nI i + 1))) (xs (ix (nI i + 2))) σ = some (k1, σ1) ∧ K (c + 6) (1853, [.ref 200, .ref 0, .ref 6, .ref 178, .int (nI i), .null, .null], [.int k1], σ1)))
  refine ⟨g1, g2, ⟨k1, σ1, e1, ?_⟩⟩
  refine hw (c + 6) (by omega) 13 _ ?_
  show inb (nI i + 1) N = true ∧ (inb (nI i + 2) N = true ∧ (∃ b1 σ2, f_X6_shortOf (xs (ix (nI i + 1))) (xs (ix (nI i + 2))) σ1 = some (b1, σ2) ∧ K (c + 6) (1871, [.ref 200, .ref 0, .ref 6, .ref 178, .int (nI i), .int k1, .null], [.int b1], σ2)))
  refine ⟨g1, g2, ⟨b1, σ2, e2, ?_⟩⟩
  refine hw (c + 6) (by omega) 3 _ ?_
  show ∃ r3 σ3, f_X6_thrown σ2 = some (r3, σ3) ∧ K (c + 6) (1877, [.ref 200, .ref 0, .ref 6, .ref 178, .int (nI i), .int k1, .int b1], [.int r3], σ3)
  refine ⟨σ2 6 0, σ2, rfl, ?_⟩
  refine hw (c + 6) (by omega) 2 _ ?_
  show (((σ2 6 0) = k1) → K (c + 6) (1884, [.ref 200, .ref 0, .ref 6, .ref 178, .int (nI i), .int k1, .int b1], [], σ2)) ∧ (¬ ((σ2 6 0) = k1) → K (c + 6) (1882, [.ref 200, .ref 0, .ref 6, .ref 178, .int (nI i), .int k1, .int b1], [], σ2))
  refine ⟨fun _ => ?_, fun q => absurd e3 q⟩
  by_cases hk : k1 = 0
  · have hz : σ2 178 (ix 0) = b1 := e4 hk
    refine hw (c + 6) (by omega) 2 _ ?_
    show ((¬ k1 = 0) → K (c + 6) (1901, [.ref 200, .ref 0, .ref 6, .ref 178, .int (nI i), .int k1, .int b1], [], σ2)) ∧ (¬ (¬ k1 = 0) → K (c + 6) (1889, [.ref 200, .ref 0, .ref 6, .ref 178, .int (nI i), .int k1, .int b1], [], σ2))
    refine ⟨fun q => absurd hk q, fun _ => ?_⟩
    refine hw (c + 6) (by omega) 7 _ ?_
    show kd 178 = 4 ∧ (inb 0 1 = true ∧ ((((lg_cmp (σ2 178 (ix 0)).toInt64 b1.toInt64) = 0) → K (c + 6) (1901, [.ref 200, .ref 0, .ref 6, .ref 178, .int (nI i), .int k1, .int b1], [], σ2)) ∧ (¬ ((lg_cmp (σ2 178 (ix 0)).toInt64 b1.toInt64) = 0) → K (c + 6) (1899, [.ref 200, .ref 0, .ref 6, .ref 178, .int (nI i), .int k1, .int b1], [], σ2))))
    refine ⟨rfl, by decide, ⟨fun _ => ?_, fun q => absurd (by rw [hz]; exact lcmp_eq _) q⟩⟩
    refine hw (c + 6) (by omega) 1 _ ?_
    show K (c + 6) (2234, [.ref 200, .ref 0, .ref 6, .ref 178, .int (nI i), .int k1, .int b1], [], σ2)
    refine hf _ _ _ 5 _ _ ?_
    show K (c + 6) (2234, [.ref 200, .ref 0, .ref 6, .ref 178, .int (nI i), .null, .int b1], [], σ2)
    refine hf _ _ _ 6 _ _ ?_
    show K (c + 6) (2234, [.ref 200, .ref 0, .ref 6, .ref 178, .int (nI i), .null, .null], [], σ2)
    exact hback _ _ (by omega) hcp
  · refine hw (c + 6) (by omega) 2 _ ?_
    show ((¬ k1 = 0) → K (c + 6) (1901, [.ref 200, .ref 0, .ref 6, .ref 178, .int (nI i), .int k1, .int b1], [], σ2)) ∧ (¬ (¬ k1 = 0) → K (c + 6) (1889, [.ref 200, .ref 0, .ref 6, .ref 178, .int (nI i), .int k1, .int b1], [], σ2))
    refine ⟨fun _ => ?_, fun q => absurd hk q⟩
    refine hw (c + 6) (by omega) 1 _ ?_
    show K (c + 6) (2234, [.ref 200, .ref 0, .ref 6, .ref 178, .int (nI i), .int k1, .int b1], [], σ2)
    refine hf _ _ _ 5 _ _ ?_
    show K (c + 6) (2234, [.ref 200, .ref 0, .ref 6, .ref 178, .int (nI i), .null, .int b1], [], σ2)
    refine hf _ _ _ 6 _ _ ?_
    show K (c + 6) (2234, [.ref 200, .ref 0, .ref 6, .ref 178, .int (nI i), .null, .null], [], σ2)
    exact hback _ _ (by omega) hcp
def T_law28 (KN : Nat → aS → Prop) (N : Nat) (xs : Nat → Int32) : List aI := [I_aload 1 1, I_callV 0 0 F_X5_bestStage, I_bot, I_bot, I_aload 2 1, I_callV 6 0 F_X6_bestStage, I_bot, I_bot, I_icmp (fun x y => x = y) 2234, I_bot, I_bot, I_const 0 1, I_lret]
set_option maxHeartbeats 8000000 in
set_option maxRecDepth 100000 in
theorem r_law28 {p : Program} {l : Launch} {e : Env} {s : State} {m : MethodId} {below : List Frame} {meth : Method} {c : Code} {D : va_G} {cI cZ cA cL : ClassId} {ad sa : Nat → Nat} {b N : Nat} {xs : Nat → Int32} (Z : LCX p l e s m meth c b N xs D cI cZ cA cL ad sa) (cells slots : Nat) (hcell : cells + 20 ≤ 601024) (hslot : slots + 120 ≤ 7293034) :
    ruL (Ru p l e room_1 s m #[Value.ref b] below meth c cells slots (lw_Z below #[Value.ref b] s) 7 D cI cZ cA cL ad (AA ad s.heap.size) s.heap) 1904 (T_law28 (fun d => WS p l e room_1 s m #[Value.ref b] below meth c (cells + d) (slots + 6 * d) (lw_Z below #[Value.ref b] s) 7 D cI cZ cA cL ad (AA ad s.heap.size) s.heap) N xs) := by
  obtain ⟨hx, hb, hml, hown, hts, hr, hlocks, hK, hN, hX, hC, hXs, hbl, hbA, had, hi, hlt, hA9⟩ := Z
  refine ruL_c (n := 1904) (n2 := 1905) rfl (ru_aload_n (k := 1) hx hb dL_law_1904) ?_
  refine ruL_c (n := 1905) (n2 := 1906) rfl (ru_callV (own := RL) hx hb hml hown hts hK hN (by decide) rfl (c_X5_bestStage l D cI cZ cA cL ad hi) (cwV 0 hts gL_law_X5_bestStage rfl rfl rfl (by decide +kernel) ⟨Nat.le_of_ble_eq_true rfl, Nat.le_of_ble_eq_true rfl⟩) dL_law_1905 ⟨Nat.le_trans (Nat.le_add_right _ 20) hcell, Nat.le_trans (Nat.le_add_right _ 120) hslot⟩) ?_
  refine ruL_c (n := 1906) (n2 := 1907) rfl (ru_bot) ?_
  refine ruL_c (n := 1907) (n2 := 1908) rfl (ru_bot) ?_
  refine ruL_c (n := 1908) (n2 := 1909) rfl (ru_aload_n (k := 2) hx hb dL_law_1908) ?_
  refine ruL_c (n := 1909) (n2 := 1910) rfl (ru_callV (own := RL) hx hb hml hown hts hK hN (by decide) rfl (c_X6_bestStage l D cI cZ cA cL ad hi) (cwV 0 hts gL_law_X6_bestStage rfl rfl rfl (by decide +kernel) ⟨Nat.le_of_ble_eq_true rfl, Nat.le_of_ble_eq_true rfl⟩) dL_law_1909 ⟨Nat.le_trans (Nat.le_add_right _ 20) hcell, Nat.le_trans (Nat.le_add_right _ 120) hslot⟩) ?_
  refine ruL_c (n := 1910) (n2 := 1911) rfl (ru_bot) ?_
  refine ruL_c (n := 1911) (n2 := 1912) rfl (ru_bot) ?_
  refine ruL_c (n := 1912) (n2 := 1913) rfl (ru_icmpeq hx hb dL_law_1912 (by decide)) ?_
  refine ruL_c (n := 1913) (n2 := 1914) rfl (ru_bot) ?_
  refine ruL_c (n := 1914) (n2 := 1915) rfl (ru_bot) ?_
  refine ruL_c (n := 1915) (n2 := 1916) rfl (ru_iconst hx hb dL_law_1915 rfl) ?_
  refine ruL_c (n := 1916) (n2 := 1917) rfl (ru_lret hx hb hr hlocks hA9 dL_law_1916 hcell hslot) ?_
  exact trivial
set_option maxHeartbeats 8000000 in
set_option maxRecDepth 100000 in
theorem k_law28 {CP : aM → Prop} {N : Nat} {xs : Nat → Int32} {K : Nat → aS → Prop} (hw : ∀ c, c ≤ 8000 → ∀ n x, wpB 1904 (T_law28 (fun d => K (c + d)) N xs) n (K c) x → K c x) (hf : ∀ c pc L i st σ, K c (pc, L.set i .null, st, σ) → K c (pc, L, st, σ)) (ag : agD CP f_X5_bestStage f_X6_bestStage) (c i : Nat) (hc : c ≤ 7900) (g1 : inb (nI i + 1) N = true) (g2 : inb (nI i + 2) N = true) (g3 : inb (nI i + 3) N = true) (g4 : inb (nI i + 4) N = true) (σ : aM) (hCP : CP σ)
    (hback : ∀ c2 σ2, c2 ≤ c + 12 → CP σ2 → K c2 (2234, [.ref 200, .ref 0, .ref 6, .ref 178, .int (nI i), .null, .null], [], σ2)) : K c (1904, [.ref 200, .ref 0, .ref 6, .ref 178, .int (nI i), .null, .null], [], σ) := by
  obtain ⟨k1, σ1, σ2, e1, e2, hcp⟩ := ag σ hCP
  refine hw c (by omega) 2 _ ?_
  show ∃ k1 σ1, f_X5_bestStage σ = some (k1, σ1) ∧ K c (1908, [.ref 200, .ref 0, .ref 6, .ref 178, .int (nI i), .null, .null], [.int k1], σ1)
  refine ⟨k1, σ1, e1, ?_⟩
  refine hw c (by omega) 2 _ ?_
  show ∃ b1 σ2, f_X6_bestStage σ1 = some (b1, σ2) ∧ K c (1912, [.ref 200, .ref 0, .ref 6, .ref 178, .int (nI i), .null, .null], [.int b1, .int k1], σ2)
  refine ⟨k1, σ2, e2, ?_⟩
  refine hw c (by omega) 1 _ ?_
  show ((k1 = k1) → K c (2234, [.ref 200, .ref 0, .ref 6, .ref 178, .int (nI i), .null, .null], [], σ2)) ∧ (¬ (k1 = k1) → K c (1915, [.ref 200, .ref 0, .ref 6, .ref 178, .int (nI i), .null, .null], [], σ2))
  refine ⟨fun _ => ?_, fun q => absurd rfl q⟩
  exact hback _ _ (by omega) hcp
def T_law29 (KN : Nat → aS → Prop) (N : Nat) (xs : Nat → Int32) : List aI := [I_aload 1 1, I_aload 0 1, I_iload 4 2, I_bot, I_const 1 1, I_bin fun x y => x + y, I_sld N xs, I_aload 0 1, I_iload 4 2, I_bot, I_const 2 1, I_bin fun x y => x + y, I_sld N xs, I_aload 3 1, I_callW 4 F_L_bestToBorrow (KN 6), I_bot, I_bot, I_istore 5 2, I_bot, I_aload 2 1, I_aload 0 1, I_iload 4 2, I_bot, I_const 1 1, I_bin fun x y => x + y, I_sld N xs, I_aload 0 1, I_iload 4 2, I_bot, I_const 2 1, I_bin fun x y => x + y, I_sld N xs, I_callV 6 2 F_X6_bestToBorrow, I_bot, I_bot, I_istore 6 2, I_bot, I_aload 2 1, I_callV 6 0 F_X6_thrown, I_bot, I_bot, I_iload 5 2, I_bot, I_icmp (fun x y => x = y) 1965, I_bot, I_bot, I_const 0 1, I_lret, I_iload 5 2, I_bot, I_if (fun x => ¬ x = 0) 1982, I_bot, I_bot, I_aload 3 1, I_const 0 1, I_lald, I_iload 6 2, I_bot, I_i2l, I_lcmp, I_if (fun x => x = 0) 1982, I_bot, I_bot, I_const 0 1, I_lret, I_goto 2234, I_bot, I_bot]
set_option maxHeartbeats 8000000 in
set_option maxRecDepth 100000 in
theorem r_law29 {p : Program} {l : Launch} {e : Env} {s : State} {m : MethodId} {below : List Frame} {meth : Method} {c : Code} {D : va_G} {cI cZ cA cL : ClassId} {ad sa : Nat → Nat} {b N : Nat} {xs : Nat → Int32} (Z : LCX p l e s m meth c b N xs D cI cZ cA cL ad sa) (cells slots : Nat) (hcell : cells + 20 ≤ 601024) (hslot : slots + 120 ≤ 7293034) :
    ruL (Ru p l e room_1 s m #[Value.ref b] below meth c cells slots (lw_Z below #[Value.ref b] s) 7 D cI cZ cA cL ad (AA ad s.heap.size) s.heap) 1917 (T_law29 (fun d => WS p l e room_1 s m #[Value.ref b] below meth c (cells + d) (slots + 6 * d) (lw_Z below #[Value.ref b] s) 7 D cI cZ cA cL ad (AA ad s.heap.size) s.heap) N xs) := by
  obtain ⟨hx, hb, hml, hown, hts, hr, hlocks, hK, hN, hX, hC, hXs, hbl, hbA, had, hi, hlt, hA9⟩ := Z
  refine ruL_c (n := 1917) (n2 := 1918) rfl (ru_aload_n (k := 1) hx hb dL_law_1917) ?_
  refine ruL_c (n := 1918) (n2 := 1919) rfl (ru_aload_n (k := 0) hx hb dL_law_1918) ?_
  refine ruL_c (n := 1919) (n2 := 1920) rfl (ru_iload hx hb dL_law_1919) ?_
  refine ruL_c (n := 1920) (n2 := 1921) rfl (ru_bot) ?_
  refine ruL_c (n := 1921) (n2 := 1922) rfl (ru_iconst hx hb dL_law_1921 rfl) ?_
  refine ruL_c (n := 1922) (n2 := 1923) rfl (ru_iadd hx hb dL_law_1922) ?_
  refine ruL_c (n := 1923) (n2 := 1924) rfl (ru_sld hx hb hXs hbl hbA had dL_law_1923) ?_
  refine ruL_c (n := 1924) (n2 := 1925) rfl (ru_aload_n (k := 0) hx hb dL_law_1924) ?_
  refine ruL_c (n := 1925) (n2 := 1926) rfl (ru_iload hx hb dL_law_1925) ?_
  refine ruL_c (n := 1926) (n2 := 1927) rfl (ru_bot) ?_
  refine ruL_c (n := 1927) (n2 := 1928) rfl (ru_iconst hx hb dL_law_1927 rfl) ?_
  refine ruL_c (n := 1928) (n2 := 1929) rfl (ru_iadd hx hb dL_law_1928) ?_
  refine ruL_c (n := 1929) (n2 := 1930) rfl (ru_sld hx hb hXs hbl hbA had dL_law_1929) ?_
  refine ruL_c (n := 1930) (n2 := 1931) rfl (ru_aload_n (k := 3) hx hb dL_law_1930) ?_
  refine ruL_c (n := 1931) (n2 := 1932) rfl (ru_callW (own := RL) hx hb hml hown hts hK hN hX hC (c_L_bestToBorrow l hlt D cI cZ cA cL ad sa hi) (vx_cwSW 4 hts gL_law_L_bestToBorrow rfl rfl rfl (by decide +kernel) ⟨Nat.le_of_ble_eq_true rfl, Nat.le_of_ble_eq_true rfl⟩) dL_law_1931 ⟨Nat.le_trans (Nat.add_le_add_left (by decide) _) hcell, Nat.le_trans (Nat.add_le_add_left (by decide) _) hslot⟩) ?_
  refine ruL_c (n := 1932) (n2 := 1933) rfl (ru_bot) ?_
  refine ruL_c (n := 1933) (n2 := 1934) rfl (ru_bot) ?_
  refine ruL_c (n := 1934) (n2 := 1935) rfl (ru_istore hx hb dL_law_1934) ?_
  refine ruL_c (n := 1935) (n2 := 1936) rfl (ru_bot) ?_
  refine ruL_c (n := 1936) (n2 := 1937) rfl (ru_aload_n (k := 2) hx hb dL_law_1936) ?_
  refine ruL_c (n := 1937) (n2 := 1938) rfl (ru_aload_n (k := 0) hx hb dL_law_1937) ?_
  refine ruL_c (n := 1938) (n2 := 1939) rfl (ru_iload hx hb dL_law_1938) ?_
  refine ruL_c (n := 1939) (n2 := 1940) rfl (ru_bot) ?_
  refine ruL_c (n := 1940) (n2 := 1941) rfl (ru_iconst hx hb dL_law_1940 rfl) ?_
  refine ruL_c (n := 1941) (n2 := 1942) rfl (ru_iadd hx hb dL_law_1941) ?_
  refine ruL_c (n := 1942) (n2 := 1943) rfl (ru_sld hx hb hXs hbl hbA had dL_law_1942) ?_
  refine ruL_c (n := 1943) (n2 := 1944) rfl (ru_aload_n (k := 0) hx hb dL_law_1943) ?_
  refine ruL_c (n := 1944) (n2 := 1945) rfl (ru_iload hx hb dL_law_1944) ?_
  refine ruL_c (n := 1945) (n2 := 1946) rfl (ru_bot) ?_
  refine ruL_c (n := 1946) (n2 := 1947) rfl (ru_iconst hx hb dL_law_1946 rfl) ?_
  refine ruL_c (n := 1947) (n2 := 1948) rfl (ru_iadd hx hb dL_law_1947) ?_
  refine ruL_c (n := 1948) (n2 := 1949) rfl (ru_sld hx hb hXs hbl hbA had dL_law_1948) ?_
  refine ruL_c (n := 1949) (n2 := 1950) rfl (ru_callV (own := RL) hx hb hml hown hts hK hN (by decide) rfl (c_X6_bestToBorrow l D cI cZ cA cL ad hi) (cwV 2 hts gL_law_X6_bestToBorrow rfl rfl rfl (by decide +kernel) ⟨Nat.le_of_ble_eq_true rfl, Nat.le_of_ble_eq_true rfl⟩) dL_law_1949 ⟨Nat.le_trans (Nat.le_add_right _ 20) hcell, Nat.le_trans (Nat.le_add_right _ 120) hslot⟩) ?_
  refine ruL_c (n := 1950) (n2 := 1951) rfl (ru_bot) ?_
  refine ruL_c (n := 1951) (n2 := 1952) rfl (ru_bot) ?_
  refine ruL_c (n := 1952) (n2 := 1953) rfl (ru_istore hx hb dL_law_1952) ?_
  refine ruL_c (n := 1953) (n2 := 1954) rfl (ru_bot) ?_
  refine ruL_c (n := 1954) (n2 := 1955) rfl (ru_aload_n (k := 2) hx hb dL_law_1954) ?_
  refine ruL_c (n := 1955) (n2 := 1956) rfl (ru_callV (own := RL) hx hb hml hown hts hK hN (by decide) rfl (c_X6_thrown l D cI cZ cA cL ad hi) (cwV 0 hts gL_law_X6_thrown rfl rfl rfl (by decide +kernel) ⟨Nat.le_of_ble_eq_true rfl, Nat.le_of_ble_eq_true rfl⟩) dL_law_1955 ⟨Nat.le_trans (Nat.le_add_right _ 20) hcell, Nat.le_trans (Nat.le_add_right _ 120) hslot⟩) ?_
  refine ruL_c (n := 1956) (n2 := 1957) rfl (ru_bot) ?_
  refine ruL_c (n := 1957) (n2 := 1958) rfl (ru_bot) ?_
  refine ruL_c (n := 1958) (n2 := 1959) rfl (ru_iload hx hb dL_law_1958) ?_
  refine ruL_c (n := 1959) (n2 := 1960) rfl (ru_bot) ?_
  refine ruL_c (n := 1960) (n2 := 1961) rfl (ru_icmpeq hx hb dL_law_1960 (by decide)) ?_
  refine ruL_c (n := 1961) (n2 := 1962) rfl (ru_bot) ?_
  refine ruL_c (n := 1962) (n2 := 1963) rfl (ru_bot) ?_
  refine ruL_c (n := 1963) (n2 := 1964) rfl (ru_iconst hx hb dL_law_1963 rfl) ?_
  refine ruL_c (n := 1964) (n2 := 1965) rfl (ru_lret hx hb hr hlocks hA9 dL_law_1964 hcell hslot) ?_
  refine ruL_c (n := 1965) (n2 := 1966) rfl (ru_iload hx hb dL_law_1965) ?_
  refine ruL_c (n := 1966) (n2 := 1967) rfl (ru_bot) ?_
  refine ruL_c (n := 1967) (n2 := 1968) rfl (ru_ifne hx hb dL_law_1967 (by decide)) ?_
  refine ruL_c (n := 1968) (n2 := 1969) rfl (ru_bot) ?_
  refine ruL_c (n := 1969) (n2 := 1970) rfl (ru_bot) ?_
  refine ruL_c (n := 1970) (n2 := 1971) rfl (ru_aload_n (k := 3) hx hb dL_law_1970) ?_
  refine ruL_c (n := 1971) (n2 := 1972) rfl (ru_iconst hx hb dL_law_1971 rfl) ?_
  refine ruL_c (n := 1972) (n2 := 1973) rfl (ru_lald hx hb hK dL_law_1972) ?_
  refine ruL_c (n := 1973) (n2 := 1974) rfl (ru_iload hx hb dL_law_1973) ?_
  refine ruL_c (n := 1974) (n2 := 1975) rfl (ru_bot) ?_
  refine ruL_c (n := 1975) (n2 := 1976) rfl (ru_i2l hx hb dL_law_1975) ?_
  refine ruL_c (n := 1976) (n2 := 1977) rfl (ru_lcmp hx hb dL_law_1976) ?_
  refine ruL_c (n := 1977) (n2 := 1978) rfl (ru_ifeq hx hb dL_law_1977 (by decide)) ?_
  refine ruL_c (n := 1978) (n2 := 1979) rfl (ru_bot) ?_
  refine ruL_c (n := 1979) (n2 := 1980) rfl (ru_bot) ?_
  refine ruL_c (n := 1980) (n2 := 1981) rfl (ru_iconst hx hb dL_law_1980 rfl) ?_
  refine ruL_c (n := 1981) (n2 := 1982) rfl (ru_lret hx hb hr hlocks hA9 dL_law_1981 hcell hslot) ?_
  refine ruL_c (n := 1982) (n2 := 1983) rfl (ru_goto hx hb dL_law_1982 (by decide)) ?_
  refine ruL_c (n := 1983) (n2 := 1984) rfl (ru_bot) ?_
  refine ruL_c (n := 1984) (n2 := 1985) rfl (ru_bot) ?_
  exact trivial
set_option maxHeartbeats 8000000 in
set_option maxRecDepth 100000 in
theorem k_law29 {CP : aM → Prop} {N : Nat} {xs : Nat → Int32} {K : Nat → aS → Prop} (hw : ∀ c, c ≤ 8000 → ∀ n x, wpB 1917 (T_law29 (fun d => K (c + d)) N xs) n (K c) x → K c x) (hf : ∀ c pc L i st σ, K c (pc, L.set i .null, st, σ) → K c (pc, L, st, σ)) (ag : ∀ p0 p1 : Int32, agW CP (f_L_bestToBorrow p0 p1) (f_X6_bestToBorrow p0 p1)) (c i : Nat) (hc : c ≤ 7900) (g1 : inb (nI i + 1) N = true) (g2 : inb (nI i + 2) N = true) (g3 : inb (nI i + 3) N = true) (g4 : inb (nI i + 4) N = true) (σ : aM) (hCP : CP σ)
    (hback : ∀ c2 σ2, c2 ≤ c + 12 → CP σ2 → K c2 (2234, [.ref 200, .ref 0, .ref 6, .ref 178, .int (nI i), .null, .null], [], σ2)) : K c (1917, [.ref 200, .ref 0, .ref 6, .ref 178, .int (nI i), .null, .null], [], σ) := by
  obtain ⟨k1, σ1, b1, σ2, e1, e2, e3, e4, hcp⟩ := ag (xs (ix (nI i + 1))) (xs (ix (nI i + 2))) σ hCP
  refine hw c (by omega) 13 _ ?_
  show inb (nI i + 1) N = true ∧ (inb (nI i + 2) N = true ∧ (∃ k1 σ1, f_L_bestToBorrow (xs (ix (nI i + 1))) (xs (ix (nI i + 2))) σ = some (k1, σ1) ∧ K (c + 6) (1934, [.ref 200, .ref 0, .ref 6, .ref 178, .int (nI i), .null, .null], [.int k1], σ1)))
  refine ⟨g1, g2, ⟨k1, σ1, e1, ?_⟩⟩
  refine hw (c + 6) (by omega) 13 _ ?_
  show inb (nI i + 1) N = true ∧ (inb (nI i + 2) N = true ∧ (∃ b1 σ2, f_X6_bestToBorrow (xs (ix (nI i + 1))) (xs (ix (nI i + 2))) σ1 = some (b1, σ2) ∧ K (c + 6) (1952, [.ref 200, .ref 0, .ref 6, .ref 178, .int (nI i), .int k1, .null], [.int b1], σ2)))
  refine ⟨g1, g2, ⟨b1, σ2, e2, ?_⟩⟩
  refine hw (c + 6) (by omega) 3 _ ?_
  show ∃ r3 σ3, f_X6_thrown σ2 = some (r3, σ3) ∧ K (c + 6) (1958, [.ref 200, .ref 0, .ref 6, .ref 178, .int (nI i), .int k1, .int b1], [.int r3], σ3)
  refine ⟨σ2 6 0, σ2, rfl, ?_⟩
  refine hw (c + 6) (by omega) 2 _ ?_
  show (((σ2 6 0) = k1) → K (c + 6) (1965, [.ref 200, .ref 0, .ref 6, .ref 178, .int (nI i), .int k1, .int b1], [], σ2)) ∧ (¬ ((σ2 6 0) = k1) → K (c + 6) (1963, [.ref 200, .ref 0, .ref 6, .ref 178, .int (nI i), .int k1, .int b1], [], σ2))
  refine ⟨fun _ => ?_, fun q => absurd e3 q⟩
  by_cases hk : k1 = 0
  · have hz : σ2 178 (ix 0) = b1 := e4 hk
    refine hw (c + 6) (by omega) 2 _ ?_
    show ((¬ k1 = 0) → K (c + 6) (1982, [.ref 200, .ref 0, .ref 6, .ref 178, .int (nI i), .int k1, .int b1], [], σ2)) ∧ (¬ (¬ k1 = 0) → K (c + 6) (1970, [.ref 200, .ref 0, .ref 6, .ref 178, .int (nI i), .int k1, .int b1], [], σ2))
    refine ⟨fun q => absurd hk q, fun _ => ?_⟩
    refine hw (c + 6) (by omega) 7 _ ?_
    show kd 178 = 4 ∧ (inb 0 1 = true ∧ ((((lg_cmp (σ2 178 (ix 0)).toInt64 b1.toInt64) = 0) → K (c + 6) (1982, [.ref 200, .ref 0, .ref 6, .ref 178, .int (nI i), .int k1, .int b1], [], σ2)) ∧ (¬ ((lg_cmp (σ2 178 (ix 0)).toInt64 b1.toInt64) = 0) → K (c + 6) (1980, [.ref 200, .ref 0, .ref 6, .ref 178, .int (nI i), .int k1, .int b1], [], σ2))))
    refine ⟨rfl, by decide, ⟨fun _ => ?_, fun q => absurd (by rw [hz]; exact lcmp_eq _) q⟩⟩
    refine hw (c + 6) (by omega) 1 _ ?_
    show K (c + 6) (2234, [.ref 200, .ref 0, .ref 6, .ref 178, .int (nI i), .int k1, .int b1], [], σ2)
    refine hf _ _ _ 5 _ _ ?_
    show K (c + 6) (2234, [.ref 200, .ref 0, .ref 6, .ref 178, .int (nI i), .null, .int b1], [], σ2)
    refine hf _ _ _ 6 _ _ ?_
    show K (c + 6) (2234, [.ref 200, .ref 0, .ref 6, .ref 178, .int (nI i), .null, .null], [], σ2)
    exact hback _ _ (by omega) hcp
  · refine hw (c + 6) (by omega) 2 _ ?_
    show ((¬ k1 = 0) → K (c + 6) (1982, [.ref 200, .ref 0, .ref 6, .ref 178, .int (nI i), .int k1, .int b1], [], σ2)) ∧ (¬ (¬ k1 = 0) → K (c + 6) (1970, [.ref 200, .ref 0, .ref 6, .ref 178, .int (nI i), .int k1, .int b1], [], σ2))
    refine ⟨fun _ => ?_, fun q => absurd hk q⟩
    refine hw (c + 6) (by omega) 1 _ ?_
    show K (c + 6) (2234, [.ref 200, .ref 0, .ref 6, .ref 178, .int (nI i), .int k1, .int b1], [], σ2)
    refine hf _ _ _ 5 _ _ ?_
    show K (c + 6) (2234, [.ref 200, .ref 0, .ref 6, .ref 178, .int (nI i), .null, .int b1], [], σ2)
    refine hf _ _ _ 6 _ _ ?_
    show K (c + 6) (2234, [.ref 200, .ref 0, .ref 6, .ref 178, .int (nI i), .null, .null], [], σ2)
    exact hback _ _ (by omega) hcp
def T_law30 (KN : Nat → aS → Prop) (N : Nat) (xs : Nat → Int32) : List aI := [I_aload 1 1, I_aload 0 1, I_iload 4 2, I_bot, I_const 1 1, I_bin fun x y => x + y, I_sld N xs, I_aload 3 1, I_callW 3 F_L_perform (KN 8), I_bot, I_bot, I_istore 5 2, I_bot, I_aload 2 1, I_aload 0 1, I_iload 4 2, I_bot, I_const 1 1, I_bin fun x y => x + y, I_sld N xs, I_callV 6 1 F_X6_perform, I_bot, I_bot, I_istore 6 2, I_bot, I_aload 2 1, I_callV 6 0 F_X6_thrown, I_bot, I_bot, I_iload 5 2, I_bot, I_icmp (fun x y => x = y) 2021, I_bot, I_bot, I_const 0 1, I_lret, I_iload 5 2, I_bot, I_if (fun x => ¬ x = 0) 2038, I_bot, I_bot, I_aload 3 1, I_const 0 1, I_lald, I_iload 6 2, I_bot, I_i2l, I_lcmp, I_if (fun x => x = 0) 2038, I_bot, I_bot, I_const 0 1, I_lret, I_goto 2234, I_bot, I_bot]
set_option maxHeartbeats 8000000 in
set_option maxRecDepth 100000 in
theorem r_law30 {p : Program} {l : Launch} {e : Env} {s : State} {m : MethodId} {below : List Frame} {meth : Method} {c : Code} {D : va_G} {cI cZ cA cL : ClassId} {ad sa : Nat → Nat} {b N : Nat} {xs : Nat → Int32} (Z : LCX p l e s m meth c b N xs D cI cZ cA cL ad sa) (cells slots : Nat) (hcell : cells + 20 ≤ 601024) (hslot : slots + 120 ≤ 7293034) :
    ruL (Ru p l e room_1 s m #[Value.ref b] below meth c cells slots (lw_Z below #[Value.ref b] s) 7 D cI cZ cA cL ad (AA ad s.heap.size) s.heap) 1985 (T_law30 (fun d => WS p l e room_1 s m #[Value.ref b] below meth c (cells + d) (slots + 6 * d) (lw_Z below #[Value.ref b] s) 7 D cI cZ cA cL ad (AA ad s.heap.size) s.heap) N xs) := by
  obtain ⟨hx, hb, hml, hown, hts, hr, hlocks, hK, hN, hX, hC, hXs, hbl, hbA, had, hi, hlt, hA9⟩ := Z
  refine ruL_c (n := 1985) (n2 := 1986) rfl (ru_aload_n (k := 1) hx hb dL_law_1985) ?_
  refine ruL_c (n := 1986) (n2 := 1987) rfl (ru_aload_n (k := 0) hx hb dL_law_1986) ?_
  refine ruL_c (n := 1987) (n2 := 1988) rfl (ru_iload hx hb dL_law_1987) ?_
  refine ruL_c (n := 1988) (n2 := 1989) rfl (ru_bot) ?_
  refine ruL_c (n := 1989) (n2 := 1990) rfl (ru_iconst hx hb dL_law_1989 rfl) ?_
  refine ruL_c (n := 1990) (n2 := 1991) rfl (ru_iadd hx hb dL_law_1990) ?_
  refine ruL_c (n := 1991) (n2 := 1992) rfl (ru_sld hx hb hXs hbl hbA had dL_law_1991) ?_
  refine ruL_c (n := 1992) (n2 := 1993) rfl (ru_aload_n (k := 3) hx hb dL_law_1992) ?_
  refine ruL_c (n := 1993) (n2 := 1994) rfl (ru_callW (own := RL) hx hb hml hown hts hK hN hX hC (c_L_perform l hlt D cI cZ cA cL ad sa hi) (vx_cwSW 3 hts gL_law_L_perform rfl rfl rfl (by decide +kernel) ⟨Nat.le_of_ble_eq_true rfl, Nat.le_of_ble_eq_true rfl⟩) dL_law_1993 ⟨Nat.le_trans (Nat.add_le_add_left (by decide) _) hcell, Nat.le_trans (Nat.add_le_add_left (by decide) _) hslot⟩) ?_
  refine ruL_c (n := 1994) (n2 := 1995) rfl (ru_bot) ?_
  refine ruL_c (n := 1995) (n2 := 1996) rfl (ru_bot) ?_
  refine ruL_c (n := 1996) (n2 := 1997) rfl (ru_istore hx hb dL_law_1996) ?_
  refine ruL_c (n := 1997) (n2 := 1998) rfl (ru_bot) ?_
  refine ruL_c (n := 1998) (n2 := 1999) rfl (ru_aload_n (k := 2) hx hb dL_law_1998) ?_
  refine ruL_c (n := 1999) (n2 := 2000) rfl (ru_aload_n (k := 0) hx hb dL_law_1999) ?_
  refine ruL_c (n := 2000) (n2 := 2001) rfl (ru_iload hx hb dL_law_2000) ?_
  refine ruL_c (n := 2001) (n2 := 2002) rfl (ru_bot) ?_
  refine ruL_c (n := 2002) (n2 := 2003) rfl (ru_iconst hx hb dL_law_2002 rfl) ?_
  refine ruL_c (n := 2003) (n2 := 2004) rfl (ru_iadd hx hb dL_law_2003) ?_
  refine ruL_c (n := 2004) (n2 := 2005) rfl (ru_sld hx hb hXs hbl hbA had dL_law_2004) ?_
  refine ruL_c (n := 2005) (n2 := 2006) rfl (ru_callV (own := RL) hx hb hml hown hts hK hN (by decide) rfl (c_X6_perform l D cI cZ cA cL ad hi) (cwV 1 hts gL_law_X6_perform rfl rfl rfl (by decide +kernel) ⟨Nat.le_of_ble_eq_true rfl, Nat.le_of_ble_eq_true rfl⟩) dL_law_2005 ⟨Nat.le_trans (Nat.le_add_right _ 20) hcell, Nat.le_trans (Nat.le_add_right _ 120) hslot⟩) ?_
  refine ruL_c (n := 2006) (n2 := 2007) rfl (ru_bot) ?_
  refine ruL_c (n := 2007) (n2 := 2008) rfl (ru_bot) ?_
  refine ruL_c (n := 2008) (n2 := 2009) rfl (ru_istore hx hb dL_law_2008) ?_
  refine ruL_c (n := 2009) (n2 := 2010) rfl (ru_bot) ?_
  refine ruL_c (n := 2010) (n2 := 2011) rfl (ru_aload_n (k := 2) hx hb dL_law_2010) ?_
  refine ruL_c (n := 2011) (n2 := 2012) rfl (ru_callV (own := RL) hx hb hml hown hts hK hN (by decide) rfl (c_X6_thrown l D cI cZ cA cL ad hi) (cwV 0 hts gL_law_X6_thrown rfl rfl rfl (by decide +kernel) ⟨Nat.le_of_ble_eq_true rfl, Nat.le_of_ble_eq_true rfl⟩) dL_law_2011 ⟨Nat.le_trans (Nat.le_add_right _ 20) hcell, Nat.le_trans (Nat.le_add_right _ 120) hslot⟩) ?_
  refine ruL_c (n := 2012) (n2 := 2013) rfl (ru_bot) ?_
  refine ruL_c (n := 2013) (n2 := 2014) rfl (ru_bot) ?_
  refine ruL_c (n := 2014) (n2 := 2015) rfl (ru_iload hx hb dL_law_2014) ?_
  refine ruL_c (n := 2015) (n2 := 2016) rfl (ru_bot) ?_
  refine ruL_c (n := 2016) (n2 := 2017) rfl (ru_icmpeq hx hb dL_law_2016 (by decide)) ?_
  refine ruL_c (n := 2017) (n2 := 2018) rfl (ru_bot) ?_
  refine ruL_c (n := 2018) (n2 := 2019) rfl (ru_bot) ?_
  refine ruL_c (n := 2019) (n2 := 2020) rfl (ru_iconst hx hb dL_law_2019 rfl) ?_
  refine ruL_c (n := 2020) (n2 := 2021) rfl (ru_lret hx hb hr hlocks hA9 dL_law_2020 hcell hslot) ?_
  refine ruL_c (n := 2021) (n2 := 2022) rfl (ru_iload hx hb dL_law_2021) ?_
  refine ruL_c (n := 2022) (n2 := 2023) rfl (ru_bot) ?_
  refine ruL_c (n := 2023) (n2 := 2024) rfl (ru_ifne hx hb dL_law_2023 (by decide)) ?_
  refine ruL_c (n := 2024) (n2 := 2025) rfl (ru_bot) ?_
  refine ruL_c (n := 2025) (n2 := 2026) rfl (ru_bot) ?_
  refine ruL_c (n := 2026) (n2 := 2027) rfl (ru_aload_n (k := 3) hx hb dL_law_2026) ?_
  refine ruL_c (n := 2027) (n2 := 2028) rfl (ru_iconst hx hb dL_law_2027 rfl) ?_
  refine ruL_c (n := 2028) (n2 := 2029) rfl (ru_lald hx hb hK dL_law_2028) ?_
  refine ruL_c (n := 2029) (n2 := 2030) rfl (ru_iload hx hb dL_law_2029) ?_
  refine ruL_c (n := 2030) (n2 := 2031) rfl (ru_bot) ?_
  refine ruL_c (n := 2031) (n2 := 2032) rfl (ru_i2l hx hb dL_law_2031) ?_
  refine ruL_c (n := 2032) (n2 := 2033) rfl (ru_lcmp hx hb dL_law_2032) ?_
  refine ruL_c (n := 2033) (n2 := 2034) rfl (ru_ifeq hx hb dL_law_2033 (by decide)) ?_
  refine ruL_c (n := 2034) (n2 := 2035) rfl (ru_bot) ?_
  refine ruL_c (n := 2035) (n2 := 2036) rfl (ru_bot) ?_
  refine ruL_c (n := 2036) (n2 := 2037) rfl (ru_iconst hx hb dL_law_2036 rfl) ?_
  refine ruL_c (n := 2037) (n2 := 2038) rfl (ru_lret hx hb hr hlocks hA9 dL_law_2037 hcell hslot) ?_
  refine ruL_c (n := 2038) (n2 := 2039) rfl (ru_goto hx hb dL_law_2038 (by decide)) ?_
  refine ruL_c (n := 2039) (n2 := 2040) rfl (ru_bot) ?_
  refine ruL_c (n := 2040) (n2 := 2041) rfl (ru_bot) ?_
  exact trivial
set_option maxHeartbeats 8000000 in
set_option maxRecDepth 100000 in
theorem k_law30 {CP : aM → Prop} {N : Nat} {xs : Nat → Int32} {K : Nat → aS → Prop} (hw : ∀ c, c ≤ 8000 → ∀ n x, wpB 1985 (T_law30 (fun d => K (c + d)) N xs) n (K c) x → K c x) (hf : ∀ c pc L i st σ, K c (pc, L.set i .null, st, σ) → K c (pc, L, st, σ)) (ag : ∀ p0 : Int32, agW CP (f_L_perform p0) (f_X6_perform p0)) (c i : Nat) (hc : c ≤ 7900) (g1 : inb (nI i + 1) N = true) (g2 : inb (nI i + 2) N = true) (g3 : inb (nI i + 3) N = true) (g4 : inb (nI i + 4) N = true) (σ : aM) (hCP : CP σ)
    (hback : ∀ c2 σ2, c2 ≤ c + 12 → CP σ2 → K c2 (2234, [.ref 200, .ref 0, .ref 6, .ref 178, .int (nI i), .null, .null], [], σ2)) : K c (1985, [.ref 200, .ref 0, .ref 6, .ref 178, .int (nI i), .null, .null], [], σ) := by
  obtain ⟨k1, σ1, b1, σ2, e1, e2, e3, e4, hcp⟩ := ag (xs (ix (nI i + 1))) σ hCP
  refine hw c (by omega) 8 _ ?_
  show inb (nI i + 1) N = true ∧ (∃ k1 σ1, f_L_perform (xs (ix (nI i + 1))) σ = some (k1, σ1) ∧ K (c + 8) (1996, [.ref 200, .ref 0, .ref 6, .ref 178, .int (nI i), .null, .null], [.int k1], σ1))
  refine ⟨g1, ⟨k1, σ1, e1, ?_⟩⟩
  refine hw (c + 8) (by omega) 8 _ ?_
  show inb (nI i + 1) N = true ∧ (∃ b1 σ2, f_X6_perform (xs (ix (nI i + 1))) σ1 = some (b1, σ2) ∧ K (c + 8) (2008, [.ref 200, .ref 0, .ref 6, .ref 178, .int (nI i), .int k1, .null], [.int b1], σ2))
  refine ⟨g1, ⟨b1, σ2, e2, ?_⟩⟩
  refine hw (c + 8) (by omega) 3 _ ?_
  show ∃ r3 σ3, f_X6_thrown σ2 = some (r3, σ3) ∧ K (c + 8) (2014, [.ref 200, .ref 0, .ref 6, .ref 178, .int (nI i), .int k1, .int b1], [.int r3], σ3)
  refine ⟨σ2 6 0, σ2, rfl, ?_⟩
  refine hw (c + 8) (by omega) 2 _ ?_
  show (((σ2 6 0) = k1) → K (c + 8) (2021, [.ref 200, .ref 0, .ref 6, .ref 178, .int (nI i), .int k1, .int b1], [], σ2)) ∧ (¬ ((σ2 6 0) = k1) → K (c + 8) (2019, [.ref 200, .ref 0, .ref 6, .ref 178, .int (nI i), .int k1, .int b1], [], σ2))
  refine ⟨fun _ => ?_, fun q => absurd e3 q⟩
  by_cases hk : k1 = 0
  · have hz : σ2 178 (ix 0) = b1 := e4 hk
    refine hw (c + 8) (by omega) 2 _ ?_
    show ((¬ k1 = 0) → K (c + 8) (2038, [.ref 200, .ref 0, .ref 6, .ref 178, .int (nI i), .int k1, .int b1], [], σ2)) ∧ (¬ (¬ k1 = 0) → K (c + 8) (2026, [.ref 200, .ref 0, .ref 6, .ref 178, .int (nI i), .int k1, .int b1], [], σ2))
    refine ⟨fun q => absurd hk q, fun _ => ?_⟩
    refine hw (c + 8) (by omega) 7 _ ?_
    show kd 178 = 4 ∧ (inb 0 1 = true ∧ ((((lg_cmp (σ2 178 (ix 0)).toInt64 b1.toInt64) = 0) → K (c + 8) (2038, [.ref 200, .ref 0, .ref 6, .ref 178, .int (nI i), .int k1, .int b1], [], σ2)) ∧ (¬ ((lg_cmp (σ2 178 (ix 0)).toInt64 b1.toInt64) = 0) → K (c + 8) (2036, [.ref 200, .ref 0, .ref 6, .ref 178, .int (nI i), .int k1, .int b1], [], σ2))))
    refine ⟨rfl, by decide, ⟨fun _ => ?_, fun q => absurd (by rw [hz]; exact lcmp_eq _) q⟩⟩
    refine hw (c + 8) (by omega) 1 _ ?_
    show K (c + 8) (2234, [.ref 200, .ref 0, .ref 6, .ref 178, .int (nI i), .int k1, .int b1], [], σ2)
    refine hf _ _ _ 5 _ _ ?_
    show K (c + 8) (2234, [.ref 200, .ref 0, .ref 6, .ref 178, .int (nI i), .null, .int b1], [], σ2)
    refine hf _ _ _ 6 _ _ ?_
    show K (c + 8) (2234, [.ref 200, .ref 0, .ref 6, .ref 178, .int (nI i), .null, .null], [], σ2)
    exact hback _ _ (by omega) hcp
  · refine hw (c + 8) (by omega) 2 _ ?_
    show ((¬ k1 = 0) → K (c + 8) (2038, [.ref 200, .ref 0, .ref 6, .ref 178, .int (nI i), .int k1, .int b1], [], σ2)) ∧ (¬ (¬ k1 = 0) → K (c + 8) (2026, [.ref 200, .ref 0, .ref 6, .ref 178, .int (nI i), .int k1, .int b1], [], σ2))
    refine ⟨fun _ => ?_, fun q => absurd hk q⟩
    refine hw (c + 8) (by omega) 1 _ ?_
    show K (c + 8) (2234, [.ref 200, .ref 0, .ref 6, .ref 178, .int (nI i), .int k1, .int b1], [], σ2)
    refine hf _ _ _ 5 _ _ ?_
    show K (c + 8) (2234, [.ref 200, .ref 0, .ref 6, .ref 178, .int (nI i), .null, .int b1], [], σ2)
    refine hf _ _ _ 6 _ _ ?_
    show K (c + 8) (2234, [.ref 200, .ref 0, .ref 6, .ref 178, .int (nI i), .null, .null], [], σ2)
    exact hback _ _ (by omega) hcp
def T_law31 (KN : Nat → aS → Prop) (N : Nat) (xs : Nat → Int32) : List aI := [I_aload 1 1, I_callV 0 0 F_X5_logs, I_bot, I_bot, I_aload 2 1, I_callV 6 0 F_X6_logs, I_bot, I_bot, I_icmp (fun x y => x = y) 2234, I_bot, I_bot, I_const 0 1, I_lret]
set_option maxHeartbeats 8000000 in
set_option maxRecDepth 100000 in
theorem r_law31 {p : Program} {l : Launch} {e : Env} {s : State} {m : MethodId} {below : List Frame} {meth : Method} {c : Code} {D : va_G} {cI cZ cA cL : ClassId} {ad sa : Nat → Nat} {b N : Nat} {xs : Nat → Int32} (Z : LCX p l e s m meth c b N xs D cI cZ cA cL ad sa) (cells slots : Nat) (hcell : cells + 20 ≤ 601024) (hslot : slots + 120 ≤ 7293034) :
    ruL (Ru p l e room_1 s m #[Value.ref b] below meth c cells slots (lw_Z below #[Value.ref b] s) 7 D cI cZ cA cL ad (AA ad s.heap.size) s.heap) 2041 (T_law31 (fun d => WS p l e room_1 s m #[Value.ref b] below meth c (cells + d) (slots + 6 * d) (lw_Z below #[Value.ref b] s) 7 D cI cZ cA cL ad (AA ad s.heap.size) s.heap) N xs) := by
  obtain ⟨hx, hb, hml, hown, hts, hr, hlocks, hK, hN, hX, hC, hXs, hbl, hbA, had, hi, hlt, hA9⟩ := Z
  refine ruL_c (n := 2041) (n2 := 2042) rfl (ru_aload_n (k := 1) hx hb dL_law_2041) ?_
  refine ruL_c (n := 2042) (n2 := 2043) rfl (ru_callV (own := RL) hx hb hml hown hts hK hN (by decide) rfl (c_X5_logs l D cI cZ cA cL ad hi) (cwV 0 hts gL_law_X5_logs rfl rfl rfl (by decide +kernel) ⟨Nat.le_of_ble_eq_true rfl, Nat.le_of_ble_eq_true rfl⟩) dL_law_2042 ⟨Nat.le_trans (Nat.le_add_right _ 20) hcell, Nat.le_trans (Nat.le_add_right _ 120) hslot⟩) ?_
  refine ruL_c (n := 2043) (n2 := 2044) rfl (ru_bot) ?_
  refine ruL_c (n := 2044) (n2 := 2045) rfl (ru_bot) ?_
  refine ruL_c (n := 2045) (n2 := 2046) rfl (ru_aload_n (k := 2) hx hb dL_law_2045) ?_
  refine ruL_c (n := 2046) (n2 := 2047) rfl (ru_callV (own := RL) hx hb hml hown hts hK hN (by decide) rfl (c_X6_logs l D cI cZ cA cL ad hi) (cwV 0 hts gL_law_X6_logs rfl rfl rfl (by decide +kernel) ⟨Nat.le_of_ble_eq_true rfl, Nat.le_of_ble_eq_true rfl⟩) dL_law_2046 ⟨Nat.le_trans (Nat.le_add_right _ 20) hcell, Nat.le_trans (Nat.le_add_right _ 120) hslot⟩) ?_
  refine ruL_c (n := 2047) (n2 := 2048) rfl (ru_bot) ?_
  refine ruL_c (n := 2048) (n2 := 2049) rfl (ru_bot) ?_
  refine ruL_c (n := 2049) (n2 := 2050) rfl (ru_icmpeq hx hb dL_law_2049 (by decide)) ?_
  refine ruL_c (n := 2050) (n2 := 2051) rfl (ru_bot) ?_
  refine ruL_c (n := 2051) (n2 := 2052) rfl (ru_bot) ?_
  refine ruL_c (n := 2052) (n2 := 2053) rfl (ru_iconst hx hb dL_law_2052 rfl) ?_
  refine ruL_c (n := 2053) (n2 := 2054) rfl (ru_lret hx hb hr hlocks hA9 dL_law_2053 hcell hslot) ?_
  exact trivial
set_option maxHeartbeats 8000000 in
set_option maxRecDepth 100000 in
theorem k_law31 {CP : aM → Prop} {N : Nat} {xs : Nat → Int32} {K : Nat → aS → Prop} (hw : ∀ c, c ≤ 8000 → ∀ n x, wpB 2041 (T_law31 (fun d => K (c + d)) N xs) n (K c) x → K c x) (hf : ∀ c pc L i st σ, K c (pc, L.set i .null, st, σ) → K c (pc, L, st, σ)) (ag : agD CP f_X5_logs f_X6_logs) (c i : Nat) (hc : c ≤ 7900) (g1 : inb (nI i + 1) N = true) (g2 : inb (nI i + 2) N = true) (g3 : inb (nI i + 3) N = true) (g4 : inb (nI i + 4) N = true) (σ : aM) (hCP : CP σ)
    (hback : ∀ c2 σ2, c2 ≤ c + 12 → CP σ2 → K c2 (2234, [.ref 200, .ref 0, .ref 6, .ref 178, .int (nI i), .null, .null], [], σ2)) : K c (2041, [.ref 200, .ref 0, .ref 6, .ref 178, .int (nI i), .null, .null], [], σ) := by
  obtain ⟨k1, σ1, σ2, e1, e2, hcp⟩ := ag σ hCP
  refine hw c (by omega) 2 _ ?_
  show ∃ k1 σ1, f_X5_logs σ = some (k1, σ1) ∧ K c (2045, [.ref 200, .ref 0, .ref 6, .ref 178, .int (nI i), .null, .null], [.int k1], σ1)
  refine ⟨k1, σ1, e1, ?_⟩
  refine hw c (by omega) 2 _ ?_
  show ∃ b1 σ2, f_X6_logs σ1 = some (b1, σ2) ∧ K c (2049, [.ref 200, .ref 0, .ref 6, .ref 178, .int (nI i), .null, .null], [.int b1, .int k1], σ2)
  refine ⟨k1, σ2, e2, ?_⟩
  refine hw c (by omega) 1 _ ?_
  show ((k1 = k1) → K c (2234, [.ref 200, .ref 0, .ref 6, .ref 178, .int (nI i), .null, .null], [], σ2)) ∧ (¬ (k1 = k1) → K c (2052, [.ref 200, .ref 0, .ref 6, .ref 178, .int (nI i), .null, .null], [], σ2))
  refine ⟨fun _ => ?_, fun q => absurd rfl q⟩
  exact hback _ _ (by omega) hcp
def T_law32 (KN : Nat → aS → Prop) (N : Nat) (xs : Nat → Int32) : List aI := [I_aload 1 1, I_aload 0 1, I_iload 4 2, I_bot, I_const 1 1, I_bin fun x y => x + y, I_sld N xs, I_aload 3 1, I_callW 3 F_L_stageOf (KN 4), I_bot, I_bot, I_istore 5 2, I_bot, I_aload 2 1, I_aload 0 1, I_iload 4 2, I_bot, I_const 1 1, I_bin fun x y => x + y, I_sld N xs, I_callV 6 1 F_X6_stageOf, I_bot, I_bot, I_istore 6 2, I_bot, I_aload 2 1, I_callV 6 0 F_X6_thrown, I_bot, I_bot, I_iload 5 2, I_bot, I_icmp (fun x y => x = y) 2090, I_bot, I_bot, I_const 0 1, I_lret, I_iload 5 2, I_bot, I_if (fun x => ¬ x = 0) 2107, I_bot, I_bot, I_aload 3 1, I_const 0 1, I_lald, I_iload 6 2, I_bot, I_i2l, I_lcmp, I_if (fun x => x = 0) 2107, I_bot, I_bot, I_const 0 1, I_lret, I_goto 2234, I_bot, I_bot]
set_option maxHeartbeats 8000000 in
set_option maxRecDepth 100000 in
theorem r_law32 {p : Program} {l : Launch} {e : Env} {s : State} {m : MethodId} {below : List Frame} {meth : Method} {c : Code} {D : va_G} {cI cZ cA cL : ClassId} {ad sa : Nat → Nat} {b N : Nat} {xs : Nat → Int32} (Z : LCX p l e s m meth c b N xs D cI cZ cA cL ad sa) (cells slots : Nat) (hcell : cells + 20 ≤ 601024) (hslot : slots + 120 ≤ 7293034) :
    ruL (Ru p l e room_1 s m #[Value.ref b] below meth c cells slots (lw_Z below #[Value.ref b] s) 7 D cI cZ cA cL ad (AA ad s.heap.size) s.heap) 2054 (T_law32 (fun d => WS p l e room_1 s m #[Value.ref b] below meth c (cells + d) (slots + 6 * d) (lw_Z below #[Value.ref b] s) 7 D cI cZ cA cL ad (AA ad s.heap.size) s.heap) N xs) := by
  obtain ⟨hx, hb, hml, hown, hts, hr, hlocks, hK, hN, hX, hC, hXs, hbl, hbA, had, hi, hlt, hA9⟩ := Z
  refine ruL_c (n := 2054) (n2 := 2055) rfl (ru_aload_n (k := 1) hx hb dL_law_2054) ?_
  refine ruL_c (n := 2055) (n2 := 2056) rfl (ru_aload_n (k := 0) hx hb dL_law_2055) ?_
  refine ruL_c (n := 2056) (n2 := 2057) rfl (ru_iload hx hb dL_law_2056) ?_
  refine ruL_c (n := 2057) (n2 := 2058) rfl (ru_bot) ?_
  refine ruL_c (n := 2058) (n2 := 2059) rfl (ru_iconst hx hb dL_law_2058 rfl) ?_
  refine ruL_c (n := 2059) (n2 := 2060) rfl (ru_iadd hx hb dL_law_2059) ?_
  refine ruL_c (n := 2060) (n2 := 2061) rfl (ru_sld hx hb hXs hbl hbA had dL_law_2060) ?_
  refine ruL_c (n := 2061) (n2 := 2062) rfl (ru_aload_n (k := 3) hx hb dL_law_2061) ?_
  refine ruL_c (n := 2062) (n2 := 2063) rfl (ru_callW (own := RL) hx hb hml hown hts hK hN hX hC (c_L_stageOf l hlt D cI cZ cA cL ad sa hi) (vx_cwSW 3 hts gL_law_L_stageOf rfl rfl rfl (by decide +kernel) ⟨Nat.le_of_ble_eq_true rfl, Nat.le_of_ble_eq_true rfl⟩) dL_law_2062 ⟨Nat.le_trans (Nat.add_le_add_left (by decide) _) hcell, Nat.le_trans (Nat.add_le_add_left (by decide) _) hslot⟩) ?_
  refine ruL_c (n := 2063) (n2 := 2064) rfl (ru_bot) ?_
  refine ruL_c (n := 2064) (n2 := 2065) rfl (ru_bot) ?_
  refine ruL_c (n := 2065) (n2 := 2066) rfl (ru_istore hx hb dL_law_2065) ?_
  refine ruL_c (n := 2066) (n2 := 2067) rfl (ru_bot) ?_
  refine ruL_c (n := 2067) (n2 := 2068) rfl (ru_aload_n (k := 2) hx hb dL_law_2067) ?_
  refine ruL_c (n := 2068) (n2 := 2069) rfl (ru_aload_n (k := 0) hx hb dL_law_2068) ?_
  refine ruL_c (n := 2069) (n2 := 2070) rfl (ru_iload hx hb dL_law_2069) ?_
  refine ruL_c (n := 2070) (n2 := 2071) rfl (ru_bot) ?_
  refine ruL_c (n := 2071) (n2 := 2072) rfl (ru_iconst hx hb dL_law_2071 rfl) ?_
  refine ruL_c (n := 2072) (n2 := 2073) rfl (ru_iadd hx hb dL_law_2072) ?_
  refine ruL_c (n := 2073) (n2 := 2074) rfl (ru_sld hx hb hXs hbl hbA had dL_law_2073) ?_
  refine ruL_c (n := 2074) (n2 := 2075) rfl (ru_callV (own := RL) hx hb hml hown hts hK hN (by decide) rfl (c_X6_stageOf l D cI cZ cA cL ad hi) (cwV 1 hts gL_law_X6_stageOf rfl rfl rfl (by decide +kernel) ⟨Nat.le_of_ble_eq_true rfl, Nat.le_of_ble_eq_true rfl⟩) dL_law_2074 ⟨Nat.le_trans (Nat.le_add_right _ 20) hcell, Nat.le_trans (Nat.le_add_right _ 120) hslot⟩) ?_
  refine ruL_c (n := 2075) (n2 := 2076) rfl (ru_bot) ?_
  refine ruL_c (n := 2076) (n2 := 2077) rfl (ru_bot) ?_
  refine ruL_c (n := 2077) (n2 := 2078) rfl (ru_istore hx hb dL_law_2077) ?_
  refine ruL_c (n := 2078) (n2 := 2079) rfl (ru_bot) ?_
  refine ruL_c (n := 2079) (n2 := 2080) rfl (ru_aload_n (k := 2) hx hb dL_law_2079) ?_
  refine ruL_c (n := 2080) (n2 := 2081) rfl (ru_callV (own := RL) hx hb hml hown hts hK hN (by decide) rfl (c_X6_thrown l D cI cZ cA cL ad hi) (cwV 0 hts gL_law_X6_thrown rfl rfl rfl (by decide +kernel) ⟨Nat.le_of_ble_eq_true rfl, Nat.le_of_ble_eq_true rfl⟩) dL_law_2080 ⟨Nat.le_trans (Nat.le_add_right _ 20) hcell, Nat.le_trans (Nat.le_add_right _ 120) hslot⟩) ?_
  refine ruL_c (n := 2081) (n2 := 2082) rfl (ru_bot) ?_
  refine ruL_c (n := 2082) (n2 := 2083) rfl (ru_bot) ?_
  refine ruL_c (n := 2083) (n2 := 2084) rfl (ru_iload hx hb dL_law_2083) ?_
  refine ruL_c (n := 2084) (n2 := 2085) rfl (ru_bot) ?_
  refine ruL_c (n := 2085) (n2 := 2086) rfl (ru_icmpeq hx hb dL_law_2085 (by decide)) ?_
  refine ruL_c (n := 2086) (n2 := 2087) rfl (ru_bot) ?_
  refine ruL_c (n := 2087) (n2 := 2088) rfl (ru_bot) ?_
  refine ruL_c (n := 2088) (n2 := 2089) rfl (ru_iconst hx hb dL_law_2088 rfl) ?_
  refine ruL_c (n := 2089) (n2 := 2090) rfl (ru_lret hx hb hr hlocks hA9 dL_law_2089 hcell hslot) ?_
  refine ruL_c (n := 2090) (n2 := 2091) rfl (ru_iload hx hb dL_law_2090) ?_
  refine ruL_c (n := 2091) (n2 := 2092) rfl (ru_bot) ?_
  refine ruL_c (n := 2092) (n2 := 2093) rfl (ru_ifne hx hb dL_law_2092 (by decide)) ?_
  refine ruL_c (n := 2093) (n2 := 2094) rfl (ru_bot) ?_
  refine ruL_c (n := 2094) (n2 := 2095) rfl (ru_bot) ?_
  refine ruL_c (n := 2095) (n2 := 2096) rfl (ru_aload_n (k := 3) hx hb dL_law_2095) ?_
  refine ruL_c (n := 2096) (n2 := 2097) rfl (ru_iconst hx hb dL_law_2096 rfl) ?_
  refine ruL_c (n := 2097) (n2 := 2098) rfl (ru_lald hx hb hK dL_law_2097) ?_
  refine ruL_c (n := 2098) (n2 := 2099) rfl (ru_iload hx hb dL_law_2098) ?_
  refine ruL_c (n := 2099) (n2 := 2100) rfl (ru_bot) ?_
  refine ruL_c (n := 2100) (n2 := 2101) rfl (ru_i2l hx hb dL_law_2100) ?_
  refine ruL_c (n := 2101) (n2 := 2102) rfl (ru_lcmp hx hb dL_law_2101) ?_
  refine ruL_c (n := 2102) (n2 := 2103) rfl (ru_ifeq hx hb dL_law_2102 (by decide)) ?_
  refine ruL_c (n := 2103) (n2 := 2104) rfl (ru_bot) ?_
  refine ruL_c (n := 2104) (n2 := 2105) rfl (ru_bot) ?_
  refine ruL_c (n := 2105) (n2 := 2106) rfl (ru_iconst hx hb dL_law_2105 rfl) ?_
  refine ruL_c (n := 2106) (n2 := 2107) rfl (ru_lret hx hb hr hlocks hA9 dL_law_2106 hcell hslot) ?_
  refine ruL_c (n := 2107) (n2 := 2108) rfl (ru_goto hx hb dL_law_2107 (by decide)) ?_
  refine ruL_c (n := 2108) (n2 := 2109) rfl (ru_bot) ?_
  refine ruL_c (n := 2109) (n2 := 2110) rfl (ru_bot) ?_
  exact trivial
set_option maxHeartbeats 8000000 in
set_option maxRecDepth 100000 in
theorem k_law32 {CP : aM → Prop} {N : Nat} {xs : Nat → Int32} {K : Nat → aS → Prop} (hw : ∀ c, c ≤ 8000 → ∀ n x, wpB 2054 (T_law32 (fun d => K (c + d)) N xs) n (K c) x → K c x) (hf : ∀ c pc L i st σ, K c (pc, L.set i .null, st, σ) → K c (pc, L, st, σ)) (ag : ∀ p0 : Int32, agW CP (f_L_stageOf p0) (f_X6_stageOf p0)) (c i : Nat) (hc : c ≤ 7900) (g1 : inb (nI i + 1) N = true) (g2 : inb (nI i + 2) N = true) (g3 : inb (nI i + 3) N = true) (g4 : inb (nI i + 4) N = true) (σ : aM) (hCP : CP σ)
    (hback : ∀ c2 σ2, c2 ≤ c + 12 → CP σ2 → K c2 (2234, [.ref 200, .ref 0, .ref 6, .ref 178, .int (nI i), .null, .null], [], σ2)) : K c (2054, [.ref 200, .ref 0, .ref 6, .ref 178, .int (nI i), .null, .null], [], σ) := by
  obtain ⟨k1, σ1, b1, σ2, e1, e2, e3, e4, hcp⟩ := ag (xs (ix (nI i + 1))) σ hCP
  refine hw c (by omega) 8 _ ?_
  show inb (nI i + 1) N = true ∧ (∃ k1 σ1, f_L_stageOf (xs (ix (nI i + 1))) σ = some (k1, σ1) ∧ K (c + 4) (2065, [.ref 200, .ref 0, .ref 6, .ref 178, .int (nI i), .null, .null], [.int k1], σ1))
  refine ⟨g1, ⟨k1, σ1, e1, ?_⟩⟩
  refine hw (c + 4) (by omega) 8 _ ?_
  show inb (nI i + 1) N = true ∧ (∃ b1 σ2, f_X6_stageOf (xs (ix (nI i + 1))) σ1 = some (b1, σ2) ∧ K (c + 4) (2077, [.ref 200, .ref 0, .ref 6, .ref 178, .int (nI i), .int k1, .null], [.int b1], σ2))
  refine ⟨g1, ⟨b1, σ2, e2, ?_⟩⟩
  refine hw (c + 4) (by omega) 3 _ ?_
  show ∃ r3 σ3, f_X6_thrown σ2 = some (r3, σ3) ∧ K (c + 4) (2083, [.ref 200, .ref 0, .ref 6, .ref 178, .int (nI i), .int k1, .int b1], [.int r3], σ3)
  refine ⟨σ2 6 0, σ2, rfl, ?_⟩
  refine hw (c + 4) (by omega) 2 _ ?_
  show (((σ2 6 0) = k1) → K (c + 4) (2090, [.ref 200, .ref 0, .ref 6, .ref 178, .int (nI i), .int k1, .int b1], [], σ2)) ∧ (¬ ((σ2 6 0) = k1) → K (c + 4) (2088, [.ref 200, .ref 0, .ref 6, .ref 178, .int (nI i), .int k1, .int b1], [], σ2))
  refine ⟨fun _ => ?_, fun q => absurd e3 q⟩
  by_cases hk : k1 = 0
  · have hz : σ2 178 (ix 0) = b1 := e4 hk
    refine hw (c + 4) (by omega) 2 _ ?_
    show ((¬ k1 = 0) → K (c + 4) (2107, [.ref 200, .ref 0, .ref 6, .ref 178, .int (nI i), .int k1, .int b1], [], σ2)) ∧ (¬ (¬ k1 = 0) → K (c + 4) (2095, [.ref 200, .ref 0, .ref 6, .ref 178, .int (nI i), .int k1, .int b1], [], σ2))
    refine ⟨fun q => absurd hk q, fun _ => ?_⟩
    refine hw (c + 4) (by omega) 7 _ ?_
    show kd 178 = 4 ∧ (inb 0 1 = true ∧ ((((lg_cmp (σ2 178 (ix 0)).toInt64 b1.toInt64) = 0) → K (c + 4) (2107, [.ref 200, .ref 0, .ref 6, .ref 178, .int (nI i), .int k1, .int b1], [], σ2)) ∧ (¬ ((lg_cmp (σ2 178 (ix 0)).toInt64 b1.toInt64) = 0) → K (c + 4) (2105, [.ref 200, .ref 0, .ref 6, .ref 178, .int (nI i), .int k1, .int b1], [], σ2))))
    refine ⟨rfl, by decide, ⟨fun _ => ?_, fun q => absurd (by rw [hz]; exact lcmp_eq _) q⟩⟩
    refine hw (c + 4) (by omega) 1 _ ?_
    show K (c + 4) (2234, [.ref 200, .ref 0, .ref 6, .ref 178, .int (nI i), .int k1, .int b1], [], σ2)
    refine hf _ _ _ 5 _ _ ?_
    show K (c + 4) (2234, [.ref 200, .ref 0, .ref 6, .ref 178, .int (nI i), .null, .int b1], [], σ2)
    refine hf _ _ _ 6 _ _ ?_
    show K (c + 4) (2234, [.ref 200, .ref 0, .ref 6, .ref 178, .int (nI i), .null, .null], [], σ2)
    exact hback _ _ (by omega) hcp
  · refine hw (c + 4) (by omega) 2 _ ?_
    show ((¬ k1 = 0) → K (c + 4) (2107, [.ref 200, .ref 0, .ref 6, .ref 178, .int (nI i), .int k1, .int b1], [], σ2)) ∧ (¬ (¬ k1 = 0) → K (c + 4) (2095, [.ref 200, .ref 0, .ref 6, .ref 178, .int (nI i), .int k1, .int b1], [], σ2))
    refine ⟨fun _ => ?_, fun q => absurd hk q⟩
    refine hw (c + 4) (by omega) 1 _ ?_
    show K (c + 4) (2234, [.ref 200, .ref 0, .ref 6, .ref 178, .int (nI i), .int k1, .int b1], [], σ2)
    refine hf _ _ _ 5 _ _ ?_
    show K (c + 4) (2234, [.ref 200, .ref 0, .ref 6, .ref 178, .int (nI i), .null, .int b1], [], σ2)
    refine hf _ _ _ 6 _ _ ?_
    show K (c + 4) (2234, [.ref 200, .ref 0, .ref 6, .ref 178, .int (nI i), .null, .null], [], σ2)
    exact hback _ _ (by omega) hcp
def T_law33 (KN : Nat → aS → Prop) (N : Nat) (xs : Nat → Int32) : List aI := [I_aload 1 1, I_aload 0 1, I_iload 4 2, I_bot, I_const 1 1, I_bin fun x y => x + y, I_sld N xs, I_aload 0 1, I_iload 4 2, I_bot, I_const 2 1, I_bin fun x y => x + y, I_sld N xs, I_aload 3 1, I_callW 4 F_L_wasShortOf (KN 6), I_bot, I_bot, I_istore 5 2, I_bot, I_aload 2 1, I_aload 0 1, I_iload 4 2, I_bot, I_const 1 1, I_bin fun x y => x + y, I_sld N xs, I_aload 0 1, I_iload 4 2, I_bot, I_const 2 1, I_bin fun x y => x + y, I_sld N xs, I_callV 6 2 F_X6_wasShortOf, I_bot, I_bot, I_istore 6 2, I_bot, I_aload 2 1, I_callV 6 0 F_X6_thrown, I_bot, I_bot, I_iload 5 2, I_bot, I_icmp (fun x y => x = y) 2158, I_bot, I_bot, I_const 0 1, I_lret, I_iload 5 2, I_bot, I_if (fun x => ¬ x = 0) 2175, I_bot, I_bot, I_aload 3 1, I_const 0 1, I_lald, I_iload 6 2, I_bot, I_i2l, I_lcmp, I_if (fun x => x = 0) 2175, I_bot, I_bot, I_const 0 1, I_lret, I_goto 2234, I_bot, I_bot]
set_option maxHeartbeats 8000000 in
set_option maxRecDepth 100000 in
theorem r_law33 {p : Program} {l : Launch} {e : Env} {s : State} {m : MethodId} {below : List Frame} {meth : Method} {c : Code} {D : va_G} {cI cZ cA cL : ClassId} {ad sa : Nat → Nat} {b N : Nat} {xs : Nat → Int32} (Z : LCX p l e s m meth c b N xs D cI cZ cA cL ad sa) (cells slots : Nat) (hcell : cells + 20 ≤ 601024) (hslot : slots + 120 ≤ 7293034) :
    ruL (Ru p l e room_1 s m #[Value.ref b] below meth c cells slots (lw_Z below #[Value.ref b] s) 7 D cI cZ cA cL ad (AA ad s.heap.size) s.heap) 2110 (T_law33 (fun d => WS p l e room_1 s m #[Value.ref b] below meth c (cells + d) (slots + 6 * d) (lw_Z below #[Value.ref b] s) 7 D cI cZ cA cL ad (AA ad s.heap.size) s.heap) N xs) := by
  obtain ⟨hx, hb, hml, hown, hts, hr, hlocks, hK, hN, hX, hC, hXs, hbl, hbA, had, hi, hlt, hA9⟩ := Z
  refine ruL_c (n := 2110) (n2 := 2111) rfl (ru_aload_n (k := 1) hx hb dL_law_2110) ?_
  refine ruL_c (n := 2111) (n2 := 2112) rfl (ru_aload_n (k := 0) hx hb dL_law_2111) ?_
  refine ruL_c (n := 2112) (n2 := 2113) rfl (ru_iload hx hb dL_law_2112) ?_
  refine ruL_c (n := 2113) (n2 := 2114) rfl (ru_bot) ?_
  refine ruL_c (n := 2114) (n2 := 2115) rfl (ru_iconst hx hb dL_law_2114 rfl) ?_
  refine ruL_c (n := 2115) (n2 := 2116) rfl (ru_iadd hx hb dL_law_2115) ?_
  refine ruL_c (n := 2116) (n2 := 2117) rfl (ru_sld hx hb hXs hbl hbA had dL_law_2116) ?_
  refine ruL_c (n := 2117) (n2 := 2118) rfl (ru_aload_n (k := 0) hx hb dL_law_2117) ?_
  refine ruL_c (n := 2118) (n2 := 2119) rfl (ru_iload hx hb dL_law_2118) ?_
  refine ruL_c (n := 2119) (n2 := 2120) rfl (ru_bot) ?_
  refine ruL_c (n := 2120) (n2 := 2121) rfl (ru_iconst hx hb dL_law_2120 rfl) ?_
  refine ruL_c (n := 2121) (n2 := 2122) rfl (ru_iadd hx hb dL_law_2121) ?_
  refine ruL_c (n := 2122) (n2 := 2123) rfl (ru_sld hx hb hXs hbl hbA had dL_law_2122) ?_
  refine ruL_c (n := 2123) (n2 := 2124) rfl (ru_aload_n (k := 3) hx hb dL_law_2123) ?_
  refine ruL_c (n := 2124) (n2 := 2125) rfl (ru_callW (own := RL) hx hb hml hown hts hK hN hX hC (c_L_wasShortOf l hlt D cI cZ cA cL ad sa hi) (vx_cwSW 4 hts gL_law_L_wasShortOf rfl rfl rfl (by decide +kernel) ⟨Nat.le_of_ble_eq_true rfl, Nat.le_of_ble_eq_true rfl⟩) dL_law_2124 ⟨Nat.le_trans (Nat.add_le_add_left (by decide) _) hcell, Nat.le_trans (Nat.add_le_add_left (by decide) _) hslot⟩) ?_
  refine ruL_c (n := 2125) (n2 := 2126) rfl (ru_bot) ?_
  refine ruL_c (n := 2126) (n2 := 2127) rfl (ru_bot) ?_
  refine ruL_c (n := 2127) (n2 := 2128) rfl (ru_istore hx hb dL_law_2127) ?_
  refine ruL_c (n := 2128) (n2 := 2129) rfl (ru_bot) ?_
  refine ruL_c (n := 2129) (n2 := 2130) rfl (ru_aload_n (k := 2) hx hb dL_law_2129) ?_
  refine ruL_c (n := 2130) (n2 := 2131) rfl (ru_aload_n (k := 0) hx hb dL_law_2130) ?_
  refine ruL_c (n := 2131) (n2 := 2132) rfl (ru_iload hx hb dL_law_2131) ?_
  refine ruL_c (n := 2132) (n2 := 2133) rfl (ru_bot) ?_
  refine ruL_c (n := 2133) (n2 := 2134) rfl (ru_iconst hx hb dL_law_2133 rfl) ?_
  refine ruL_c (n := 2134) (n2 := 2135) rfl (ru_iadd hx hb dL_law_2134) ?_
  refine ruL_c (n := 2135) (n2 := 2136) rfl (ru_sld hx hb hXs hbl hbA had dL_law_2135) ?_
  refine ruL_c (n := 2136) (n2 := 2137) rfl (ru_aload_n (k := 0) hx hb dL_law_2136) ?_
  refine ruL_c (n := 2137) (n2 := 2138) rfl (ru_iload hx hb dL_law_2137) ?_
  refine ruL_c (n := 2138) (n2 := 2139) rfl (ru_bot) ?_
  refine ruL_c (n := 2139) (n2 := 2140) rfl (ru_iconst hx hb dL_law_2139 rfl) ?_
  refine ruL_c (n := 2140) (n2 := 2141) rfl (ru_iadd hx hb dL_law_2140) ?_
  refine ruL_c (n := 2141) (n2 := 2142) rfl (ru_sld hx hb hXs hbl hbA had dL_law_2141) ?_
  refine ruL_c (n := 2142) (n2 := 2143) rfl (ru_callV (own := RL) hx hb hml hown hts hK hN (by decide) rfl (c_X6_wasShortOf l D cI cZ cA cL ad hi) (cwV 2 hts gL_law_X6_wasShortOf rfl rfl rfl (by decide +kernel) ⟨Nat.le_of_ble_eq_true rfl, Nat.le_of_ble_eq_true rfl⟩) dL_law_2142 ⟨Nat.le_trans (Nat.le_add_right _ 20) hcell, Nat.le_trans (Nat.le_add_right _ 120) hslot⟩) ?_
  refine ruL_c (n := 2143) (n2 := 2144) rfl (ru_bot) ?_
  refine ruL_c (n := 2144) (n2 := 2145) rfl (ru_bot) ?_
  refine ruL_c (n := 2145) (n2 := 2146) rfl (ru_istore hx hb dL_law_2145) ?_
  refine ruL_c (n := 2146) (n2 := 2147) rfl (ru_bot) ?_
  refine ruL_c (n := 2147) (n2 := 2148) rfl (ru_aload_n (k := 2) hx hb dL_law_2147) ?_
  refine ruL_c (n := 2148) (n2 := 2149) rfl (ru_callV (own := RL) hx hb hml hown hts hK hN (by decide) rfl (c_X6_thrown l D cI cZ cA cL ad hi) (cwV 0 hts gL_law_X6_thrown rfl rfl rfl (by decide +kernel) ⟨Nat.le_of_ble_eq_true rfl, Nat.le_of_ble_eq_true rfl⟩) dL_law_2148 ⟨Nat.le_trans (Nat.le_add_right _ 20) hcell, Nat.le_trans (Nat.le_add_right _ 120) hslot⟩) ?_
  refine ruL_c (n := 2149) (n2 := 2150) rfl (ru_bot) ?_
  refine ruL_c (n := 2150) (n2 := 2151) rfl (ru_bot) ?_
  refine ruL_c (n := 2151) (n2 := 2152) rfl (ru_iload hx hb dL_law_2151) ?_
  refine ruL_c (n := 2152) (n2 := 2153) rfl (ru_bot) ?_
  refine ruL_c (n := 2153) (n2 := 2154) rfl (ru_icmpeq hx hb dL_law_2153 (by decide)) ?_
  refine ruL_c (n := 2154) (n2 := 2155) rfl (ru_bot) ?_
  refine ruL_c (n := 2155) (n2 := 2156) rfl (ru_bot) ?_
  refine ruL_c (n := 2156) (n2 := 2157) rfl (ru_iconst hx hb dL_law_2156 rfl) ?_
  refine ruL_c (n := 2157) (n2 := 2158) rfl (ru_lret hx hb hr hlocks hA9 dL_law_2157 hcell hslot) ?_
  refine ruL_c (n := 2158) (n2 := 2159) rfl (ru_iload hx hb dL_law_2158) ?_
  refine ruL_c (n := 2159) (n2 := 2160) rfl (ru_bot) ?_
  refine ruL_c (n := 2160) (n2 := 2161) rfl (ru_ifne hx hb dL_law_2160 (by decide)) ?_
  refine ruL_c (n := 2161) (n2 := 2162) rfl (ru_bot) ?_
  refine ruL_c (n := 2162) (n2 := 2163) rfl (ru_bot) ?_
  refine ruL_c (n := 2163) (n2 := 2164) rfl (ru_aload_n (k := 3) hx hb dL_law_2163) ?_
  refine ruL_c (n := 2164) (n2 := 2165) rfl (ru_iconst hx hb dL_law_2164 rfl) ?_
  refine ruL_c (n := 2165) (n2 := 2166) rfl (ru_lald hx hb hK dL_law_2165) ?_
  refine ruL_c (n := 2166) (n2 := 2167) rfl (ru_iload hx hb dL_law_2166) ?_
  refine ruL_c (n := 2167) (n2 := 2168) rfl (ru_bot) ?_
  refine ruL_c (n := 2168) (n2 := 2169) rfl (ru_i2l hx hb dL_law_2168) ?_
  refine ruL_c (n := 2169) (n2 := 2170) rfl (ru_lcmp hx hb dL_law_2169) ?_
  refine ruL_c (n := 2170) (n2 := 2171) rfl (ru_ifeq hx hb dL_law_2170 (by decide)) ?_
  refine ruL_c (n := 2171) (n2 := 2172) rfl (ru_bot) ?_
  refine ruL_c (n := 2172) (n2 := 2173) rfl (ru_bot) ?_
  refine ruL_c (n := 2173) (n2 := 2174) rfl (ru_iconst hx hb dL_law_2173 rfl) ?_
  refine ruL_c (n := 2174) (n2 := 2175) rfl (ru_lret hx hb hr hlocks hA9 dL_law_2174 hcell hslot) ?_
  refine ruL_c (n := 2175) (n2 := 2176) rfl (ru_goto hx hb dL_law_2175 (by decide)) ?_
  refine ruL_c (n := 2176) (n2 := 2177) rfl (ru_bot) ?_
  refine ruL_c (n := 2177) (n2 := 2178) rfl (ru_bot) ?_
  exact trivial
set_option maxHeartbeats 8000000 in
set_option maxRecDepth 100000 in
theorem k_law33 {CP : aM → Prop} {N : Nat} {xs : Nat → Int32} {K : Nat → aS → Prop} (hw : ∀ c, c ≤ 8000 → ∀ n x, wpB 2110 (T_law33 (fun d => K (c + d)) N xs) n (K c) x → K c x) (hf : ∀ c pc L i st σ, K c (pc, L.set i .null, st, σ) → K c (pc, L, st, σ)) (ag : ∀ p0 p1 : Int32, agW CP (f_L_wasShortOf p0 p1) (f_X6_wasShortOf p0 p1)) (c i : Nat) (hc : c ≤ 7900) (g1 : inb (nI i + 1) N = true) (g2 : inb (nI i + 2) N = true) (g3 : inb (nI i + 3) N = true) (g4 : inb (nI i + 4) N = true) (σ : aM) (hCP : CP σ)
    (hback : ∀ c2 σ2, c2 ≤ c + 12 → CP σ2 → K c2 (2234, [.ref 200, .ref 0, .ref 6, .ref 178, .int (nI i), .null, .null], [], σ2)) : K c (2110, [.ref 200, .ref 0, .ref 6, .ref 178, .int (nI i), .null, .null], [], σ) := by
  obtain ⟨k1, σ1, b1, σ2, e1, e2, e3, e4, hcp⟩ := ag (xs (ix (nI i + 1))) (xs (ix (nI i + 2))) σ hCP
  refine hw c (by omega) 13 _ ?_
  show inb (nI i + 1) N = true ∧ (inb (nI i + 2) N = true ∧ (∃ k1 σ1, f_L_wasShortOf (xs (ix (nI i + 1))) (xs (ix (nI i + 2))) σ = some (k1, σ1) ∧ K (c + 6) (2127, [.ref 200, .ref 0, .ref 6, .ref 178, .int (nI i), .null, .null], [.int k1], σ1)))
  refine ⟨g1, g2, ⟨k1, σ1, e1, ?_⟩⟩
  refine hw (c + 6) (by omega) 13 _ ?_
  show inb (nI i + 1) N = true ∧ (inb (nI i + 2) N = true ∧ (∃ b1 σ2, f_X6_wasShortOf (xs (ix (nI i + 1))) (xs (ix (nI i + 2))) σ1 = some (b1, σ2) ∧ K (c + 6) (2145, [.ref 200, .ref 0, .ref 6, .ref 178, .int (nI i), .int k1, .null], [.int b1], σ2)))
  refine ⟨g1, g2, ⟨b1, σ2, e2, ?_⟩⟩
  refine hw (c + 6) (by omega) 3 _ ?_
  show ∃ r3 σ3, f_X6_thrown σ2 = some (r3, σ3) ∧ K (c + 6) (2151, [.ref 200, .ref 0, .ref 6, .ref 178, .int (nI i), .int k1, .int b1], [.int r3], σ3)
  refine ⟨σ2 6 0, σ2, rfl, ?_⟩
  refine hw (c + 6) (by omega) 2 _ ?_
  show (((σ2 6 0) = k1) → K (c + 6) (2158, [.ref 200, .ref 0, .ref 6, .ref 178, .int (nI i), .int k1, .int b1], [], σ2)) ∧ (¬ ((σ2 6 0) = k1) → K (c + 6) (2156, [.ref 200, .ref 0, .ref 6, .ref 178, .int (nI i), .int k1, .int b1], [], σ2))
  refine ⟨fun _ => ?_, fun q => absurd e3 q⟩
  by_cases hk : k1 = 0
  · have hz : σ2 178 (ix 0) = b1 := e4 hk
    refine hw (c + 6) (by omega) 2 _ ?_
    show ((¬ k1 = 0) → K (c + 6) (2175, [.ref 200, .ref 0, .ref 6, .ref 178, .int (nI i), .int k1, .int b1], [], σ2)) ∧ (¬ (¬ k1 = 0) → K (c + 6) (2163, [.ref 200, .ref 0, .ref 6, .ref 178, .int (nI i), .int k1, .int b1], [], σ2))
    refine ⟨fun q => absurd hk q, fun _ => ?_⟩
    refine hw (c + 6) (by omega) 7 _ ?_
    show kd 178 = 4 ∧ (inb 0 1 = true ∧ ((((lg_cmp (σ2 178 (ix 0)).toInt64 b1.toInt64) = 0) → K (c + 6) (2175, [.ref 200, .ref 0, .ref 6, .ref 178, .int (nI i), .int k1, .int b1], [], σ2)) ∧ (¬ ((lg_cmp (σ2 178 (ix 0)).toInt64 b1.toInt64) = 0) → K (c + 6) (2173, [.ref 200, .ref 0, .ref 6, .ref 178, .int (nI i), .int k1, .int b1], [], σ2))))
    refine ⟨rfl, by decide, ⟨fun _ => ?_, fun q => absurd (by rw [hz]; exact lcmp_eq _) q⟩⟩
    refine hw (c + 6) (by omega) 1 _ ?_
    show K (c + 6) (2234, [.ref 200, .ref 0, .ref 6, .ref 178, .int (nI i), .int k1, .int b1], [], σ2)
    refine hf _ _ _ 5 _ _ ?_
    show K (c + 6) (2234, [.ref 200, .ref 0, .ref 6, .ref 178, .int (nI i), .null, .int b1], [], σ2)
    refine hf _ _ _ 6 _ _ ?_
    show K (c + 6) (2234, [.ref 200, .ref 0, .ref 6, .ref 178, .int (nI i), .null, .null], [], σ2)
    exact hback _ _ (by omega) hcp
  · refine hw (c + 6) (by omega) 2 _ ?_
    show ((¬ k1 = 0) → K (c + 6) (2175, [.ref 200, .ref 0, .ref 6, .ref 178, .int (nI i), .int k1, .int b1], [], σ2)) ∧ (¬ (¬ k1 = 0) → K (c + 6) (2163, [.ref 200, .ref 0, .ref 6, .ref 178, .int (nI i), .int k1, .int b1], [], σ2))
    refine ⟨fun _ => ?_, fun q => absurd hk q⟩
    refine hw (c + 6) (by omega) 1 _ ?_
    show K (c + 6) (2234, [.ref 200, .ref 0, .ref 6, .ref 178, .int (nI i), .int k1, .int b1], [], σ2)
    refine hf _ _ _ 5 _ _ ?_
    show K (c + 6) (2234, [.ref 200, .ref 0, .ref 6, .ref 178, .int (nI i), .null, .int b1], [], σ2)
    refine hf _ _ _ 6 _ _ ?_
    show K (c + 6) (2234, [.ref 200, .ref 0, .ref 6, .ref 178, .int (nI i), .null, .null], [], σ2)
    exact hback _ _ (by omega) hcp
def T_law34 (KN : Nat → aS → Prop) (N : Nat) (xs : Nat → Int32) : List aI := [I_aload 1 1, I_aload 0 1, I_iload 4 2, I_bot, I_const 1 1, I_bin fun x y => x + y, I_sld N xs, I_aload 3 1, I_callW 3 F_L_timesShort (KN 4), I_bot, I_bot, I_istore 5 2, I_bot, I_aload 2 1, I_aload 0 1, I_iload 4 2, I_bot, I_const 1 1, I_bin fun x y => x + y, I_sld N xs, I_callV 6 1 F_X6_timesShort, I_bot, I_bot, I_istore 6 2, I_bot, I_aload 2 1, I_callV 6 0 F_X6_thrown, I_bot, I_bot, I_iload 5 2, I_bot, I_icmp (fun x y => x = y) 2214, I_bot, I_bot, I_const 0 1, I_lret, I_iload 5 2, I_bot, I_if (fun x => ¬ x = 0) 2231, I_bot, I_bot, I_aload 3 1, I_const 0 1, I_lald, I_iload 6 2, I_bot, I_i2l, I_lcmp, I_if (fun x => x = 0) 2231, I_bot, I_bot, I_const 0 1, I_lret, I_goto 2234, I_bot, I_bot]
set_option maxHeartbeats 8000000 in
set_option maxRecDepth 100000 in
theorem r_law34 {p : Program} {l : Launch} {e : Env} {s : State} {m : MethodId} {below : List Frame} {meth : Method} {c : Code} {D : va_G} {cI cZ cA cL : ClassId} {ad sa : Nat → Nat} {b N : Nat} {xs : Nat → Int32} (Z : LCX p l e s m meth c b N xs D cI cZ cA cL ad sa) (cells slots : Nat) (hcell : cells + 20 ≤ 601024) (hslot : slots + 120 ≤ 7293034) :
    ruL (Ru p l e room_1 s m #[Value.ref b] below meth c cells slots (lw_Z below #[Value.ref b] s) 7 D cI cZ cA cL ad (AA ad s.heap.size) s.heap) 2178 (T_law34 (fun d => WS p l e room_1 s m #[Value.ref b] below meth c (cells + d) (slots + 6 * d) (lw_Z below #[Value.ref b] s) 7 D cI cZ cA cL ad (AA ad s.heap.size) s.heap) N xs) := by
  obtain ⟨hx, hb, hml, hown, hts, hr, hlocks, hK, hN, hX, hC, hXs, hbl, hbA, had, hi, hlt, hA9⟩ := Z
  refine ruL_c (n := 2178) (n2 := 2179) rfl (ru_aload_n (k := 1) hx hb dL_law_2178) ?_
  refine ruL_c (n := 2179) (n2 := 2180) rfl (ru_aload_n (k := 0) hx hb dL_law_2179) ?_
  refine ruL_c (n := 2180) (n2 := 2181) rfl (ru_iload hx hb dL_law_2180) ?_
  refine ruL_c (n := 2181) (n2 := 2182) rfl (ru_bot) ?_
  refine ruL_c (n := 2182) (n2 := 2183) rfl (ru_iconst hx hb dL_law_2182 rfl) ?_
  refine ruL_c (n := 2183) (n2 := 2184) rfl (ru_iadd hx hb dL_law_2183) ?_
  refine ruL_c (n := 2184) (n2 := 2185) rfl (ru_sld hx hb hXs hbl hbA had dL_law_2184) ?_
  refine ruL_c (n := 2185) (n2 := 2186) rfl (ru_aload_n (k := 3) hx hb dL_law_2185) ?_
  refine ruL_c (n := 2186) (n2 := 2187) rfl (ru_callW (own := RL) hx hb hml hown hts hK hN hX hC (c_L_timesShort l hlt D cI cZ cA cL ad sa hi) (vx_cwSW 3 hts gL_law_L_timesShort rfl rfl rfl (by decide +kernel) ⟨Nat.le_of_ble_eq_true rfl, Nat.le_of_ble_eq_true rfl⟩) dL_law_2186 ⟨Nat.le_trans (Nat.add_le_add_left (by decide) _) hcell, Nat.le_trans (Nat.add_le_add_left (by decide) _) hslot⟩) ?_
  refine ruL_c (n := 2187) (n2 := 2188) rfl (ru_bot) ?_
  refine ruL_c (n := 2188) (n2 := 2189) rfl (ru_bot) ?_
  refine ruL_c (n := 2189) (n2 := 2190) rfl (ru_istore hx hb dL_law_2189) ?_
  refine ruL_c (n := 2190) (n2 := 2191) rfl (ru_bot) ?_
  refine ruL_c (n := 2191) (n2 := 2192) rfl (ru_aload_n (k := 2) hx hb dL_law_2191) ?_
  refine ruL_c (n := 2192) (n2 := 2193) rfl (ru_aload_n (k := 0) hx hb dL_law_2192) ?_
  refine ruL_c (n := 2193) (n2 := 2194) rfl (ru_iload hx hb dL_law_2193) ?_
  refine ruL_c (n := 2194) (n2 := 2195) rfl (ru_bot) ?_
  refine ruL_c (n := 2195) (n2 := 2196) rfl (ru_iconst hx hb dL_law_2195 rfl) ?_
  refine ruL_c (n := 2196) (n2 := 2197) rfl (ru_iadd hx hb dL_law_2196) ?_
  refine ruL_c (n := 2197) (n2 := 2198) rfl (ru_sld hx hb hXs hbl hbA had dL_law_2197) ?_
  refine ruL_c (n := 2198) (n2 := 2199) rfl (ru_callV (own := RL) hx hb hml hown hts hK hN (by decide) rfl (c_X6_timesShort l D cI cZ cA cL ad hi) (cwV 1 hts gL_law_X6_timesShort rfl rfl rfl (by decide +kernel) ⟨Nat.le_of_ble_eq_true rfl, Nat.le_of_ble_eq_true rfl⟩) dL_law_2198 ⟨Nat.le_trans (Nat.le_add_right _ 20) hcell, Nat.le_trans (Nat.le_add_right _ 120) hslot⟩) ?_
  refine ruL_c (n := 2199) (n2 := 2200) rfl (ru_bot) ?_
  refine ruL_c (n := 2200) (n2 := 2201) rfl (ru_bot) ?_
  refine ruL_c (n := 2201) (n2 := 2202) rfl (ru_istore hx hb dL_law_2201) ?_
  refine ruL_c (n := 2202) (n2 := 2203) rfl (ru_bot) ?_
  refine ruL_c (n := 2203) (n2 := 2204) rfl (ru_aload_n (k := 2) hx hb dL_law_2203) ?_
  refine ruL_c (n := 2204) (n2 := 2205) rfl (ru_callV (own := RL) hx hb hml hown hts hK hN (by decide) rfl (c_X6_thrown l D cI cZ cA cL ad hi) (cwV 0 hts gL_law_X6_thrown rfl rfl rfl (by decide +kernel) ⟨Nat.le_of_ble_eq_true rfl, Nat.le_of_ble_eq_true rfl⟩) dL_law_2204 ⟨Nat.le_trans (Nat.le_add_right _ 20) hcell, Nat.le_trans (Nat.le_add_right _ 120) hslot⟩) ?_
  refine ruL_c (n := 2205) (n2 := 2206) rfl (ru_bot) ?_
  refine ruL_c (n := 2206) (n2 := 2207) rfl (ru_bot) ?_
  refine ruL_c (n := 2207) (n2 := 2208) rfl (ru_iload hx hb dL_law_2207) ?_
  refine ruL_c (n := 2208) (n2 := 2209) rfl (ru_bot) ?_
  refine ruL_c (n := 2209) (n2 := 2210) rfl (ru_icmpeq hx hb dL_law_2209 (by decide)) ?_
  refine ruL_c (n := 2210) (n2 := 2211) rfl (ru_bot) ?_
  refine ruL_c (n := 2211) (n2 := 2212) rfl (ru_bot) ?_
  refine ruL_c (n := 2212) (n2 := 2213) rfl (ru_iconst hx hb dL_law_2212 rfl) ?_
  refine ruL_c (n := 2213) (n2 := 2214) rfl (ru_lret hx hb hr hlocks hA9 dL_law_2213 hcell hslot) ?_
  refine ruL_c (n := 2214) (n2 := 2215) rfl (ru_iload hx hb dL_law_2214) ?_
  refine ruL_c (n := 2215) (n2 := 2216) rfl (ru_bot) ?_
  refine ruL_c (n := 2216) (n2 := 2217) rfl (ru_ifne hx hb dL_law_2216 (by decide)) ?_
  refine ruL_c (n := 2217) (n2 := 2218) rfl (ru_bot) ?_
  refine ruL_c (n := 2218) (n2 := 2219) rfl (ru_bot) ?_
  refine ruL_c (n := 2219) (n2 := 2220) rfl (ru_aload_n (k := 3) hx hb dL_law_2219) ?_
  refine ruL_c (n := 2220) (n2 := 2221) rfl (ru_iconst hx hb dL_law_2220 rfl) ?_
  refine ruL_c (n := 2221) (n2 := 2222) rfl (ru_lald hx hb hK dL_law_2221) ?_
  refine ruL_c (n := 2222) (n2 := 2223) rfl (ru_iload hx hb dL_law_2222) ?_
  refine ruL_c (n := 2223) (n2 := 2224) rfl (ru_bot) ?_
  refine ruL_c (n := 2224) (n2 := 2225) rfl (ru_i2l hx hb dL_law_2224) ?_
  refine ruL_c (n := 2225) (n2 := 2226) rfl (ru_lcmp hx hb dL_law_2225) ?_
  refine ruL_c (n := 2226) (n2 := 2227) rfl (ru_ifeq hx hb dL_law_2226 (by decide)) ?_
  refine ruL_c (n := 2227) (n2 := 2228) rfl (ru_bot) ?_
  refine ruL_c (n := 2228) (n2 := 2229) rfl (ru_bot) ?_
  refine ruL_c (n := 2229) (n2 := 2230) rfl (ru_iconst hx hb dL_law_2229 rfl) ?_
  refine ruL_c (n := 2230) (n2 := 2231) rfl (ru_lret hx hb hr hlocks hA9 dL_law_2230 hcell hslot) ?_
  refine ruL_c (n := 2231) (n2 := 2232) rfl (ru_goto hx hb dL_law_2231 (by decide)) ?_
  refine ruL_c (n := 2232) (n2 := 2233) rfl (ru_bot) ?_
  refine ruL_c (n := 2233) (n2 := 2234) rfl (ru_bot) ?_
  exact trivial
set_option maxHeartbeats 8000000 in
set_option maxRecDepth 100000 in
theorem k_law34 {CP : aM → Prop} {N : Nat} {xs : Nat → Int32} {K : Nat → aS → Prop} (hw : ∀ c, c ≤ 8000 → ∀ n x, wpB 2178 (T_law34 (fun d => K (c + d)) N xs) n (K c) x → K c x) (hf : ∀ c pc L i st σ, K c (pc, L.set i .null, st, σ) → K c (pc, L, st, σ)) (ag : ∀ p0 : Int32, agW CP (f_L_timesShort p0) (f_X6_timesShort p0)) (c i : Nat) (hc : c ≤ 7900) (g1 : inb (nI i + 1) N = true) (g2 : inb (nI i + 2) N = true) (g3 : inb (nI i + 3) N = true) (g4 : inb (nI i + 4) N = true) (σ : aM) (hCP : CP σ)
    (hback : ∀ c2 σ2, c2 ≤ c + 12 → CP σ2 → K c2 (2234, [.ref 200, .ref 0, .ref 6, .ref 178, .int (nI i), .null, .null], [], σ2)) : K c (2178, [.ref 200, .ref 0, .ref 6, .ref 178, .int (nI i), .null, .null], [], σ) := by
  obtain ⟨k1, σ1, b1, σ2, e1, e2, e3, e4, hcp⟩ := ag (xs (ix (nI i + 1))) σ hCP
  refine hw c (by omega) 8 _ ?_
  show inb (nI i + 1) N = true ∧ (∃ k1 σ1, f_L_timesShort (xs (ix (nI i + 1))) σ = some (k1, σ1) ∧ K (c + 4) (2189, [.ref 200, .ref 0, .ref 6, .ref 178, .int (nI i), .null, .null], [.int k1], σ1))
  refine ⟨g1, ⟨k1, σ1, e1, ?_⟩⟩
  refine hw (c + 4) (by omega) 8 _ ?_
  show inb (nI i + 1) N = true ∧ (∃ b1 σ2, f_X6_timesShort (xs (ix (nI i + 1))) σ1 = some (b1, σ2) ∧ K (c + 4) (2201, [.ref 200, .ref 0, .ref 6, .ref 178, .int (nI i), .int k1, .null], [.int b1], σ2))
  refine ⟨g1, ⟨b1, σ2, e2, ?_⟩⟩
  refine hw (c + 4) (by omega) 3 _ ?_
  show ∃ r3 σ3, f_X6_thrown σ2 = some (r3, σ3) ∧ K (c + 4) (2207, [.ref 200, .ref 0, .ref 6, .ref 178, .int (nI i), .int k1, .int b1], [.int r3], σ3)
  refine ⟨σ2 6 0, σ2, rfl, ?_⟩
  refine hw (c + 4) (by omega) 2 _ ?_
  show (((σ2 6 0) = k1) → K (c + 4) (2214, [.ref 200, .ref 0, .ref 6, .ref 178, .int (nI i), .int k1, .int b1], [], σ2)) ∧ (¬ ((σ2 6 0) = k1) → K (c + 4) (2212, [.ref 200, .ref 0, .ref 6, .ref 178, .int (nI i), .int k1, .int b1], [], σ2))
  refine ⟨fun _ => ?_, fun q => absurd e3 q⟩
  by_cases hk : k1 = 0
  · have hz : σ2 178 (ix 0) = b1 := e4 hk
    refine hw (c + 4) (by omega) 2 _ ?_
    show ((¬ k1 = 0) → K (c + 4) (2231, [.ref 200, .ref 0, .ref 6, .ref 178, .int (nI i), .int k1, .int b1], [], σ2)) ∧ (¬ (¬ k1 = 0) → K (c + 4) (2219, [.ref 200, .ref 0, .ref 6, .ref 178, .int (nI i), .int k1, .int b1], [], σ2))
    refine ⟨fun q => absurd hk q, fun _ => ?_⟩
    refine hw (c + 4) (by omega) 7 _ ?_
    show kd 178 = 4 ∧ (inb 0 1 = true ∧ ((((lg_cmp (σ2 178 (ix 0)).toInt64 b1.toInt64) = 0) → K (c + 4) (2231, [.ref 200, .ref 0, .ref 6, .ref 178, .int (nI i), .int k1, .int b1], [], σ2)) ∧ (¬ ((lg_cmp (σ2 178 (ix 0)).toInt64 b1.toInt64) = 0) → K (c + 4) (2229, [.ref 200, .ref 0, .ref 6, .ref 178, .int (nI i), .int k1, .int b1], [], σ2))))
    refine ⟨rfl, by decide, ⟨fun _ => ?_, fun q => absurd (by rw [hz]; exact lcmp_eq _) q⟩⟩
    refine hw (c + 4) (by omega) 1 _ ?_
    show K (c + 4) (2234, [.ref 200, .ref 0, .ref 6, .ref 178, .int (nI i), .int k1, .int b1], [], σ2)
    refine hf _ _ _ 5 _ _ ?_
    show K (c + 4) (2234, [.ref 200, .ref 0, .ref 6, .ref 178, .int (nI i), .null, .int b1], [], σ2)
    refine hf _ _ _ 6 _ _ ?_
    show K (c + 4) (2234, [.ref 200, .ref 0, .ref 6, .ref 178, .int (nI i), .null, .null], [], σ2)
    exact hback _ _ (by omega) hcp
  · refine hw (c + 4) (by omega) 2 _ ?_
    show ((¬ k1 = 0) → K (c + 4) (2231, [.ref 200, .ref 0, .ref 6, .ref 178, .int (nI i), .int k1, .int b1], [], σ2)) ∧ (¬ (¬ k1 = 0) → K (c + 4) (2219, [.ref 200, .ref 0, .ref 6, .ref 178, .int (nI i), .int k1, .int b1], [], σ2))
    refine ⟨fun _ => ?_, fun q => absurd hk q⟩
    refine hw (c + 4) (by omega) 1 _ ?_
    show K (c + 4) (2234, [.ref 200, .ref 0, .ref 6, .ref 178, .int (nI i), .int k1, .int b1], [], σ2)
    refine hf _ _ _ 5 _ _ ?_
    show K (c + 4) (2234, [.ref 200, .ref 0, .ref 6, .ref 178, .int (nI i), .null, .int b1], [], σ2)
    refine hf _ _ _ 6 _ _ ?_
    show K (c + 4) (2234, [.ref 200, .ref 0, .ref 6, .ref 178, .int (nI i), .null, .null], [], σ2)
    exact hback _ _ (by omega) hcp
