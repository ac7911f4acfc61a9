-- CASES OF A BOX, OF AN INDEX
theorem ne_0_1 : ((0 : Int32) = 1) = False := by decide
theorem ne_0_2 : ((0 : Int32) = 2) = False := by decide
theorem ne_0_3 : ((0 : Int32) = 3) = False := by decide
theorem ne_0_4 : ((0 : Int32) = 4) = False := by decide
theorem ne_0_5 : ((0 : Int32) = 5) = False := by decide
theorem ne_0_6 : ((0 : Int32) = 6) = False := by decide
theorem ne_0_7 : ((0 : Int32) = 7) = False := by decide
theorem ne_0_8 : ((0 : Int32) = 8) = False := by decide
theorem ne_0_9 : ((0 : Int32) = 9) = False := by decide
theorem ne_0_10 : ((0 : Int32) = 10) = False := by decide
theorem ne_0_11 : ((0 : Int32) = 11) = False := by decide
theorem ne_0_12 : ((0 : Int32) = 12) = False := by decide
theorem ne_1_0 : ((1 : Int32) = 0) = False := by decide
theorem ne_1_2 : ((1 : Int32) = 2) = False := by decide
theorem ne_1_3 : ((1 : Int32) = 3) = False := by decide
theorem ne_1_4 : ((1 : Int32) = 4) = False := by decide
theorem ne_1_5 : ((1 : Int32) = 5) = False := by decide
theorem ne_1_6 : ((1 : Int32) = 6) = False := by decide
theorem ne_1_7 : ((1 : Int32) = 7) = False := by decide
theorem ne_1_8 : ((1 : Int32) = 8) = False := by decide
theorem ne_1_9 : ((1 : Int32) = 9) = False := by decide
theorem ne_1_10 : ((1 : Int32) = 10) = False := by decide
theorem ne_1_11 : ((1 : Int32) = 11) = False := by decide
theorem ne_1_12 : ((1 : Int32) = 12) = False := by decide
theorem ne_2_0 : ((2 : Int32) = 0) = False := by decide
theorem ne_2_1 : ((2 : Int32) = 1) = False := by decide
theorem ne_2_3 : ((2 : Int32) = 3) = False := by decide
theorem ne_2_4 : ((2 : Int32) = 4) = False := by decide
theorem ne_2_5 : ((2 : Int32) = 5) = False := by decide
theorem ne_2_6 : ((2 : Int32) = 6) = False := by decide
theorem ne_2_7 : ((2 : Int32) = 7) = False := by decide
theorem ne_2_8 : ((2 : Int32) = 8) = False := by decide
theorem ne_2_9 : ((2 : Int32) = 9) = False := by decide
theorem ne_2_10 : ((2 : Int32) = 10) = False := by decide
theorem ne_2_11 : ((2 : Int32) = 11) = False := by decide
theorem ne_2_12 : ((2 : Int32) = 12) = False := by decide
theorem ne_3_0 : ((3 : Int32) = 0) = False := by decide
theorem ne_3_1 : ((3 : Int32) = 1) = False := by decide
theorem ne_3_2 : ((3 : Int32) = 2) = False := by decide
theorem ne_3_4 : ((3 : Int32) = 4) = False := by decide
theorem ne_3_5 : ((3 : Int32) = 5) = False := by decide
theorem ne_3_6 : ((3 : Int32) = 6) = False := by decide
theorem ne_3_7 : ((3 : Int32) = 7) = False := by decide
theorem ne_3_8 : ((3 : Int32) = 8) = False := by decide
theorem ne_3_9 : ((3 : Int32) = 9) = False := by decide
theorem ne_3_10 : ((3 : Int32) = 10) = False := by decide
theorem ne_3_11 : ((3 : Int32) = 11) = False := by decide
theorem ne_3_12 : ((3 : Int32) = 12) = False := by decide
theorem ne_4_0 : ((4 : Int32) = 0) = False := by decide
theorem ne_4_1 : ((4 : Int32) = 1) = False := by decide
theorem ne_4_2 : ((4 : Int32) = 2) = False := by decide
theorem ne_4_3 : ((4 : Int32) = 3) = False := by decide
theorem ne_4_5 : ((4 : Int32) = 5) = False := by decide
theorem ne_4_6 : ((4 : Int32) = 6) = False := by decide
theorem ne_4_7 : ((4 : Int32) = 7) = False := by decide
theorem ne_4_8 : ((4 : Int32) = 8) = False := by decide
theorem ne_4_9 : ((4 : Int32) = 9) = False := by decide
theorem ne_4_10 : ((4 : Int32) = 10) = False := by decide
theorem ne_4_11 : ((4 : Int32) = 11) = False := by decide
theorem ne_4_12 : ((4 : Int32) = 12) = False := by decide
theorem ne_5_0 : ((5 : Int32) = 0) = False := by decide
theorem ne_5_1 : ((5 : Int32) = 1) = False := by decide
theorem ne_5_2 : ((5 : Int32) = 2) = False := by decide
theorem ne_5_3 : ((5 : Int32) = 3) = False := by decide
theorem ne_5_4 : ((5 : Int32) = 4) = False := by decide
theorem ne_5_6 : ((5 : Int32) = 6) = False := by decide
theorem ne_5_7 : ((5 : Int32) = 7) = False := by decide
theorem ne_5_8 : ((5 : Int32) = 8) = False := by decide
theorem ne_5_9 : ((5 : Int32) = 9) = False := by decide
theorem ne_5_10 : ((5 : Int32) = 10) = False := by decide
theorem ne_5_11 : ((5 : Int32) = 11) = False := by decide
theorem ne_5_12 : ((5 : Int32) = 12) = False := by decide
theorem ne_6_0 : ((6 : Int32) = 0) = False := by decide
theorem ne_6_1 : ((6 : Int32) = 1) = False := by decide
theorem ne_6_2 : ((6 : Int32) = 2) = False := by decide
theorem ne_6_3 : ((6 : Int32) = 3) = False := by decide
theorem ne_6_4 : ((6 : Int32) = 4) = False := by decide
theorem ne_6_5 : ((6 : Int32) = 5) = False := by decide
theorem ne_6_7 : ((6 : Int32) = 7) = False := by decide
theorem ne_6_8 : ((6 : Int32) = 8) = False := by decide
theorem ne_6_9 : ((6 : Int32) = 9) = False := by decide
theorem ne_6_10 : ((6 : Int32) = 10) = False := by decide
theorem ne_6_11 : ((6 : Int32) = 11) = False := by decide
theorem ne_6_12 : ((6 : Int32) = 12) = False := by decide
theorem ne_7_0 : ((7 : Int32) = 0) = False := by decide
theorem ne_7_1 : ((7 : Int32) = 1) = False := by decide
theorem ne_7_2 : ((7 : Int32) = 2) = False := by decide
theorem ne_7_3 : ((7 : Int32) = 3) = False := by decide
theorem ne_7_4 : ((7 : Int32) = 4) = False := by decide
theorem ne_7_5 : ((7 : Int32) = 5) = False := by decide
theorem ne_7_6 : ((7 : Int32) = 6) = False := by decide
theorem ne_7_8 : ((7 : Int32) = 8) = False := by decide
theorem ne_7_9 : ((7 : Int32) = 9) = False := by decide
theorem ne_7_10 : ((7 : Int32) = 10) = False := by decide
theorem ne_7_11 : ((7 : Int32) = 11) = False := by decide
theorem ne_7_12 : ((7 : Int32) = 12) = False := by decide
theorem ne_8_0 : ((8 : Int32) = 0) = False := by decide
theorem ne_8_1 : ((8 : Int32) = 1) = False := by decide
theorem ne_8_2 : ((8 : Int32) = 2) = False := by decide
theorem ne_8_3 : ((8 : Int32) = 3) = False := by decide
theorem ne_8_4 : ((8 : Int32) = 4) = False := by decide
theorem ne_8_5 : ((8 : Int32) = 5) = False := by decide
theorem ne_8_6 : ((8 : Int32) = 6) = False := by decide
theorem ne_8_7 : ((8 : Int32) = 7) = False := by decide
theorem ne_8_9 : ((8 : Int32) = 9) = False := by decide
theorem ne_8_10 : ((8 : Int32) = 10) = False := by decide
theorem ne_8_11 : ((8 : Int32) = 11) = False := by decide
theorem ne_8_12 : ((8 : Int32) = 12) = False := by decide
theorem ne_9_0 : ((9 : Int32) = 0) = False := by decide
theorem ne_9_1 : ((9 : Int32) = 1) = False := by decide
theorem ne_9_2 : ((9 : Int32) = 2) = False := by decide
theorem ne_9_3 : ((9 : Int32) = 3) = False := by decide
theorem ne_9_4 : ((9 : Int32) = 4) = False := by decide
theorem ne_9_5 : ((9 : Int32) = 5) = False := by decide
theorem ne_9_6 : ((9 : Int32) = 6) = False := by decide
theorem ne_9_7 : ((9 : Int32) = 7) = False := by decide
theorem ne_9_8 : ((9 : Int32) = 8) = False := by decide
theorem ne_9_10 : ((9 : Int32) = 10) = False := by decide
theorem ne_9_11 : ((9 : Int32) = 11) = False := by decide
theorem ne_9_12 : ((9 : Int32) = 12) = False := by decide
theorem ne_10_0 : ((10 : Int32) = 0) = False := by decide
theorem ne_10_1 : ((10 : Int32) = 1) = False := by decide
theorem ne_10_2 : ((10 : Int32) = 2) = False := by decide
theorem ne_10_3 : ((10 : Int32) = 3) = False := by decide
theorem ne_10_4 : ((10 : Int32) = 4) = False := by decide
theorem ne_10_5 : ((10 : Int32) = 5) = False := by decide
theorem ne_10_6 : ((10 : Int32) = 6) = False := by decide
theorem ne_10_7 : ((10 : Int32) = 7) = False := by decide
theorem ne_10_8 : ((10 : Int32) = 8) = False := by decide
theorem ne_10_9 : ((10 : Int32) = 9) = False := by decide
theorem ne_10_11 : ((10 : Int32) = 11) = False := by decide
theorem ne_10_12 : ((10 : Int32) = 12) = False := by decide
theorem ne_11_0 : ((11 : Int32) = 0) = False := by decide
theorem ne_11_1 : ((11 : Int32) = 1) = False := by decide
theorem ne_11_2 : ((11 : Int32) = 2) = False := by decide
theorem ne_11_3 : ((11 : Int32) = 3) = False := by decide
theorem ne_11_4 : ((11 : Int32) = 4) = False := by decide
theorem ne_11_5 : ((11 : Int32) = 5) = False := by decide
theorem ne_11_6 : ((11 : Int32) = 6) = False := by decide
theorem ne_11_7 : ((11 : Int32) = 7) = False := by decide
theorem ne_11_8 : ((11 : Int32) = 8) = False := by decide
theorem ne_11_9 : ((11 : Int32) = 9) = False := by decide
theorem ne_11_10 : ((11 : Int32) = 10) = False := by decide
theorem ne_11_12 : ((11 : Int32) = 12) = False := by decide
theorem ne_12_0 : ((12 : Int32) = 0) = False := by decide
theorem ne_12_1 : ((12 : Int32) = 1) = False := by decide
theorem ne_12_2 : ((12 : Int32) = 2) = False := by decide
theorem ne_12_3 : ((12 : Int32) = 3) = False := by decide
theorem ne_12_4 : ((12 : Int32) = 4) = False := by decide
theorem ne_12_5 : ((12 : Int32) = 5) = False := by decide
theorem ne_12_6 : ((12 : Int32) = 6) = False := by decide
theorem ne_12_7 : ((12 : Int32) = 7) = False := by decide
theorem ne_12_8 : ((12 : Int32) = 8) = False := by decide
theorem ne_12_9 : ((12 : Int32) = 9) = False := by decide
theorem ne_12_10 : ((12 : Int32) = 10) = False := by decide
theorem ne_12_11 : ((12 : Int32) = 11) = False := by decide
theorem n_0 : nI 0 = (0 : Int32) := rfl
theorem n_1 : nI 1 = (1 : Int32) := rfl
theorem n_2 : nI 2 = (2 : Int32) := rfl
theorem n_3 : nI 3 = (3 : Int32) := rfl
theorem n_4 : nI 4 = (4 : Int32) := rfl
theorem sub1 {n : Nat} (hn : n < 2 ^ 30) : (nI n - 1).toInt = (n : Int) - 1 := by
  exact pk_sub_toInt (a := n) (b := 1) hn (by decide)
/-- an index, and a row of n places -/
theorem idx (i : Int32) {n : Nat} (hn : n < 2 ^ 30) : (∃ k, k < n ∧ i = nI k ∧ (i < 0) = False ∧ (nI n ≤ i) = False ∧ (0 ≤ i ∧ i ≤ nI n - 1) = True ∧ ev_out i n = false ∧ i.toNatClampNeg = k) ∨ ((0 ≤ i ∧ i ≤ nI n - 1) = False ∧ ((i < 0) = True ∨ ((i < 0) = False ∧ (nI n ≤ i) = True))) := by
  have a0 : (0 : Int32).toInt = 0 := by decide
  have hs := sub1 hn
  have hN : (nI n).toInt = n := nI_toInt (by omega)
  by_cases h0 : i < 0
  · right
    refine ⟨eq_false (fun q => ?_), Or.inl (eq_true h0)⟩
    simp only [i32_le, i32_lt, a0] at h0 q
    omega
  · by_cases h1 : nI n ≤ i
    · right
      refine ⟨eq_false (fun q => ?_), Or.inr ⟨eq_false h0, eq_true h1⟩⟩
      simp only [i32_le, a0, hs, hN] at h1 q
      omega
    · left
      have g0 := h0
      have g1 := h1
      simp only [i32_le, i32_lt, a0, hN] at h0 h1
      have e : i.toNatClampNeg = i.toInt.toNat := rfl
      refine ⟨i.toNatClampNeg, by omega, ?_, eq_false g0, eq_false g1, eq_true ?_, ox_of (by omega) (by omega), rfl⟩
      · rw [i32_ne, nI_toInt (by omega)]; omega
      · simp only [i32_le, a0, hs]; omega
section BCS
variable {B b L : Nat} {xs : Nat → Int32} {t : Nat} {c : CS} {m : MS} {θ : Nat → Option ev_E} {z l : Nat} {κ : Nat → Nat × Nat} {nr nu ns nb nv : Nat} {box : GV} {row : GR} {sht : GS} {bnk : GB} {voi : GV}
/-- a curve in a box -/
theorem RR.cur (h : RR B b L xs t c m θ z l κ nr nu ns nb nv box row sht bnk voi) {j : Nat} (hj : j < 24) (e : (box j).1 = 1) : ∃ n ln sz fs ra wa f, n = (box j).2 ∧ n < nr ∧ row n = (ln, sz, fs, ra, wa) ∧ okR B z m θ κ nu n ln sz fs ra wa ∧ c.1 j = some ra ∧ m.1 0 j = 1 ∧ m.1 1 j = nI n ∧ ev_out (nI n) 5000 = false ∧ (nI n).toNatClampNeg = n ∧ m.1 2 n = nI ln ∧ m.1 3 n = nI sz ∧ m.1 4 n = nI fs ∧ (∀ c m z l, ev_cl (hs B c m θ z l) ra = some 1) ∧ (∀ c m z l, ev_gf (hs B c m θ z l) ra 1 0 = some (.int (nI ln))) ∧ (∀ c m z l, ev_gf (hs B c m θ z l) ra 1 1 = some (.ref wa)) ∧ (∀ c m z l, ev_len (hs B c m θ z l) wa = some (nI sz)) ∧ (θ wa = some (.inl (.long, sz, .inr (.inl f))) ∧ B + 26 ≤ wa) ∧ ln ≤ 7 ∧ sz ≤ 16 ∧ fs + sz ≤ 32768 ∧ fs + sz ≤ nu ∧ ∀ k, k < sz → f k = m.2.1 (fs + k) ∧ WV ln (f k) := by
  obtain ⟨-, hN, -, -, -, -, hX, hRw, -⟩ := h
  obtain ⟨n1, n2, n3, n4, n5, n6, -⟩ := hN
  obtain ⟨s1, s2, ⟨e', q⟩ | ⟨e', q, r⟩ | ⟨e', q, r⟩ | ⟨e', q, r⟩ | ⟨e', q, r⟩⟩ := hX j hj <;> try omega
  have hR := hRw _ q
  generalize hn : (box j).2 = n at *
  rcases hrow : row n with ⟨ln, sz, fs, ra, wa⟩
  rw [hrow] at hR r
  dsimp only at hR r
  have hR0 := hR
  obtain ⟨r1, r2, r3, r4, r5, r6, r7, r8, r9, f, r10, r11⟩ := hR
  exact ⟨n, ln, sz, fs, ra, wa, f, rfl, q, hrow, hR0, r, by rw [s1, e]; rfl, s2, ox_n (by omega) (by decide), nI_clamp (by omega), r4, r5, r6, fun _ _ _ _ => cl_th r7.1 r9, fun _ _ _ _ => gf_th r7.1 r9 rfl, fun _ _ _ _ => gf_th r7.1 r9 rfl, fun _ _ _ _ => len_th r8.1 r10, ⟨r10, r8.1⟩, r1, r2, by omega, r3, r11⟩
/-- nothing, a curve, or another thing -/
theorem RR.sorts (h : RR B b L xs t c m θ z l κ nr nu ns nb nv box row sht bnk voi) {j : Nat} (hj : j < 24) : ((box j).1 = 0 ∧ c.1 j = none ∧ m.1 0 j = 0) ∨ ((box j).1 = 1 ∧ ∃ a, c.1 j = some a ∧ m.1 0 j = 1 ∧ ∀ c m z l, ev_cl (hs B c m θ z l) a = some 1) ∨ ((box j).1 = 2 ∧ ∃ a, c.1 j = some a ∧ m.1 0 j = 2 ∧ ∀ c m z l, ev_cl (hs B c m θ z l) a = some 3) ∨ ((box j).1 = 3 ∧ ∃ a, c.1 j = some a ∧ m.1 0 j = 3 ∧ ∀ c m z l, ev_cl (hs B c m θ z l) a = some 0) ∨ ((box j).1 = 4 ∧ ∃ a, c.1 j = some a ∧ m.1 0 j = 4 ∧ ∀ c m z l, ev_cl (hs B c m θ z l) a = some 4) := by
  obtain ⟨-, -, -, -, -, -, hX, hRw, hSh, hBk, hVo⟩ := h
  obtain ⟨s1, s2, ⟨e, q⟩ | ⟨e, q, r⟩ | ⟨e, q, r⟩ | ⟨e, q, r⟩ | ⟨e, q, r⟩⟩ := hX j hj
  · exact Or.inl ⟨e, q, by rw [s1, e]; rfl⟩
  · obtain ⟨-, -, -, -, -, -, a1, -, h2, -⟩ := hRw _ q
    exact Or.inr (Or.inl ⟨e, _, r, by rw [s1, e]; rfl, fun _ _ _ _ => cl_th a1.1 h2⟩)
  · obtain ⟨-, -, a1, -, h2, -⟩ := hSh _ q
    exact Or.inr (Or.inr (Or.inl ⟨e, _, r, by rw [s1, e]; rfl, fun _ _ _ _ => cl_th a1.1 h2⟩))
  · obtain ⟨-, -, -, -, a1, -, h2, -⟩ := hBk _ q
    exact Or.inr (Or.inr (Or.inr (Or.inl ⟨e, _, r, by rw [s1, e]; rfl, fun _ _ _ _ => cl_th a1.1 h2⟩)))
  · obtain ⟨-, -, a1, h2, -⟩ := hVo _ q
    exact Or.inr (Or.inr (Or.inr (Or.inr ⟨e, _, r, by rw [s1, e]; rfl, fun _ _ _ _ => cl_th a1.1 h2⟩)))
end BCS
section CVO
variable {σ : ev_H} {a : Nat} {ln q : Int32}
theorem c_cvo_n : EV 75 [.null, .int ln] σ = some (some .null, σ) := by
  simp only [e_75, s_75_0, s_75_1, s_75_4, s_75_5, s_75_6n, s_75_6, s_75_9, s_75_10, s_75_13, s_75_14, s_75_17, s_75_18, s_75_21, s_75_22, eq_self, true_or, or_true, or_false, false_or, not_true_eq_false, not_false_eq_true, true_and, and_true, false_and, and_false, iR_r, iR_n, iR_f, iI_i, iJ_j, iF_f, iD_d, c1_n, c1_i, c1_r, c1_0, c1_f, c1_q, sw_0, sw_i, sw_j, sw_r, sw_rr, sw_ii, sw_ir, sw_ri, sw_rj, sw_jj, bd_s, bd_n, tl_s, tl_n, if_true, if_false, oz_1, oz_0, hs_1, kt_i, kt_j, kt_f, kt_d, kt_r, c_any_n]
theorem c_cvo_0 (h : ev_cl σ a = some 0) : EV 75 [.ref a, .int ln] σ = some (some .null, σ) := by
  simp only [e_75, s_75_0, s_75_1, s_75_4, s_75_5, s_75_6n, s_75_6, s_75_9, s_75_10, s_75_13, s_75_14, s_75_17, s_75_18, s_75_21, s_75_22, eq_self, true_or, or_true, or_false, false_or, not_true_eq_false, not_false_eq_true, true_and, and_true, false_and, and_false, iR_r, iR_n, iR_f, iI_i, iJ_j, iF_f, iD_d, c1_n, c1_i, c1_r, c1_0, c1_f, c1_q, sw_0, sw_i, sw_j, sw_r, sw_rr, sw_ii, sw_ir, sw_ri, sw_rj, sw_jj, bd_s, bd_n, tl_s, tl_n, if_true, if_false, oz_1, oz_0, hs_1, kt_i, kt_j, kt_f, kt_d, kt_r, c_any_0, h]
theorem c_cvo_3 (h : ev_cl σ a = some 3) : EV 75 [.ref a, .int ln] σ = some (some .null, σ) := by
  simp only [e_75, s_75_0, s_75_1, s_75_4, s_75_5, s_75_6n, s_75_6, s_75_9, s_75_10, s_75_13, s_75_14, s_75_17, s_75_18, s_75_21, s_75_22, eq_self, true_or, or_true, or_false, false_or, not_true_eq_false, not_false_eq_true, true_and, and_true, false_and, and_false, iR_r, iR_n, iR_f, iI_i, iJ_j, iF_f, iD_d, c1_n, c1_i, c1_r, c1_0, c1_f, c1_q, sw_0, sw_i, sw_j, sw_r, sw_rr, sw_ii, sw_ir, sw_ri, sw_rj, sw_jj, bd_s, bd_n, tl_s, tl_n, if_true, if_false, oz_1, oz_0, hs_1, kt_i, kt_j, kt_f, kt_d, kt_r, c_any_3, h]
theorem c_cvo_4 (h : ev_cl σ a = some 4) : EV 75 [.ref a, .int ln] σ = some (some .null, σ) := by
  simp only [e_75, s_75_0, s_75_1, s_75_4, s_75_5, s_75_6n, s_75_6, s_75_9, s_75_10, s_75_13, s_75_14, s_75_17, s_75_18, s_75_21, s_75_22, eq_self, true_or, or_true, or_false, false_or, not_true_eq_false, not_false_eq_true, true_and, and_true, false_and, and_false, iR_r, iR_n, iR_f, iI_i, iJ_j, iF_f, iD_d, c1_n, c1_i, c1_r, c1_0, c1_f, c1_q, sw_0, sw_i, sw_j, sw_r, sw_rr, sw_ii, sw_ir, sw_ri, sw_rj, sw_jj, bd_s, bd_n, tl_s, tl_n, if_true, if_false, oz_1, oz_0, hs_1, kt_i, kt_j, kt_f, kt_d, kt_r, c_any_4, h]
theorem c_cvo_y (h : ev_cl σ a = some 1) (g : ev_gf σ a 1 0 = some (.int ln)) : EV 75 [.ref a, .int ln] σ = some (some (.ref a), σ) := by
  simp only [e_75, s_75_0, s_75_1, s_75_4, s_75_5, s_75_6n, s_75_6, s_75_9, s_75_10, s_75_13, s_75_14, s_75_17, s_75_18, s_75_21, s_75_22, eq_self, true_or, or_true, or_false, false_or, not_true_eq_false, not_false_eq_true, true_and, and_true, false_and, and_false, iR_r, iR_n, iR_f, iI_i, iJ_j, iF_f, iD_d, c1_n, c1_i, c1_r, c1_0, c1_f, c1_q, sw_0, sw_i, sw_j, sw_r, sw_rr, sw_ii, sw_ir, sw_ri, sw_rj, sw_jj, bd_s, bd_n, tl_s, tl_n, if_true, if_false, oz_1, oz_0, hs_1, kt_i, kt_j, kt_f, kt_d, kt_r, c_any_1, h, g]
theorem c_cvo_x (h : ev_cl σ a = some 1) (g : ev_gf σ a 1 0 = some (.int q)) (hq : (q = ln) = False) : EV 75 [.ref a, .int ln] σ = some (some .null, σ) := by
  simp only [e_75, s_75_0, s_75_1, s_75_4, s_75_5, s_75_6n, s_75_6, s_75_9, s_75_10, s_75_13, s_75_14, s_75_17, s_75_18, s_75_21, s_75_22, eq_self, true_or, or_true, or_false, false_or, not_true_eq_false, not_false_eq_true, true_and, and_true, false_and, and_false, iR_r, iR_n, iR_f, iI_i, iJ_j, iF_f, iD_d, c1_n, c1_i, c1_r, c1_0, c1_f, c1_q, sw_0, sw_i, sw_j, sw_r, sw_rr, sw_ii, sw_ir, sw_ri, sw_rj, sw_jj, bd_s, bd_n, tl_s, tl_n, if_true, if_false, oz_1, oz_0, hs_1, kt_i, kt_j, kt_f, kt_d, kt_r, c_any_1, h, g, hq]
end CVO
theorem m_met_n {B : Nat} {c : CS} {m : MS} {θ : Nat → Option ev_E} {z l : Nat} {x ln i : Int32} (hb : ev_out x 24 = false) (h : m.1 0 x.toNatClampNeg = 0) : EV 128 [.ref (B + 6), .int x, .int ln, .int i] (hs B c m θ z l) = some (some (.int 1), hs B c m θ z l) := by
  simp only [e_128, s_128_0, s_128_1, s_128_4, s_128_5, s_128_6, s_128_9, s_128_10, s_128_11, s_128_12, s_128_13, s_128_14, s_128_17, s_128_20, s_128_21, s_128_22, s_128_23, s_128_24, s_128_25, s_128_28, s_128_29, s_128_32, s_128_33, s_128_34, s_128_35, s_128_36, s_128_37, s_128_40, s_128_43, s_128_44, s_128_47, s_128_48, eq_self, true_or, or_true, or_false, false_or, not_true_eq_false, not_false_eq_true, true_and, and_true, false_and, and_false, iR_r, iR_n, iR_f, iI_i, iJ_j, iF_f, iD_d, c1_n, c1_i, c1_r, c1_0, c1_f, c1_q, sw_0, sw_i, sw_j, sw_r, sw_rr, sw_ii, sw_ir, sw_ri, sw_rj, sw_jj, bd_s, bd_n, tl_s, tl_n, if_true, if_false, oz_1, oz_0, hs_1, kt_i, kt_j, kt_f, kt_d, kt_r, gm_0, gm_1, gm_2, gm_3, gm_4, gm_5, gm_6, gm_7, gm_8, gm_9, gm_10, gm_11, gm_12, gm_13, gm_14, gm_15, gm_16, gm_17, gm_18, gm_19, gm_20, gm_21, gm_22, gm_23, gm_24, gm_25, gm_26, gm_27, gm_28, kl_m, pm_2, pm_6, pm_8, pm_11, pm_15, pm_23, pm_25, pm_27, pm_22, pm_28, rd_m0, wr_m0, ln_m0, rd_m1, wr_m1, ln_m1, rd_m2, wr_m2, ln_m2, rd_m3, wr_m3, ln_m3, rd_m4, wr_m4, ln_m4, rd_m5, wr_m5, ln_m5, rd_m6, wr_m6, ln_m6, rd_m7, wr_m7, ln_m7, rd_m8, wr_m8, ln_m8, rd_m9, wr_m9, ln_m9, rd_m10, wr_m10, ln_m10, rd_m11, wr_m11, ln_m11, rd_m12, wr_m12, ln_m12, rd_m13, wr_m13, ln_m13, rd_m14, wr_m14, ln_m14, rd_m15, wr_m15, ln_m15, rd_m16, wr_m16, ln_m16, rd_m17, wr_m17, ln_m17, rd_mw, wr_mw, ln_mw, hb, h]
theorem m_met_o {B : Nat} {c : CS} {m : MS} {θ : Nat → Option ev_E} {z l : Nat} {x ln i : Int32} (hb : ev_out x 24 = false) (h : (m.1 0 x.toNatClampNeg = 0) = False) (hc : EV 115 [.ref (B + 6), .int x, .int ln] (hs B c m θ z l) = some (some (.int 0), hs B c m θ z l)) : EV 128 [.ref (B + 6), .int x, .int ln, .int i] (hs B c m θ z l) = some (some (.int 3), hs B c m θ z l) := by
  simp only [e_128, s_128_0, s_128_1, s_128_4, s_128_5, s_128_6, s_128_9, s_128_10, s_128_11, s_128_12, s_128_13, s_128_14, s_128_17, s_128_20, s_128_21, s_128_22, s_128_23, s_128_24, s_128_25, s_128_28, s_128_29, s_128_32, s_128_33, s_128_34, s_128_35, s_128_36, s_128_37, s_128_40, s_128_43, s_128_44, s_128_47, s_128_48, eq_self, true_or, or_true, or_false, false_or, not_true_eq_false, not_false_eq_true, true_and, and_true, false_and, and_false, iR_r, iR_n, iR_f, iI_i, iJ_j, iF_f, iD_d, c1_n, c1_i, c1_r, c1_0, c1_f, c1_q, sw_0, sw_i, sw_j, sw_r, sw_rr, sw_ii, sw_ir, sw_ri, sw_rj, sw_jj, bd_s, bd_n, tl_s, tl_n, if_true, if_false, oz_1, oz_0, hs_1, kt_i, kt_j, kt_f, kt_d, kt_r, gm_0, gm_1, gm_2, gm_3, gm_4, gm_5, gm_6, gm_7, gm_8, gm_9, gm_10, gm_11, gm_12, gm_13, gm_14, gm_15, gm_16, gm_17, gm_18, gm_19, gm_20, gm_21, gm_22, gm_23, gm_24, gm_25, gm_26, gm_27, gm_28, kl_m, pm_2, pm_6, pm_8, pm_11, pm_15, pm_23, pm_25, pm_27, pm_22, pm_28, rd_m0, wr_m0, ln_m0, rd_m1, wr_m1, ln_m1, rd_m2, wr_m2, ln_m2, rd_m3, wr_m3, ln_m3, rd_m4, wr_m4, ln_m4, rd_m5, wr_m5, ln_m5, rd_m6, wr_m6, ln_m6, rd_m7, wr_m7, ln_m7, rd_m8, wr_m8, ln_m8, rd_m9, wr_m9, ln_m9, rd_m10, wr_m10, ln_m10, rd_m11, wr_m11, ln_m11, rd_m12, wr_m12, ln_m12, rd_m13, wr_m13, ln_m13, rd_m14, wr_m14, ln_m14, rd_m15, wr_m15, ln_m15, rd_m16, wr_m16, ln_m16, rd_m17, wr_m17, ln_m17, rd_mw, wr_mw, ln_mw, hb, h, hc]
