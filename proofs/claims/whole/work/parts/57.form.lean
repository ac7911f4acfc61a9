-- FLOATFORM: the class's own numbers with a point
def FM (σ : ev_H) (a F b K : Nat) : Prop := ev_cl σ a = some 2 ∧ ev_gf σ a 2 0 = some (.int (nI F)) ∧ ev_gf σ a 2 1 = some (.int (nI b)) ∧ ev_gf σ a 2 2 = some (.long (jm K)) ∧ ((F = 23 ∧ b = 127 ∧ K = 31) ∨ (F = 52 ∧ b = 1023 ∧ K = 63))
section FMH
variable {B : Nat} {c : CS} {m : MS} {θ : Nat → Option ev_E} {z l : Nat}
theorem fm_f : FM (hs B c m θ z l) (B + 4) 23 127 31 := ⟨kl_f, gff_0, gff_1, by rw [show jm 31 = -2147483648 by decide +kernel]; exact gff_2, Or.inl ⟨rfl, rfl, rfl⟩⟩
theorem fm_d : FM (hs B c m θ z l) (B + 5) 52 1023 63 := ⟨kl_d, gfd_0, gfd_1, by rw [show jm 63 = -9223372036854775808 by decide +kernel]; exact gfd_2, Or.inr ⟨rfl, rfl, rfl⟩⟩
end FMH
theorem bI_b (s : Bool) : bI (s = true) = if s = true then 1 else 0 := rfl
section FMS
variable {σ : ev_H} {a F b K S R : Nat} {s t : Bool}
theorem FM.n (f : FM σ a F b K) : K ≤ 63 ∧ F ≤ 52 ∧ 23 ≤ F ∧ 2 ^ K = (2 * b + 2) * 2 ^ F ∧ b % 2 = 1 ∧ 2 ≤ b ∧ b ≤ 1023 ∧ 2 ^ F ≤ 2 ^ 52 := by
  rcases f.2.2.2.2 with ⟨rfl, rfl, rfl⟩ | ⟨rfl, rfl, rfl⟩ <;> decide
theorem FM.q (f : FM σ a F b K) (hS : S < 2 ^ K) : S / 2 ^ F < 2 * b + 2 ∧ S < 2 ^ 63 := by
  obtain ⟨h1, h2, h3, h4, -⟩ := f.n
  refine ⟨(Nat.div_lt_iff_lt_mul (fp_pos F)).mpr (by rw [← h4]; exact hS), Nat.lt_of_lt_of_le hS (Nat.pow_le_pow_right (by omega) h1)⟩
theorem f_size (f : FM σ a F b K) (hS : S < 2 ^ K) : EV 10 [.ref a, .long (jw K s S)] σ = some (some (.long (JL S)), σ) := by
  simp only [e_10, s_10_0, s_10_1, s_10_2, s_10_5, s_10_8, s_10_9, s_10_10, eq_self, true_or, or_true, or_false, false_or, not_true_eq_false, not_false_eq_true, true_and, and_true, false_and, and_false, iR_r, iR_n, iR_f, iI_i, iJ_j, iF_f, iD_d, c1_n, c1_i, c1_r, c1_0, c1_f, c1_q, sw_0, sw_i, sw_j, sw_r, sw_rr, sw_ii, sw_ir, sw_ri, sw_rj, sw_jj, bd_s, bd_n, tl_s, tl_n, if_true, if_false, oz_1, oz_0, hs_1, kt_i, kt_j, kt_f, kt_d, kt_r, f.2.2.2.1]
  rw [jw_size f.n.1 hS]
theorem f_sg (f : FM σ a F b K) (hS : S < 2 ^ K) : EV 11 [.ref a, .long (JL S), .int (bI (s = true))] σ = some (some (.long (jw K s S)), σ) := by
  cases s
  · rw [bI_f (by decide)]
    simp only [e_11, s_11_0, s_11_1, s_11_4, s_11_5, s_11_6, s_11_9, s_11_10, s_11_13, s_11_14, eq_self, true_or, or_true, or_false, false_or, not_true_eq_false, not_false_eq_true, true_and, and_true, false_and, and_false, iR_r, iR_n, iR_f, iI_i, iJ_j, iF_f, iD_d, c1_n, c1_i, c1_r, c1_0, c1_f, c1_q, sw_0, sw_i, sw_j, sw_r, sw_rr, sw_ii, sw_ir, sw_ri, sw_rj, sw_jj, bd_s, bd_n, tl_s, tl_n, if_true, if_false, oz_1, oz_0, hs_1, kt_i, kt_j, kt_f, kt_d, kt_r, ne_0_1, ne_0_2, ne_0_3, ne_0_4, ne_0_5, ne_0_6, ne_0_7, ne_0_8, ne_0_9, ne_0_10, ne_0_11, ne_0_12, ne_1_0, ne_1_2, ne_1_3, ne_1_4, ne_1_5, ne_1_6, ne_1_7, ne_1_8, ne_1_9, ne_1_10, ne_1_11, ne_1_12, ne_2_0, ne_2_1, ne_2_3, ne_2_4, ne_2_5, ne_2_6, ne_2_7, ne_2_8, ne_2_9, ne_2_10, ne_2_11, ne_2_12, ne_3_0, ne_3_1, ne_3_2, ne_3_4, ne_3_5, ne_3_6, ne_3_7, ne_3_8, ne_3_9, ne_3_10, ne_3_11, ne_3_12, ne_4_0, ne_4_1, ne_4_2, ne_4_3, ne_4_5, ne_4_6, ne_4_7, ne_4_8, ne_4_9, ne_4_10, ne_4_11, ne_4_12, ne_5_0, ne_5_1, ne_5_2, ne_5_3, ne_5_4, ne_5_6, ne_5_7, ne_5_8, ne_5_9, ne_5_10, ne_5_11, ne_5_12, ne_6_0, ne_6_1, ne_6_2, ne_6_3, ne_6_4, ne_6_5, ne_6_7, ne_6_8, ne_6_9, ne_6_10, ne_6_11, ne_6_12, ne_7_0, ne_7_1, ne_7_2, ne_7_3, ne_7_4, ne_7_5, ne_7_6, ne_7_8, ne_7_9, ne_7_10, ne_7_11, ne_7_12, ne_8_0, ne_8_1, ne_8_2, ne_8_3, ne_8_4, ne_8_5, ne_8_6, ne_8_7, ne_8_9, ne_8_10, ne_8_11, ne_8_12, ne_9_0, ne_9_1, ne_9_2, ne_9_3, ne_9_4, ne_9_5, ne_9_6, ne_9_7, ne_9_8, ne_9_10, ne_9_11, ne_9_12, ne_10_0, ne_10_1, ne_10_2, ne_10_3, ne_10_4, ne_10_5, ne_10_6, ne_10_7, ne_10_8, ne_10_9, ne_10_11, ne_10_12, ne_11_0, ne_11_1, ne_11_2, ne_11_3, ne_11_4, ne_11_5, ne_11_6, ne_11_7, ne_11_8, ne_11_9, ne_11_10, ne_11_12, ne_12_0, ne_12_1, ne_12_2, ne_12_3, ne_12_4, ne_12_5, ne_12_6, ne_12_7, ne_12_8, ne_12_9, ne_12_10, ne_12_11, n_0, n_1, n_2, n_3, n_4]
    rfl
  · rw [bI_t rfl]
    simp only [e_11, s_11_0, s_11_1, s_11_4, s_11_5, s_11_6, s_11_9, s_11_10, s_11_13, s_11_14, eq_self, true_or, or_true, or_false, false_or, not_true_eq_false, not_false_eq_true, true_and, and_true, false_and, and_false, iR_r, iR_n, iR_f, iI_i, iJ_j, iF_f, iD_d, c1_n, c1_i, c1_r, c1_0, c1_f, c1_q, sw_0, sw_i, sw_j, sw_r, sw_rr, sw_ii, sw_ir, sw_ri, sw_rj, sw_jj, bd_s, bd_n, tl_s, tl_n, if_true, if_false, oz_1, oz_0, hs_1, kt_i, kt_j, kt_f, kt_d, kt_r, ne_0_1, ne_0_2, ne_0_3, ne_0_4, ne_0_5, ne_0_6, ne_0_7, ne_0_8, ne_0_9, ne_0_10, ne_0_11, ne_0_12, ne_1_0, ne_1_2, ne_1_3, ne_1_4, ne_1_5, ne_1_6, ne_1_7, ne_1_8, ne_1_9, ne_1_10, ne_1_11, ne_1_12, ne_2_0, ne_2_1, ne_2_3, ne_2_4, ne_2_5, ne_2_6, ne_2_7, ne_2_8, ne_2_9, ne_2_10, ne_2_11, ne_2_12, ne_3_0, ne_3_1, ne_3_2, ne_3_4, ne_3_5, ne_3_6, ne_3_7, ne_3_8, ne_3_9, ne_3_10, ne_3_11, ne_3_12, ne_4_0, ne_4_1, ne_4_2, ne_4_3, ne_4_5, ne_4_6, ne_4_7, ne_4_8, ne_4_9, ne_4_10, ne_4_11, ne_4_12, ne_5_0, ne_5_1, ne_5_2, ne_5_3, ne_5_4, ne_5_6, ne_5_7, ne_5_8, ne_5_9, ne_5_10, ne_5_11, ne_5_12, ne_6_0, ne_6_1, ne_6_2, ne_6_3, ne_6_4, ne_6_5, ne_6_7, ne_6_8, ne_6_9, ne_6_10, ne_6_11, ne_6_12, ne_7_0, ne_7_1, ne_7_2, ne_7_3, ne_7_4, ne_7_5, ne_7_6, ne_7_8, ne_7_9, ne_7_10, ne_7_11, ne_7_12, ne_8_0, ne_8_1, ne_8_2, ne_8_3, ne_8_4, ne_8_5, ne_8_6, ne_8_7, ne_8_9, ne_8_10, ne_8_11, ne_8_12, ne_9_0, ne_9_1, ne_9_2, ne_9_3, ne_9_4, ne_9_5, ne_9_6, ne_9_7, ne_9_8, ne_9_10, ne_9_11, ne_9_12, ne_10_0, ne_10_1, ne_10_2, ne_10_3, ne_10_4, ne_10_5, ne_10_6, ne_10_7, ne_10_8, ne_10_9, ne_10_11, ne_10_12, ne_11_0, ne_11_1, ne_11_2, ne_11_3, ne_11_4, ne_11_5, ne_11_6, ne_11_7, ne_11_8, ne_11_9, ne_11_10, ne_11_12, ne_12_0, ne_12_1, ne_12_2, ne_12_3, ne_12_4, ne_12_5, ne_12_6, ne_12_7, ne_12_8, ne_12_9, ne_12_10, ne_12_11, n_0, n_1, n_2, n_3, n_4, f.2.2.2.1]
    rw [jw_sign f.n.1 hS]
theorem f_one (f : FM σ a F b K) : EV 12 [.ref a] σ = some (some (.long (JL (b * 2 ^ F))), σ) := by
  obtain ⟨h1, h2, h3, h4, h5, h6, h7, h8⟩ := f.n
  simp only [e_12, s_12_0, s_12_1, s_12_4, s_12_5, s_12_6, s_12_9, s_12_10, eq_self, true_or, or_true, or_false, false_or, not_true_eq_false, not_false_eq_true, true_and, and_true, false_and, and_false, iR_r, iR_n, iR_f, iI_i, iJ_j, iF_f, iD_d, c1_n, c1_i, c1_r, c1_0, c1_f, c1_q, sw_0, sw_i, sw_j, sw_r, sw_rr, sw_ii, sw_ir, sw_ri, sw_rj, sw_jj, bd_s, bd_n, tl_s, tl_n, if_true, if_false, oz_1, oz_0, hs_1, kt_i, kt_j, kt_f, kt_d, kt_r, f.2.1, f.2.2.1]
  rw [nI_jl (by omega), jl_shl (by omega)]
theorem f_end (f : FM σ a F b K) : EV 13 [.ref a] σ = some (some (.long (JL ((2 * b + 1) * 2 ^ F))), σ) := by
  obtain ⟨h1, h2, h3, h4, h5, h6, h7, h8⟩ := f.n
  simp only [e_13, s_13_0, s_13_3, s_13_4, s_13_7, s_13_8, s_13_9, s_13_10, s_13_11, s_13_12, s_13_15, s_13_16, eq_self, true_or, or_true, or_false, false_or, not_true_eq_false, not_false_eq_true, true_and, and_true, false_and, and_false, iR_r, iR_n, iR_f, iI_i, iJ_j, iF_f, iD_d, c1_n, c1_i, c1_r, c1_0, c1_f, c1_q, sw_0, sw_i, sw_j, sw_r, sw_rr, sw_ii, sw_ir, sw_ri, sw_rj, sw_jj, bd_s, bd_n, tl_s, tl_n, if_true, if_false, oz_1, oz_0, hs_1, kt_i, kt_j, kt_f, kt_d, kt_r, f.2.1, f.2.2.1]
  rw [nI_jl (by omega), jl_two, jl_mul, jl_one, jl_add, jl_shl (by omega)]
theorem FM.top (f : FM σ a F b K) : (2 * b + 1) * 2 ^ F < 2 ^ K ∧ (2 * b + 1) * 2 ^ F < 2 ^ 63 := by
  obtain ⟨h1, h2, h3, h4, h5, h6, h7, h8⟩ := f.n
  have hp := fp_pos F
  have : (2 * b + 1) * 2 ^ F < 2 ^ K := by rw [h4]; exact Nat.mul_lt_mul_of_pos_right (by omega) hp
  exact ⟨this, (f.q this).2⟩
theorem f_isEnd (f : FM σ a F b K) (hS : S < 2 ^ K) : EV 14 [.ref a, .long (jw K s S)] σ = some (some (.int (bI (S = (2 * b + 1) * 2 ^ F))), σ) := by
  simp only [e_14, s_14_0, s_14_1, s_14_2, s_14_5, s_14_6, s_14_9, s_14_10, s_14_13, s_14_14, s_14_17, s_14_18, eq_self, true_or, or_true, or_false, false_or, not_true_eq_false, not_false_eq_true, true_and, and_true, false_and, and_false, iR_r, iR_n, iR_f, iI_i, iJ_j, iF_f, iD_d, c1_n, c1_i, c1_r, c1_0, c1_f, c1_q, sw_0, sw_i, sw_j, sw_r, sw_rr, sw_ii, sw_ir, sw_ri, sw_rj, sw_jj, bd_s, bd_n, tl_s, tl_n, if_true, if_false, oz_1, oz_0, hs_1, kt_i, kt_j, kt_f, kt_d, kt_r, f.1, f_size (s := s) f hS, f_end f, lc_eq, jl_eq (f.q hS).2 f.top.2]
  by_cases h : S = (2 * b + 1) * 2 ^ F
  · rw [bI_t h, if_neg (fun q => q h)]
  · rw [bI_f h, if_pos h]
theorem f_rank (f : FM σ a F b K) (hS : S < 2 ^ K) : EV 16 [.ref a, .long (jw K s S)] σ = some (some (.long (if s = true then -1 - JL S else JL S)), σ) := by
  cases s
  · simp only [e_16, s_16_0, s_16_1, s_16_2, s_16_5, s_16_6, s_16_7, s_16_8, s_16_9, s_16_12, s_16_15, s_16_16, s_16_17, s_16_20, s_16_21, eq_self, true_or, or_true, or_false, false_or, not_true_eq_false, not_false_eq_true, true_and, and_true, false_and, and_false, iR_r, iR_n, iR_f, iI_i, iJ_j, iF_f, iD_d, c1_n, c1_i, c1_r, c1_0, c1_f, c1_q, sw_0, sw_i, sw_j, sw_r, sw_rr, sw_ii, sw_ir, sw_ri, sw_rj, sw_jj, bd_s, bd_n, tl_s, tl_n, if_true, if_false, oz_1, oz_0, hs_1, kt_i, kt_j, kt_f, kt_d, kt_r, f.1, f_size (s := false) f hS, lc_ge, jw_nn (s := false) f.n.1 hS, Bool.false_eq_true]
  · simp only [e_16, s_16_0, s_16_1, s_16_2, s_16_5, s_16_6, s_16_7, s_16_8, s_16_9, s_16_12, s_16_15, s_16_16, s_16_17, s_16_20, s_16_21, eq_self, true_or, or_true, or_false, false_or, not_true_eq_false, not_false_eq_true, true_and, and_true, false_and, and_false, iR_r, iR_n, iR_f, iI_i, iJ_j, iF_f, iD_d, c1_n, c1_i, c1_r, c1_0, c1_f, c1_q, sw_0, sw_i, sw_j, sw_r, sw_rr, sw_ii, sw_ir, sw_ri, sw_rj, sw_jj, bd_s, bd_n, tl_s, tl_n, if_true, if_false, oz_1, oz_0, hs_1, kt_i, kt_j, kt_f, kt_d, kt_r, f.1, f_size (s := true) f hS, lc_ge, jw_nn (s := true) f.n.1 hS, Bool.true_eq_false]
theorem f_pow (f : FM σ a F b K) (hS : S < 2 ^ K) : EV 17 [.ref a, .long (JL S)] σ = some (some (.int (nI (S / 2 ^ F) - nI b)), σ) := by
  obtain ⟨h1, h2, h3, h4, h5, h6, h7, h8⟩ := f.n
  have hq := f.q hS
  simp only [e_17, s_17_0, s_17_1, s_17_2, s_17_5, s_17_6, s_17_7, s_17_8, s_17_11, s_17_12, eq_self, true_or, or_true, or_false, false_or, not_true_eq_false, not_false_eq_true, true_and, and_true, false_and, and_false, iR_r, iR_n, iR_f, iI_i, iJ_j, iF_f, iD_d, c1_n, c1_i, c1_r, c1_0, c1_f, c1_q, sw_0, sw_i, sw_j, sw_r, sw_rr, sw_ii, sw_ir, sw_ri, sw_rj, sw_jj, bd_s, bd_n, tl_s, tl_n, if_true, if_false, oz_1, oz_0, hs_1, kt_i, kt_j, kt_f, kt_d, kt_r, f.2.1, f.2.2.1]
  rw [jl_shr (by omega) (by omega), jl_i32]
theorem f_field (f : FM σ a F b K) (hS : S < 2 ^ K) : EV 20 [.ref a, .long (JL S)] σ = some (some (.int (nI (fp_fd F S))), σ) := by
  obtain ⟨h1, h2, h3, h4, h5, h6, h7, h8⟩ := f.n
  have hq := f.q hS
  simp only [e_20, s_20_0, s_20_1, s_20_2, s_20_3, s_20_6, s_20_7, s_20_8, s_20_11, eq_self, true_or, or_true, or_false, false_or, not_true_eq_false, not_false_eq_true, true_and, and_true, false_and, and_false, iR_r, iR_n, iR_f, iI_i, iJ_j, iF_f, iD_d, c1_n, c1_i, c1_r, c1_0, c1_f, c1_q, sw_0, sw_i, sw_j, sw_r, sw_rr, sw_ii, sw_ir, sw_ri, sw_rj, sw_jj, bd_s, bd_n, tl_s, tl_n, if_true, if_false, oz_1, oz_0, hs_1, kt_i, kt_j, kt_f, kt_d, kt_r, f.2.1, f.2.2.1]
  rw [jl_shr (by omega) (by omega), jl_i32]
  have e1 : ((1 : Int32) < nI (S / 2 ^ F)) ↔ 1 < S / 2 ^ F := nI_ltI (a := 1) (by omega) (by omega)
  have e2 : (if (1 : Int32) < nI (S / 2 ^ F) then nI (S / 2 ^ F) else 1) = nI (fp_fd F S) := by
    unfold fp_fd
    by_cases h : S < 2 ^ F
    · rw [if_pos h, if_neg (by rw [e1, Nat.div_eq_of_lt h]; omega)]; rfl
    · have : 1 ≤ S / 2 ^ F := (Nat.one_le_div_iff (fp_pos F)).mpr (by omega)
      rw [if_neg h]
      by_cases h9 : 1 < S / 2 ^ F
      · rw [if_pos (e1.mpr h9)]
      · rw [if_neg (fun q => h9 (e1.mp q)), show S / 2 ^ F = 1 by omega]; rfl
  rw [e2]
theorem f_dig (f : FM σ a F b K) (hS : S < 2 ^ K) : EV 21 [.ref a, .long (JL S)] σ = some (some (.long (JL (fp_dg F S))), σ) := by
  obtain ⟨h1, h2, h3, h4, h5, h6, h7, h8⟩ := f.n
  have hq := f.q hS
  have hp := fp_pos F
  have hm := Nat.mod_lt S hp
  have e1 : JL (2 ^ F) - 1 = JL (2 ^ F - 1) := by rw [jl_one, jl_sub (by omega)]
  have e2 : (JL S < JL (2 ^ F)) = (S < 2 ^ F) := jl_lt hq.2 (by omega)
  by_cases h : S < 2 ^ F
  · simp only [e_21, s_21_0, s_21_1, s_21_2, s_21_5, s_21_6, s_21_7, s_21_8, s_21_9, s_21_10, s_21_11, s_21_12, s_21_14, s_21_15, s_21_16, s_21_17, s_21_20, s_21_22, s_21_23, s_21_24, s_21_27, s_21_29, eq_self, true_or, or_true, or_false, false_or, not_true_eq_false, not_false_eq_true, true_and, and_true, false_and, and_false, iR_r, iR_n, iR_f, iI_i, iJ_j, iF_f, iD_d, c1_n, c1_i, c1_r, c1_0, c1_f, c1_q, sw_0, sw_i, sw_j, sw_r, sw_rr, sw_ii, sw_ir, sw_ri, sw_rj, sw_jj, bd_s, bd_n, tl_s, tl_n, if_true, if_false, oz_1, oz_0, hs_1, kt_i, kt_j, kt_f, kt_d, kt_r, f.2.1, jl_shl1 (show F < 64 by omega), e1, jl_mask (k := F) (show S < 2 ^ 64 by omega) (by omega), lc_lt, e2, eq_true h]
    unfold fp_dg
    rw [if_pos h, Nat.mod_eq_of_lt h]
  · simp only [e_21, s_21_0, s_21_1, s_21_2, s_21_5, s_21_6, s_21_7, s_21_8, s_21_9, s_21_10, s_21_11, s_21_12, s_21_14, s_21_15, s_21_16, s_21_17, s_21_20, s_21_22, s_21_23, s_21_24, s_21_27, s_21_29, eq_self, true_or, or_true, or_false, false_or, not_true_eq_false, not_false_eq_true, true_and, and_true, false_and, and_false, iR_r, iR_n, iR_f, iI_i, iJ_j, iF_f, iD_d, c1_n, c1_i, c1_r, c1_0, c1_f, c1_q, sw_0, sw_i, sw_j, sw_r, sw_rr, sw_ii, sw_ir, sw_ri, sw_rj, sw_jj, bd_s, bd_n, tl_s, tl_n, if_true, if_false, oz_1, oz_0, hs_1, kt_i, kt_j, kt_f, kt_d, kt_r, f.2.1, jl_shl1 (show F < 64 by omega), e1, jl_mask (k := F) (show S < 2 ^ 64 by omega) (by omega), lc_lt, e2, eq_false h]
    have e3 := jl_join (a := 1) (b := S % 2 ^ F) (i := F) hm (by omega)
    rw [Nat.mul_one] at e3
    unfold fp_dg
    rw [if_neg h, e3]
theorem bI_ff : bI (false = true) = 0 := bI_f (by decide)
theorem bI_tt : bI (true = true) = 1 := bI_t rfl
theorem f_goes {way : Int32} {n : Bool} (hw : way = 1 ∨ way = 2 ∨ way = 3) : EV 19 [.int way, .int (bI (s = true)), .int (bI (n = true))] σ = some (some (.int (bI (if way = 3 then n = true else decide (way = 1) = s))), σ) := by
  rcases hw with rfl | rfl | rfl <;> cases s <;> cases n <;> (try rw [bI_ff]) <;> (try rw [bI_tt]) <;> simp only [e_19, s_19_0, s_19_1, s_19_28, s_19_29, s_19_30, s_19_31, s_19_34, s_19_35, s_19_38, s_19_39, s_19_40, s_19_41, eq_self, true_or, or_true, or_false, false_or, not_true_eq_false, not_false_eq_true, true_and, and_true, false_and, and_false, iR_r, iR_n, iR_f, iI_i, iJ_j, iF_f, iD_d, c1_n, c1_i, c1_r, c1_0, c1_f, c1_q, sw_0, sw_i, sw_j, sw_r, sw_rr, sw_ii, sw_ir, sw_ri, sw_rj, sw_jj, bd_s, bd_n, tl_s, tl_n, if_true, if_false, oz_1, oz_0, hs_1, kt_i, kt_j, kt_f, kt_d, kt_r, ne_0_1, ne_0_2, ne_0_3, ne_0_4, ne_0_5, ne_0_6, ne_0_7, ne_0_8, ne_0_9, ne_0_10, ne_0_11, ne_0_12, ne_1_0, ne_1_2, ne_1_3, ne_1_4, ne_1_5, ne_1_6, ne_1_7, ne_1_8, ne_1_9, ne_1_10, ne_1_11, ne_1_12, ne_2_0, ne_2_1, ne_2_3, ne_2_4, ne_2_5, ne_2_6, ne_2_7, ne_2_8, ne_2_9, ne_2_10, ne_2_11, ne_2_12, ne_3_0, ne_3_1, ne_3_2, ne_3_4, ne_3_5, ne_3_6, ne_3_7, ne_3_8, ne_3_9, ne_3_10, ne_3_11, ne_3_12, ne_4_0, ne_4_1, ne_4_2, ne_4_3, ne_4_5, ne_4_6, ne_4_7, ne_4_8, ne_4_9, ne_4_10, ne_4_11, ne_4_12, ne_5_0, ne_5_1, ne_5_2, ne_5_3, ne_5_4, ne_5_6, ne_5_7, ne_5_8, ne_5_9, ne_5_10, ne_5_11, ne_5_12, ne_6_0, ne_6_1, ne_6_2, ne_6_3, ne_6_4, ne_6_5, ne_6_7, ne_6_8, ne_6_9, ne_6_10, ne_6_11, ne_6_12, ne_7_0, ne_7_1, ne_7_2, ne_7_3, ne_7_4, ne_7_5, ne_7_6, ne_7_8, ne_7_9, ne_7_10, ne_7_11, ne_7_12, ne_8_0, ne_8_1, ne_8_2, ne_8_3, ne_8_4, ne_8_5, ne_8_6, ne_8_7, ne_8_9, ne_8_10, ne_8_11, ne_8_12, ne_9_0, ne_9_1, ne_9_2, ne_9_3, ne_9_4, ne_9_5, ne_9_6, ne_9_7, ne_9_8, ne_9_10, ne_9_11, ne_9_12, ne_10_0, ne_10_1, ne_10_2, ne_10_3, ne_10_4, ne_10_5, ne_10_6, ne_10_7, ne_10_8, ne_10_9, ne_10_11, ne_10_12, ne_11_0, ne_11_1, ne_11_2, ne_11_3, ne_11_4, ne_11_5, ne_11_6, ne_11_7, ne_11_8, ne_11_9, ne_11_10, ne_11_12, ne_12_0, ne_12_1, ne_12_2, ne_12_3, ne_12_4, ne_12_5, ne_12_6, ne_12_7, ne_12_8, ne_12_9, ne_12_10, ne_12_11, n_0, n_1, n_2, n_3, n_4] <;> rfl
/-- to a whole number: the endless ones, 0 and those without a fraction stay -/
theorem f_wholeS (f : FM σ a F b K) (hS : S < 2 ^ K) {way : Int32} (h : S = 0 ∨ (b + F) * 2 ^ F ≤ S) : EV 18 [.ref a, .long (jw K s S), .int way] σ = some (some (.long (jw K s S)), σ) := by
  obtain ⟨h1, h2, h3, h4, h5, h6, h7, h8⟩ := f.n
  have hq := f.q hS
  rcases h with h | h
  · simp only [e_18, s_18_0, s_18_1, s_18_2, s_18_5, s_18_7, s_18_8, s_18_10, s_18_13, s_18_15, s_18_17, s_18_18, s_18_19, s_18_22, s_18_24, s_18_25, s_18_28, s_18_31, s_18_32, eq_self, true_or, or_true, or_false, false_or, not_true_eq_false, not_false_eq_true, true_and, and_true, false_and, and_false, iR_r, iR_n, iR_f, iI_i, iJ_j, iF_f, iD_d, c1_n, c1_i, c1_r, c1_0, c1_f, c1_q, sw_0, sw_i, sw_j, sw_r, sw_rr, sw_ii, sw_ir, sw_ri, sw_rj, sw_jj, bd_s, bd_n, tl_s, tl_n, if_true, if_false, oz_1, oz_0, hs_1, kt_i, kt_j, kt_f, kt_d, kt_r, f.1, f_size (s := s) f hS, f_pow f hS, lc_eq, jl_zero, jl_eq hq.2 (show 0 < 2 ^ 63 by omega), eq_true h]
  · have h0 : ¬ S = 0 := by have := Nat.mul_pos (show 0 < b + F by omega) (fp_pos F); omega
    have hq2 : b + F ≤ S / 2 ^ F := (Nat.le_div_iff_mul_le (fp_pos F)).mpr h
    have e1 : (nI (S / 2 ^ F) - nI b < nI F) = False := by
      rw [nI_sub (by omega)]
      exact eq_false (fun q => by have := (nI_ltI (by omega) (by omega)).mp q; omega)
    simp only [e_18, s_18_0, s_18_1, s_18_2, s_18_5, s_18_7, s_18_8, s_18_10, s_18_13, s_18_15, s_18_17, s_18_18, s_18_19, s_18_22, s_18_24, s_18_25, s_18_28, s_18_31, s_18_32, eq_self, true_or, or_true, or_false, false_or, not_true_eq_false, not_false_eq_true, true_and, and_true, false_and, and_false, iR_r, iR_n, iR_f, iI_i, iJ_j, iF_f, iD_d, c1_n, c1_i, c1_r, c1_0, c1_f, c1_q, sw_0, sw_i, sw_j, sw_r, sw_rr, sw_ii, sw_ir, sw_ri, sw_rj, sw_jj, bd_s, bd_n, tl_s, tl_n, if_true, if_false, oz_1, oz_0, hs_1, kt_i, kt_j, kt_f, kt_d, kt_r, f.1, f.2.1, f_size (s := s) f hS, f_pow f hS, lc_eq, jl_zero, jl_eq hq.2 (show 0 < 2 ^ 63 by omega), eq_false h0, e1]
end FMS
