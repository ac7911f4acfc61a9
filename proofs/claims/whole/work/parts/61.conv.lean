-- from one kind of number to another; floatToIntBits, doubleToLongBits
theorem fp_G64 {G : Nat} (hG : G = 1074) : (fp_f 11 52).qmin = -(G : Int) := by rw [hG]; rfl
theorem fp_G32 {G : Nat} (hG : G = 149) : (fp_f 8 23).qmin = -(G : Int) := by rw [hG]; rfl
theorem cl_of (s : Bool) (n : Nat) : Int64.ofInt (max (-2 ^ 63) (min (2 ^ 63 - 1) (FP.Core.signed s n))) = f_cl s n := by
  unfold f_cl
  rw [fp_sgn]
  by_cases h : n < 2 ^ 63
  · rw [if_pos h]
    cases s
    · simp only [Bool.false_eq_true, if_false]
      rw [show max (-2 ^ 63 : Int) (min (2 ^ 63 - 1) (n : Int)) = (n : Int) by omega, Int64.ofInt_eq_ofNat]
      rfl
    · simp only [if_true]
      rw [show max (-2 ^ 63 : Int) (min (2 ^ 63 - 1) (-(n : Int))) = -(n : Int) by omega, Int64.ofInt_neg, Int64.ofInt_eq_ofNat]
      rfl
  · rw [if_neg h]
    cases s
    · simp only [Bool.false_eq_true, if_false]
      rw [show max (-2 ^ 63 : Int) (min (2 ^ 63 - 1) (n : Int)) = 2 ^ 63 - 1 by omega]
      decide +kernel
    · simp only [if_true]
      rw [show max (-2 ^ 63 : Int) (min (2 ^ 63 - 1) (-(n : Int))) = -2 ^ 63 by omega]
      decide +kernel
section CNV
variable {s t : Bool} {S R Z G : Nat} {σ : ev_H}
theorem d_2l (hG : G = 1074) (hS : S ≤ 2047 * 2 ^ 52) : FP.d2l (jw 63 s S).toUInt64 = f_cl s (fp_vl 52 S / 2 ^ G) := by
  show Int64.ofInt (FP.Core.toInt (-2 ^ 63) (2 ^ 63 - 1) (FP.Core.decode (fp_f 11 52) (jw 63 s S).toUInt64.toNat)) = _
  rw [ud_nat (by omega)]
  by_cases h : S < 2047 * 2 ^ 52
  · rw [fp_toInt (fp_G64 hG) (by omega), cl_of]
  · obtain ⟨e, he⟩ : ∃ e, e = 2047 := ⟨_, rfl⟩
    have hSe : S = e * 2 ^ 52 + 0 := by omega
    have h1 : FP.Core.decode (fp_f 11 52) (fp_bt 11 52 s S) = .inf s := by
      have := fp_decI (E := 11) (F := 52) (s := s)
      rw [show (2 ^ 11 - 1) * 2 ^ 52 = S by omega] at this
      exact this
    have h2 : ¬ fp_vl 52 S / 2 ^ G < 2 ^ 63 := by
      have h3 : 2 ^ 63 ≤ fp_vl 52 S / 2 ^ G := by
        rw [Nat.le_div_iff_mul_le (fp_pos G), hSe, fp_hi (by omega) (by omega), Nat.add_zero, ← Nat.pow_add, ← Nat.pow_add]
        exact Nat.pow_le_pow_right (by omega) (by omega)
      omega
    rw [h1]
    unfold f_cl
    rw [if_neg h2]
    cases s <;> decide +kernel
theorem f_2l (hG : G = 149) (hS : S ≤ 255 * 2 ^ 23) : FP.f2l (iw s S).toUInt32 = f_cl s (fp_vl 23 S / 2 ^ G) := by
  show Int64.ofInt (FP.Core.toInt (-2 ^ 63) (2 ^ 63 - 1) (FP.Core.decode (fp_f 8 23) (iw s S).toUInt32.toNat)) = _
  rw [uf_nat (by omega)]
  by_cases h : S < 255 * 2 ^ 23
  · rw [fp_toInt (fp_G32 hG) (by omega), cl_of]
  · obtain ⟨e, he⟩ : ∃ e, e = 255 := ⟨_, rfl⟩
    have hSe : S = e * 2 ^ 23 + 0 := by omega
    have h1 : FP.Core.decode (fp_f 8 23) (fp_bt 8 23 s S) = .inf s := by
      have := fp_decI (E := 8) (F := 23) (s := s)
      rw [show (2 ^ 8 - 1) * 2 ^ 23 = S by omega] at this
      exact this
    have h2 : ¬ fp_vl 23 S / 2 ^ G < 2 ^ 63 := by
      have h3 : 2 ^ 63 ≤ fp_vl 23 S / 2 ^ G := by
        rw [Nat.le_div_iff_mul_le (fp_pos G), hSe, fp_hi (by omega) (by omega), Nat.add_zero, ← Nat.pow_add, ← Nat.pow_add]
        exact Nat.pow_le_pow_right (by omega) (by omega)
      omega
    rw [h1]
    unfold f_cl
    rw [if_neg h2]
    cases s <;> decide +kernel
/-- to an int: the long held to the ints -/
def f_ci (s : Bool) (n : Nat) : Int32 := Int32.ofInt (max (-2 ^ 31) (min (2 ^ 31 - 1) (FP.Core.signed s n)))
theorem f_ciB (s : Bool) {n m : Nat} (h1 : 2 ^ 63 ≤ n) (h2 : 2 ^ 63 ≤ m) : f_ci s n = f_ci s m := by
  unfold f_ci
  rw [fp_sgn, fp_sgn]
  cases s
  · simp only [Bool.false_eq_true, if_false]
    rw [show max (-2 ^ 31 : Int) (min (2 ^ 31 - 1) (n : Int)) = max (-2 ^ 31 : Int) (min (2 ^ 31 - 1) (m : Int)) by omega]
  · simp only [if_true]
    rw [show max (-2 ^ 31 : Int) (min (2 ^ 31 - 1) (-(n : Int))) = max (-2 ^ 31 : Int) (min (2 ^ 31 - 1) (-(m : Int))) by omega]
theorem d_2i (hG : G = 1074) (hS : S ≤ 2047 * 2 ^ 52) : FP.d2i (jw 63 s S).toUInt64 = f_ci s (fp_vl 52 S / 2 ^ G) := by
  show Int32.ofInt (FP.Core.toInt (-2 ^ 31) (2 ^ 31 - 1) (FP.Core.decode (fp_f 11 52) (jw 63 s S).toUInt64.toNat)) = _
  rw [ud_nat (by omega)]
  by_cases h : S < 2047 * 2 ^ 52
  · rw [fp_toInt (fp_G64 hG) (by omega)]
    rfl
  · obtain ⟨e, he⟩ : ∃ e, e = 2047 := ⟨_, rfl⟩
    have hSe : S = e * 2 ^ 52 + 0 := by omega
    have h1 : FP.Core.decode (fp_f 11 52) (fp_bt 11 52 s S) = .inf s := by
      have := fp_decI (E := 11) (F := 52) (s := s)
      rw [show (2 ^ 11 - 1) * 2 ^ 52 = S by omega] at this
      exact this
    have h3 : 2 ^ 63 ≤ fp_vl 52 S / 2 ^ G := by
      rw [Nat.le_div_iff_mul_le (fp_pos G), hSe, fp_hi (by omega) (by omega), Nat.add_zero, ← Nat.pow_add, ← Nat.pow_add]
      exact Nat.pow_le_pow_right (by omega) (by omega)
    rw [h1, f_ciB s h3 (Nat.le_refl _)]
    cases s <;> decide +kernel
theorem f_2i (hG : G = 149) (hS : S ≤ 255 * 2 ^ 23) : FP.f2i (iw s S).toUInt32 = f_ci s (fp_vl 23 S / 2 ^ G) := by
  show Int32.ofInt (FP.Core.toInt (-2 ^ 31) (2 ^ 31 - 1) (FP.Core.decode (fp_f 8 23) (iw s S).toUInt32.toNat)) = _
  rw [uf_nat (by omega)]
  by_cases h : S < 255 * 2 ^ 23
  · rw [fp_toInt (fp_G32 hG) (by omega)]
    rfl
  · obtain ⟨e, he⟩ : ∃ e, e = 255 := ⟨_, rfl⟩
    have hSe : S = e * 2 ^ 23 + 0 := by omega
    have h1 : FP.Core.decode (fp_f 8 23) (fp_bt 8 23 s S) = .inf s := by
      have := fp_decI (E := 8) (F := 23) (s := s)
      rw [show (2 ^ 8 - 1) * 2 ^ 23 = S by omega] at this
      exact this
    have h3 : 2 ^ 63 ≤ fp_vl 23 S / 2 ^ G := by
      rw [Nat.le_div_iff_mul_le (fp_pos G), hSe, fp_hi (by omega) (by omega), Nat.add_zero, ← Nat.pow_add, ← Nat.pow_add]
      exact Nat.pow_le_pow_right (by omega) (by omega)
    rw [h1, f_ciB s h3 (Nat.le_refl _)]
    cases s <;> decide +kernel
theorem l_2d (hG : G = 1074) {n : Nat} (hn : n < 2 ^ 63) (hZ : Z < 2047 * 2 ^ 52) (hv : fp_vl 52 Z = n * 2 ^ G) : FP.l2d (JL n) = (jw 63 false Z).toUInt64 := by
  show UInt64.ofNat (FP.Core.encode (fp_f 11 52) (FP.Core.round (fp_f 11 52) (FP.Core.ofInt (JL n).toInt))) = _
  rw [jl_toInt hn]
  unfold FP.Core.ofInt
  rw [decide_eq_false (show ¬ ((n : Nat) : Int) < 0 by omega), Int.natAbs_natCast, fp_er (a := G) (b := 0) (S := Z) (by omega) (by omega) (by rw [Nat.pow_zero, Nat.mul_one, hv]) (by rw [fp_G64 hG]; omega), ud_of (by omega)]
theorem f_2d (hS : S < 255 * 2 ^ 23) : ∃ Z, FP.f2d (iw s S).toUInt32 = (jw 63 s Z).toUInt64 ∧ fp_vl 52 Z = fp_vl 23 S * 2 ^ 925 ∧ Z < 2047 * 2 ^ 52 := by
  obtain ⟨j, hj⟩ := fp_fd1 23 S
  have hd := fp_dg_lt 23 S
  have hq : fp_fd 23 S ≤ 254 := by
    unfold fp_fd
    split
    · omega
    · have : S / 2 ^ 23 < 255 := (Nat.div_lt_iff_lt_mul (by omega)).mpr hS
      omega
  obtain ⟨g, hg⟩ : ∃ g, g = 925 := ⟨_, rfl⟩
  rw [← hg]
  obtain ⟨Z, h1, h2⟩ := fp_mk (F := 52) (n := fp_dg 23 S) (g := j + g) (by omega) (by omega)
  have h3 : Z < 2047 * 2 ^ 52 := Nat.lt_of_lt_of_le h2 (Nat.mul_le_mul_right _ (by omega))
  refine ⟨Z, ?_, by rw [h1, fp_vlj hj, Nat.mul_assoc, ← Nat.pow_add], h3⟩
  have hdec : FP.Core.decode (fp_f 8 23) (iw s S).toUInt32.toNat = .fin s (fp_dg 23 S) ((fp_f 8 23).qmin + ((fp_fd 23 S : Int) - 1)) := by
    rw [uf_nat (by omega), fp_dec (by omega)]
  have hnan : FP.Core.fIsNaN (iw s S).toUInt32 = false := by
    show decide (FP.Core.decode (fp_f 8 23) (iw s S).toUInt32.toNat = .nan) = false
    rw [hdec]
    exact decide_eq_false (by intro q; cases q)
  unfold FP.f2d
  rw [hnan, if_neg (by decide)]
  show UInt64.ofNat (FP.Core.encode (fp_f 11 52) (FP.Core.round (fp_f 11 52) (FP.Core.decode (fp_f 8 23) (iw s S).toUInt32.toNat))) = _
  rw [hdec, fp_er (a := j + g) (b := 0) (S := Z) (by omega) (by omega) (by rw [Nat.pow_zero, Nat.mul_one, h1]) (by rw [fp_G64 (G := 1074) rfl, fp_G32 (G := 149) rfl, hj]; omega), ud_of (by omega)]
theorem f_2dI : FP.f2d (iw s (255 * 2 ^ 23)).toUInt32 = (jw 63 s (2047 * 2 ^ 52)).toUInt64 := by
  cases s <;> decide +kernel
theorem d_2f (hS : S < 2047 * 2 ^ 52) (hZ : Z < 255 * 2 ^ 23) (hv : fp_vl 52 S = fp_vl 23 Z * 2 ^ 925) : FP.d2f (jw 63 s S).toUInt64 = (iw s Z).toUInt32 := by
  obtain ⟨j, hj⟩ := fp_fd1 52 S
  obtain ⟨g, hg⟩ : ∃ g, g = 925 := ⟨_, rfl⟩
  rw [← hg] at hv
  have hdec : FP.Core.decode (fp_f 11 52) (jw 63 s S).toUInt64.toNat = .fin s (fp_dg 52 S) ((fp_f 11 52).qmin + ((fp_fd 52 S : Int) - 1)) := by
    rw [ud_nat (by omega), fp_dec (by omega)]
  have hnan : FP.Core.dIsNaN (jw 63 s S).toUInt64 = false := by
    show decide (FP.Core.decode (fp_f 11 52) (jw 63 s S).toUInt64.toNat = .nan) = false
    rw [hdec]
    exact decide_eq_false (by intro q; cases q)
  unfold FP.d2f
  rw [hnan, if_neg (by decide)]
  show UInt32.ofNat (FP.Core.encode (fp_f 8 23) (FP.Core.round (fp_f 8 23) (FP.Core.decode (fp_f 11 52) (jw 63 s S).toUInt64.toNat))) = _
  rw [hdec, fp_er (a := j) (b := g) (S := Z) (by omega) (by omega) (by rw [← fp_vlj hj, hv]) (by rw [fp_G64 (G := 1074) rfl, fp_G32 (G := 149) rfl, hj]; omega), uf_of (by omega)]
theorem d_2fI : FP.d2f (jw 63 s (2047 * 2 ^ 52)).toUInt64 = (iw s (255 * 2 ^ 23)).toUInt32 := by
  cases s <;> decide +kernel
-- the JDK's own
theorem m_d2l (hS : S ≤ 2047 * 2 ^ 52) : EV 171 [.double (jw 63 s S).toUInt64] σ = some (some (.long (jw 63 s S)), σ) := by
  have e1 : EV 170 [.double (jw 63 s S).toUInt64] σ = some (some (.int 0), σ) := by
    simp only [e_170, s_170_0, s_170_1, s_170_2, s_170_3, s_170_6, s_170_7, s_170_10, s_170_11, eq_self, true_or, or_true, or_false, false_or, not_true_eq_false, not_false_eq_true, true_and, and_true, false_and, and_false, iR_r, iR_n, iR_f, iI_i, iJ_j, iF_f, iD_d, c1_n, c1_i, c1_r, c1_0, c1_f, c1_q, sw_0, sw_i, sw_j, sw_r, sw_rr, sw_ii, sw_ir, sw_ri, sw_rj, sw_jj, bd_s, bd_n, tl_s, tl_n, if_true, if_false, oz_1, oz_0, hs_1, kt_i, kt_j, kt_f, kt_d, kt_r, ne_0_1, ne_0_2, ne_0_3, ne_0_4, ne_0_5, ne_0_6, ne_0_7, ne_0_8, ne_0_9, ne_0_10, ne_0_11, ne_0_12, ne_1_0, ne_1_2, ne_1_3, ne_1_4, ne_1_5, ne_1_6, ne_1_7, ne_1_8, ne_1_9, ne_1_10, ne_1_11, ne_1_12, ne_2_0, ne_2_1, ne_2_3, ne_2_4, ne_2_5, ne_2_6, ne_2_7, ne_2_8, ne_2_9, ne_2_10, ne_2_11, ne_2_12, ne_3_0, ne_3_1, ne_3_2, ne_3_4, ne_3_5, ne_3_6, ne_3_7, ne_3_8, ne_3_9, ne_3_10, ne_3_11, ne_3_12, ne_4_0, ne_4_1, ne_4_2, ne_4_3, ne_4_5, ne_4_6, ne_4_7, ne_4_8, ne_4_9, ne_4_10, ne_4_11, ne_4_12, ne_5_0, ne_5_1, ne_5_2, ne_5_3, ne_5_4, ne_5_6, ne_5_7, ne_5_8, ne_5_9, ne_5_10, ne_5_11, ne_5_12, ne_6_0, ne_6_1, ne_6_2, ne_6_3, ne_6_4, ne_6_5, ne_6_7, ne_6_8, ne_6_9, ne_6_10, ne_6_11, ne_6_12, ne_7_0, ne_7_1, ne_7_2, ne_7_3, ne_7_4, ne_7_5, ne_7_6, ne_7_8, ne_7_9, ne_7_10, ne_7_11, ne_7_12, ne_8_0, ne_8_1, ne_8_2, ne_8_3, ne_8_4, ne_8_5, ne_8_6, ne_8_7, ne_8_9, ne_8_10, ne_8_11, ne_8_12, ne_9_0, ne_9_1, ne_9_2, ne_9_3, ne_9_4, ne_9_5, ne_9_6, ne_9_7, ne_9_8, ne_9_10, ne_9_11, ne_9_12, ne_10_0, ne_10_1, ne_10_2, ne_10_3, ne_10_4, ne_10_5, ne_10_6, ne_10_7, ne_10_8, ne_10_9, ne_10_11, ne_10_12, ne_11_0, ne_11_1, ne_11_2, ne_11_3, ne_11_4, ne_11_5, ne_11_6, ne_11_7, ne_11_8, ne_11_9, ne_11_10, ne_11_12, ne_12_0, ne_12_1, ne_12_2, ne_12_3, ne_12_4, ne_12_5, ne_12_6, ne_12_7, ne_12_8, ne_12_9, ne_12_10, ne_12_11, n_0, n_1, n_2, n_3, n_4, d_cmp (s := s) (t := s) hS hS, cv_eq]
  simp only [e_171, s_171_0, s_171_1, s_171_4, s_171_7, s_171_8, s_171_11, s_171_12, s_171_15, eq_self, true_or, or_true, or_false, false_or, not_true_eq_false, not_false_eq_true, true_and, and_true, false_and, and_false, iR_r, iR_n, iR_f, iI_i, iJ_j, iF_f, iD_d, c1_n, c1_i, c1_r, c1_0, c1_f, c1_q, sw_0, sw_i, sw_j, sw_r, sw_rr, sw_ii, sw_ir, sw_ri, sw_rj, sw_jj, bd_s, bd_n, tl_s, tl_n, if_true, if_false, oz_1, oz_0, hs_1, kt_i, kt_j, kt_f, kt_d, kt_r, ne_0_1, ne_0_2, ne_0_3, ne_0_4, ne_0_5, ne_0_6, ne_0_7, ne_0_8, ne_0_9, ne_0_10, ne_0_11, ne_0_12, ne_1_0, ne_1_2, ne_1_3, ne_1_4, ne_1_5, ne_1_6, ne_1_7, ne_1_8, ne_1_9, ne_1_10, ne_1_11, ne_1_12, ne_2_0, ne_2_1, ne_2_3, ne_2_4, ne_2_5, ne_2_6, ne_2_7, ne_2_8, ne_2_9, ne_2_10, ne_2_11, ne_2_12, ne_3_0, ne_3_1, ne_3_2, ne_3_4, ne_3_5, ne_3_6, ne_3_7, ne_3_8, ne_3_9, ne_3_10, ne_3_11, ne_3_12, ne_4_0, ne_4_1, ne_4_2, ne_4_3, ne_4_5, ne_4_6, ne_4_7, ne_4_8, ne_4_9, ne_4_10, ne_4_11, ne_4_12, ne_5_0, ne_5_1, ne_5_2, ne_5_3, ne_5_4, ne_5_6, ne_5_7, ne_5_8, ne_5_9, ne_5_10, ne_5_11, ne_5_12, ne_6_0, ne_6_1, ne_6_2, ne_6_3, ne_6_4, ne_6_5, ne_6_7, ne_6_8, ne_6_9, ne_6_10, ne_6_11, ne_6_12, ne_7_0, ne_7_1, ne_7_2, ne_7_3, ne_7_4, ne_7_5, ne_7_6, ne_7_8, ne_7_9, ne_7_10, ne_7_11, ne_7_12, ne_8_0, ne_8_1, ne_8_2, ne_8_3, ne_8_4, ne_8_5, ne_8_6, ne_8_7, ne_8_9, ne_8_10, ne_8_11, ne_8_12, ne_9_0, ne_9_1, ne_9_2, ne_9_3, ne_9_4, ne_9_5, ne_9_6, ne_9_7, ne_9_8, ne_9_10, ne_9_11, ne_9_12, ne_10_0, ne_10_1, ne_10_2, ne_10_3, ne_10_4, ne_10_5, ne_10_6, ne_10_7, ne_10_8, ne_10_9, ne_10_11, ne_10_12, ne_11_0, ne_11_1, ne_11_2, ne_11_3, ne_11_4, ne_11_5, ne_11_6, ne_11_7, ne_11_8, ne_11_9, ne_11_10, ne_11_12, ne_12_0, ne_12_1, ne_12_2, ne_12_3, ne_12_4, ne_12_5, ne_12_6, ne_12_7, ne_12_8, ne_12_9, ne_12_10, ne_12_11, n_0, n_1, n_2, n_3, n_4, e1]
  rfl
theorem m_f2i (hS : S ≤ 255 * 2 ^ 23) : EV 173 [.float (iw s S).toUInt32] σ = some (some (.int (iw s S)), σ) := by
  have e1 : EV 172 [.float (iw s S).toUInt32] σ = some (some (.int 0), σ) := by
    simp only [e_172, s_172_0, s_172_1, s_172_2, s_172_3, s_172_6, s_172_7, s_172_10, s_172_11, eq_self, true_or, or_true, or_false, false_or, not_true_eq_false, not_false_eq_true, true_and, and_true, false_and, and_false, iR_r, iR_n, iR_f, iI_i, iJ_j, iF_f, iD_d, c1_n, c1_i, c1_r, c1_0, c1_f, c1_q, sw_0, sw_i, sw_j, sw_r, sw_rr, sw_ii, sw_ir, sw_ri, sw_rj, sw_jj, bd_s, bd_n, tl_s, tl_n, if_true, if_false, oz_1, oz_0, hs_1, kt_i, kt_j, kt_f, kt_d, kt_r, ne_0_1, ne_0_2, ne_0_3, ne_0_4, ne_0_5, ne_0_6, ne_0_7, ne_0_8, ne_0_9, ne_0_10, ne_0_11, ne_0_12, ne_1_0, ne_1_2, ne_1_3, ne_1_4, ne_1_5, ne_1_6, ne_1_7, ne_1_8, ne_1_9, ne_1_10, ne_1_11, ne_1_12, ne_2_0, ne_2_1, ne_2_3, ne_2_4, ne_2_5, ne_2_6, ne_2_7, ne_2_8, ne_2_9, ne_2_10, ne_2_11, ne_2_12, ne_3_0, ne_3_1, ne_3_2, ne_3_4, ne_3_5, ne_3_6, ne_3_7, ne_3_8, ne_3_9, ne_3_10, ne_3_11, ne_3_12, ne_4_0, ne_4_1, ne_4_2, ne_4_3, ne_4_5, ne_4_6, ne_4_7, ne_4_8, ne_4_9, ne_4_10, ne_4_11, ne_4_12, ne_5_0, ne_5_1, ne_5_2, ne_5_3, ne_5_4, ne_5_6, ne_5_7, ne_5_8, ne_5_9, ne_5_10, ne_5_11, ne_5_12, ne_6_0, ne_6_1, ne_6_2, ne_6_3, ne_6_4, ne_6_5, ne_6_7, ne_6_8, ne_6_9, ne_6_10, ne_6_11, ne_6_12, ne_7_0, ne_7_1, ne_7_2, ne_7_3, ne_7_4, ne_7_5, ne_7_6, ne_7_8, ne_7_9, ne_7_10, ne_7_11, ne_7_12, ne_8_0, ne_8_1, ne_8_2, ne_8_3, ne_8_4, ne_8_5, ne_8_6, ne_8_7, ne_8_9, ne_8_10, ne_8_11, ne_8_12, ne_9_0, ne_9_1, ne_9_2, ne_9_3, ne_9_4, ne_9_5, ne_9_6, ne_9_7, ne_9_8, ne_9_10, ne_9_11, ne_9_12, ne_10_0, ne_10_1, ne_10_2, ne_10_3, ne_10_4, ne_10_5, ne_10_6, ne_10_7, ne_10_8, ne_10_9, ne_10_11, ne_10_12, ne_11_0, ne_11_1, ne_11_2, ne_11_3, ne_11_4, ne_11_5, ne_11_6, ne_11_7, ne_11_8, ne_11_9, ne_11_10, ne_11_12, ne_12_0, ne_12_1, ne_12_2, ne_12_3, ne_12_4, ne_12_5, ne_12_6, ne_12_7, ne_12_8, ne_12_9, ne_12_10, ne_12_11, n_0, n_1, n_2, n_3, n_4, f_cmp (s := s) (t := s) hS hS, cv_eq]
  simp only [e_173, s_173_0, s_173_1, s_173_4, s_173_7, s_173_8, s_173_11, s_173_12, s_173_14, eq_self, true_or, or_true, or_false, false_or, not_true_eq_false, not_false_eq_true, true_and, and_true, false_and, and_false, iR_r, iR_n, iR_f, iI_i, iJ_j, iF_f, iD_d, c1_n, c1_i, c1_r, c1_0, c1_f, c1_q, sw_0, sw_i, sw_j, sw_r, sw_rr, sw_ii, sw_ir, sw_ri, sw_rj, sw_jj, bd_s, bd_n, tl_s, tl_n, if_true, if_false, oz_1, oz_0, hs_1, kt_i, kt_j, kt_f, kt_d, kt_r, ne_0_1, ne_0_2, ne_0_3, ne_0_4, ne_0_5, ne_0_6, ne_0_7, ne_0_8, ne_0_9, ne_0_10, ne_0_11, ne_0_12, ne_1_0, ne_1_2, ne_1_3, ne_1_4, ne_1_5, ne_1_6, ne_1_7, ne_1_8, ne_1_9, ne_1_10, ne_1_11, ne_1_12, ne_2_0, ne_2_1, ne_2_3, ne_2_4, ne_2_5, ne_2_6, ne_2_7, ne_2_8, ne_2_9, ne_2_10, ne_2_11, ne_2_12, ne_3_0, ne_3_1, ne_3_2, ne_3_4, ne_3_5, ne_3_6, ne_3_7, ne_3_8, ne_3_9, ne_3_10, ne_3_11, ne_3_12, ne_4_0, ne_4_1, ne_4_2, ne_4_3, ne_4_5, ne_4_6, ne_4_7, ne_4_8, ne_4_9, ne_4_10, ne_4_11, ne_4_12, ne_5_0, ne_5_1, ne_5_2, ne_5_3, ne_5_4, ne_5_6, ne_5_7, ne_5_8, ne_5_9, ne_5_10, ne_5_11, ne_5_12, ne_6_0, ne_6_1, ne_6_2, ne_6_3, ne_6_4, ne_6_5, ne_6_7, ne_6_8, ne_6_9, ne_6_10, ne_6_11, ne_6_12, ne_7_0, ne_7_1, ne_7_2, ne_7_3, ne_7_4, ne_7_5, ne_7_6, ne_7_8, ne_7_9, ne_7_10, ne_7_11, ne_7_12, ne_8_0, ne_8_1, ne_8_2, ne_8_3, ne_8_4, ne_8_5, ne_8_6, ne_8_7, ne_8_9, ne_8_10, ne_8_11, ne_8_12, ne_9_0, ne_9_1, ne_9_2, ne_9_3, ne_9_4, ne_9_5, ne_9_6, ne_9_7, ne_9_8, ne_9_10, ne_9_11, ne_9_12, ne_10_0, ne_10_1, ne_10_2, ne_10_3, ne_10_4, ne_10_5, ne_10_6, ne_10_7, ne_10_8, ne_10_9, ne_10_11, ne_10_12, ne_11_0, ne_11_1, ne_11_2, ne_11_3, ne_11_4, ne_11_5, ne_11_6, ne_11_7, ne_11_8, ne_11_9, ne_11_10, ne_11_12, ne_12_0, ne_12_1, ne_12_2, ne_12_3, ne_12_4, ne_12_5, ne_12_6, ne_12_7, ne_12_8, ne_12_9, ne_12_10, ne_12_11, n_0, n_1, n_2, n_3, n_4, e1]
  rfl
end CNV
