-- THE REFERENCE, method by method
theorem i32_lt {x y : Int32} : x < y ↔ x.toInt < y.toInt := Int32.lt_iff_toInt_lt
theorem i32_le {x y : Int32} : x ≤ y ↔ x.toInt ≤ y.toInt := Int32.le_iff_toInt_le
theorem i32_ne {x y : Int32} : x = y ↔ x.toInt = y.toInt := Int32.toInt_inj.symm
theorem nn_ {P : Prop} : (¬ ¬ P) = P := propext Classical.not_not
theorem bI_e {P Q : Prop} [h : Decidable P] [h' : Decidable Q] (e : P ↔ Q) : bI P = bI Q := by
  by_cases hp : P
  · rw [bI_t hp, bI_t (e.mp hp)]
  · rw [bI_f hp, bI_f (fun q => hp (e.mpr q))]
theorem ite_01 {P : Prop} [h : Decidable P] {α : Type} {f : Int32 → α} : (if P then f 1 else f 0) = f (bI P) := by
  unfold bI; split <;> rfl
theorem ite_10 {P : Prop} [h : Decidable P] {α : Type} {f : Int32 → α} : (if P then f 0 else f 1) = f (bI (¬ P)) := by
  by_cases hp : P
  · rw [if_pos hp, bI_f (fun q => q hp)]
  · rw [if_neg hp, bI_t hp]
abbrev BX (b : Int32) : Prop := 0 ≤ b ∧ b ≤ 23
abbrev SU (k o : Int32) : Prop := k = o ∨ o = 6 ∨ (o = 0 ∧ (k = 1 ∨ k = 2)) ∨ (o = 1 ∧ k = 2) ∨ (o = 3 ∧ (k = 4 ∨ k = 5))
theorem ox_of {b : Int32} {n : Nat} (h0 : 0 ≤ b.toInt) (h1 : b.toInt < n) : ev_out b n = false := by
  simp only [ev_out, Bool.or_eq_false_iff, decide_eq_false_iff_not]
  refine ⟨by rw [i32_lt]; simpa using h0, ?_⟩
  show ¬ n ≤ b.toInt.toNat
  omega
theorem ox_b {b : Int32} (h : BX b) : ev_out b 24 = false := by
  obtain ⟨h1, h2⟩ := h
  rw [i32_le] at h1 h2
  exact ox_of (by simpa using h1) (by have : (23 : Int32).toInt = 23 := by decide
                                      rw [this] at h2; omega)
theorem ox_n {j n : Nat} (h : j < n) (hn : n < 2 ^ 31) : ev_out (nI j) n = false := ox_of (by rw [nI_toInt (by omega)]; omega) (by rw [nI_toInt (by omega)]; omega)
section MOD
variable {B : Nat} {c : CS} {m : MS} {θ : Nat → Option ev_E} {z l : Nat} {σ : ev_H}
theorem m_in {v lo hi : Int32} : EV 108 [.int v, .int lo, .int hi] σ = some (some (.int (bI (lo ≤ v ∧ v ≤ hi))), σ) := by
  simp only [e_108, s_108_0, s_108_1, s_108_2, s_108_5, s_108_6, s_108_7, s_108_10, s_108_11, s_108_14, s_108_15, eq_self, true_or, or_true, or_false, false_or, not_true_eq_false, not_false_eq_true, true_and, and_true, false_and, and_false, iR_r, iR_n, iR_f, iI_i, iJ_j, iF_f, iD_d, c1_n, c1_i, c1_r, c1_0, c1_f, c1_q, sw_0, sw_i, sw_j, sw_r, sw_rr, sw_ii, sw_ir, sw_ri, sw_rj, sw_jj, bd_s, bd_n, tl_s, tl_n, if_true, if_false, oz_1, oz_0, hs_1, kt_i, kt_j, kt_f, kt_d, kt_r]
  by_cases h1 : v < lo
  · rw [if_pos h1, bI_f (by rw [i32_lt] at h1; rw [i32_le]; omega)]
  · rw [if_neg h1]
    by_cases h2 : hi < v
    · rw [if_pos h2, bI_f (by rw [i32_lt] at h2; rw [i32_le, i32_le]; omega)]
    · rw [if_neg h2, bI_t (by rw [i32_lt] at h1 h2; rw [i32_le, i32_le]; omega)]
theorem m_isBox {b : Int32} : EV 109 [.int b] σ = some (some (.int (bI (BX b))), σ) := by
  simp only [e_109, s_109_0, s_109_1, s_109_2, s_109_4, s_109_7, eq_self, true_or, or_true, or_false, false_or, not_true_eq_false, not_false_eq_true, true_and, and_true, false_and, and_false, iR_r, iR_n, iR_f, iI_i, iJ_j, iF_f, iD_d, c1_n, c1_i, c1_r, c1_0, c1_f, c1_q, sw_0, sw_i, sw_j, sw_r, sw_rr, sw_ii, sw_ir, sw_ri, sw_rj, sw_jj, bd_s, bd_n, tl_s, tl_n, if_true, if_false, oz_1, oz_0, hs_1, kt_i, kt_j, kt_f, kt_d, kt_r, m_in, bI_oz]
def f_finds (m : MS) (f : Int32) : MS := mI (mS m 6 f) 17 f.toNatClampNeg (m.1 17 f.toNatClampNeg + 1)
theorem m_finds {f : Int32} (hf : ev_out f 8 = false) : EV 110 [.ref (B + 6), .int f] (hs B c m θ z l) = some (some (.int (-10 - f)), hs B c (f_finds m f) θ z l) := by
  simp only [e_110, s_110_0, s_110_1, s_110_2, s_110_5, s_110_6, s_110_9, s_110_10, s_110_11, s_110_12, s_110_13, s_110_14, s_110_15, s_110_17, s_110_18, s_110_19, eq_self, true_or, or_true, or_false, false_or, not_true_eq_false, not_false_eq_true, true_and, and_true, false_and, and_false, iR_r, iR_n, iR_f, iI_i, iJ_j, iF_f, iD_d, c1_n, c1_i, c1_r, c1_0, c1_f, c1_q, sw_0, sw_i, sw_j, sw_r, sw_rr, sw_ii, sw_ir, sw_ri, sw_rj, sw_jj, bd_s, bd_n, tl_s, tl_n, if_true, if_false, oz_1, oz_0, hs_1, kt_i, kt_j, kt_f, kt_d, kt_r, gm_0, gm_1, gm_2, gm_3, gm_4, gm_5, gm_6, gm_7, gm_8, gm_9, gm_10, gm_11, gm_12, gm_13, gm_14, gm_15, gm_16, gm_17, gm_18, gm_19, gm_20, gm_21, gm_22, gm_23, gm_24, gm_25, gm_26, gm_27, gm_28, kl_m, pm_2, pm_6, pm_8, pm_11, pm_15, pm_23, pm_25, pm_27, pm_22, pm_28, rd_m0, wr_m0, ln_m0, rd_m1, wr_m1, ln_m1, rd_m2, wr_m2, ln_m2, rd_m3, wr_m3, ln_m3, rd_m4, wr_m4, ln_m4, rd_m5, wr_m5, ln_m5, rd_m6, wr_m6, ln_m6, rd_m7, wr_m7, ln_m7, rd_m8, wr_m8, ln_m8, rd_m9, wr_m9, ln_m9, rd_m10, wr_m10, ln_m10, rd_m11, wr_m11, ln_m11, rd_m12, wr_m12, ln_m12, rd_m13, wr_m13, ln_m13, rd_m14, wr_m14, ln_m14, rd_m15, wr_m15, ln_m15, rd_m16, wr_m16, ln_m16, rd_m17, wr_m17, ln_m17, rd_mw, wr_mw, ln_mw, mI_1, mI_2, mW_1, mW_2, mW_3, mS_1, mS_2, mS_3, mS_4, mQ_1, mQ_2, mQ_3, mQ_4, cB_1, cB_2, cI_1, cI_2, cI_3, cS_1, cS_2, cS_3, cS_4, cQ_1, cQ_2, cQ_3, cQ_4, hf, f_finds]
theorem m_isSuch {k o : Int32} : EV 111 [.int k, .int o] σ = some (some (.int (bI (SU k o))), σ) := by
  simp only [e_111, s_111_0, s_111_1, s_111_2, s_111_5, s_111_6, s_111_8, s_111_11, s_111_12, s_111_15, s_111_16, s_111_17, s_111_20, s_111_21, s_111_22, s_111_25, s_111_26, s_111_27, s_111_30, s_111_31, s_111_32, s_111_35, s_111_36, s_111_37, s_111_40, s_111_41, s_111_42, s_111_45, s_111_46, s_111_47, s_111_50, s_111_51, s_111_54, s_111_55, eq_self, true_or, or_true, or_false, false_or, not_true_eq_false, not_false_eq_true, true_and, and_true, false_and, and_false, iR_r, iR_n, iR_f, iI_i, iJ_j, iF_f, iD_d, c1_n, c1_i, c1_r, c1_0, c1_f, c1_q, sw_0, sw_i, sw_j, sw_r, sw_rr, sw_ii, sw_ir, sw_ri, sw_rj, sw_jj, bd_s, bd_n, tl_s, tl_n, if_true, if_false, oz_1, oz_0, hs_1, kt_i, kt_j, kt_f, kt_d, kt_r]
  by_cases h0 : k = o
  · simp only [h0, bI_t (show SU o o from Or.inl rfl), if_true, eq_self, true_or, or_true, or_false, false_or, not_true_eq_false, not_false_eq_true, true_and, and_true, false_and, and_false, iR_r, iR_n, iR_f, iI_i, iJ_j, iF_f, iD_d, c1_n, c1_i, c1_r, c1_0, c1_f, c1_q, sw_0, sw_i, sw_j, sw_r, sw_rr, sw_ii, sw_ir, sw_ri, sw_rj, sw_jj, bd_s, bd_n, tl_s, tl_n, if_true, if_false, oz_1, oz_0, hs_1, kt_i, kt_j, kt_f, kt_d, kt_r]
  by_cases h1 : o = 6
  · subst h1
    simp [h0, bI_t (show SU k 6 from Or.inr (Or.inl rfl))]
  by_cases h2 : o = 0
  · subst h2
    by_cases h3 : k = 1
    · subst h3; rw [bI_t (by decide)]; simp
    by_cases h4 : k = 2
    · subst h4; rw [bI_t (by decide)]; simp
    rw [bI_f (by simp [SU, h0, h3, h4])]; simp [h0, h3, h4]
  by_cases h5 : o = 1
  · subst h5
    by_cases h4 : k = 2
    · subst h4; rw [bI_t (by decide)]; simp
    rw [bI_f (by simp [SU, h0, h4])]; simp [h0, h4]
  by_cases h6 : o = 3
  · subst h6
    by_cases h3 : k = 4
    · subst h3; rw [bI_t (by decide)]; simp
    by_cases h4 : k = 5
    · subst h4; rw [bI_t (by decide)]; simp
    rw [bI_f (by simp [SU, h0, h3, h4])]; simp [h0, h3, h4]
  rw [bI_f (by simp [SU, h0, h1, h2, h5, h6])]; simp [h0, h1, h2, h5, h6]
theorem m_isHeard {k : Int32} : EV 112 [.int k] σ = some (some (.int (bI (k < 3 ∨ k = 5))), σ) := by
  simp only [e_112, s_112_0, s_112_1, s_112_2, s_112_5, s_112_6, s_112_7, s_112_10, s_112_11, s_112_14, s_112_15, eq_self, true_or, or_true, or_false, false_or, not_true_eq_false, not_false_eq_true, true_and, and_true, false_and, and_false, iR_r, iR_n, iR_f, iI_i, iJ_j, iF_f, iD_d, c1_n, c1_i, c1_r, c1_0, c1_f, c1_q, sw_0, sw_i, sw_j, sw_r, sw_rr, sw_ii, sw_ir, sw_ri, sw_rj, sw_jj, bd_s, bd_n, tl_s, tl_n, if_true, if_false, oz_1, oz_0, hs_1, kt_i, kt_j, kt_f, kt_d, kt_r]
  by_cases h1 : k < 3
  · rw [bI_t (Or.inl h1)]; simp [h1, i32_le, i32_lt] at h1 ⊢
  · by_cases h2 : k = 5
    · subst h2; rw [bI_t (Or.inr rfl)]; simp
    · rw [bI_f (by simp [h1, h2])]; simp [h1, h2, i32_le, i32_lt] at h1 ⊢
def f_hold (m : MS) (b s n : Int32) : MS := mI (mI m 0 b.toNatClampNeg s) 1 b.toNatClampNeg n
theorem m_hold {b s n : Int32} (hb : ev_out b 24 = false) : EV 113 [.ref (B + 6), .int b, .int s, .int n] (hs B c m θ z l) = some (none, hs B c (f_hold m b s n) θ z l) := by
  simp only [e_113, s_113_0, s_113_1, s_113_4, s_113_5, s_113_6, s_113_7, s_113_8, s_113_11, s_113_12, s_113_13, s_113_14, eq_self, true_or, or_true, or_false, false_or, not_true_eq_false, not_false_eq_true, true_and, and_true, false_and, and_false, iR_r, iR_n, iR_f, iI_i, iJ_j, iF_f, iD_d, c1_n, c1_i, c1_r, c1_0, c1_f, c1_q, sw_0, sw_i, sw_j, sw_r, sw_rr, sw_ii, sw_ir, sw_ri, sw_rj, sw_jj, bd_s, bd_n, tl_s, tl_n, if_true, if_false, oz_1, oz_0, hs_1, kt_i, kt_j, kt_f, kt_d, kt_r, gm_0, gm_1, gm_2, gm_3, gm_4, gm_5, gm_6, gm_7, gm_8, gm_9, gm_10, gm_11, gm_12, gm_13, gm_14, gm_15, gm_16, gm_17, gm_18, gm_19, gm_20, gm_21, gm_22, gm_23, gm_24, gm_25, gm_26, gm_27, gm_28, kl_m, pm_2, pm_6, pm_8, pm_11, pm_15, pm_23, pm_25, pm_27, pm_22, pm_28, rd_m0, wr_m0, ln_m0, rd_m1, wr_m1, ln_m1, rd_m2, wr_m2, ln_m2, rd_m3, wr_m3, ln_m3, rd_m4, wr_m4, ln_m4, rd_m5, wr_m5, ln_m5, rd_m6, wr_m6, ln_m6, rd_m7, wr_m7, ln_m7, rd_m8, wr_m8, ln_m8, rd_m9, wr_m9, ln_m9, rd_m10, wr_m10, ln_m10, rd_m11, wr_m11, ln_m11, rd_m12, wr_m12, ln_m12, rd_m13, wr_m13, ln_m13, rd_m14, wr_m14, ln_m14, rd_m15, wr_m15, ln_m15, rd_m16, wr_m16, ln_m16, rd_m17, wr_m17, ln_m17, rd_mw, wr_mw, ln_mw, mI_1, mI_2, mW_1, mW_2, mW_3, mS_1, mS_2, mS_3, mS_4, mQ_1, mQ_2, mQ_3, mQ_4, cB_1, cB_2, cI_1, cI_2, cI_3, cS_1, cS_2, cS_3, cS_4, cQ_1, cQ_2, cQ_3, cQ_4, hb, f_hold]
theorem m_isVoice {b : Int32} (hb : ev_out b 24 = false) : EV 114 [.ref (B + 6), .int b] (hs B c m θ z l) = some (some (.int (bI (m.1 0 b.toNatClampNeg = 4))), hs B c m θ z l) := by
  simp only [e_114, s_114_0, s_114_1, s_114_4, s_114_5, s_114_6, s_114_7, s_114_10, s_114_11, s_114_14, s_114_15, eq_self, true_or, or_true, or_false, false_or, not_true_eq_false, not_false_eq_true, true_and, and_true, false_and, and_false, iR_r, iR_n, iR_f, iI_i, iJ_j, iF_f, iD_d, c1_n, c1_i, c1_r, c1_0, c1_f, c1_q, sw_0, sw_i, sw_j, sw_r, sw_rr, sw_ii, sw_ir, sw_ri, sw_rj, sw_jj, bd_s, bd_n, tl_s, tl_n, if_true, if_false, oz_1, oz_0, hs_1, kt_i, kt_j, kt_f, kt_d, kt_r, gm_0, gm_1, gm_2, gm_3, gm_4, gm_5, gm_6, gm_7, gm_8, gm_9, gm_10, gm_11, gm_12, gm_13, gm_14, gm_15, gm_16, gm_17, gm_18, gm_19, gm_20, gm_21, gm_22, gm_23, gm_24, gm_25, gm_26, gm_27, gm_28, kl_m, pm_2, pm_6, pm_8, pm_11, pm_15, pm_23, pm_25, pm_27, pm_22, pm_28, rd_m0, wr_m0, ln_m0, rd_m1, wr_m1, ln_m1, rd_m2, wr_m2, ln_m2, rd_m3, wr_m3, ln_m3, rd_m4, wr_m4, ln_m4, rd_m5, wr_m5, ln_m5, rd_m6, wr_m6, ln_m6, rd_m7, wr_m7, ln_m7, rd_m8, wr_m8, ln_m8, rd_m9, wr_m9, ln_m9, rd_m10, wr_m10, ln_m10, rd_m11, wr_m11, ln_m11, rd_m12, wr_m12, ln_m12, rd_m13, wr_m13, ln_m13, rd_m14, wr_m14, ln_m14, rd_m15, wr_m15, ln_m15, rd_m16, wr_m16, ln_m16, rd_m17, wr_m17, ln_m17, rd_mw, wr_mw, ln_mw, mI_1, mI_2, mW_1, mW_2, mW_3, mS_1, mS_2, mS_3, mS_4, mQ_1, mQ_2, mQ_3, mQ_4, cB_1, cB_2, cI_1, cI_2, cI_3, cS_1, cS_2, cS_3, cS_4, cQ_1, cQ_2, cQ_3, cQ_4, hb]
  by_cases h : m.1 0 b.toNatClampNeg = 4
  · simp [h, bI]
  · simp [h, bI]
theorem m_isCurve {b lane : Int32} (hb : ev_out b 24 = false) (hn : m.1 0 b.toNatClampNeg = 1 → ev_out (m.1 1 b.toNatClampNeg) 5000 = false) : EV 115 [.ref (B + 6), .int b, .int lane] (hs B c m θ z l) = some (some (.int (bI (m.1 0 b.toNatClampNeg = 1 ∧ m.1 2 (m.1 1 b.toNatClampNeg).toNatClampNeg = lane))), hs B c m θ z l) := by
  by_cases h : m.1 0 b.toNatClampNeg = 1
  · have hn := hn h
    simp only [e_115, s_115_0, s_115_1, s_115_4, s_115_5, s_115_6, s_115_7, s_115_10, s_115_11, s_115_14, s_115_15, s_115_18, s_115_19, s_115_20, s_115_21, s_115_22, s_115_25, s_115_26, s_115_29, s_115_30, eq_self, true_or, or_true, or_false, false_or, not_true_eq_false, not_false_eq_true, true_and, and_true, false_and, and_false, iR_r, iR_n, iR_f, iI_i, iJ_j, iF_f, iD_d, c1_n, c1_i, c1_r, c1_0, c1_f, c1_q, sw_0, sw_i, sw_j, sw_r, sw_rr, sw_ii, sw_ir, sw_ri, sw_rj, sw_jj, bd_s, bd_n, tl_s, tl_n, if_true, if_false, oz_1, oz_0, hs_1, kt_i, kt_j, kt_f, kt_d, kt_r, gm_0, gm_1, gm_2, gm_3, gm_4, gm_5, gm_6, gm_7, gm_8, gm_9, gm_10, gm_11, gm_12, gm_13, gm_14, gm_15, gm_16, gm_17, gm_18, gm_19, gm_20, gm_21, gm_22, gm_23, gm_24, gm_25, gm_26, gm_27, gm_28, kl_m, pm_2, pm_6, pm_8, pm_11, pm_15, pm_23, pm_25, pm_27, pm_22, pm_28, rd_m0, wr_m0, ln_m0, rd_m1, wr_m1, ln_m1, rd_m2, wr_m2, ln_m2, rd_m3, wr_m3, ln_m3, rd_m4, wr_m4, ln_m4, rd_m5, wr_m5, ln_m5, rd_m6, wr_m6, ln_m6, rd_m7, wr_m7, ln_m7, rd_m8, wr_m8, ln_m8, rd_m9, wr_m9, ln_m9, rd_m10, wr_m10, ln_m10, rd_m11, wr_m11, ln_m11, rd_m12, wr_m12, ln_m12, rd_m13, wr_m13, ln_m13, rd_m14, wr_m14, ln_m14, rd_m15, wr_m15, ln_m15, rd_m16, wr_m16, ln_m16, rd_m17, wr_m17, ln_m17, rd_mw, wr_mw, ln_mw, mI_1, mI_2, mW_1, mW_2, mW_3, mS_1, mS_2, mS_3, mS_4, mQ_1, mQ_2, mQ_3, mQ_4, cB_1, cB_2, cI_1, cI_2, cI_3, cS_1, cS_2, cS_3, cS_4, cQ_1, cQ_2, cQ_3, cQ_4, hb, h, hn, not_true, true_and]
    by_cases h2 : m.1 2 (m.1 1 b.toNatClampNeg).toNatClampNeg = lane
    · simp [h2, bI]
    · simp [h2, bI]
  · simp only [e_115, s_115_0, s_115_1, s_115_4, s_115_5, s_115_6, s_115_7, s_115_10, s_115_11, s_115_14, s_115_15, s_115_18, s_115_19, s_115_20, s_115_21, s_115_22, s_115_25, s_115_26, s_115_29, s_115_30, eq_self, true_or, or_true, or_false, false_or, not_true_eq_false, not_false_eq_true, true_and, and_true, false_and, and_false, iR_r, iR_n, iR_f, iI_i, iJ_j, iF_f, iD_d, c1_n, c1_i, c1_r, c1_0, c1_f, c1_q, sw_0, sw_i, sw_j, sw_r, sw_rr, sw_ii, sw_ir, sw_ri, sw_rj, sw_jj, bd_s, bd_n, tl_s, tl_n, if_true, if_false, oz_1, oz_0, hs_1, kt_i, kt_j, kt_f, kt_d, kt_r, gm_0, gm_1, gm_2, gm_3, gm_4, gm_5, gm_6, gm_7, gm_8, gm_9, gm_10, gm_11, gm_12, gm_13, gm_14, gm_15, gm_16, gm_17, gm_18, gm_19, gm_20, gm_21, gm_22, gm_23, gm_24, gm_25, gm_26, gm_27, gm_28, kl_m, pm_2, pm_6, pm_8, pm_11, pm_15, pm_23, pm_25, pm_27, pm_22, pm_28, rd_m0, wr_m0, ln_m0, rd_m1, wr_m1, ln_m1, rd_m2, wr_m2, ln_m2, rd_m3, wr_m3, ln_m3, rd_m4, wr_m4, ln_m4, rd_m5, wr_m5, ln_m5, rd_m6, wr_m6, ln_m6, rd_m7, wr_m7, ln_m7, rd_m8, wr_m8, ln_m8, rd_m9, wr_m9, ln_m9, rd_m10, wr_m10, ln_m10, rd_m11, wr_m11, ln_m11, rd_m12, wr_m12, ln_m12, rd_m13, wr_m13, ln_m13, rd_m14, wr_m14, ln_m14, rd_m15, wr_m15, ln_m15, rd_m16, wr_m16, ln_m16, rd_m17, wr_m17, ln_m17, rd_mw, wr_mw, ln_mw, mI_1, mI_2, mW_1, mW_2, mW_3, mS_1, mS_2, mS_3, mS_4, mQ_1, mQ_2, mQ_3, mQ_4, cB_1, cB_2, cI_1, cI_2, cI_3, cS_1, cS_2, cS_3, cS_4, cQ_1, cQ_2, cQ_3, cQ_4, hb, h, not_false_eq_true, false_and]
    rfl
def f_newRow (m : MS) (lane n : Int32) : MS := mS (mS (mI (mI (mI m 2 (m.2.2.1 0).toNatClampNeg lane) 3 (m.2.2.1 0).toNatClampNeg n) 4 (m.2.2.1 0).toNatClampNeg (m.2.2.1 1)) 1 (m.2.2.1 1 + n)) 0 (m.2.2.1 0 + 1)
theorem m_newRow {lane n : Int32} (hr : ev_out (m.2.2.1 0) 5000 = false) : EV 116 [.ref (B + 6), .int lane, .int n] (hs B c m θ z l) = some (some (.int (m.2.2.1 0 + 1 - 1)), hs B c (f_newRow m lane n) θ z l) := by
  simp only [e_116, s_116_0, s_116_1, s_116_4, s_116_5, s_116_8, s_116_9, s_116_10, s_116_11, s_116_14, s_116_15, s_116_18, s_116_19, s_116_20, s_116_21, s_116_24, s_116_25, s_116_28, s_116_29, s_116_32, s_116_33, s_116_34, s_116_35, s_116_38, s_116_39, s_116_40, s_116_43, s_116_44, s_116_45, s_116_48, s_116_49, s_116_50, s_116_53, s_116_54, s_116_57, s_116_58, s_116_59, eq_self, true_or, or_true, or_false, false_or, not_true_eq_false, not_false_eq_true, true_and, and_true, false_and, and_false, iR_r, iR_n, iR_f, iI_i, iJ_j, iF_f, iD_d, c1_n, c1_i, c1_r, c1_0, c1_f, c1_q, sw_0, sw_i, sw_j, sw_r, sw_rr, sw_ii, sw_ir, sw_ri, sw_rj, sw_jj, bd_s, bd_n, tl_s, tl_n, if_true, if_false, oz_1, oz_0, hs_1, kt_i, kt_j, kt_f, kt_d, kt_r, gm_0, gm_1, gm_2, gm_3, gm_4, gm_5, gm_6, gm_7, gm_8, gm_9, gm_10, gm_11, gm_12, gm_13, gm_14, gm_15, gm_16, gm_17, gm_18, gm_19, gm_20, gm_21, gm_22, gm_23, gm_24, gm_25, gm_26, gm_27, gm_28, kl_m, pm_2, pm_6, pm_8, pm_11, pm_15, pm_23, pm_25, pm_27, pm_22, pm_28, rd_m0, wr_m0, ln_m0, rd_m1, wr_m1, ln_m1, rd_m2, wr_m2, ln_m2, rd_m3, wr_m3, ln_m3, rd_m4, wr_m4, ln_m4, rd_m5, wr_m5, ln_m5, rd_m6, wr_m6, ln_m6, rd_m7, wr_m7, ln_m7, rd_m8, wr_m8, ln_m8, rd_m9, wr_m9, ln_m9, rd_m10, wr_m10, ln_m10, rd_m11, wr_m11, ln_m11, rd_m12, wr_m12, ln_m12, rd_m13, wr_m13, ln_m13, rd_m14, wr_m14, ln_m14, rd_m15, wr_m15, ln_m15, rd_m16, wr_m16, ln_m16, rd_m17, wr_m17, ln_m17, rd_mw, wr_mw, ln_mw, mI_1, mI_2, mW_1, mW_2, mW_3, mS_1, mS_2, mS_3, mS_4, mQ_1, mQ_2, mQ_3, mQ_4, cB_1, cB_2, cI_1, cI_2, cI_3, cS_1, cS_2, cS_3, cS_4, cQ_1, cQ_2, cQ_3, cQ_4, hr, f_newRow]
  rfl
theorem m_kindFor {a : Int32} : EV 151 [.int a] σ = some (some (.int (if a = 0 then 6 else if a = 1 then 1 else 5)), σ) := by
  simp only [e_151, s_151_0, s_151_1, s_151_4, s_151_6, s_151_9, s_151_10, s_151_11, s_151_14, s_151_15, s_151_18, s_151_19, eq_self, true_or, or_true, or_false, false_or, not_true_eq_false, not_false_eq_true, true_and, and_true, false_and, and_false, iR_r, iR_n, iR_f, iI_i, iJ_j, iF_f, iD_d, c1_n, c1_i, c1_r, c1_0, c1_f, c1_q, sw_0, sw_i, sw_j, sw_r, sw_rr, sw_ii, sw_ir, sw_ri, sw_rj, sw_jj, bd_s, bd_n, tl_s, tl_n, if_true, if_false, oz_1, oz_0, hs_1, kt_i, kt_j, kt_f, kt_d, kt_r]
  by_cases h : a = 0
  · simp [h]
  · by_cases h2 : a = 1 <;> simp [h, h2]
def f_note (m : MS) (x : Int32) : MS := if m.2.2.1 5 < 100 then mS (mI m 16 (m.2.2.1 5).toNatClampNeg x) 5 (m.2.2.1 5 + 1) else m
theorem m_note {x : Int32} (h0 : 0 ≤ m.2.2.1 5) : EV 154 [.ref (B + 6), .int x] (hs B c m θ z l) = some (none, hs B c (f_note m x) θ z l) := by
  by_cases h : m.2.2.1 5 < 100
  · have h2 : ¬ 100 ≤ m.2.2.1 5 := by rw [i32_le]; rw [i32_lt] at h; omega
    have ho : ev_out (m.2.2.1 5) 100 = false := by
      rw [i32_le] at h0; rw [i32_lt] at h
      exact ox_of (by simpa using h0) (by simpa using h)
    simp only [e_154, s_154_0, s_154_1, s_154_4, s_154_6, s_154_9, s_154_10, s_154_13, s_154_14, s_154_17, s_154_18, s_154_19, s_154_20, s_154_21, s_154_24, s_154_25, s_154_26, s_154_29, eq_self, true_or, or_true, or_false, false_or, not_true_eq_false, not_false_eq_true, true_and, and_true, false_and, and_false, iR_r, iR_n, iR_f, iI_i, iJ_j, iF_f, iD_d, c1_n, c1_i, c1_r, c1_0, c1_f, c1_q, sw_0, sw_i, sw_j, sw_r, sw_rr, sw_ii, sw_ir, sw_ri, sw_rj, sw_jj, bd_s, bd_n, tl_s, tl_n, if_true, if_false, oz_1, oz_0, hs_1, kt_i, kt_j, kt_f, kt_d, kt_r, gm_0, gm_1, gm_2, gm_3, gm_4, gm_5, gm_6, gm_7, gm_8, gm_9, gm_10, gm_11, gm_12, gm_13, gm_14, gm_15, gm_16, gm_17, gm_18, gm_19, gm_20, gm_21, gm_22, gm_23, gm_24, gm_25, gm_26, gm_27, gm_28, kl_m, pm_2, pm_6, pm_8, pm_11, pm_15, pm_23, pm_25, pm_27, pm_22, pm_28, rd_m0, wr_m0, ln_m0, rd_m1, wr_m1, ln_m1, rd_m2, wr_m2, ln_m2, rd_m3, wr_m3, ln_m3, rd_m4, wr_m4, ln_m4, rd_m5, wr_m5, ln_m5, rd_m6, wr_m6, ln_m6, rd_m7, wr_m7, ln_m7, rd_m8, wr_m8, ln_m8, rd_m9, wr_m9, ln_m9, rd_m10, wr_m10, ln_m10, rd_m11, wr_m11, ln_m11, rd_m12, wr_m12, ln_m12, rd_m13, wr_m13, ln_m13, rd_m14, wr_m14, ln_m14, rd_m15, wr_m15, ln_m15, rd_m16, wr_m16, ln_m16, rd_m17, wr_m17, ln_m17, rd_mw, wr_mw, ln_mw, mI_1, mI_2, mW_1, mW_2, mW_3, mS_1, mS_2, mS_3, mS_4, mQ_1, mQ_2, mQ_3, mQ_4, cB_1, cB_2, cI_1, cI_2, cI_3, cS_1, cS_2, cS_3, cS_4, cQ_1, cQ_2, cQ_3, cQ_4, h2, ho, f_note, h]
  · have h2 : 100 ≤ m.2.2.1 5 := by rw [i32_le]; rw [i32_lt] at h; omega
    simp only [e_154, s_154_0, s_154_1, s_154_4, s_154_6, s_154_9, s_154_10, s_154_13, s_154_14, s_154_17, s_154_18, s_154_19, s_154_20, s_154_21, s_154_24, s_154_25, s_154_26, s_154_29, eq_self, true_or, or_true, or_false, false_or, not_true_eq_false, not_false_eq_true, true_and, and_true, false_and, and_false, iR_r, iR_n, iR_f, iI_i, iJ_j, iF_f, iD_d, c1_n, c1_i, c1_r, c1_0, c1_f, c1_q, sw_0, sw_i, sw_j, sw_r, sw_rr, sw_ii, sw_ir, sw_ri, sw_rj, sw_jj, bd_s, bd_n, tl_s, tl_n, if_true, if_false, oz_1, oz_0, hs_1, kt_i, kt_j, kt_f, kt_d, kt_r, gm_0, gm_1, gm_2, gm_3, gm_4, gm_5, gm_6, gm_7, gm_8, gm_9, gm_10, gm_11, gm_12, gm_13, gm_14, gm_15, gm_16, gm_17, gm_18, gm_19, gm_20, gm_21, gm_22, gm_23, gm_24, gm_25, gm_26, gm_27, gm_28, kl_m, pm_2, pm_6, pm_8, pm_11, pm_15, pm_23, pm_25, pm_27, pm_22, pm_28, rd_m0, wr_m0, ln_m0, rd_m1, wr_m1, ln_m1, rd_m2, wr_m2, ln_m2, rd_m3, wr_m3, ln_m3, rd_m4, wr_m4, ln_m4, rd_m5, wr_m5, ln_m5, rd_m6, wr_m6, ln_m6, rd_m7, wr_m7, ln_m7, rd_m8, wr_m8, ln_m8, rd_m9, wr_m9, ln_m9, rd_m10, wr_m10, ln_m10, rd_m11, wr_m11, ln_m11, rd_m12, wr_m12, ln_m12, rd_m13, wr_m13, ln_m13, rd_m14, wr_m14, ln_m14, rd_m15, wr_m15, ln_m15, rd_m16, wr_m16, ln_m16, rd_m17, wr_m17, ln_m17, rd_mw, wr_mw, ln_mw, mI_1, mI_2, mW_1, mW_2, mW_3, mS_1, mS_2, mS_3, mS_4, mQ_1, mQ_2, mQ_3, mQ_4, cB_1, cB_2, cI_1, cI_2, cI_3, cS_1, cS_2, cS_3, cS_4, cQ_1, cQ_2, cQ_3, cQ_4, h2, f_note, h]
end MOD
