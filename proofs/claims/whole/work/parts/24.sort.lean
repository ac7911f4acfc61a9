-- WHICH SORT A THING IS
theorem sb_0_RX0 : ev_sub 0 RX0 = some true := by decide +kernel
theorem sb_0_RX1 : ev_sub 0 RX1 = some false := by decide +kernel
theorem sb_0_RX3 : ev_sub 0 RX3 = some false := by decide +kernel
theorem sb_0_RX5 : ev_sub 0 RX5 = some false := by decide +kernel
theorem sb_0_RX4 : ev_sub 0 RX4 = some true := by decide +kernel
theorem sb_1_RX0 : ev_sub 1 RX0 = some false := by decide +kernel
theorem sb_1_RX1 : ev_sub 1 RX1 = some true := by decide +kernel
theorem sb_1_RX3 : ev_sub 1 RX3 = some false := by decide +kernel
theorem sb_1_RX5 : ev_sub 1 RX5 = some false := by decide +kernel
theorem sb_1_RX4 : ev_sub 1 RX4 = some true := by decide +kernel
theorem sb_3_RX0 : ev_sub 3 RX0 = some false := by decide +kernel
theorem sb_3_RX1 : ev_sub 3 RX1 = some false := by decide +kernel
theorem sb_3_RX3 : ev_sub 3 RX3 = some true := by decide +kernel
theorem sb_3_RX5 : ev_sub 3 RX5 = some false := by decide +kernel
theorem sb_3_RX4 : ev_sub 3 RX4 = some true := by decide +kernel
theorem sb_4_RX0 : ev_sub 4 RX0 = some false := by decide +kernel
theorem sb_4_RX1 : ev_sub 4 RX1 = some false := by decide +kernel
theorem sb_4_RX3 : ev_sub 4 RX3 = some false := by decide +kernel
theorem sb_4_RX5 : ev_sub 4 RX5 = some true := by decide +kernel
theorem sb_4_RX4 : ev_sub 4 RX4 = some true := by decide +kernel
section SRT
variable {σ : ev_H} {a : Nat}
theorem c_any_n : EV 74 [.null] σ = some (some .null, σ) := by
  simp only [e_74, s_74_0, s_74_1n, s_74_1, s_74_4, s_74_7, s_74_8n, s_74_8, s_74_11, s_74_14, s_74_15, eq_self, true_or, or_true, or_false, false_or, not_true_eq_false, not_false_eq_true, true_and, and_true, false_and, and_false, iR_r, iR_n, iR_f, iI_i, iJ_j, iF_f, iD_d, c1_n, c1_i, c1_r, c1_0, c1_f, c1_q, sw_0, sw_i, sw_j, sw_r, sw_rr, sw_ii, sw_ir, sw_ri, sw_rj, sw_jj, bd_s, bd_n, tl_s, tl_n, if_true, if_false, oz_1, oz_0, hs_1, kt_i, kt_j, kt_f, kt_d, kt_r]
theorem c_any_0 (h : ev_cl σ a = some 0) : EV 74 [.ref a] σ = some (some .null, σ) := by
  simp only [e_74, s_74_0, s_74_1n, s_74_1, s_74_4, s_74_7, s_74_8n, s_74_8, s_74_11, s_74_14, s_74_15, s_74_1 h sb_0_RX1, eq_self, true_or, or_true, or_false, false_or, not_true_eq_false, not_false_eq_true, true_and, and_true, false_and, and_false, iR_r, iR_n, iR_f, iI_i, iJ_j, iF_f, iD_d, c1_n, c1_i, c1_r, c1_0, c1_f, c1_q, sw_0, sw_i, sw_j, sw_r, sw_rr, sw_ii, sw_ir, sw_ri, sw_rj, sw_jj, bd_s, bd_n, tl_s, tl_n, if_true, if_false, oz_1, oz_0, hs_1, kt_i, kt_j, kt_f, kt_d, kt_r, cond_false]
theorem c_any_1 (h : ev_cl σ a = some 1) : EV 74 [.ref a] σ = some (some (.ref a), σ) := by
  simp only [e_74, s_74_0, s_74_1n, s_74_1, s_74_4, s_74_7, s_74_8n, s_74_8, s_74_11, s_74_14, s_74_15, s_74_1 h sb_1_RX1, eq_self, true_or, or_true, or_false, false_or, not_true_eq_false, not_false_eq_true, true_and, and_true, false_and, and_false, iR_r, iR_n, iR_f, iI_i, iJ_j, iF_f, iD_d, c1_n, c1_i, c1_r, c1_0, c1_f, c1_q, sw_0, sw_i, sw_j, sw_r, sw_rr, sw_ii, sw_ir, sw_ri, sw_rj, sw_jj, bd_s, bd_n, tl_s, tl_n, if_true, if_false, oz_1, oz_0, hs_1, kt_i, kt_j, kt_f, kt_d, kt_r, cond_true, show ((1 : Int32) = 0) = False from by decide]
  rw [s_74_8 h sb_1_RX1]
  simp only [s_74_0, s_74_1n, s_74_1, s_74_4, s_74_7, s_74_8n, s_74_8, s_74_11, s_74_14, s_74_15, eq_self, true_or, or_true, or_false, false_or, not_true_eq_false, not_false_eq_true, true_and, and_true, false_and, and_false, iR_r, iR_n, iR_f, iI_i, iJ_j, iF_f, iD_d, c1_n, c1_i, c1_r, c1_0, c1_f, c1_q, sw_0, sw_i, sw_j, sw_r, sw_rr, sw_ii, sw_ir, sw_ri, sw_rj, sw_jj, bd_s, bd_n, tl_s, tl_n, if_true, if_false, oz_1, oz_0, hs_1, kt_i, kt_j, kt_f, kt_d, kt_r]
theorem c_any_3 (h : ev_cl σ a = some 3) : EV 74 [.ref a] σ = some (some .null, σ) := by
  simp only [e_74, s_74_0, s_74_1n, s_74_1, s_74_4, s_74_7, s_74_8n, s_74_8, s_74_11, s_74_14, s_74_15, s_74_1 h sb_3_RX1, eq_self, true_or, or_true, or_false, false_or, not_true_eq_false, not_false_eq_true, true_and, and_true, false_and, and_false, iR_r, iR_n, iR_f, iI_i, iJ_j, iF_f, iD_d, c1_n, c1_i, c1_r, c1_0, c1_f, c1_q, sw_0, sw_i, sw_j, sw_r, sw_rr, sw_ii, sw_ir, sw_ri, sw_rj, sw_jj, bd_s, bd_n, tl_s, tl_n, if_true, if_false, oz_1, oz_0, hs_1, kt_i, kt_j, kt_f, kt_d, kt_r, cond_false]
theorem c_any_4 (h : ev_cl σ a = some 4) : EV 74 [.ref a] σ = some (some .null, σ) := by
  simp only [e_74, s_74_0, s_74_1n, s_74_1, s_74_4, s_74_7, s_74_8n, s_74_8, s_74_11, s_74_14, s_74_15, s_74_1 h sb_4_RX1, eq_self, true_or, or_true, or_false, false_or, not_true_eq_false, not_false_eq_true, true_and, and_true, false_and, and_false, iR_r, iR_n, iR_f, iI_i, iJ_j, iF_f, iD_d, c1_n, c1_i, c1_r, c1_0, c1_f, c1_q, sw_0, sw_i, sw_j, sw_r, sw_rr, sw_ii, sw_ir, sw_ri, sw_rj, sw_jj, bd_s, bd_n, tl_s, tl_n, if_true, if_false, oz_1, oz_0, hs_1, kt_i, kt_j, kt_f, kt_d, kt_r, cond_false]
theorem c_sht_n : EV 76 [.null] σ = some (some .null, σ) := by
  simp only [e_76, s_76_0, s_76_1n, s_76_1, s_76_4, s_76_7, s_76_8n, s_76_8, s_76_11, s_76_14, s_76_15, eq_self, true_or, or_true, or_false, false_or, not_true_eq_false, not_false_eq_true, true_and, and_true, false_and, and_false, iR_r, iR_n, iR_f, iI_i, iJ_j, iF_f, iD_d, c1_n, c1_i, c1_r, c1_0, c1_f, c1_q, sw_0, sw_i, sw_j, sw_r, sw_rr, sw_ii, sw_ir, sw_ri, sw_rj, sw_jj, bd_s, bd_n, tl_s, tl_n, if_true, if_false, oz_1, oz_0, hs_1, kt_i, kt_j, kt_f, kt_d, kt_r]
theorem c_sht_0 (h : ev_cl σ a = some 0) : EV 76 [.ref a] σ = some (some .null, σ) := by
  simp only [e_76, s_76_0, s_76_1n, s_76_1, s_76_4, s_76_7, s_76_8n, s_76_8, s_76_11, s_76_14, s_76_15, s_76_1 h sb_0_RX3, eq_self, true_or, or_true, or_false, false_or, not_true_eq_false, not_false_eq_true, true_and, and_true, false_and, and_false, iR_r, iR_n, iR_f, iI_i, iJ_j, iF_f, iD_d, c1_n, c1_i, c1_r, c1_0, c1_f, c1_q, sw_0, sw_i, sw_j, sw_r, sw_rr, sw_ii, sw_ir, sw_ri, sw_rj, sw_jj, bd_s, bd_n, tl_s, tl_n, if_true, if_false, oz_1, oz_0, hs_1, kt_i, kt_j, kt_f, kt_d, kt_r, cond_false]
theorem c_sht_1 (h : ev_cl σ a = some 1) : EV 76 [.ref a] σ = some (some .null, σ) := by
  simp only [e_76, s_76_0, s_76_1n, s_76_1, s_76_4, s_76_7, s_76_8n, s_76_8, s_76_11, s_76_14, s_76_15, s_76_1 h sb_1_RX3, eq_self, true_or, or_true, or_false, false_or, not_true_eq_false, not_false_eq_true, true_and, and_true, false_and, and_false, iR_r, iR_n, iR_f, iI_i, iJ_j, iF_f, iD_d, c1_n, c1_i, c1_r, c1_0, c1_f, c1_q, sw_0, sw_i, sw_j, sw_r, sw_rr, sw_ii, sw_ir, sw_ri, sw_rj, sw_jj, bd_s, bd_n, tl_s, tl_n, if_true, if_false, oz_1, oz_0, hs_1, kt_i, kt_j, kt_f, kt_d, kt_r, cond_false]
theorem c_sht_3 (h : ev_cl σ a = some 3) : EV 76 [.ref a] σ = some (some (.ref a), σ) := by
  simp only [e_76, s_76_0, s_76_1n, s_76_1, s_76_4, s_76_7, s_76_8n, s_76_8, s_76_11, s_76_14, s_76_15, s_76_1 h sb_3_RX3, eq_self, true_or, or_true, or_false, false_or, not_true_eq_false, not_false_eq_true, true_and, and_true, false_and, and_false, iR_r, iR_n, iR_f, iI_i, iJ_j, iF_f, iD_d, c1_n, c1_i, c1_r, c1_0, c1_f, c1_q, sw_0, sw_i, sw_j, sw_r, sw_rr, sw_ii, sw_ir, sw_ri, sw_rj, sw_jj, bd_s, bd_n, tl_s, tl_n, if_true, if_false, oz_1, oz_0, hs_1, kt_i, kt_j, kt_f, kt_d, kt_r, cond_true, show ((1 : Int32) = 0) = False from by decide]
  rw [s_76_8 h sb_3_RX3]
  simp only [s_76_0, s_76_1n, s_76_1, s_76_4, s_76_7, s_76_8n, s_76_8, s_76_11, s_76_14, s_76_15, eq_self, true_or, or_true, or_false, false_or, not_true_eq_false, not_false_eq_true, true_and, and_true, false_and, and_false, iR_r, iR_n, iR_f, iI_i, iJ_j, iF_f, iD_d, c1_n, c1_i, c1_r, c1_0, c1_f, c1_q, sw_0, sw_i, sw_j, sw_r, sw_rr, sw_ii, sw_ir, sw_ri, sw_rj, sw_jj, bd_s, bd_n, tl_s, tl_n, if_true, if_false, oz_1, oz_0, hs_1, kt_i, kt_j, kt_f, kt_d, kt_r]
theorem c_sht_4 (h : ev_cl σ a = some 4) : EV 76 [.ref a] σ = some (some .null, σ) := by
  simp only [e_76, s_76_0, s_76_1n, s_76_1, s_76_4, s_76_7, s_76_8n, s_76_8, s_76_11, s_76_14, s_76_15, s_76_1 h sb_4_RX3, eq_self, true_or, or_true, or_false, false_or, not_true_eq_false, not_false_eq_true, true_and, and_true, false_and, and_false, iR_r, iR_n, iR_f, iI_i, iJ_j, iF_f, iD_d, c1_n, c1_i, c1_r, c1_0, c1_f, c1_q, sw_0, sw_i, sw_j, sw_r, sw_rr, sw_ii, sw_ir, sw_ri, sw_rj, sw_jj, bd_s, bd_n, tl_s, tl_n, if_true, if_false, oz_1, oz_0, hs_1, kt_i, kt_j, kt_f, kt_d, kt_r, cond_false]
theorem c_bnk_n : EV 77 [.null] σ = some (some .null, σ) := by
  simp only [e_77, s_77_0, s_77_1n, s_77_1, s_77_4, s_77_7, s_77_8n, s_77_8, s_77_11, s_77_14, s_77_15, eq_self, true_or, or_true, or_false, false_or, not_true_eq_false, not_false_eq_true, true_and, and_true, false_and, and_false, iR_r, iR_n, iR_f, iI_i, iJ_j, iF_f, iD_d, c1_n, c1_i, c1_r, c1_0, c1_f, c1_q, sw_0, sw_i, sw_j, sw_r, sw_rr, sw_ii, sw_ir, sw_ri, sw_rj, sw_jj, bd_s, bd_n, tl_s, tl_n, if_true, if_false, oz_1, oz_0, hs_1, kt_i, kt_j, kt_f, kt_d, kt_r]
theorem c_bnk_0 (h : ev_cl σ a = some 0) : EV 77 [.ref a] σ = some (some (.ref a), σ) := by
  simp only [e_77, s_77_0, s_77_1n, s_77_1, s_77_4, s_77_7, s_77_8n, s_77_8, s_77_11, s_77_14, s_77_15, s_77_1 h sb_0_RX0, eq_self, true_or, or_true, or_false, false_or, not_true_eq_false, not_false_eq_true, true_and, and_true, false_and, and_false, iR_r, iR_n, iR_f, iI_i, iJ_j, iF_f, iD_d, c1_n, c1_i, c1_r, c1_0, c1_f, c1_q, sw_0, sw_i, sw_j, sw_r, sw_rr, sw_ii, sw_ir, sw_ri, sw_rj, sw_jj, bd_s, bd_n, tl_s, tl_n, if_true, if_false, oz_1, oz_0, hs_1, kt_i, kt_j, kt_f, kt_d, kt_r, cond_true, show ((1 : Int32) = 0) = False from by decide]
  rw [s_77_8 h sb_0_RX0]
  simp only [s_77_0, s_77_1n, s_77_1, s_77_4, s_77_7, s_77_8n, s_77_8, s_77_11, s_77_14, s_77_15, eq_self, true_or, or_true, or_false, false_or, not_true_eq_false, not_false_eq_true, true_and, and_true, false_and, and_false, iR_r, iR_n, iR_f, iI_i, iJ_j, iF_f, iD_d, c1_n, c1_i, c1_r, c1_0, c1_f, c1_q, sw_0, sw_i, sw_j, sw_r, sw_rr, sw_ii, sw_ir, sw_ri, sw_rj, sw_jj, bd_s, bd_n, tl_s, tl_n, if_true, if_false, oz_1, oz_0, hs_1, kt_i, kt_j, kt_f, kt_d, kt_r]
theorem c_bnk_1 (h : ev_cl σ a = some 1) : EV 77 [.ref a] σ = some (some .null, σ) := by
  simp only [e_77, s_77_0, s_77_1n, s_77_1, s_77_4, s_77_7, s_77_8n, s_77_8, s_77_11, s_77_14, s_77_15, s_77_1 h sb_1_RX0, eq_self, true_or, or_true, or_false, false_or, not_true_eq_false, not_false_eq_true, true_and, and_true, false_and, and_false, iR_r, iR_n, iR_f, iI_i, iJ_j, iF_f, iD_d, c1_n, c1_i, c1_r, c1_0, c1_f, c1_q, sw_0, sw_i, sw_j, sw_r, sw_rr, sw_ii, sw_ir, sw_ri, sw_rj, sw_jj, bd_s, bd_n, tl_s, tl_n, if_true, if_false, oz_1, oz_0, hs_1, kt_i, kt_j, kt_f, kt_d, kt_r, cond_false]
theorem c_bnk_3 (h : ev_cl σ a = some 3) : EV 77 [.ref a] σ = some (some .null, σ) := by
  simp only [e_77, s_77_0, s_77_1n, s_77_1, s_77_4, s_77_7, s_77_8n, s_77_8, s_77_11, s_77_14, s_77_15, s_77_1 h sb_3_RX0, eq_self, true_or, or_true, or_false, false_or, not_true_eq_false, not_false_eq_true, true_and, and_true, false_and, and_false, iR_r, iR_n, iR_f, iI_i, iJ_j, iF_f, iD_d, c1_n, c1_i, c1_r, c1_0, c1_f, c1_q, sw_0, sw_i, sw_j, sw_r, sw_rr, sw_ii, sw_ir, sw_ri, sw_rj, sw_jj, bd_s, bd_n, tl_s, tl_n, if_true, if_false, oz_1, oz_0, hs_1, kt_i, kt_j, kt_f, kt_d, kt_r, cond_false]
theorem c_bnk_4 (h : ev_cl σ a = some 4) : EV 77 [.ref a] σ = some (some .null, σ) := by
  simp only [e_77, s_77_0, s_77_1n, s_77_1, s_77_4, s_77_7, s_77_8n, s_77_8, s_77_11, s_77_14, s_77_15, s_77_1 h sb_4_RX0, eq_self, true_or, or_true, or_false, false_or, not_true_eq_false, not_false_eq_true, true_and, and_true, false_and, and_false, iR_r, iR_n, iR_f, iI_i, iJ_j, iF_f, iD_d, c1_n, c1_i, c1_r, c1_0, c1_f, c1_q, sw_0, sw_i, sw_j, sw_r, sw_rr, sw_ii, sw_ir, sw_ri, sw_rj, sw_jj, bd_s, bd_n, tl_s, tl_n, if_true, if_false, oz_1, oz_0, hs_1, kt_i, kt_j, kt_f, kt_d, kt_r, cond_false]
theorem c_voi_n : EV 78 [.null] σ = some (some .null, σ) := by
  simp only [e_78, s_78_0, s_78_1n, s_78_1, s_78_4, s_78_7, s_78_8n, s_78_8, s_78_11, s_78_14, s_78_15, eq_self, true_or, or_true, or_false, false_or, not_true_eq_false, not_false_eq_true, true_and, and_true, false_and, and_false, iR_r, iR_n, iR_f, iI_i, iJ_j, iF_f, iD_d, c1_n, c1_i, c1_r, c1_0, c1_f, c1_q, sw_0, sw_i, sw_j, sw_r, sw_rr, sw_ii, sw_ir, sw_ri, sw_rj, sw_jj, bd_s, bd_n, tl_s, tl_n, if_true, if_false, oz_1, oz_0, hs_1, kt_i, kt_j, kt_f, kt_d, kt_r]
theorem c_voi_0 (h : ev_cl σ a = some 0) : EV 78 [.ref a] σ = some (some .null, σ) := by
  simp only [e_78, s_78_0, s_78_1n, s_78_1, s_78_4, s_78_7, s_78_8n, s_78_8, s_78_11, s_78_14, s_78_15, s_78_1 h sb_0_RX5, eq_self, true_or, or_true, or_false, false_or, not_true_eq_false, not_false_eq_true, true_and, and_true, false_and, and_false, iR_r, iR_n, iR_f, iI_i, iJ_j, iF_f, iD_d, c1_n, c1_i, c1_r, c1_0, c1_f, c1_q, sw_0, sw_i, sw_j, sw_r, sw_rr, sw_ii, sw_ir, sw_ri, sw_rj, sw_jj, bd_s, bd_n, tl_s, tl_n, if_true, if_false, oz_1, oz_0, hs_1, kt_i, kt_j, kt_f, kt_d, kt_r, cond_false]
theorem c_voi_1 (h : ev_cl σ a = some 1) : EV 78 [.ref a] σ = some (some .null, σ) := by
  simp only [e_78, s_78_0, s_78_1n, s_78_1, s_78_4, s_78_7, s_78_8n, s_78_8, s_78_11, s_78_14, s_78_15, s_78_1 h sb_1_RX5, eq_self, true_or, or_true, or_false, false_or, not_true_eq_false, not_false_eq_true, true_and, and_true, false_and, and_false, iR_r, iR_n, iR_f, iI_i, iJ_j, iF_f, iD_d, c1_n, c1_i, c1_r, c1_0, c1_f, c1_q, sw_0, sw_i, sw_j, sw_r, sw_rr, sw_ii, sw_ir, sw_ri, sw_rj, sw_jj, bd_s, bd_n, tl_s, tl_n, if_true, if_false, oz_1, oz_0, hs_1, kt_i, kt_j, kt_f, kt_d, kt_r, cond_false]
theorem c_voi_3 (h : ev_cl σ a = some 3) : EV 78 [.ref a] σ = some (some .null, σ) := by
  simp only [e_78, s_78_0, s_78_1n, s_78_1, s_78_4, s_78_7, s_78_8n, s_78_8, s_78_11, s_78_14, s_78_15, s_78_1 h sb_3_RX5, eq_self, true_or, or_true, or_false, false_or, not_true_eq_false, not_false_eq_true, true_and, and_true, false_and, and_false, iR_r, iR_n, iR_f, iI_i, iJ_j, iF_f, iD_d, c1_n, c1_i, c1_r, c1_0, c1_f, c1_q, sw_0, sw_i, sw_j, sw_r, sw_rr, sw_ii, sw_ir, sw_ri, sw_rj, sw_jj, bd_s, bd_n, tl_s, tl_n, if_true, if_false, oz_1, oz_0, hs_1, kt_i, kt_j, kt_f, kt_d, kt_r, cond_false]
theorem c_voi_4 (h : ev_cl σ a = some 4) : EV 78 [.ref a] σ = some (some (.ref a), σ) := by
  simp only [e_78, s_78_0, s_78_1n, s_78_1, s_78_4, s_78_7, s_78_8n, s_78_8, s_78_11, s_78_14, s_78_15, s_78_1 h sb_4_RX5, eq_self, true_or, or_true, or_false, false_or, not_true_eq_false, not_false_eq_true, true_and, and_true, false_and, and_false, iR_r, iR_n, iR_f, iI_i, iJ_j, iF_f, iD_d, c1_n, c1_i, c1_r, c1_0, c1_f, c1_q, sw_0, sw_i, sw_j, sw_r, sw_rr, sw_ii, sw_ir, sw_ri, sw_rj, sw_jj, bd_s, bd_n, tl_s, tl_n, if_true, if_false, oz_1, oz_0, hs_1, kt_i, kt_j, kt_f, kt_d, kt_r, cond_true, show ((1 : Int32) = 0) = False from by decide]
  rw [s_78_8 h sb_4_RX5]
  simp only [s_78_0, s_78_1n, s_78_1, s_78_4, s_78_7, s_78_8n, s_78_8, s_78_11, s_78_14, s_78_15, eq_self, true_or, or_true, or_false, false_or, not_true_eq_false, not_false_eq_true, true_and, and_true, false_and, and_false, iR_r, iR_n, iR_f, iI_i, iJ_j, iF_f, iD_d, c1_n, c1_i, c1_r, c1_0, c1_f, c1_q, sw_0, sw_i, sw_j, sw_r, sw_rr, sw_ii, sw_ir, sw_ri, sw_rj, sw_jj, bd_s, bd_n, tl_s, tl_n, if_true, if_false, oz_1, oz_0, hs_1, kt_i, kt_j, kt_f, kt_d, kt_r]
end SRT
theorem TC.may {B : Nat} {c : CS} {m : MS} {θ : Nat → Option ev_E} {z l : Nat} {x : Option Nat} {v : Int32} (h : TC B θ x v) : ev_may (hs B c m θ z l) RX4 x = true := by
  rcases h with ⟨rfl, rfl⟩ | ⟨a, rfl, ha, ⟨ln, w, h2, rfl⟩ | ⟨la, h2, rfl⟩ | ⟨kd, pa, h2, rfl⟩ | ⟨kd, rs, h2, rfl⟩⟩
  · rfl
  · simp only [ev_may, cl_th ha h2, sb_1_RX4]; rfl
  · simp only [ev_may, cl_th ha h2, sb_3_RX4]; rfl
  · simp only [ev_may, cl_th ha h2, sb_0_RX4]; rfl
  · simp only [ev_may, cl_th ha h2, sb_4_RX4]; rfl
