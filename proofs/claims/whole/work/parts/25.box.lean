-- BOXES CHANGE; findings, trace
theorem f_1 : (1 : Int32) ≤ 1 ∧ (1 : Int32) < 8 := by decide
theorem f_2 : (1 : Int32) ≤ 2 ∧ (2 : Int32) < 8 := by decide
theorem f_3 : (1 : Int32) ≤ 3 ∧ (3 : Int32) < 8 := by decide
theorem f_4 : (1 : Int32) ≤ 4 ∧ (4 : Int32) < 8 := by decide
theorem f_5 : (1 : Int32) ≤ 5 ∧ (5 : Int32) < 8 := by decide
theorem f_6 : (1 : Int32) ≤ 6 ∧ (6 : Int32) < 8 := by decide
theorem f_7 : (1 : Int32) ≤ 7 ∧ (7 : Int32) < 8 := by decide
theorem q_1 : ev_out 1 8 = false := by decide
theorem q_2 : ev_out 2 8 = false := by decide
theorem q_3 : ev_out 3 8 = false := by decide
theorem q_4 : ev_out 4 8 = false := by decide
theorem q_5 : ev_out 5 8 = false := by decide
theorem q_6 : ev_out 6 8 = false := by decide
theorem q_7 : ev_out 7 8 = false := by decide
section BXS
variable {B b L : Nat} {xs : Nat → Int32} {t : Nat} {c : CS} {m : MS} {θ : Nat → Option ev_E} {z l : Nat} {κ : Nat → Nat × Nat} {nr nu ns nb nv : Nat} {box : GV} {row : GR} {sht : GS} {bnk : GB} {voi : GV}
theorem c_found1 : EV 70 [.ref B, .int 1] (hs B c m θ z l) = some (some (.int (-10 - 1)), hs B (g_found c 1) m θ z l) := c_found f_1.1 f_1.2
theorem c_found2 : EV 70 [.ref B, .int 2] (hs B c m θ z l) = some (some (.int (-10 - 2)), hs B (g_found c 2) m θ z l) := c_found f_2.1 f_2.2
theorem c_found3 : EV 70 [.ref B, .int 3] (hs B c m θ z l) = some (some (.int (-10 - 3)), hs B (g_found c 3) m θ z l) := c_found f_3.1 f_3.2
theorem c_found4 : EV 70 [.ref B, .int 4] (hs B c m θ z l) = some (some (.int (-10 - 4)), hs B (g_found c 4) m θ z l) := c_found f_4.1 f_4.2
theorem c_found5 : EV 70 [.ref B, .int 5] (hs B c m θ z l) = some (some (.int (-10 - 5)), hs B (g_found c 5) m θ z l) := c_found f_5.1 f_5.2
theorem c_found6 : EV 70 [.ref B, .int 6] (hs B c m θ z l) = some (some (.int (-10 - 6)), hs B (g_found c 6) m θ z l) := c_found f_6.1 f_6.2
theorem c_found7 : EV 70 [.ref B, .int 7] (hs B c m θ z l) = some (some (.int (-10 - 7)), hs B (g_found c 7) m θ z l) := c_found f_7.1 f_7.2
theorem c_notSuch_n {x : Int32} (h : BX x) (h1 : c.1 x.toNatClampNeg = none) : EV 71 [.ref B, .int x] (hs B c m θ z l) = some (some (.int (-10 - 1)), hs B (g_found c 1) m θ z l) := by
  simp only [e_71, s_71_0, s_71_1, s_71_2, s_71_3, s_71_6n, s_71_6, s_71_9, s_71_10, s_71_13, s_71_14, s_71_17, eq_self, true_or, or_true, or_false, false_or, not_true_eq_false, not_false_eq_true, true_and, and_true, false_and, and_false, iR_r, iR_n, iR_f, iI_i, iJ_j, iF_f, iD_d, c1_n, c1_i, c1_r, c1_0, c1_f, c1_q, sw_0, sw_i, sw_j, sw_r, sw_rr, sw_ii, sw_ir, sw_ri, sw_rj, sw_jj, bd_s, bd_n, tl_s, tl_n, if_true, if_false, oz_1, oz_0, hs_1, kt_i, kt_j, kt_f, kt_d, kt_r, gc_0, gc_1, gc_2, gc_3, gc_4, gc_5, gc_6, gc_7, gc_8, gc_9, gff_0, gff_1, gff_2, gfd_0, gfd_1, gfd_2, kl_c, kl_f, kl_d, pc_5, pc_6, pc_7, pc_8, pc_9, rd_c0, wr_c0, ln_c0, rd_c1, wr_c1, ln_c1, rd_cb, ln_cb, c_thingIn h, h1, va_rf, c_found1]
theorem c_notSuch_s {x : Int32} {a : Nat} (h : BX x) (h1 : c.1 x.toNatClampNeg = some a) : EV 71 [.ref B, .int x] (hs B c m θ z l) = some (some (.int (-10 - 3)), hs B (g_found c 3) m θ z l) := by
  simp only [e_71, s_71_0, s_71_1, s_71_2, s_71_3, s_71_6n, s_71_6, s_71_9, s_71_10, s_71_13, s_71_14, s_71_17, eq_self, true_or, or_true, or_false, false_or, not_true_eq_false, not_false_eq_true, true_and, and_true, false_and, and_false, iR_r, iR_n, iR_f, iI_i, iJ_j, iF_f, iD_d, c1_n, c1_i, c1_r, c1_0, c1_f, c1_q, sw_0, sw_i, sw_j, sw_r, sw_rr, sw_ii, sw_ir, sw_ri, sw_rj, sw_jj, bd_s, bd_n, tl_s, tl_n, if_true, if_false, oz_1, oz_0, hs_1, kt_i, kt_j, kt_f, kt_d, kt_r, gc_0, gc_1, gc_2, gc_3, gc_4, gc_5, gc_6, gc_7, gc_8, gc_9, gff_0, gff_1, gff_2, gfd_0, gfd_1, gfd_2, kl_c, kl_f, kl_d, pc_5, pc_6, pc_7, pc_8, pc_9, rd_c0, wr_c0, ln_c0, rd_c1, wr_c1, ln_c1, rd_cb, ln_cb, c_thingIn h, h1, va_rf, c_found3]
/-- a box gets what stands already -/
theorem RR.setBox (h : RR B b L xs t c m θ z l κ nr nu ns nb nv box row sht bnk voi) {j s n : Nat} {x : Option Nat} (hok : (s = 0 ∧ x = none) ∨ (s = 1 ∧ n < nr ∧ x = some (row n).2.2.2.1) ∨ (s = 2 ∧ n < ns ∧ x = some (sht n).2.1) ∨ (s = 3 ∧ n < nb ∧ x = some (bnk n).2.2.1) ∨ (s = 4 ∧ n < nv ∧ x = some (voi n).2)) : RR B b L xs t (cB c j x) (mI (mI m 0 j (nI s)) 1 j (nI n)) θ z l κ nr nu ns nb nv (fun q => if q = j then (s, n) else box q) row sht bnk voi := by
  obtain ⟨h1, h2, h3, h4, h5, h6, h7, h8⟩ := h
  refine ⟨h1, h2, h3, h4, h5, h6, fun i hi => ?_, h8⟩
  obtain ⟨x1, x2, x3⟩ := h7 i hi
  by_cases hij : i = j
  · subst hij
    dsimp only
    rw [if_pos rfl]
    refine ⟨?_, ?_, ?_⟩
    · show upd (m.1 0) i (nI s) i = nI s
      exact pk_us
    · show upd (m.1 1) i (nI n) i = nI n
      exact pk_us
    · show _ ∨ _
      have e : (cB c i x).1 i = x := by simp [cB, va_up]
      rw [e]
      exact hok
  · dsimp only
    rw [if_neg hij]
    refine ⟨?_, ?_, ?_⟩
    · show upd (m.1 0) j (nI s) i = _
      rw [pk_un hij]; exact x1
    · show upd (m.1 1) j (nI n) i = _
      rw [pk_un hij]; exact x2
    · have e : (cB c j x).1 i = c.1 i := by simp [cB, va_up, hij]
      rw [e]
      exact x3
/-- what a box holds, as a box may get it -/
theorem RR.holds (h : RR B b L xs t c m θ z l κ nr nu ns nb nv box row sht bnk voi) {j : Nat} (hj : j < 24) : ((box j).1 = 0 ∧ c.1 j = none) ∨ ((box j).1 = 1 ∧ (box j).2 < nr ∧ c.1 j = some (row (box j).2).2.2.2.1) ∨ ((box j).1 = 2 ∧ (box j).2 < ns ∧ c.1 j = some (sht (box j).2).2.1) ∨ ((box j).1 = 3 ∧ (box j).2 < nb ∧ c.1 j = some (bnk (box j).2).2.2.1) ∨ ((box j).1 = 4 ∧ (box j).2 < nv ∧ c.1 j = some (voi (box j).2).2) := (h.2.2.2.2.2.2.1 j hj).2.2
theorem RR.sn (h : RR B b L xs t c m θ z l κ nr nu ns nb nv box row sht bnk voi) {j : Nat} (hj : j < 24) : m.1 0 j = nI (box j).1 ∧ m.1 1 j = nI (box j).2 := ⟨(h.2.2.2.2.2.2.1 j hj).1, (h.2.2.2.2.2.2.1 j hj).2.1⟩
theorem op_clear {x : Int32} : OP 39 122 [.int x] := by
  intro B b L xs t σ ht hG
  obtain ⟨c, m, θ, z, l, rfl, κ, nr, nu, ns, nb, nv, box, row, sht, bnk, voi, h⟩ := hG
  by_cases hx : BX x
  · have eq_hx := eq_true hx
    have hb := ox_b hx
    have hj := (bx_nat hx).1
    have h' := h.setBox (j := x.toNatClampNeg) (s := 0) (n := 0) (x := none) (Or.inl ⟨rfl, rfl⟩)
    refine op_do (v := .int (cdV row bnk voi (box x.toNatClampNeg).1 (box x.toNatClampNeg).2)) (h'.up ht) ?_ ?_
    · simp only [e_39, s_39_0, s_39_1, s_39_4, s_39_7, s_39_9, s_39_10, s_39_11, s_39_12, s_39_15, s_39_16, s_39_17, s_39_20, s_39_21, s_39_22, s_39_22n, s_39_22r, s_39_23, s_39_24, eq_self, true_or, or_true, or_false, false_or, not_true_eq_false, not_false_eq_true, true_and, and_true, false_and, and_false, iR_r, iR_n, iR_f, iI_i, iJ_j, iF_f, iD_d, c1_n, c1_i, c1_r, c1_0, c1_f, c1_q, sw_0, sw_i, sw_j, sw_r, sw_rr, sw_ii, sw_ir, sw_ri, sw_rj, sw_jj, bd_s, bd_n, tl_s, tl_n, if_true, if_false, oz_1, oz_0, hs_1, kt_i, kt_j, kt_f, kt_d, kt_r, gc_0, gc_1, gc_2, gc_3, gc_4, gc_5, gc_6, gc_7, gc_8, gc_9, gff_0, gff_1, gff_2, gfd_0, gfd_1, gfd_2, kl_c, kl_f, kl_d, pc_5, pc_6, pc_7, pc_8, pc_9, rd_c0, wr_c0, ln_c0, rd_c1, wr_c1, ln_c1, rd_cb, ln_cb, c_isBox, eq_hx, bI_0, nn_, c_codeIn hx (h.tc hj), wr_cb (show ev_may (hs B c m θ z l) RX4 none = true from rfl), hb]
    · simp only [e_122, s_122_0, s_122_1, s_122_4, s_122_7, s_122_9, s_122_10, s_122_11, s_122_12, s_122_15, s_122_16, s_122_17, s_122_18, s_122_19, s_122_20, s_122_23, s_122_24, eq_self, true_or, or_true, or_false, false_or, not_true_eq_false, not_false_eq_true, true_and, and_true, false_and, and_false, iR_r, iR_n, iR_f, iI_i, iJ_j, iF_f, iD_d, c1_n, c1_i, c1_r, c1_0, c1_f, c1_q, sw_0, sw_i, sw_j, sw_r, sw_rr, sw_ii, sw_ir, sw_ri, sw_rj, sw_jj, bd_s, bd_n, tl_s, tl_n, if_true, if_false, oz_1, oz_0, hs_1, kt_i, kt_j, kt_f, kt_d, kt_r, gm_0, gm_1, gm_2, gm_3, gm_4, gm_5, gm_6, gm_7, gm_8, gm_9, gm_10, gm_11, gm_12, gm_13, gm_14, gm_15, gm_16, gm_17, gm_18, gm_19, gm_20, gm_21, gm_22, gm_23, gm_24, gm_25, gm_26, gm_27, gm_28, kl_m, pm_2, pm_6, pm_8, pm_11, pm_15, pm_23, pm_25, pm_27, pm_22, pm_28, rd_m0, wr_m0, ln_m0, rd_m1, wr_m1, ln_m1, rd_m2, wr_m2, ln_m2, rd_m3, wr_m3, ln_m3, rd_m4, wr_m4, ln_m4, rd_m5, wr_m5, ln_m5, rd_m6, wr_m6, ln_m6, rd_m7, wr_m7, ln_m7, rd_m8, wr_m8, ln_m8, rd_m9, wr_m9, ln_m9, rd_m10, wr_m10, ln_m10, rd_m11, wr_m11, ln_m11, rd_m12, wr_m12, ln_m12, rd_m13, wr_m13, ln_m13, rd_m14, wr_m14, ln_m14, rd_m15, wr_m15, ln_m15, rd_m16, wr_m16, ln_m16, rd_m17, wr_m17, ln_m17, rd_mw, wr_mw, ln_mw, m_isBox, eq_hx, bI_0, nn_, m_what h hx, m_hold hb, f_hold, show nI 0 = (0 : Int32) from rfl]
  · have eq_hx := eq_false hx
    refine op_same (v := .int (-101)) h ht ?_ ?_
    · simp only [e_39, s_39_0, s_39_1, s_39_4, s_39_7, s_39_9, s_39_10, s_39_11, s_39_12, s_39_15, s_39_16, s_39_17, s_39_20, s_39_21, s_39_22, s_39_22n, s_39_22r, s_39_23, s_39_24, eq_self, true_or, or_true, or_false, false_or, not_true_eq_false, not_false_eq_true, true_and, and_true, false_and, and_false, iR_r, iR_n, iR_f, iI_i, iJ_j, iF_f, iD_d, c1_n, c1_i, c1_r, c1_0, c1_f, c1_q, sw_0, sw_i, sw_j, sw_r, sw_rr, sw_ii, sw_ir, sw_ri, sw_rj, sw_jj, bd_s, bd_n, tl_s, tl_n, if_true, if_false, oz_1, oz_0, hs_1, kt_i, kt_j, kt_f, kt_d, kt_r, gc_0, gc_1, gc_2, gc_3, gc_4, gc_5, gc_6, gc_7, gc_8, gc_9, gff_0, gff_1, gff_2, gfd_0, gfd_1, gfd_2, kl_c, kl_f, kl_d, pc_5, pc_6, pc_7, pc_8, pc_9, rd_c0, wr_c0, ln_c0, rd_c1, wr_c1, ln_c1, rd_cb, ln_cb, c_isBox, eq_hx, bI_0, nn_]
    · simp only [e_122, s_122_0, s_122_1, s_122_4, s_122_7, s_122_9, s_122_10, s_122_11, s_122_12, s_122_15, s_122_16, s_122_17, s_122_18, s_122_19, s_122_20, s_122_23, s_122_24, eq_self, true_or, or_true, or_false, false_or, not_true_eq_false, not_false_eq_true, true_and, and_true, false_and, and_false, iR_r, iR_n, iR_f, iI_i, iJ_j, iF_f, iD_d, c1_n, c1_i, c1_r, c1_0, c1_f, c1_q, sw_0, sw_i, sw_j, sw_r, sw_rr, sw_ii, sw_ir, sw_ri, sw_rj, sw_jj, bd_s, bd_n, tl_s, tl_n, if_true, if_false, oz_1, oz_0, hs_1, kt_i, kt_j, kt_f, kt_d, kt_r, gm_0, gm_1, gm_2, gm_3, gm_4, gm_5, gm_6, gm_7, gm_8, gm_9, gm_10, gm_11, gm_12, gm_13, gm_14, gm_15, gm_16, gm_17, gm_18, gm_19, gm_20, gm_21, gm_22, gm_23, gm_24, gm_25, gm_26, gm_27, gm_28, kl_m, pm_2, pm_6, pm_8, pm_11, pm_15, pm_23, pm_25, pm_27, pm_22, pm_28, rd_m0, wr_m0, ln_m0, rd_m1, wr_m1, ln_m1, rd_m2, wr_m2, ln_m2, rd_m3, wr_m3, ln_m3, rd_m4, wr_m4, ln_m4, rd_m5, wr_m5, ln_m5, rd_m6, wr_m6, ln_m6, rd_m7, wr_m7, ln_m7, rd_m8, wr_m8, ln_m8, rd_m9, wr_m9, ln_m9, rd_m10, wr_m10, ln_m10, rd_m11, wr_m11, ln_m11, rd_m12, wr_m12, ln_m12, rd_m13, wr_m13, ln_m13, rd_m14, wr_m14, ln_m14, rd_m15, wr_m15, ln_m15, rd_m16, wr_m16, ln_m16, rd_m17, wr_m17, ln_m17, rd_mw, wr_mw, ln_mw, m_isBox, eq_hx, bI_0, nn_]
theorem op_share {x y : Int32} : OP 38 121 [.int x, .int y] := by
  intro B b L xs t σ ht hG
  obtain ⟨c, m, θ, z, l, rfl, κ, nr, nu, ns, nb, nv, box, row, sht, bnk, voi, h⟩ := hG
  by_cases hx : BX x
  · have eq_hx := eq_true hx
    have ho := ox_b hx
    have hj := (bx_nat hx).1
    by_cases hy : BX y
    · have eq_hy := eq_true hy
      have hoy := ox_b hy
      have hjy := (bx_nat hy).1
      have h' := h.setBox (j := y.toNatClampNeg) (h.holds hj)
      obtain ⟨s1, s2⟩ := h.sn hj
      refine op_do (v := .int (cdV row bnk voi (box x.toNatClampNeg).1 (box x.toNatClampNeg).2)) (h'.up ht) ?_ ?_
      · have tc : TC B θ ((cB c y.toNatClampNeg (c.1 x.toNatClampNeg)).1 y.toNatClampNeg) (cdV row bnk voi (box x.toNatClampNeg).1 (box x.toNatClampNeg).2) := by
          rw [show (cB c y.toNatClampNeg (c.1 x.toNatClampNeg)).1 y.toNatClampNeg = c.1 x.toNatClampNeg by simp [cB, va_up]]
          exact h.tc hj
        simp only [e_38, s_38_0, s_38_1, s_38_4, s_38_7, s_38_8, s_38_11, s_38_14, s_38_16, s_38_17, s_38_18, s_38_21, s_38_22, s_38_23, s_38_26, s_38_27, s_38_28, s_38_28n, s_38_28r, s_38_29, s_38_30, s_38_31, s_38_34, eq_self, true_or, or_true, or_false, false_or, not_true_eq_false, not_false_eq_true, true_and, and_true, false_and, and_false, iR_r, iR_n, iR_f, iI_i, iJ_j, iF_f, iD_d, c1_n, c1_i, c1_r, c1_0, c1_f, c1_q, sw_0, sw_i, sw_j, sw_r, sw_rr, sw_ii, sw_ir, sw_ri, sw_rj, sw_jj, bd_s, bd_n, tl_s, tl_n, if_true, if_false, oz_1, oz_0, hs_1, kt_i, kt_j, kt_f, kt_d, kt_r, gc_0, gc_1, gc_2, gc_3, gc_4, gc_5, gc_6, gc_7, gc_8, gc_9, gff_0, gff_1, gff_2, gfd_0, gfd_1, gfd_2, kl_c, kl_f, kl_d, pc_5, pc_6, pc_7, pc_8, pc_9, rd_c0, wr_c0, ln_c0, rd_c1, wr_c1, ln_c1, rd_cb, ln_cb, c_isBox, eq_hx, eq_hy, bI_0, nn_, ho, wr_cb (h.tc hj).may, hoy, c_codeIn hy tc]
      · have w := m_what h' hy (c1 := cB c y.toNatClampNeg (c.1 x.toNatClampNeg)) (θ1 := θ) (z1 := z) (l1 := l)
        simp only [if_true] at w
        simp only [e_121, s_121_0, s_121_1, s_121_4, s_121_7, s_121_8, s_121_11, s_121_14, s_121_16, s_121_17, s_121_18, s_121_19, s_121_20, s_121_23, s_121_24, s_121_25, s_121_26, s_121_29, s_121_30, s_121_31, s_121_34, s_121_35, s_121_36, s_121_39, eq_self, true_or, or_true, or_false, false_or, not_true_eq_false, not_false_eq_true, true_and, and_true, false_and, and_false, iR_r, iR_n, iR_f, iI_i, iJ_j, iF_f, iD_d, c1_n, c1_i, c1_r, c1_0, c1_f, c1_q, sw_0, sw_i, sw_j, sw_r, sw_rr, sw_ii, sw_ir, sw_ri, sw_rj, sw_jj, bd_s, bd_n, tl_s, tl_n, if_true, if_false, oz_1, oz_0, hs_1, kt_i, kt_j, kt_f, kt_d, kt_r, gm_0, gm_1, gm_2, gm_3, gm_4, gm_5, gm_6, gm_7, gm_8, gm_9, gm_10, gm_11, gm_12, gm_13, gm_14, gm_15, gm_16, gm_17, gm_18, gm_19, gm_20, gm_21, gm_22, gm_23, gm_24, gm_25, gm_26, gm_27, gm_28, kl_m, pm_2, pm_6, pm_8, pm_11, pm_15, pm_23, pm_25, pm_27, pm_22, pm_28, rd_m0, wr_m0, ln_m0, rd_m1, wr_m1, ln_m1, rd_m2, wr_m2, ln_m2, rd_m3, wr_m3, ln_m3, rd_m4, wr_m4, ln_m4, rd_m5, wr_m5, ln_m5, rd_m6, wr_m6, ln_m6, rd_m7, wr_m7, ln_m7, rd_m8, wr_m8, ln_m8, rd_m9, wr_m9, ln_m9, rd_m10, wr_m10, ln_m10, rd_m11, wr_m11, ln_m11, rd_m12, wr_m12, ln_m12, rd_m13, wr_m13, ln_m13, rd_m14, wr_m14, ln_m14, rd_m15, wr_m15, ln_m15, rd_m16, wr_m16, ln_m16, rd_m17, wr_m17, ln_m17, rd_mw, wr_mw, ln_mw, m_isBox, eq_hx, eq_hy, bI_0, nn_, ho, m_hold hoy, f_hold, s1, s2, w]
    · have eq_hy := eq_false hy
      refine op_same (v := .int (-101)) h ht ?_ ?_
      · simp only [e_38, s_38_0, s_38_1, s_38_4, s_38_7, s_38_8, s_38_11, s_38_14, s_38_16, s_38_17, s_38_18, s_38_21, s_38_22, s_38_23, s_38_26, s_38_27, s_38_28, s_38_28n, s_38_28r, s_38_29, s_38_30, s_38_31, s_38_34, eq_self, true_or, or_true, or_false, false_or, not_true_eq_false, not_false_eq_true, true_and, and_true, false_and, and_false, iR_r, iR_n, iR_f, iI_i, iJ_j, iF_f, iD_d, c1_n, c1_i, c1_r, c1_0, c1_f, c1_q, sw_0, sw_i, sw_j, sw_r, sw_rr, sw_ii, sw_ir, sw_ri, sw_rj, sw_jj, bd_s, bd_n, tl_s, tl_n, if_true, if_false, oz_1, oz_0, hs_1, kt_i, kt_j, kt_f, kt_d, kt_r, gc_0, gc_1, gc_2, gc_3, gc_4, gc_5, gc_6, gc_7, gc_8, gc_9, gff_0, gff_1, gff_2, gfd_0, gfd_1, gfd_2, kl_c, kl_f, kl_d, pc_5, pc_6, pc_7, pc_8, pc_9, rd_c0, wr_c0, ln_c0, rd_c1, wr_c1, ln_c1, rd_cb, ln_cb, c_isBox, eq_hx, eq_hy, bI_0, nn_]
      · simp only [e_121, s_121_0, s_121_1, s_121_4, s_121_7, s_121_8, s_121_11, s_121_14, s_121_16, s_121_17, s_121_18, s_121_19, s_121_20, s_121_23, s_121_24, s_121_25, s_121_26, s_121_29, s_121_30, s_121_31, s_121_34, s_121_35, s_121_36, s_121_39, eq_self, true_or, or_true, or_false, false_or, not_true_eq_false, not_false_eq_true, true_and, and_true, false_and, and_false, iR_r, iR_n, iR_f, iI_i, iJ_j, iF_f, iD_d, c1_n, c1_i, c1_r, c1_0, c1_f, c1_q, sw_0, sw_i, sw_j, sw_r, sw_rr, sw_ii, sw_ir, sw_ri, sw_rj, sw_jj, bd_s, bd_n, tl_s, tl_n, if_true, if_false, oz_1, oz_0, hs_1, kt_i, kt_j, kt_f, kt_d, kt_r, gm_0, gm_1, gm_2, gm_3, gm_4, gm_5, gm_6, gm_7, gm_8, gm_9, gm_10, gm_11, gm_12, gm_13, gm_14, gm_15, gm_16, gm_17, gm_18, gm_19, gm_20, gm_21, gm_22, gm_23, gm_24, gm_25, gm_26, gm_27, gm_28, kl_m, pm_2, pm_6, pm_8, pm_11, pm_15, pm_23, pm_25, pm_27, pm_22, pm_28, rd_m0, wr_m0, ln_m0, rd_m1, wr_m1, ln_m1, rd_m2, wr_m2, ln_m2, rd_m3, wr_m3, ln_m3, rd_m4, wr_m4, ln_m4, rd_m5, wr_m5, ln_m5, rd_m6, wr_m6, ln_m6, rd_m7, wr_m7, ln_m7, rd_m8, wr_m8, ln_m8, rd_m9, wr_m9, ln_m9, rd_m10, wr_m10, ln_m10, rd_m11, wr_m11, ln_m11, rd_m12, wr_m12, ln_m12, rd_m13, wr_m13, ln_m13, rd_m14, wr_m14, ln_m14, rd_m15, wr_m15, ln_m15, rd_m16, wr_m16, ln_m16, rd_m17, wr_m17, ln_m17, rd_mw, wr_mw, ln_mw, m_isBox, eq_hx, eq_hy, bI_0, nn_]
  · have eq_hx := eq_false hx
    refine op_same (v := .int (-101)) h ht ?_ ?_
    · simp only [e_38, s_38_0, s_38_1, s_38_4, s_38_7, s_38_8, s_38_11, s_38_14, s_38_16, s_38_17, s_38_18, s_38_21, s_38_22, s_38_23, s_38_26, s_38_27, s_38_28, s_38_28n, s_38_28r, s_38_29, s_38_30, s_38_31, s_38_34, eq_self, true_or, or_true, or_false, false_or, not_true_eq_false, not_false_eq_true, true_and, and_true, false_and, and_false, iR_r, iR_n, iR_f, iI_i, iJ_j, iF_f, iD_d, c1_n, c1_i, c1_r, c1_0, c1_f, c1_q, sw_0, sw_i, sw_j, sw_r, sw_rr, sw_ii, sw_ir, sw_ri, sw_rj, sw_jj, bd_s, bd_n, tl_s, tl_n, if_true, if_false, oz_1, oz_0, hs_1, kt_i, kt_j, kt_f, kt_d, kt_r, gc_0, gc_1, gc_2, gc_3, gc_4, gc_5, gc_6, gc_7, gc_8, gc_9, gff_0, gff_1, gff_2, gfd_0, gfd_1, gfd_2, kl_c, kl_f, kl_d, pc_5, pc_6, pc_7, pc_8, pc_9, rd_c0, wr_c0, ln_c0, rd_c1, wr_c1, ln_c1, rd_cb, ln_cb, c_isBox, eq_hx, bI_0, nn_]
    · simp only [e_121, s_121_0, s_121_1, s_121_4, s_121_7, s_121_8, s_121_11, s_121_14, s_121_16, s_121_17, s_121_18, s_121_19, s_121_20, s_121_23, s_121_24, s_121_25, s_121_26, s_121_29, s_121_30, s_121_31, s_121_34, s_121_35, s_121_36, s_121_39, eq_self, true_or, or_true, or_false, false_or, not_true_eq_false, not_false_eq_true, true_and, and_true, false_and, and_false, iR_r, iR_n, iR_f, iI_i, iJ_j, iF_f, iD_d, c1_n, c1_i, c1_r, c1_0, c1_f, c1_q, sw_0, sw_i, sw_j, sw_r, sw_rr, sw_ii, sw_ir, sw_ri, sw_rj, sw_jj, bd_s, bd_n, tl_s, tl_n, if_true, if_false, oz_1, oz_0, hs_1, kt_i, kt_j, kt_f, kt_d, kt_r, gm_0, gm_1, gm_2, gm_3, gm_4, gm_5, gm_6, gm_7, gm_8, gm_9, gm_10, gm_11, gm_12, gm_13, gm_14, gm_15, gm_16, gm_17, gm_18, gm_19, gm_20, gm_21, gm_22, gm_23, gm_24, gm_25, gm_26, gm_27, gm_28, kl_m, pm_2, pm_6, pm_8, pm_11, pm_15, pm_23, pm_25, pm_27, pm_22, pm_28, rd_m0, wr_m0, ln_m0, rd_m1, wr_m1, ln_m1, rd_m2, wr_m2, ln_m2, rd_m3, wr_m3, ln_m3, rd_m4, wr_m4, ln_m4, rd_m5, wr_m5, ln_m5, rd_m6, wr_m6, ln_m6, rd_m7, wr_m7, ln_m7, rd_m8, wr_m8, ln_m8, rd_m9, wr_m9, ln_m9, rd_m10, wr_m10, ln_m10, rd_m11, wr_m11, ln_m11, rd_m12, wr_m12, ln_m12, rd_m13, wr_m13, ln_m13, rd_m14, wr_m14, ln_m14, rd_m15, wr_m15, ln_m15, rd_m16, wr_m16, ln_m16, rd_m17, wr_m17, ln_m17, rd_mw, wr_mw, ln_mw, m_isBox, eq_hx, bI_0, nn_]
theorem op_findings {f : Int32} : OP 63 165 [.int f] := by
  intro B b L xs t σ ht hG
  obtain ⟨c, m, θ, z, l, rfl, κ, nr, nu, ns, nb, nv, box, row, sht, bnk, voi, h⟩ := hG
  have e := h.2.2.2.1.2.1
  by_cases hf : 1 ≤ f ∧ f ≤ 7
  · have eq_hf := eq_true hf
    have q1 : (f < 1) = False := by simp only [i32_le, i32_lt] at hf ⊢; simp at hf ⊢; omega
    have q2 : (8 ≤ f) = False := by simp only [i32_le] at hf ⊢; simp at hf ⊢; omega
    have q3 : ev_out f 8 = false := by
      simp only [i32_le] at hf
      simp at hf
      exact ox_of (by omega) (by omega)
    refine op_same (v := .int (m.1 17 f.toNatClampNeg)) h ht ?_ ?_
    · simp only [e_63, s_63_0, s_63_1, s_63_2, s_63_5, s_63_6, s_63_7, s_63_10, s_63_11, s_63_14, s_63_15, s_63_18, s_63_19, s_63_20, s_63_23, s_63_25, eq_self, true_or, or_true, or_false, false_or, not_true_eq_false, not_false_eq_true, true_and, and_true, false_and, and_false, iR_r, iR_n, iR_f, iI_i, iJ_j, iF_f, iD_d, c1_n, c1_i, c1_r, c1_0, c1_f, c1_q, sw_0, sw_i, sw_j, sw_r, sw_rr, sw_ii, sw_ir, sw_ri, sw_rj, sw_jj, bd_s, bd_n, tl_s, tl_n, if_true, if_false, oz_1, oz_0, hs_1, kt_i, kt_j, kt_f, kt_d, kt_r, gc_0, gc_1, gc_2, gc_3, gc_4, gc_5, gc_6, gc_7, gc_8, gc_9, gff_0, gff_1, gff_2, gfd_0, gfd_1, gfd_2, kl_c, kl_f, kl_d, pc_5, pc_6, pc_7, pc_8, pc_9, rd_c0, wr_c0, ln_c0, rd_c1, wr_c1, ln_c1, rd_cb, ln_cb, q1, q2, q3, e]
    · simp only [e_165, s_165_0, s_165_1, s_165_2, s_165_4, s_165_7, s_165_10, s_165_11, s_165_14, s_165_15, s_165_16, s_165_19, s_165_21, eq_self, true_or, or_true, or_false, false_or, not_true_eq_false, not_false_eq_true, true_and, and_true, false_and, and_false, iR_r, iR_n, iR_f, iI_i, iJ_j, iF_f, iD_d, c1_n, c1_i, c1_r, c1_0, c1_f, c1_q, sw_0, sw_i, sw_j, sw_r, sw_rr, sw_ii, sw_ir, sw_ri, sw_rj, sw_jj, bd_s, bd_n, tl_s, tl_n, if_true, if_false, oz_1, oz_0, hs_1, kt_i, kt_j, kt_f, kt_d, kt_r, gm_0, gm_1, gm_2, gm_3, gm_4, gm_5, gm_6, gm_7, gm_8, gm_9, gm_10, gm_11, gm_12, gm_13, gm_14, gm_15, gm_16, gm_17, gm_18, gm_19, gm_20, gm_21, gm_22, gm_23, gm_24, gm_25, gm_26, gm_27, gm_28, kl_m, pm_2, pm_6, pm_8, pm_11, pm_15, pm_23, pm_25, pm_27, pm_22, pm_28, rd_m0, wr_m0, ln_m0, rd_m1, wr_m1, ln_m1, rd_m2, wr_m2, ln_m2, rd_m3, wr_m3, ln_m3, rd_m4, wr_m4, ln_m4, rd_m5, wr_m5, ln_m5, rd_m6, wr_m6, ln_m6, rd_m7, wr_m7, ln_m7, rd_m8, wr_m8, ln_m8, rd_m9, wr_m9, ln_m9, rd_m10, wr_m10, ln_m10, rd_m11, wr_m11, ln_m11, rd_m12, wr_m12, ln_m12, rd_m13, wr_m13, ln_m13, rd_m14, wr_m14, ln_m14, rd_m15, wr_m15, ln_m15, rd_m16, wr_m16, ln_m16, rd_m17, wr_m17, ln_m17, rd_mw, wr_mw, ln_mw, m_in, eq_hf, bI_0, nn_, q3]
  · have eq_hf := eq_false hf
    refine op_same (v := .int (-102)) h ht ?_ ?_
    · simp only [e_63, s_63_0, s_63_1, s_63_2, s_63_5, s_63_6, s_63_7, s_63_10, s_63_11, s_63_14, s_63_15, s_63_18, s_63_19, s_63_20, s_63_23, s_63_25, eq_self, true_or, or_true, or_false, false_or, not_true_eq_false, not_false_eq_true, true_and, and_true, false_and, and_false, iR_r, iR_n, iR_f, iI_i, iJ_j, iF_f, iD_d, c1_n, c1_i, c1_r, c1_0, c1_f, c1_q, sw_0, sw_i, sw_j, sw_r, sw_rr, sw_ii, sw_ir, sw_ri, sw_rj, sw_jj, bd_s, bd_n, tl_s, tl_n, if_true, if_false, oz_1, oz_0, hs_1, kt_i, kt_j, kt_f, kt_d, kt_r, gc_0, gc_1, gc_2, gc_3, gc_4, gc_5, gc_6, gc_7, gc_8, gc_9, gff_0, gff_1, gff_2, gfd_0, gfd_1, gfd_2, kl_c, kl_f, kl_d, pc_5, pc_6, pc_7, pc_8, pc_9, rd_c0, wr_c0, ln_c0, rd_c1, wr_c1, ln_c1, rd_cb, ln_cb]
      by_cases q1 : f < 1
      · rw [if_pos q1]
      · rw [if_neg q1, if_pos (by simp only [i32_le, i32_lt] at hf q1 ⊢; simp at hf q1 ⊢; omega)]
    · simp only [e_165, s_165_0, s_165_1, s_165_2, s_165_4, s_165_7, s_165_10, s_165_11, s_165_14, s_165_15, s_165_16, s_165_19, s_165_21, eq_self, true_or, or_true, or_false, false_or, not_true_eq_false, not_false_eq_true, true_and, and_true, false_and, and_false, iR_r, iR_n, iR_f, iI_i, iJ_j, iF_f, iD_d, c1_n, c1_i, c1_r, c1_0, c1_f, c1_q, sw_0, sw_i, sw_j, sw_r, sw_rr, sw_ii, sw_ir, sw_ri, sw_rj, sw_jj, bd_s, bd_n, tl_s, tl_n, if_true, if_false, oz_1, oz_0, hs_1, kt_i, kt_j, kt_f, kt_d, kt_r, gm_0, gm_1, gm_2, gm_3, gm_4, gm_5, gm_6, gm_7, gm_8, gm_9, gm_10, gm_11, gm_12, gm_13, gm_14, gm_15, gm_16, gm_17, gm_18, gm_19, gm_20, gm_21, gm_22, gm_23, gm_24, gm_25, gm_26, gm_27, gm_28, kl_m, pm_2, pm_6, pm_8, pm_11, pm_15, pm_23, pm_25, pm_27, pm_22, pm_28, rd_m0, wr_m0, ln_m0, rd_m1, wr_m1, ln_m1, rd_m2, wr_m2, ln_m2, rd_m3, wr_m3, ln_m3, rd_m4, wr_m4, ln_m4, rd_m5, wr_m5, ln_m5, rd_m6, wr_m6, ln_m6, rd_m7, wr_m7, ln_m7, rd_m8, wr_m8, ln_m8, rd_m9, wr_m9, ln_m9, rd_m10, wr_m10, ln_m10, rd_m11, wr_m11, ln_m11, rd_m12, wr_m12, ln_m12, rd_m13, wr_m13, ln_m13, rd_m14, wr_m14, ln_m14, rd_m15, wr_m15, ln_m15, rd_m16, wr_m16, ln_m16, rd_m17, wr_m17, ln_m17, rd_mw, wr_mw, ln_mw, m_in, eq_hf, bI_0, nn_]
theorem op_trace {k : Int32} : OP 61 163 [.int k] := by
  intro B b L xs t σ ht hG
  obtain ⟨c, m, θ, z, l, rfl, κ, nr, nu, ns, nb, nv, box, row, sht, bnk, voi, h⟩ := hG
  obtain ⟨e0, -, e5, -, -, -, -, t0, t1⟩ := h.2.2.2.1
  have hsub : (m.2.2.1 5 - 1).toInt = (m.2.2.1 5).toInt - 1 := by
    rw [i32_le] at t0 t1
    have a1 : (0 : Int32).toInt = 0 := by decide
    have a2 : (100 : Int32).toInt = 100 := by decide
    have a3 : (1 : Int32).toInt = 1 := by decide
    rw [a1] at t0; rw [a2] at t1
    rw [Int32.toInt_sub, a3, Int.bmod_eq_of_le (by omega) (by omega)]
  by_cases hk : 0 ≤ k ∧ k ≤ m.2.2.1 5 - 1
  · have eq_hk := eq_true hk
    have hk1 := hk.1
    have hk2 := hk.2
    rw [i32_le] at hk1 hk2 t1
    have a1 : (0 : Int32).toInt = 0 := by decide
    have a2 : (100 : Int32).toInt = 100 := by decide
    rw [hsub] at hk2
    rw [a1] at hk1; rw [a2] at t1
    have q1 : (k < 0) = False := by simp only [i32_lt, a1]; simp; omega
    have q2 : (m.2.2.1 5 ≤ k) = False := by simp only [i32_le]; simp; omega
    have q3 : (100 ≤ k) = False := by simp only [i32_le, a2]; simp; omega
    have q4 : ev_out k 100 = false := ox_of hk1 (by omega)
    refine op_same (v := .int (m.1 16 k.toNatClampNeg)) h ht ?_ ?_
    · simp only [e_61, s_61_0, s_61_1, s_61_4, s_61_5, s_61_6, s_61_9, s_61_12, s_61_13, s_61_14, s_61_17, s_61_18, s_61_21, s_61_22, s_61_25, s_61_26, s_61_27, s_61_30, s_61_31, eq_self, true_or, or_true, or_false, false_or, not_true_eq_false, not_false_eq_true, true_and, and_true, false_and, and_false, iR_r, iR_n, iR_f, iI_i, iJ_j, iF_f, iD_d, c1_n, c1_i, c1_r, c1_0, c1_f, c1_q, sw_0, sw_i, sw_j, sw_r, sw_rr, sw_ii, sw_ir, sw_ri, sw_rj, sw_jj, bd_s, bd_n, tl_s, tl_n, if_true, if_false, oz_1, oz_0, hs_1, kt_i, kt_j, kt_f, kt_d, kt_r, gc_0, gc_1, gc_2, gc_3, gc_4, gc_5, gc_6, gc_7, gc_8, gc_9, gff_0, gff_1, gff_2, gfd_0, gfd_1, gfd_2, kl_c, kl_f, kl_d, pc_5, pc_6, pc_7, pc_8, pc_9, rd_c0, wr_c0, ln_c0, rd_c1, wr_c1, ln_c1, rd_cb, ln_cb, q1, q2, q3, q4, e0, e5]
    · simp only [e_163, s_163_0, s_163_1, s_163_2, s_163_3, s_163_6, s_163_7, s_163_8, s_163_11, s_163_14, s_163_15, s_163_18, s_163_19, s_163_20, s_163_23, s_163_24, eq_self, true_or, or_true, or_false, false_or, not_true_eq_false, not_false_eq_true, true_and, and_true, false_and, and_false, iR_r, iR_n, iR_f, iI_i, iJ_j, iF_f, iD_d, c1_n, c1_i, c1_r, c1_0, c1_f, c1_q, sw_0, sw_i, sw_j, sw_r, sw_rr, sw_ii, sw_ir, sw_ri, sw_rj, sw_jj, bd_s, bd_n, tl_s, tl_n, if_true, if_false, oz_1, oz_0, hs_1, kt_i, kt_j, kt_f, kt_d, kt_r, gm_0, gm_1, gm_2, gm_3, gm_4, gm_5, gm_6, gm_7, gm_8, gm_9, gm_10, gm_11, gm_12, gm_13, gm_14, gm_15, gm_16, gm_17, gm_18, gm_19, gm_20, gm_21, gm_22, gm_23, gm_24, gm_25, gm_26, gm_27, gm_28, kl_m, pm_2, pm_6, pm_8, pm_11, pm_15, pm_23, pm_25, pm_27, pm_22, pm_28, rd_m0, wr_m0, ln_m0, rd_m1, wr_m1, ln_m1, rd_m2, wr_m2, ln_m2, rd_m3, wr_m3, ln_m3, rd_m4, wr_m4, ln_m4, rd_m5, wr_m5, ln_m5, rd_m6, wr_m6, ln_m6, rd_m7, wr_m7, ln_m7, rd_m8, wr_m8, ln_m8, rd_m9, wr_m9, ln_m9, rd_m10, wr_m10, ln_m10, rd_m11, wr_m11, ln_m11, rd_m12, wr_m12, ln_m12, rd_m13, wr_m13, ln_m13, rd_m14, wr_m14, ln_m14, rd_m15, wr_m15, ln_m15, rd_m16, wr_m16, ln_m16, rd_m17, wr_m17, ln_m17, rd_mw, wr_mw, ln_mw, m_in, eq_hk, bI_0, nn_, q4]
  · have eq_hk := eq_false hk
    refine op_same (v := .int (-1)) h ht ?_ ?_
    · simp only [e_61, s_61_0, s_61_1, s_61_4, s_61_5, s_61_6, s_61_9, s_61_12, s_61_13, s_61_14, s_61_17, s_61_18, s_61_21, s_61_22, s_61_25, s_61_26, s_61_27, s_61_30, s_61_31, eq_self, true_or, or_true, or_false, false_or, not_true_eq_false, not_false_eq_true, true_and, and_true, false_and, and_false, iR_r, iR_n, iR_f, iI_i, iJ_j, iF_f, iD_d, c1_n, c1_i, c1_r, c1_0, c1_f, c1_q, sw_0, sw_i, sw_j, sw_r, sw_rr, sw_ii, sw_ir, sw_ri, sw_rj, sw_jj, bd_s, bd_n, tl_s, tl_n, if_true, if_false, oz_1, oz_0, hs_1, kt_i, kt_j, kt_f, kt_d, kt_r, gc_0, gc_1, gc_2, gc_3, gc_4, gc_5, gc_6, gc_7, gc_8, gc_9, gff_0, gff_1, gff_2, gfd_0, gfd_1, gfd_2, kl_c, kl_f, kl_d, pc_5, pc_6, pc_7, pc_8, pc_9, rd_c0, wr_c0, ln_c0, rd_c1, wr_c1, ln_c1, rd_cb, ln_cb, e5]
      by_cases q1 : k < 0
      · rw [if_pos q1]
      · rw [if_neg q1, if_pos (by
          have a1 : (0 : Int32).toInt = 0 := by decide
          simp only [i32_le, i32_lt, hsub, a1] at hk q1 ⊢
          omega)]
    · simp only [e_163, s_163_0, s_163_1, s_163_2, s_163_3, s_163_6, s_163_7, s_163_8, s_163_11, s_163_14, s_163_15, s_163_18, s_163_19, s_163_20, s_163_23, s_163_24, eq_self, true_or, or_true, or_false, false_or, not_true_eq_false, not_false_eq_true, true_and, and_true, false_and, and_false, iR_r, iR_n, iR_f, iI_i, iJ_j, iF_f, iD_d, c1_n, c1_i, c1_r, c1_0, c1_f, c1_q, sw_0, sw_i, sw_j, sw_r, sw_rr, sw_ii, sw_ir, sw_ri, sw_rj, sw_jj, bd_s, bd_n, tl_s, tl_n, if_true, if_false, oz_1, oz_0, hs_1, kt_i, kt_j, kt_f, kt_d, kt_r, gm_0, gm_1, gm_2, gm_3, gm_4, gm_5, gm_6, gm_7, gm_8, gm_9, gm_10, gm_11, gm_12, gm_13, gm_14, gm_15, gm_16, gm_17, gm_18, gm_19, gm_20, gm_21, gm_22, gm_23, gm_24, gm_25, gm_26, gm_27, gm_28, kl_m, pm_2, pm_6, pm_8, pm_11, pm_15, pm_23, pm_25, pm_27, pm_22, pm_28, rd_m0, wr_m0, ln_m0, rd_m1, wr_m1, ln_m1, rd_m2, wr_m2, ln_m2, rd_m3, wr_m3, ln_m3, rd_m4, wr_m4, ln_m4, rd_m5, wr_m5, ln_m5, rd_m6, wr_m6, ln_m6, rd_m7, wr_m7, ln_m7, rd_m8, wr_m8, ln_m8, rd_m9, wr_m9, ln_m9, rd_m10, wr_m10, ln_m10, rd_m11, wr_m11, ln_m11, rd_m12, wr_m12, ln_m12, rd_m13, wr_m13, ln_m13, rd_m14, wr_m14, ln_m14, rd_m15, wr_m15, ln_m15, rd_m16, wr_m16, ln_m16, rd_m17, wr_m17, ln_m17, rd_mw, wr_mw, ln_mw, m_in, eq_hk, bI_0, nn_]
end BXS
