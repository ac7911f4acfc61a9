-- COPY
section CPY
variable {B b L : Nat} {xs : Nat → Int32} {t : Nat} {c : CS} {m : MS} {θ : Nat → Option ev_E} {z l : Nat} {κ : Nat → Nat × Nat} {nr nu ns nb nv : Nat} {box : GV} {row : GR} {sht : GS} {bnk : GB} {voi : GV} {σ : ev_H}
theorem RR.bulk (h : RR B b L xs t c m θ z l κ nr nu ns nb nv box row sht bnk voi) {r ln sz fs ra wa : Nat} {f f' W : Nat → Int64} (hr : r < nr) (hrow : row r = (ln, sz, fs, ra, wa)) (hf : θ wa = some (.inl (.long, sz, .inr (.inl f)))) (hW1 : ∀ q, q < fs ∨ fs + sz ≤ q → W q = m.2.1 q) (hW2 : ∀ k, k < sz → f' k = W (fs + k) ∧ WV ln (f' k)) : RR B b L xs t c (m.1, W, m.2.2) (tu θ wa (.inl (.long, sz, .inr (.inl f')))) z l κ nr nu ns nb nv box row sht bnk voi := by
  obtain ⟨h1, h2, h3, h4, h5, h6, h7, h8, h9, h10, h11⟩ := h
  have hR := h8 r hr
  rw [hrow] at hR
  dsimp only at hR
  obtain ⟨q1, q2, q3, q4, q5, q6, q7, q8, q9, f_, q10, q11⟩ := hR
  cases hf.symm.trans q10
  have ne : ∀ {a t i : Nat}, adr B z κ a t i → t ≠ 2 → a ≠ wa := by
    intro a t i ha ht e
    subst e
    have := ha.2.2.symm.trans q8.2.2
    simp only [Prod.mk.injEq] at this
    exact ht this.1
  refine ⟨⟨h1.1, ?_⟩, h2, h3, h4, h5, ⟨fun q hq => ?_, h6.2⟩, h7, fun r' hr' => ?_, fun i hi => ?_, fun i hi => ?_, fun v hv => ?_⟩
  · rw [tu_n (by have := h1.1; have := q8.1; omega)]; exact h1.2
  · show W q = 0
    rw [hW1 q (Or.inr (by omega))]; exact h6.1 q hq
  · obtain ⟨p1, p2, p3, p4, p5, p6, p7, p8, p9, g, p10, p11⟩ := h8 r' hr'
    refine ⟨p1, p2, p3, p4, p5, p6, p7, p8, by rw [tu_n (ne p7 (by decide))]; exact p9, ?_⟩
    by_cases e : r' = r
    · subst e
      rw [hrow] at p10 p11 ⊢
      dsimp only at p10 p11 ⊢
      exact ⟨f', tu_s, hW2⟩
    · have en : (row r').2.2.2.2 ≠ wa := by
        intro e2
        rw [e2] at p8
        have := p8.2.2.symm.trans q8.2.2
        simp only [Prod.mk.injEq] at this
        exact e this.2
      refine ⟨g, by rw [tu_n en]; exact p10, fun i hi => ?_⟩
      show g i = W _ ∧ _
      have hne : (row r').2.2.1 + i < fs ∨ fs + sz ≤ (row r').2.2.1 + i := by
        rcases Nat.lt_or_gt_of_ne e with q | q
        · have := h5 r' r q hr
          rw [hrow] at this
          dsimp only at this
          omega
        · have := h5 r r' q hr'
          rw [hrow] at this
          dsimp only at this
          omega
      rw [hW1 _ hne]
      exact p11 i hi
  · obtain ⟨p1, p2, p3, p4, p5, g, p6, p7⟩ := h9 i hi
    exact ⟨p1, p2, p3, p4, by rw [tu_n (ne p3 (by decide))]; exact p5, g, by rw [tu_n (ne p4 (by decide))]; exact p6, p7⟩
  · obtain ⟨p1, p2, p3, p4, p5, p6, p7, g, p8, p9⟩ := h10 i hi
    exact ⟨p1, p2, p3, p4, p5, p6, by rw [tu_n (ne p5 (by decide))]; exact p7, g, by rw [tu_n (ne p6 (by decide))]; exact p8, p9⟩
  · obtain ⟨p1, p2, p3, p4, p5⟩ := h11 v hv
    exact ⟨p1, p2, p3, by rw [tu_n (ne p3 (by decide))]; exact p4, p5⟩
def cw (w : Nat → Int64) (a d lo hi : Nat) : Nat → Int64 := fun q => if d + lo ≤ q ∧ q < d + hi then w (a + (q - d)) else w q
def mc (m : MS) (a d lo hi : Nat) : MS := (m.1, cw m.2.1 a d lo hi, m.2.2)
theorem mc_0 {a d k : Nat} : mc m a d k k = m := by
  have : cw m.2.1 a d k k = m.2.1 := by funext q; exact if_neg (by omega)
  unfold mc; rw [this]
theorem mc_f {a d k : Nat} : mW (mc m a d 0 k) (d + k) (m.2.1 (a + k)) = mc m a d 0 (k + 1) := by
  have : vp_updL (cw m.2.1 a d 0 k) (d + k) (m.2.1 (a + k)) = cw m.2.1 a d 0 (k + 1) := by
    funext q
    unfold vp_updL cw
    by_cases e : q = d + k
    · subst e
      rw [if_pos rfl, if_pos (by omega), show d + k - d = k by omega]
    · rw [if_neg e]
      by_cases e2 : d + 0 ≤ q ∧ q < d + k
      · rw [if_pos e2, if_pos (by omega)]
      · rw [if_neg e2, if_neg (by omega)]
  show (m.1, vp_updL (cw m.2.1 a d 0 k) (d + k) (m.2.1 (a + k)), m.2.2) = _
  rw [this]; rfl
theorem mc_b {a d k n : Nat} (hk : k < n) : mW (mc m a d (k + 1) n) (d + k) (m.2.1 (a + k)) = mc m a d k n := by
  have : vp_updL (cw m.2.1 a d (k + 1) n) (d + k) (m.2.1 (a + k)) = cw m.2.1 a d k n := by
    funext q
    unfold vp_updL cw
    by_cases e : q = d + k
    · subst e
      rw [if_pos rfl, if_pos (by omega), show d + k - d = k by omega]
    · rw [if_neg e]
      by_cases e2 : d + (k + 1) ≤ q ∧ q < d + n
      · rw [if_pos e2, if_pos (by omega)]
      · rw [if_neg e2, if_neg (by omega)]
  show (m.1, vp_updL (cw m.2.1 a d (k + 1) n) (d + k) (m.2.1 (a + k)), m.2.2) = _
  rw [this]; rfl
theorem cp_f {v1 v2 v3 v4 v6 v7 : Option Value} {n a d : Nat} (hn : n ≤ 16) (ha : a + n ≤ 36000) (hd : d + n ≤ 36000) (had : d < a) : ∀ e k, k + e = n → RUN 131 (hs B c (mc m a d 0 k) θ z l, 199, [some (.ref (B + 6)), v1, v2, v3, v4, some (.int (nI n)), v6, v7, some (.int (nI a)), some (.int (nI d)), some (.int (nI k))], []) = some (some (.int 0), hs B c (mc m a d 0 n) θ z l) := by
  intro e
  induction e with
  | zero =>
    intro k e
    obtain rfl : k = n := by omega
    have q : (nI k ≤ nI k) = True := eq_true (by rw [nN_le (by omega) (by omega)]; omega)
    simp only [s_131_199, s_131_201, s_131_203, s_131_232, s_131_272, s_131_273, eq_self, true_or, or_true, or_false, false_or, not_true_eq_false, not_false_eq_true, true_and, and_true, false_and, and_false, iR_r, iR_n, iR_f, iI_i, iJ_j, iF_f, iD_d, c1_n, c1_i, c1_r, c1_0, c1_f, c1_q, sw_0, sw_i, sw_j, sw_r, sw_rr, sw_ii, sw_ir, sw_ri, sw_rj, sw_jj, bd_s, bd_n, tl_s, tl_n, if_true, if_false, oz_1, oz_0, hs_1, kt_i, kt_j, kt_f, kt_d, kt_r, q]
  | succ e ih =>
    intro k e
    have q : (nI n ≤ nI k) = False := eq_false (by rw [nN_le (by omega) (by omega)]; omega)
    have y1 : ev_out (nI (d + k)) 36000 = false := ox_n (by omega) (by decide)
    have y2 : (nI (d + k)).toNatClampNeg = d + k := nI_clamp (by omega)
    have y3 : ev_out (nI (a + k)) 36000 = false := ox_n (by omega) (by decide)
    have y4 : (nI (a + k)).toNatClampNeg = a + k := nI_clamp (by omega)
    have y5 : (mc m a d 0 k).2.1 (a + k) = m.2.1 (a + k) := if_neg (by omega)
    have ih' := ih (k + 1) (by omega)
    rw [s_131_199]
    simp only [s_131_201, s_131_203, s_131_206, s_131_207, s_131_210, s_131_212, s_131_214, s_131_215, s_131_216, s_131_219, s_131_221, s_131_223, s_131_224, s_131_225, s_131_226, s_131_229, eq_self, true_or, or_true, or_false, false_or, not_true_eq_false, not_false_eq_true, true_and, and_true, false_and, and_false, iR_r, iR_n, iR_f, iI_i, iJ_j, iF_f, iD_d, c1_n, c1_i, c1_r, c1_0, c1_f, c1_q, sw_0, sw_i, sw_j, sw_r, sw_rr, sw_ii, sw_ir, sw_ri, sw_rj, sw_jj, bd_s, bd_n, tl_s, tl_n, if_true, if_false, oz_1, oz_0, hs_1, kt_i, kt_j, kt_f, kt_d, kt_r, gm_0, gm_1, gm_2, gm_3, gm_4, gm_5, gm_6, gm_7, gm_8, gm_9, gm_10, gm_11, gm_12, gm_13, gm_14, gm_15, gm_16, gm_17, gm_18, gm_19, gm_20, gm_21, gm_22, gm_23, gm_24, gm_25, gm_26, gm_27, gm_28, kl_m, pm_2, pm_6, pm_8, pm_11, pm_15, pm_23, pm_25, pm_27, pm_22, pm_28, rd_m0, wr_m0, ln_m0, rd_m1, wr_m1, ln_m1, rd_m2, wr_m2, ln_m2, rd_m3, wr_m3, ln_m3, rd_m4, wr_m4, ln_m4, rd_m5, wr_m5, ln_m5, rd_m6, wr_m6, ln_m6, rd_m7, wr_m7, ln_m7, rd_m8, wr_m8, ln_m8, rd_m9, wr_m9, ln_m9, rd_m10, wr_m10, ln_m10, rd_m11, wr_m11, ln_m11, rd_m12, wr_m12, ln_m12, rd_m13, wr_m13, ln_m13, rd_m14, wr_m14, ln_m14, rd_m15, wr_m15, ln_m15, rd_m16, wr_m16, ln_m16, rd_m17, wr_m17, ln_m17, rd_mw, wr_mw, ln_mw, q, nI_add, y1, y2, y3, y4, y5, nI_s, mc_f]
    exact ih'
theorem cp_b {v1 v2 v3 v4 v6 v7 : Option Value} {n a d : Nat} (hn : n ≤ 16) (ha : a + n ≤ 36000) (hd : d + n ≤ 36000) (had : a ≤ d) : ∀ k, k ≤ n → RUN 131 (hs B c (mc m a d k n) θ z l, 241, [some (.ref (B + 6)), v1, v2, v3, v4, some (.int (nI n)), v6, v7, some (.int (nI a)), some (.int (nI d)), some (.int (nI k - 1))], []) = some (some (.int 0), hs B c (mc m a d 0 n) θ z l) := by
  intro k
  induction k with
  | zero =>
    intro e
    have q : (nI 0 - 1 < 0) = True := eq_true (by decide)
    simp only [s_131_241, s_131_243, s_131_272, s_131_273, eq_self, true_or, or_true, or_false, false_or, not_true_eq_false, not_false_eq_true, true_and, and_true, false_and, and_false, iR_r, iR_n, iR_f, iI_i, iJ_j, iF_f, iD_d, c1_n, c1_i, c1_r, c1_0, c1_f, c1_q, sw_0, sw_i, sw_j, sw_r, sw_rr, sw_ii, sw_ir, sw_ri, sw_rj, sw_jj, bd_s, bd_n, tl_s, tl_n, if_true, if_false, oz_1, oz_0, hs_1, kt_i, kt_j, kt_f, kt_d, kt_r, q]
  | succ k ih =>
    intro e
    have q : (nI k < 0) = False := (nI_nn (by omega)).1
    have y1 : ev_out (nI (d + k)) 36000 = false := ox_n (by omega) (by decide)
    have y2 : (nI (d + k)).toNatClampNeg = d + k := nI_clamp (by omega)
    have y3 : ev_out (nI (a + k)) 36000 = false := ox_n (by omega) (by decide)
    have y4 : (nI (a + k)).toNatClampNeg = a + k := nI_clamp (by omega)
    have y5 : (mc m a d (k + 1) n).2.1 (a + k) = m.2.1 (a + k) := if_neg (by omega)
    have ih' := ih (by omega)
    rw [nI_p (by omega), s_131_241]
    simp only [s_131_243, s_131_246, s_131_247, s_131_250, s_131_252, s_131_254, s_131_255, s_131_256, s_131_259, s_131_261, s_131_263, s_131_264, s_131_265, s_131_266, s_131_269, eq_self, true_or, or_true, or_false, false_or, not_true_eq_false, not_false_eq_true, true_and, and_true, false_and, and_false, iR_r, iR_n, iR_f, iI_i, iJ_j, iF_f, iD_d, c1_n, c1_i, c1_r, c1_0, c1_f, c1_q, sw_0, sw_i, sw_j, sw_r, sw_rr, sw_ii, sw_ir, sw_ri, sw_rj, sw_jj, bd_s, bd_n, tl_s, tl_n, if_true, if_false, oz_1, oz_0, hs_1, kt_i, kt_j, kt_f, kt_d, kt_r, gm_0, gm_1, gm_2, gm_3, gm_4, gm_5, gm_6, gm_7, gm_8, gm_9, gm_10, gm_11, gm_12, gm_13, gm_14, gm_15, gm_16, gm_17, gm_18, gm_19, gm_20, gm_21, gm_22, gm_23, gm_24, gm_25, gm_26, gm_27, gm_28, kl_m, pm_2, pm_6, pm_8, pm_11, pm_15, pm_23, pm_25, pm_27, pm_22, pm_28, rd_m0, wr_m0, ln_m0, rd_m1, wr_m1, ln_m1, rd_m2, wr_m2, ln_m2, rd_m3, wr_m3, ln_m3, rd_m4, wr_m4, ln_m4, rd_m5, wr_m5, ln_m5, rd_m6, wr_m6, ln_m6, rd_m7, wr_m7, ln_m7, rd_m8, wr_m8, ln_m8, rd_m9, wr_m9, ln_m9, rd_m10, wr_m10, ln_m10, rd_m11, wr_m11, ln_m11, rd_m12, wr_m12, ln_m12, rd_m13, wr_m13, ln_m13, rd_m14, wr_m14, ln_m14, rd_m15, wr_m15, ln_m15, rd_m16, wr_m16, ln_m16, rd_m17, wr_m17, ln_m17, rd_mw, wr_mw, ln_mw, q, nI_add, y1, y2, y3, y4, y5, am1, mc_b (show k < n by omega)]
    exact ih'
abbrev HP (i n : Int32) (sz : Nat) : Prop := 0 ≤ i.toInt ∧ 0 ≤ n.toInt ∧ i.toInt + n.toInt ≤ sz
theorem c_hp {i n : Int32} {sz ra wa : Nat} (hsz : sz ≤ 16) (g1 : ev_gf σ ra 1 1 = some (.ref wa)) (l0 : ev_len σ wa = some (nI sz)) : EV 6 [.ref ra, .int i, .int n] σ = some (some (.int (bI (HP i n sz))), σ) := by
  have t0 : (0 : Int32).toInt = 0 := by decide
  by_cases i0 : i < 0
  · rw [bI_f (by rw [i32_lt, t0] at i0; intro q; have := q.1; omega)]
    simp only [e_6, s_6_0, s_6_1, s_6_4, s_6_5, s_6_8, s_6_9, s_6_10, s_6_13, s_6_14, s_6_17, s_6_18, s_6_19, s_6_22, s_6_23, s_6_24, s_6_25, s_6_28, s_6_29, s_6_32, s_6_33, eq_self, true_or, or_true, or_false, false_or, not_true_eq_false, not_false_eq_true, true_and, and_true, false_and, and_false, iR_r, iR_n, iR_f, iI_i, iJ_j, iF_f, iD_d, c1_n, c1_i, c1_r, c1_0, c1_f, c1_q, sw_0, sw_i, sw_j, sw_r, sw_rr, sw_ii, sw_ir, sw_ri, sw_rj, sw_jj, bd_s, bd_n, tl_s, tl_n, if_true, if_false, oz_1, oz_0, hs_1, kt_i, kt_j, kt_f, kt_d, kt_r, eq_true i0]
  by_cases n0 : n < 0
  · rw [bI_f (by rw [i32_lt, t0] at n0; intro q; have := q.2.1; omega)]
    simp only [e_6, s_6_0, s_6_1, s_6_4, s_6_5, s_6_8, s_6_9, s_6_10, s_6_13, s_6_14, s_6_17, s_6_18, s_6_19, s_6_22, s_6_23, s_6_24, s_6_25, s_6_28, s_6_29, s_6_32, s_6_33, eq_self, true_or, or_true, or_false, false_or, not_true_eq_false, not_false_eq_true, true_and, and_true, false_and, and_false, iR_r, iR_n, iR_f, iI_i, iJ_j, iF_f, iD_d, c1_n, c1_i, c1_r, c1_0, c1_f, c1_q, sw_0, sw_i, sw_j, sw_r, sw_rr, sw_ii, sw_ir, sw_ri, sw_rj, sw_jj, bd_s, bd_n, tl_s, tl_n, if_true, if_false, oz_1, oz_0, hs_1, kt_i, kt_j, kt_f, kt_d, kt_r, eq_false i0, eq_true n0]
  rw [i32_lt, t0] at i0 n0
  have i0' : (i < 0) = False := eq_false (by rw [i32_lt, t0]; exact i0)
  have n0' : (n < 0) = False := eq_false (by rw [i32_lt, t0]; exact n0)
  by_cases nl : nI sz < n
  · rw [bI_f (by rw [i32_lt, nI_toInt (by omega)] at nl; intro q; have := q.2.2; omega)]
    simp only [e_6, s_6_0, s_6_1, s_6_4, s_6_5, s_6_8, s_6_9, s_6_10, s_6_13, s_6_14, s_6_17, s_6_18, s_6_19, s_6_22, s_6_23, s_6_24, s_6_25, s_6_28, s_6_29, s_6_32, s_6_33, eq_self, true_or, or_true, or_false, false_or, not_true_eq_false, not_false_eq_true, true_and, and_true, false_and, and_false, iR_r, iR_n, iR_f, iI_i, iJ_j, iF_f, iD_d, c1_n, c1_i, c1_r, c1_0, c1_f, c1_q, sw_0, sw_i, sw_j, sw_r, sw_rr, sw_ii, sw_ir, sw_ri, sw_rj, sw_jj, bd_s, bd_n, tl_s, tl_n, if_true, if_false, oz_1, oz_0, hs_1, kt_i, kt_j, kt_f, kt_d, kt_r, i0', n0', g1, l0, eq_true nl]
  have nl' := nl
  rw [i32_lt, nI_toInt (by omega)] at nl'
  have es : (nI sz - n).toInt = sz - n.toInt := by
    rw [Int32.toInt_sub, nI_toInt (by omega), Int.bmod_eq_of_le (by omega) (by omega)]
  by_cases il : nI sz - n < i
  · rw [bI_f (by rw [i32_lt, es] at il; intro q; have := q.2.2; omega)]
    simp only [e_6, s_6_0, s_6_1, s_6_4, s_6_5, s_6_8, s_6_9, s_6_10, s_6_13, s_6_14, s_6_17, s_6_18, s_6_19, s_6_22, s_6_23, s_6_24, s_6_25, s_6_28, s_6_29, s_6_32, s_6_33, eq_self, true_or, or_true, or_false, false_or, not_true_eq_false, not_false_eq_true, true_and, and_true, false_and, and_false, iR_r, iR_n, iR_f, iI_i, iJ_j, iF_f, iD_d, c1_n, c1_i, c1_r, c1_0, c1_f, c1_q, sw_0, sw_i, sw_j, sw_r, sw_rr, sw_ii, sw_ir, sw_ri, sw_rj, sw_jj, bd_s, bd_n, tl_s, tl_n, if_true, if_false, oz_1, oz_0, hs_1, kt_i, kt_j, kt_f, kt_d, kt_r, i0', n0', g1, l0, eq_false nl, eq_true il]
  · rw [bI_t (by rw [i32_lt, es] at il; exact ⟨by omega, by omega, by omega⟩)]
    simp only [e_6, s_6_0, s_6_1, s_6_4, s_6_5, s_6_8, s_6_9, s_6_10, s_6_13, s_6_14, s_6_17, s_6_18, s_6_19, s_6_22, s_6_23, s_6_24, s_6_25, s_6_28, s_6_29, s_6_32, s_6_33, eq_self, true_or, or_true, or_false, false_or, not_true_eq_false, not_false_eq_true, true_and, and_true, false_and, and_false, iR_r, iR_n, iR_f, iI_i, iJ_j, iF_f, iD_d, c1_n, c1_i, c1_r, c1_0, c1_f, c1_q, sw_0, sw_i, sw_j, sw_r, sw_rr, sw_ii, sw_ir, sw_ri, sw_rj, sw_jj, bd_s, bd_n, tl_s, tl_n, if_true, if_false, oz_1, oz_0, hs_1, kt_i, kt_j, kt_f, kt_d, kt_r, i0', n0', g1, l0, eq_false nl, eq_false il]
theorem t64 {i n : Int32} {sz : Nat} (hsz : sz ≤ 16) (h1 : 0 ≤ i.toInt) (h2 : 0 ≤ n.toInt) : ((nI sz).toInt64 < i.toInt64 + n.toInt64) = ((sz : Int) < i.toInt + n.toInt) := by
  apply propext
  have a1 := i.toInt_lt
  have a2 := n.toInt_lt
  rw [Int64.lt_iff_toInt_lt, Int64.toInt_add, Int32.toInt_toInt64, Int32.toInt_toInt64, Int32.toInt_toInt64, nI_toInt (by omega), Int.bmod_eq_of_le (by omega) (by omega)]
theorem u64 {i n : Int32} {sz : Nat} (hsz : sz ≤ 16) (h1 : 0 ≤ i.toInt) (h2 : 0 ≤ n.toInt) : (i.toInt64 + n.toInt64 ≤ (nI sz).toInt64) = (i.toInt + n.toInt ≤ (sz : Int)) := by
  apply propext
  have a1 := i.toInt_lt
  have a2 := n.toInt_lt
  rw [Int64.le_iff_toInt_le, Int64.toInt_add, Int32.toInt_toInt64, Int32.toInt_toInt64, Int32.toInt_toInt64, nI_toInt (by omega), Int.bmod_eq_of_le (by omega) (by omega)]
end CPY
