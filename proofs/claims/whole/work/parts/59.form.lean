-- FLOATFORM: what is left, packed, cut
theorem nI_m1 (n : Nat) : nI (n + 1) + (-1) = nI n := by
  rw [nI_succ, Int32.add_assoc, show (1 : Int32) + -1 = 0 by decide, Int32.add_zero]
theorem nI_m10 (n : Nat) : nI (n + 10) + (-10) = nI n := by
  rw [← nI_add, Int32.add_assoc, show nI 10 + -10 = 0 by decide, Int32.add_zero]
theorem jl_shlA {a : Nat} : JL a <<< ((1 : Int32).toInt64 &&& 63) = JL (a * 2) := jl_shl (k := 1) (by omega)
theorem jl_shlB {a : Nat} : JL a <<< ((10 : Int32).toInt64 &&& 63) = JL (a * 2 ^ 10) := jl_shl (k := 10) (by omega)
section FML
variable {σ : ev_H} {a F b K S R : Nat} {s t : Bool}
theorem f_pkV {F pw mv : Nat} (hp : 1 ≤ pw) (hm : mv < 2 ^ (F + 1)) (h : pw = 1 ∨ 2 ^ F ≤ mv) : fp_vl F ((pw - 1) * 2 ^ F + mv) = mv * 2 ^ (pw - 1) := by
  rw [Nat.pow_succ] at hm
  by_cases hle : mv ≤ 2 ^ F
  · rcases h with h | h
    · subst h
      rw [Nat.sub_self, Nat.zero_mul, Nat.zero_add, fp_lo hle, Nat.pow_zero, Nat.mul_one]
    · have e : (pw - 1) * 2 ^ F + mv = pw * 2 ^ F + (mv - 2 ^ F) := by
        obtain ⟨d, rfl⟩ : ∃ d, pw = d + 1 := ⟨pw - 1, by omega⟩
        rw [Nat.succ_mul, Nat.add_sub_cancel]; omega
      rw [e, fp_hi hp (by omega), show 2 ^ F + (mv - 2 ^ F) = mv by omega]
  · have e : (pw - 1) * 2 ^ F + mv = pw * 2 ^ F + (mv - 2 ^ F) := by
      obtain ⟨d, rfl⟩ : ∃ d, pw = d + 1 := ⟨pw - 1, by omega⟩
      rw [Nat.succ_mul, Nat.add_sub_cancel]; omega
    rw [e, fp_hi hp (by omega), show 2 ^ F + (mv - 2 ^ F) = mv by omega]
theorem f_pkX (f : FM σ a F b K) {pw mv : Nat} (hp : 1 ≤ pw) (hp2 : pw < 4096) {l1 l2 l3 l4 l5 l7 : Option Value} : RUN 23 (σ, 48, [some (.ref a), l1, l2, l3, l4, l5, some (.long (JL mv)), l7, some (.int (nI pw))], []) = some (some (.long (JL ((pw - 1) * 2 ^ F + mv))), σ) := by
  obtain ⟨h1, h2, h3, h4, h5, h6, h7, h8⟩ := f.n
  simp only [s_23_48, s_23_50, s_23_51, s_23_52, s_23_53, s_23_54, s_23_57, s_23_58, s_23_60, s_23_61, eq_self, true_or, or_true, or_false, false_or, not_true_eq_false, not_false_eq_true, true_and, and_true, false_and, and_false, iR_r, iR_n, iR_f, iI_i, iJ_j, iF_f, iD_d, c1_n, c1_i, c1_r, c1_0, c1_f, c1_q, sw_0, sw_i, sw_j, sw_r, sw_rr, sw_ii, sw_ir, sw_ri, sw_rj, sw_jj, bd_s, bd_n, tl_s, tl_n, if_true, if_false, oz_1, oz_0, hs_1, kt_i, kt_j, kt_f, kt_d, kt_r, f.2.1]
  rw [show nI pw - 1 = nI (pw - 1) from nI_sub (a := pw) (b := 1) hp, nI_jl (by omega), jl_shl (by omega), jl_add]
theorem f_pkL (f : FM σ a F b K) {l1 l2 l3 : Option Value} : ∀ (pw mv : Nat), pw < 4095 → mv < 2 ^ (F + 1) → ∃ Z, RUN 23 (σ, 22, [some (.ref a), l1, l2, l3, some (.long (JL (2 ^ F))), none, some (.long (JL mv)), none, some (.int (nI (pw + 1)))], []) = some (some (.long (JL Z)), σ) ∧ fp_vl F Z = mv * 2 ^ pw ∧ Z < (pw + 2) * 2 ^ F
  | 0, mv, _, hm => by
    refine ⟨(1 - 1) * 2 ^ F + mv, ?_, f_pkV (by omega) hm (Or.inl rfl), by rw [Nat.pow_succ] at hm; omega⟩
    rw [s_23_22]
    simp only [s_23_24, s_23_25, eq_self, true_or, or_true, or_false, false_or, not_true_eq_false, not_false_eq_true, true_and, and_true, false_and, and_false, iR_r, iR_n, iR_f, iI_i, iJ_j, iF_f, iD_d, c1_n, c1_i, c1_r, c1_0, c1_f, c1_q, sw_0, sw_i, sw_j, sw_r, sw_rr, sw_ii, sw_ir, sw_ri, sw_rj, sw_jj, bd_s, bd_n, tl_s, tl_n, if_true, if_false, oz_1, oz_0, hs_1, kt_i, kt_j, kt_f, kt_d, kt_r, show (nI (0 + 1) ≤ (1 : Int32)) = True by decide]
    exact f_pkX f (by omega) (by omega)
  | pw + 1, mv, hpw, hm => by
    obtain ⟨h1, h2, h3, h4, h5, h6, h7, h8⟩ := f.n
    have hm2 := hm
    rw [Nat.pow_succ] at hm2
    have e1 : (nI (pw + 1 + 1) ≤ (1 : Int32)) = False := eq_false (fun q => by have := (nI_leI (a := pw + 1 + 1) (b := 1) (by omega) (by omega)).mp q; omega)
    have e2 : (JL (2 ^ F) ≤ JL mv) = (2 ^ F ≤ mv) := jl_le (by omega) (by omega)
    by_cases hc : 2 ^ F ≤ mv
    · refine ⟨(pw + 1 + 1 - 1) * 2 ^ F + mv, ?_, f_pkV (by omega) hm (Or.inr hc), ?_⟩
      · rw [s_23_22]
        simp only [s_23_24, s_23_25, s_23_28, s_23_30, s_23_32, s_23_33, eq_self, true_or, or_true, or_false, false_or, not_true_eq_false, not_false_eq_true, true_and, and_true, false_and, and_false, iR_r, iR_n, iR_f, iI_i, iJ_j, iF_f, iD_d, c1_n, c1_i, c1_r, c1_0, c1_f, c1_q, sw_0, sw_i, sw_j, sw_r, sw_rr, sw_ii, sw_ir, sw_ri, sw_rj, sw_jj, bd_s, bd_n, tl_s, tl_n, if_true, if_false, oz_1, oz_0, hs_1, kt_i, kt_j, kt_f, kt_d, kt_r, e1, lc_ge, e2, eq_true hc]
        exact f_pkX f (by omega) (by omega)
      · rw [show pw + 1 + 1 - 1 = pw + 1 by omega, show (pw + 1 + 2) * 2 ^ F = (pw + 1) * 2 ^ F + 2 * 2 ^ F by rw [Nat.add_mul]]; omega
    · obtain ⟨Z, i1, i2, i3⟩ := f_pkL f (l1 := l1) (l2 := l2) (l3 := l3) pw (mv * 2) (by omega) (by rw [Nat.pow_succ]; omega)
      refine ⟨Z, ?_, ?_, Nat.lt_of_lt_of_le i3 (Nat.mul_le_mul_right _ (by omega))⟩
      · rw [s_23_22]
        simp only [s_23_24, s_23_25, s_23_28, s_23_30, s_23_32, s_23_33, s_23_36, s_23_38, s_23_39, s_23_40, s_23_42, s_23_45, eq_self, true_or, or_true, or_false, false_or, not_true_eq_false, not_false_eq_true, true_and, and_true, false_and, and_false, iR_r, iR_n, iR_f, iI_i, iJ_j, iF_f, iD_d, c1_n, c1_i, c1_r, c1_0, c1_f, c1_q, sw_0, sw_i, sw_j, sw_r, sw_rr, sw_ii, sw_ir, sw_ri, sw_rj, sw_jj, bd_s, bd_n, tl_s, tl_n, if_true, if_false, oz_1, oz_0, hs_1, kt_i, kt_j, kt_f, kt_d, kt_r, e1, lc_ge, e2, eq_false hc, jl_shlA, nI_m1]
        exact i1
      · rw [i2, Nat.pow_succ, Nat.mul_assoc, Nat.mul_comm 2]
theorem f_packed (f : FM σ a F b K) {d e : Nat} (hd : d < 2 ^ (F + 1)) (he : 1 ≤ e) (he2 : e < 4095) : ∃ Z, EV 23 [.ref a, .long (JL d), .int (nI e)] σ = some (some (.long (JL Z)), σ) ∧ fp_vl F Z = d * 2 ^ (e - 1) ∧ Z < (e + 1) * 2 ^ F := by
  obtain ⟨h1, h2, h3, h4, h5, h6, h7, h8⟩ := f.n
  have hd2 := hd
  rw [Nat.pow_succ] at hd2
  have e0 : (JL d = 0) = (d = 0) := by rw [jl_zero, jl_eq (by omega) (by omega)]
  by_cases h0 : d = 0
  · refine ⟨0, ?_, by rw [fp_zero, h0, Nat.zero_mul], Nat.mul_pos (by omega) (fp_pos F)⟩
    simp only [e_23, s_23_0, s_23_1, s_23_2, s_23_3, s_23_6, s_23_7, eq_self, true_or, or_true, or_false, false_or, not_true_eq_false, not_false_eq_true, true_and, and_true, false_and, and_false, iR_r, iR_n, iR_f, iI_i, iJ_j, iF_f, iD_d, c1_n, c1_i, c1_r, c1_0, c1_f, c1_q, sw_0, sw_i, sw_j, sw_r, sw_rr, sw_ii, sw_ir, sw_ri, sw_rj, sw_jj, bd_s, bd_n, tl_s, tl_n, if_true, if_false, oz_1, oz_0, hs_1, kt_i, kt_j, kt_f, kt_d, kt_r, lc_eq, e0, eq_true h0]
    rfl
  · obtain ⟨Z, i1, i2, i3⟩ := f_pkL f (l1 := some (.long (JL d))) (l2 := none) (l3 := some (.int (nI e))) (e - 1) d (by omega) hd
    rw [show e - 1 + 1 = e by omega] at i1
    refine ⟨Z, ?_, i2, by rw [show e + 1 = e - 1 + 2 by omega]; exact i3⟩
    simp only [e_23, s_23_0, s_23_1, s_23_2, s_23_3, s_23_6, s_23_7, s_23_8, s_23_9, s_23_10, s_23_13, s_23_14, s_23_16, s_23_17, s_23_19, s_23_20, eq_self, true_or, or_true, or_false, false_or, not_true_eq_false, not_false_eq_true, true_and, and_true, false_and, and_false, iR_r, iR_n, iR_f, iI_i, iJ_j, iF_f, iD_d, c1_n, c1_i, c1_r, c1_0, c1_f, c1_q, sw_0, sw_i, sw_j, sw_r, sw_rr, sw_ii, sw_ir, sw_ri, sw_rj, sw_jj, bd_s, bd_n, tl_s, tl_n, if_true, if_false, oz_1, oz_0, hs_1, kt_i, kt_j, kt_f, kt_d, kt_r, lc_eq, e0, eq_false h0, f.2.1, jl_shl1 (show F < 64 by omega)]
    exact i1
theorem f_lfX (f : FM σ a F b K) {D : Nat} (hD : D < 2 ^ (F + 1)) {l0 l1 l2 l3 l4 l5 l6 : Option Value} : ∀ (n k : Nat) (r : Nat), k ≤ n → k < 4096 → r < D → ∃ w, RUN 22 (σ, 68, [l0, l1, l2, l3, l4, l5, l6, some (.long (JL D)), none, some (.long (JL r)), none, some (.int (nI k))], []) = RUN 22 (σ, 94, [l0, l1, l2, l3, l4, l5, l6, some (.long (JL D)), none, some (.long (JL (r * 2 ^ k % D))), none, some (.int w)], [])
  | n, 0, r, _, _, hr => by
    refine ⟨nI 0, ?_⟩
    rw [s_22_68]
    simp only [s_22_70, eq_self, true_or, or_true, or_false, false_or, not_true_eq_false, not_false_eq_true, true_and, and_true, false_and, and_false, iR_r, iR_n, iR_f, iI_i, iJ_j, iF_f, iD_d, c1_n, c1_i, c1_r, c1_0, c1_f, c1_q, sw_0, sw_i, sw_j, sw_r, sw_rr, sw_ii, sw_ir, sw_ri, sw_rj, sw_jj, bd_s, bd_n, tl_s, tl_n, if_true, if_false, oz_1, oz_0, hs_1, kt_i, kt_j, kt_f, kt_d, kt_r, show (nI 0 ≤ (0 : Int32)) = True by decide]
    rw [Nat.pow_zero, Nat.mul_one, Nat.mod_eq_of_lt hr]
  | 0, k + 1, r, hk, _, _ => by omega
  | n + 1, k + 1, r, hk, hk2, hr => by
    obtain ⟨h1, h2, h3, h4, h5, h6, h7, h8⟩ := f.n
    have hD2 := hD
    rw [Nat.pow_succ] at hD2
    have e1 : (nI (k + 1) ≤ (0 : Int32)) = False := eq_false (fun q => by have := (nI_leI (a := k + 1) (b := 0) (by omega) (by omega)).mp q; omega)
    have eD : (JL D = 0) = False := by rw [jl_zero, jl_eq (by omega) (by omega)]; exact eq_false (by omega)
    have e2 : ((10 : Int32) < nI (k + 1)) = (10 < k + 1) := propext (nI_ltI (a := 10) (by omega) (by omega))
    by_cases hc : 10 < k + 1
    · obtain ⟨w, i1⟩ := f_lfX f hD (l0 := l0) (l1 := l1) (l2 := l2) (l3 := l3) (l4 := l4) (l5 := l5) (l6 := l6) n (k + 1 - 10) (r * 2 ^ 10 % D) (by omega) (by omega) (Nat.mod_lt _ (by omega))
      refine ⟨w, ?_⟩
      have e3 : nI (k + 1) + (-10) = nI (k + 1 - 10) := by
        have := nI_m10 (k + 1 - 10)
        rwa [show k + 1 - 10 + 10 = k + 1 by omega] at this
      rw [s_22_68]
      simp only [s_22_70, s_22_73, s_22_75, s_22_77, s_22_79, s_22_82, s_22_83, s_22_85, s_22_86, s_22_88, s_22_91, eq_self, true_or, or_true, or_false, false_or, not_true_eq_false, not_false_eq_true, true_and, and_true, false_and, and_false, iR_r, iR_n, iR_f, iI_i, iJ_j, iF_f, iD_d, c1_n, c1_i, c1_r, c1_0, c1_f, c1_q, sw_0, sw_i, sw_j, sw_r, sw_rr, sw_ii, sw_ir, sw_ri, sw_rj, sw_jj, bd_s, bd_n, tl_s, tl_n, if_true, if_false, oz_1, oz_0, hs_1, kt_i, kt_j, kt_f, kt_d, kt_r, e1, e2, eD, eq_true hc, jl_shlB, jl_rem (a := r * 2 ^ 10) (b := D) (by omega) (by omega), e3]
      rw [i1]
      have e4 : r * 2 ^ 10 % D * 2 ^ (k + 1 - 10) % D = r * 2 ^ (k + 1) % D := by
        rw [Nat.mul_mod, Nat.mod_mod, ← Nat.mul_mod, Nat.mul_assoc, ← Nat.pow_add, show 10 + (k + 1 - 10) = k + 1 by omega]
      rw [e4]
    · refine ⟨nI (k + 1) + (-10), ?_⟩
      have e3 : (nI (k + 1) + (-10) ≤ 0) = True := eq_true (by
        rw [show nI (k + 1) + (-10) = nI (k + 1) - nI 10 by rw [Int32.sub_eq_add_neg]; rfl, i32_le, nI_subI (by omega) (by omega), show (0 : Int32).toInt = 0 by decide]; omega)
      have e5 : r * 2 ^ (k + 1) < 2 ^ 63 := by
        have h9 : 2 ^ (k + 1) ≤ 2 ^ 10 := Nat.pow_le_pow_right (by omega) (by omega)
        exact Nat.lt_of_lt_of_le (Nat.mul_lt_mul_of_lt_of_le (show r < 2 ^ 53 by omega) h9 (by decide)) (by decide)
      rw [s_22_68]
      simp only [s_22_70, s_22_73, s_22_75, s_22_77, s_22_79, s_22_82, s_22_83, s_22_85, s_22_86, s_22_88, s_22_91, eq_self, true_or, or_true, or_false, false_or, not_true_eq_false, not_false_eq_true, true_and, and_true, false_and, and_false, iR_r, iR_n, iR_f, iI_i, iJ_j, iF_f, iD_d, c1_n, c1_i, c1_r, c1_0, c1_f, c1_q, sw_0, sw_i, sw_j, sw_r, sw_rr, sw_ii, sw_ir, sw_ri, sw_rj, sw_jj, bd_s, bd_n, tl_s, tl_n, if_true, if_false, oz_1, oz_0, hs_1, kt_i, kt_j, kt_f, kt_d, kt_r, e1, e2, eD, eq_false hc, jl_shl (a := r) (k := k + 1) (by omega), jl_rem (a := r * 2 ^ (k + 1)) (b := D) e5 (by omega)]
      rw [s_22_68]
      simp only [s_22_70, eq_self, true_or, or_true, or_false, false_or, not_true_eq_false, not_false_eq_true, true_and, and_true, false_and, and_false, iR_r, iR_n, iR_f, iI_i, iJ_j, iF_f, iD_d, c1_n, c1_i, c1_r, c1_0, c1_f, c1_q, sw_0, sw_i, sw_j, sw_r, sw_rr, sw_ii, sw_ir, sw_ri, sw_rj, sw_jj, bd_s, bd_n, tl_s, tl_n, if_true, if_false, oz_1, oz_0, hs_1, kt_i, kt_j, kt_f, kt_d, kt_r, e3]
theorem FM.fd (f : FM σ a F b K) (hS : S < 2 ^ K) : 1 ≤ fp_fd F S ∧ fp_fd F S ≤ 2 * b + 1 := by
  obtain ⟨h1, h2, h3, h4, h5, h6, h7, h8⟩ := f.n
  have hq := f.q hS
  unfold fp_fd
  split
  · omega
  · have : 1 ≤ S / 2 ^ F := (Nat.one_le_div_iff (fp_pos F)).mpr (by omega)
    omega
theorem fp_fd_le {F S R : Nat} (h : S ≤ R) : fp_fd F S ≤ fp_fd F R := by
  unfold fp_fd
  have h1 : S / 2 ^ F ≤ R / 2 ^ F := Nat.div_le_div_right h
  by_cases hS : S < 2 ^ F
  · rw [if_pos hS]
    split
    · omega
    · exact (Nat.one_le_div_iff (fp_pos F)).mpr (by omega)
  · rw [if_neg hS, if_neg (by omega)]; exact h1
theorem fp_fd_top {F S n : Nat} (hn : 1 ≤ n) (h : S < n * 2 ^ F) : fp_fd F S ≤ n - 1 ∨ fp_fd F S = 1 := by
  unfold fp_fd
  split
  · exact Or.inr rfl
  · have : S / 2 ^ F < n := (Nat.div_lt_iff_lt_mul (fp_pos F)).mpr h
    omega
theorem f_left (f : FM σ a F b K) (hS : S < (2 * b + 1) * 2 ^ F) (hR : R ≤ (2 * b + 1) * 2 ^ F) (hR0 : R ≠ 0) : ∃ Z, EV 22 [.ref a, .long (jw K s S), .long (jw K t R)] σ = some (some (.long (jw K s Z)), σ) ∧ (R < (2 * b + 1) * 2 ^ F → fp_vl F Z = fp_vl F S % fp_vl F R) ∧ (R = (2 * b + 1) * 2 ^ F → Z = S) ∧ Z < (2 * b + 1) * 2 ^ F := by
  obtain ⟨h1, h2, h3, h4, h5, h6, h7, h8⟩ := f.n
  have hp := fp_pos F
  have hSK : S < 2 ^ K := Nat.lt_trans hS f.top.1
  have hRK : R < 2 ^ K := Nat.lt_of_le_of_lt hR f.top.1
  have hfS := f.fd hSK
  have hfR := f.fd hRK
  have hdS := fp_dg_lt F S
  have hdR := fp_dg_lt F R
  have hd0 : fp_dg F R ≠ 0 := fun q => hR0 (fp_dg0.mp q)
  rw [Nat.pow_succ] at hdS hdR
  by_cases hc : fp_fd F S < fp_fd F R
  · have hlt : S < R := by
      rcases Nat.lt_or_ge S R with q | q
      · exact q
      · have := fp_fd_le (F := F) q; omega
    refine ⟨S, ?_, fun _ => (Nat.mod_eq_of_lt (fp_lt hlt)).symm, fun _ => rfl, hS⟩
    have e1 : (nI (fp_fd F S) - nI (fp_fd F R) < 0) = True := eq_true (by
      rw [i32_lt, nI_subI (by omega) (by omega), show (0 : Int32).toInt = 0 by decide]; omega)
    simp only [e_22, s_22_0, s_22_1, s_22_2, s_22_3, s_22_6, s_22_9, s_22_11, s_22_12, s_22_13, s_22_14, s_22_17, s_22_20, s_22_22, s_22_23, s_22_25, s_22_26, s_22_27, s_22_28, s_22_31, s_22_34, s_22_36, s_22_38, s_22_41, s_22_43, s_22_44, s_22_45, s_22_48, s_22_49, eq_self, true_or, or_true, or_false, false_or, not_true_eq_false, not_false_eq_true, true_and, and_true, false_and, and_false, iR_r, iR_n, iR_f, iI_i, iJ_j, iF_f, iD_d, c1_n, c1_i, c1_r, c1_0, c1_f, c1_q, sw_0, sw_i, sw_j, sw_r, sw_rr, sw_ii, sw_ir, sw_ri, sw_rj, sw_jj, bd_s, bd_n, tl_s, tl_n, if_true, if_false, oz_1, oz_0, hs_1, kt_i, kt_j, kt_f, kt_d, kt_r, f.1, f_size (s := s) f hSK, f_size (s := t) f hRK, f_field f hSK, f_field f hRK, f_dig f hRK, e1]
  · have hRt : R < (2 * b + 1) * 2 ^ F := by
      rcases Nat.lt_or_ge R ((2 * b + 1) * 2 ^ F) with q | q
      · exact q
      · have e : R = (2 * b + 1) * 2 ^ F := by omega
        have hge : ¬ (2 * b + 1) * 2 ^ F < 2 ^ F := by
          have := Nat.mul_le_mul_right (2 ^ F) (show 1 ≤ 2 * b + 1 by omega)
          omega
        have e2 : fp_fd F R = 2 * b + 1 := by
          rw [e]; unfold fp_fd; rw [if_neg hge, Nat.mul_div_left _ hp]
        rcases fp_fd_top (F := F) (by omega) hS with q | q <;> omega
    obtain ⟨j, hj⟩ := fp_fd1 F S
    obtain ⟨k, hk⟩ := fp_fd1 F R
    obtain ⟨w, i1⟩ := f_lfX f (D := fp_dg F R) (by rw [Nat.pow_succ]; exact hdR) (l0 := some (.ref a)) (l1 := some (.long (jw K s S))) (l2 := none) (l3 := some (.long (jw K t R))) (l4 := none) (l5 := some (.int (nI (fp_fd F R)))) (l6 := some (.int (nI (fp_fd F S - fp_fd F R)))) (fp_fd F S - fp_fd F R) (fp_fd F S - fp_fd F R) (fp_dg F S % fp_dg F R) (Nat.le_refl _) (by omega) (Nat.mod_lt _ (by omega))
    have e4 : fp_dg F S % fp_dg F R * 2 ^ (fp_fd F S - fp_fd F R) % fp_dg F R = fp_dg F S * 2 ^ (fp_fd F S - fp_fd F R) % fp_dg F R := by
      rw [Nat.mul_mod, Nat.mod_mod, ← Nat.mul_mod]
    rw [e4] at i1
    have hml : fp_dg F S * 2 ^ (fp_fd F S - fp_fd F R) % fp_dg F R < fp_dg F R := Nat.mod_lt _ (by omega)
    obtain ⟨Z, p1, p2, p3⟩ := f_packed f (d := fp_dg F S * 2 ^ (fp_fd F S - fp_fd F R) % fp_dg F R) (e := fp_fd F R) (by rw [Nat.pow_succ]; omega) hfR.1 (by omega)
    have hv : fp_vl F Z = fp_vl F S % fp_vl F R := by
      rw [p2, fp_vlj hj, fp_vlj hk, hk, Nat.add_sub_cancel, ← Nat.mul_mod_mul_right, hj, Nat.mul_assoc, ← Nat.pow_add, show j + 1 - (k + 1) + k = j by omega]
    have hZ : Z < (2 * b + 1) * 2 ^ F := by
      have q1 : fp_vl F Z < fp_vl F R := by rw [hv]; exact Nat.mod_lt _ (Nat.pos_of_ne_zero (fun q => hR0 (fp_vl0.mp q)))
      have := fp_lt_iff.mp q1
      omega
    have hZK : Z < 2 ^ K := Nat.lt_trans hZ f.top.1
    refine ⟨Z, ?_, fun _ => hv, fun q => by omega, hZ⟩
    have e3 : nI (fp_fd F S) - nI (fp_fd F R) = nI (fp_fd F S - fp_fd F R) := nI_sub (by omega)
    have e1 : (nI (fp_fd F S - fp_fd F R) < 0) = False := eq_false (nI_pos (by omega))
    have e2 : (JL (fp_dg F R) = 0) = False := by rw [jl_zero, jl_eq (by omega) (by omega)]; exact eq_false hd0
    have e5 : EV 22 [.ref a, .long (jw K s S), .long (jw K t R)] σ = RUN 22 (σ, 68, [some (.ref a), some (.long (jw K s S)), none, some (.long (jw K t R)), none, some (.int (nI (fp_fd F R))), some (.int (nI (fp_fd F S - fp_fd F R))), some (.long (JL (fp_dg F R))), none, some (.long (JL (fp_dg F S % fp_dg F R))), none, some (.int (nI (fp_fd F S - fp_fd F R)))], []) := by
      simp only [e_22, s_22_0, s_22_1, s_22_2, s_22_3, s_22_6, s_22_9, s_22_11, s_22_12, s_22_13, s_22_14, s_22_17, s_22_20, s_22_22, s_22_23, s_22_25, s_22_26, s_22_27, s_22_28, s_22_31, s_22_34, s_22_36, s_22_38, s_22_41, s_22_43, s_22_44, s_22_45, s_22_48, s_22_49, s_22_50, s_22_51, s_22_52, s_22_53, s_22_56, s_22_59, s_22_61, s_22_62, s_22_64, s_22_66, eq_self, true_or, or_true, or_false, false_or, not_true_eq_false, not_false_eq_true, true_and, and_true, false_and, and_false, iR_r, iR_n, iR_f, iI_i, iJ_j, iF_f, iD_d, c1_n, c1_i, c1_r, c1_0, c1_f, c1_q, sw_0, sw_i, sw_j, sw_r, sw_rr, sw_ii, sw_ir, sw_ri, sw_rj, sw_jj, bd_s, bd_n, tl_s, tl_n, if_true, if_false, oz_1, oz_0, hs_1, kt_i, kt_j, kt_f, kt_d, kt_r, f.1, f_size (s := s) f hSK, f_size (s := t) f hRK, f_field f hSK, f_field f hRK, f_dig f hRK, f_dig f hSK, e3, e1, lc_eq, e2, jl_rem (a := fp_dg F S) (b := fp_dg F R) (by omega) (by omega)]
    rw [e5, i1]
    cases s
    · have e6 : (0 ≤ jw K false S) = True := by rw [jw_nn h1 hSK]; exact eq_true rfl
      simp only [s_22_94, s_22_95, s_22_96, s_22_98, s_22_100, s_22_103, s_22_104, s_22_105, s_22_106, s_22_109, s_22_110, s_22_113, s_22_114, s_22_117, eq_self, true_or, or_true, or_false, false_or, not_true_eq_false, not_false_eq_true, true_and, and_true, false_and, and_false, iR_r, iR_n, iR_f, iI_i, iJ_j, iF_f, iD_d, c1_n, c1_i, c1_r, c1_0, c1_f, c1_q, sw_0, sw_i, sw_j, sw_r, sw_rr, sw_ii, sw_ir, sw_ri, sw_rj, sw_jj, bd_s, bd_n, tl_s, tl_n, if_true, if_false, oz_1, oz_0, hs_1, kt_i, kt_j, kt_f, kt_d, kt_r, f.1, p1, lc_ge, e6, f_sg0 f hZK]
    · have e6 : (0 ≤ jw K true S) = False := by rw [jw_nn h1 hSK]; exact eq_false (by decide)
      simp only [s_22_94, s_22_95, s_22_96, s_22_98, s_22_100, s_22_103, s_22_104, s_22_105, s_22_106, s_22_109, s_22_110, s_22_113, s_22_114, s_22_117, eq_self, true_or, or_true, or_false, false_or, not_true_eq_false, not_false_eq_true, true_and, and_true, false_and, and_false, iR_r, iR_n, iR_f, iI_i, iJ_j, iF_f, iD_d, c1_n, c1_i, c1_r, c1_0, c1_f, c1_q, sw_0, sw_i, sw_j, sw_r, sw_rr, sw_ii, sw_ir, sw_ri, sw_rj, sw_jj, bd_s, bd_n, tl_s, tl_n, if_true, if_false, oz_1, oz_0, hs_1, kt_i, kt_j, kt_f, kt_d, kt_r, f.1, p1, lc_ge, e6, f_sg1 f hZK]
/-- cut to a long -/
def f_cl (s : Bool) (n : Nat) : Int64 := if n < 2 ^ 63 then (if s = true then -JL n else JL n) else (if s = true then -9223372036854775808 else 9223372036854775807)
theorem f_cut (f : FM σ a F b K) (hS : S < 2 ^ K) {G : Nat} (hG : G + 1 = b + F) : EV 24 [.ref a, .long (jw K s S)] σ = some (some (.long (f_cl s (fp_vl F S / 2 ^ G))), σ) := by
  obtain ⟨h1, h2, h3, h4, h5, h6, h7, h8⟩ := f.n
  have hp := fp_pos F
  have hpG := fp_pos G
  have hq := f.q hS
  have hdS := fp_dg_lt F S
  rw [Nat.pow_succ] at hdS
  by_cases hsm : S < b * 2 ^ F
  · have hqb : S / 2 ^ F < b := (Nat.div_lt_iff_lt_mul hp).mpr hsm
    have hv : (nI (S / 2 ^ F) - nI b).toInt = ((S / 2 ^ F : Nat) : Int) - b := by
      exact nI_subI (by omega) (by omega)
    have e2 : (0 ≤ nI (S / 2 ^ F) - nI b) = False := eq_false (by rw [i32_le, hv, show (0 : Int32).toInt = 0 by decide]; omega)
    have hn : fp_vl F S / 2 ^ G = 0 := Nat.div_eq_of_lt (by rw [← fp_one (by omega) hG]; exact fp_lt hsm)
    rw [hn]
    simp only [e_24, s_24_0, s_24_1, s_24_2, s_24_5, s_24_6, s_24_7, s_24_8, s_24_11, s_24_13, s_24_15, s_24_18, s_24_19, eq_self, true_or, or_true, or_false, false_or, not_true_eq_false, not_false_eq_true, true_and, and_true, false_and, and_false, iR_r, iR_n, iR_f, iI_i, iJ_j, iF_f, iD_d, c1_n, c1_i, c1_r, c1_0, c1_f, c1_q, sw_0, sw_i, sw_j, sw_r, sw_rr, sw_ii, sw_ir, sw_ri, sw_rj, sw_jj, bd_s, bd_n, tl_s, tl_n, if_true, if_false, oz_1, oz_0, hs_1, kt_i, kt_j, kt_f, kt_d, kt_r, f.1, f_size (s := s) f hS, f_pow f hS, e2]
    cases s <;> rfl
  · have hqb : b ≤ S / 2 ^ F := (Nat.le_div_iff_mul_le hp).mpr (by omega)
    obtain ⟨P, hPe⟩ : ∃ P, S / 2 ^ F = b + P := ⟨S / 2 ^ F - b, by omega⟩
    have g0 : EV 17 [.ref a, .long (JL S)] σ = some (some (.int (nI P)), σ) := by
      rw [f_pow f hS, hPe, nI_sub (by omega), show b + P - b = P by omega]
    have e2 : (0 ≤ nI P) = True := eq_true (nI_pos' (by omega))
    have h63 : fp_vl F ((b + 63) * 2 ^ F) = 2 ^ 63 * 2 ^ G := by
      have := fp_hi (F := F) (e := b + 63) (t := 0) (by omega) (Nat.zero_le _)
      simp only [Nat.add_zero] at this
      rw [← Nat.pow_add] at this
      rw [this, ← Nat.pow_add, show F + (b + 63 - 1) = 63 + G by omega]
    have hSd := Nat.div_add_mod S (2 ^ F)
    have hSm := Nat.mod_lt S hp
    rw [hPe, Nat.mul_comm] at hSd
    by_cases hbig : 62 < P
    · have e3 : (nI P ≤ (62 : Int32)) = False := eq_false (fun q => by have := (nI_leI (a := P) (b := 62) (by omega) (by omega)).mp q; omega)
      have hge : (b + 63) * 2 ^ F ≤ S := by
        have : (b + 63) * 2 ^ F ≤ (b + P) * 2 ^ F := Nat.mul_le_mul_right _ (by omega)
        omega
      have hn : ¬ fp_vl F S / 2 ^ G < 2 ^ 63 := by
        have h9 : fp_vl F ((b + 63) * 2 ^ F) ≤ fp_vl F S := by
          rcases Nat.eq_or_lt_of_le hge with q | q
          · rw [q]; exact Nat.le_refl _
          · exact Nat.le_of_lt (fp_lt q)
        rw [h63] at h9
        have := (Nat.le_div_iff_mul_le hpG).mpr h9
        omega
      unfold f_cl
      rw [if_neg hn]
      cases s
      · have e6 : (0 ≤ jw K false S) = True := by rw [jw_nn h1 hS]; exact eq_true rfl
        simp only [e_24, s_24_0, s_24_1, s_24_2, s_24_5, s_24_6, s_24_7, s_24_8, s_24_11, s_24_13, s_24_15, s_24_18, s_24_19, s_24_20, s_24_22, s_24_24, s_24_27, s_24_28, s_24_29, s_24_30, s_24_33, s_24_36, s_24_39, s_24_42, eq_self, true_or, or_true, or_false, false_or, not_true_eq_false, not_false_eq_true, true_and, and_true, false_and, and_false, iR_r, iR_n, iR_f, iI_i, iJ_j, iF_f, iD_d, c1_n, c1_i, c1_r, c1_0, c1_f, c1_q, sw_0, sw_i, sw_j, sw_r, sw_rr, sw_ii, sw_ir, sw_ri, sw_rj, sw_jj, bd_s, bd_n, tl_s, tl_n, if_true, if_false, oz_1, oz_0, hs_1, kt_i, kt_j, kt_f, kt_d, kt_r, f.1, f_size (s := false) f hS, g0, e2, e3, lc_ge, e6, Bool.false_eq_true]
      · have e6 : (0 ≤ jw K true S) = False := by rw [jw_nn h1 hS]; exact eq_false (by decide)
        simp only [e_24, s_24_0, s_24_1, s_24_2, s_24_5, s_24_6, s_24_7, s_24_8, s_24_11, s_24_13, s_24_15, s_24_18, s_24_19, s_24_20, s_24_22, s_24_24, s_24_27, s_24_28, s_24_29, s_24_30, s_24_33, s_24_36, s_24_39, s_24_42, eq_self, true_or, or_true, or_false, false_or, not_true_eq_false, not_false_eq_true, true_and, and_true, false_and, and_false, iR_r, iR_n, iR_f, iI_i, iJ_j, iF_f, iD_d, c1_n, c1_i, c1_r, c1_0, c1_f, c1_q, sw_0, sw_i, sw_j, sw_r, sw_rr, sw_ii, sw_ir, sw_ri, sw_rj, sw_jj, bd_s, bd_n, tl_s, tl_n, if_true, if_false, oz_1, oz_0, hs_1, kt_i, kt_j, kt_f, kt_d, kt_r, f.1, f_size (s := true) f hS, g0, e2, e3, lc_ge, e6]
    · have e3 : (nI P ≤ (62 : Int32)) = True := eq_true ((nI_leI (a := P) (b := 62) (by omega) (by omega)).mpr (by omega))
      have hfd : fp_fd F S = b + P - 1 + 1 := by
        unfold fp_fd
        rw [if_neg, hPe]
        · omega
        · have := Nat.mul_le_mul_right (2 ^ F) (show 1 ≤ b + P by omega)
          omega
      have hlt : S < (b + 63) * 2 ^ F := by
        have : (b + P) * 2 ^ F + 2 ^ F ≤ (b + 63) * 2 ^ F := by rw [← Nat.succ_mul]; exact Nat.mul_le_mul_right _ (by omega)
        omega
      have hn : fp_vl F S / 2 ^ G < 2 ^ 63 := (Nat.div_lt_iff_lt_mul hpG).mpr (by rw [← h63]; exact fp_lt hlt)
      have hV := fp_vlj hfd
      unfold f_cl
      rw [if_pos hn]
      by_cases hPF : P < F
      · have hval : fp_vl F S / 2 ^ G = fp_dg F S / 2 ^ (F - P) := by
          rw [hV, show G = F - P + (b + P - 1) by omega, Nat.pow_add, Nat.mul_div_mul_right _ _ (fp_pos _)]
        have hv : (nI P - nI F).toInt = (P : Int) - F := by
          exact nI_subI (by omega) (by omega)
        have e4 : (0 ≤ nI P - nI F) = False := eq_false (by rw [i32_le, hv, show (0 : Int32).toInt = 0 by decide]; omega)
        have e5 : -(nI P - nI F) = nI (F - P) := by rw [Int32.neg_sub, nI_sub (by omega)]
        rw [hval]
        cases s
        · have e6 : (0 ≤ jw K false S) = True := by rw [jw_nn h1 hS]; exact eq_true rfl
          simp only [e_24, s_24_0, s_24_1, s_24_2, s_24_5, s_24_6, s_24_7, s_24_8, s_24_11, s_24_13, s_24_15, s_24_18, s_24_19, s_24_20, s_24_22, s_24_24, s_24_43, s_24_45, s_24_46, s_24_49, s_24_50, s_24_52, s_24_53, s_24_54, s_24_57, s_24_59, s_24_61, s_24_64, s_24_66, s_24_68, s_24_69, s_24_70, s_24_73, s_24_75, s_24_77, s_24_78, s_24_80, s_24_81, s_24_82, s_24_83, s_24_86, s_24_88, s_24_89, s_24_92, s_24_94, eq_self, true_or, or_true, or_false, false_or, not_true_eq_false, not_false_eq_true, true_and, and_true, false_and, and_false, iR_r, iR_n, iR_f, iI_i, iJ_j, iF_f, iD_d, c1_n, c1_i, c1_r, c1_0, c1_f, c1_q, sw_0, sw_i, sw_j, sw_r, sw_rr, sw_ii, sw_ir, sw_ri, sw_rj, sw_jj, bd_s, bd_n, tl_s, tl_n, if_true, if_false, oz_1, oz_0, hs_1, kt_i, kt_j, kt_f, kt_d, kt_r, f.1, f.2.1, f_size (s := false) f hS, g0, e2, e3, lc_ge, e6, Bool.false_eq_true, f_dig f hS, e4, e5, jl_shr (a := fp_dg F S) (k := F - P) (by omega) (by omega)]
        · have e6 : (0 ≤ jw K true S) = False := by rw [jw_nn h1 hS]; exact eq_false (by decide)
          simp only [e_24, s_24_0, s_24_1, s_24_2, s_24_5, s_24_6, s_24_7, s_24_8, s_24_11, s_24_13, s_24_15, s_24_18, s_24_19, s_24_20, s_24_22, s_24_24, s_24_43, s_24_45, s_24_46, s_24_49, s_24_50, s_24_52, s_24_53, s_24_54, s_24_57, s_24_59, s_24_61, s_24_64, s_24_66, s_24_68, s_24_69, s_24_70, s_24_73, s_24_75, s_24_77, s_24_78, s_24_80, s_24_81, s_24_82, s_24_83, s_24_86, s_24_88, s_24_89, s_24_92, s_24_94, eq_self, true_or, or_true, or_false, false_or, not_true_eq_false, not_false_eq_true, true_and, and_true, false_and, and_false, iR_r, iR_n, iR_f, iI_i, iJ_j, iF_f, iD_d, c1_n, c1_i, c1_r, c1_0, c1_f, c1_q, sw_0, sw_i, sw_j, sw_r, sw_rr, sw_ii, sw_ir, sw_ri, sw_rj, sw_jj, bd_s, bd_n, tl_s, tl_n, if_true, if_false, oz_1, oz_0, hs_1, kt_i, kt_j, kt_f, kt_d, kt_r, f.1, f.2.1, f_size (s := true) f hS, g0, e2, e3, lc_ge, e6, f_dig f hS, e4, e5, jl_shr (a := fp_dg F S) (k := F - P) (by omega) (by omega)]
      · have hval : fp_vl F S / 2 ^ G = fp_dg F S * 2 ^ (P - F) := by
          rw [hV, show b + P - 1 = P - F + G by omega, Nat.pow_add, ← Nat.mul_assoc, Nat.mul_div_left _ hpG]
        have e5 : nI P - nI F = nI (P - F) := nI_sub (by omega)
        have e4 : (0 ≤ nI (P - F)) = True := eq_true (nI_pos' (by omega))
        rw [hval]
        cases s
        · have e6 : (0 ≤ jw K false S) = True := by rw [jw_nn h1 hS]; exact eq_true rfl
          simp only [e_24, s_24_0, s_24_1, s_24_2, s_24_5, s_24_6, s_24_7, s_24_8, s_24_11, s_24_13, s_24_15, s_24_18, s_24_19, s_24_20, s_24_22, s_24_24, s_24_43, s_24_45, s_24_46, s_24_49, s_24_50, s_24_52, s_24_53, s_24_54, s_24_57, s_24_59, s_24_61, s_24_64, s_24_66, s_24_68, s_24_69, s_24_70, s_24_73, s_24_75, s_24_77, s_24_78, s_24_80, s_24_81, s_24_82, s_24_83, s_24_86, s_24_88, s_24_89, s_24_92, s_24_94, eq_self, true_or, or_true, or_false, false_or, not_true_eq_false, not_false_eq_true, true_and, and_true, false_and, and_false, iR_r, iR_n, iR_f, iI_i, iJ_j, iF_f, iD_d, c1_n, c1_i, c1_r, c1_0, c1_f, c1_q, sw_0, sw_i, sw_j, sw_r, sw_rr, sw_ii, sw_ir, sw_ri, sw_rj, sw_jj, bd_s, bd_n, tl_s, tl_n, if_true, if_false, oz_1, oz_0, hs_1, kt_i, kt_j, kt_f, kt_d, kt_r, f.1, f.2.1, f_size (s := false) f hS, g0, e2, e3, lc_ge, e6, Bool.false_eq_true, f_dig f hS, e4, e5, jl_shl (a := fp_dg F S) (k := P - F) (by omega)]
        · have e6 : (0 ≤ jw K true S) = False := by rw [jw_nn h1 hS]; exact eq_false (by decide)
          simp only [e_24, s_24_0, s_24_1, s_24_2, s_24_5, s_24_6, s_24_7, s_24_8, s_24_11, s_24_13, s_24_15, s_24_18, s_24_19, s_24_20, s_24_22, s_24_24, s_24_43, s_24_45, s_24_46, s_24_49, s_24_50, s_24_52, s_24_53, s_24_54, s_24_57, s_24_59, s_24_61, s_24_64, s_24_66, s_24_68, s_24_69, s_24_70, s_24_73, s_24_75, s_24_77, s_24_78, s_24_80, s_24_81, s_24_82, s_24_83, s_24_86, s_24_88, s_24_89, s_24_92, s_24_94, eq_self, true_or, or_true, or_false, false_or, not_true_eq_false, not_false_eq_true, true_and, and_true, false_and, and_false, iR_r, iR_n, iR_f, iI_i, iJ_j, iF_f, iD_d, c1_n, c1_i, c1_r, c1_0, c1_f, c1_q, sw_0, sw_i, sw_j, sw_r, sw_rr, sw_ii, sw_ir, sw_ri, sw_rj, sw_jj, bd_s, bd_n, tl_s, tl_n, if_true, if_false, oz_1, oz_0, hs_1, kt_i, kt_j, kt_f, kt_d, kt_r, f.1, f.2.1, f_size (s := true) f hS, g0, e2, e3, lc_ge, e6, f_dig f hS, e4, e5, jl_shl (a := fp_dg F S) (k := P - F) (by omega)]
end FML
