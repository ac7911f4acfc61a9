-- THE LOOP
section LLP
variable {B b L t : Nat} {xs : Nat → Int32} {c : CS} {m : MS} {θ : Nat → Option ev_E} {z l : Nat} {σ : ev_H}
theorem sc_l0 (hb : b < B) (hθ : θ b = some (.inr (.inr (L, xs)))) (hk : 6 * t < L) (hL : L ≤ 3072) : ev_ild (hs B c m θ z l) b (nI (6 * t)) = some (xs (6 * t)) := by
  unfold ev_ild hs
  dsimp only
  rw [hp_lo hb, hθ]
  dsimp only
  rw [if_pos (ox_n hk (by omega)), nI_clamp (by omega)]
theorem sc_ln (hb : b < B) (hθ : θ b = some (.inr (.inr (L, xs)))) : ev_len (hs B c m θ z l) b = some (nI L) := by
  unfold ev_len hs
  dsimp only
  rw [hp_lo hb, hθ]
  rfl
theorem a31 (x : Int32) : 0 ≤ (x &&& 31).toInt ∧ (x &&& 31).toInt ≤ 31 := by
  have h1 : (x &&& 31).toBitVec.toNat ≤ 31 := by
    show (x.toBitVec &&& (31 : Int32).toBitVec).toNat ≤ 31
    rw [BitVec.toNat_and]
    exact Nat.le_trans Nat.and_le_right (by decide)
  have h2 : (x &&& 31).toInt = ((x &&& 31).toBitVec.toNat : Int) := by
    show (x &&& 31).toBitVec.toInt = _
    rw [BitVec.toInt_eq_toNat_of_lt (by omega)]
  omega
theorem sw32 (y : Int32) (h : 0 ≤ y.toInt ∧ y.toInt ≤ 31) : y = 0 ∨ y = 1 ∨ y = 2 ∨ y = 3 ∨ y = 4 ∨ y = 5 ∨ y = 6 ∨ y = 7 ∨ y = 8 ∨ y = 9 ∨ y = 10 ∨ y = 11 ∨ y = 12 ∨ y = 13 ∨ y = 14 ∨ y = 15 ∨ y = 16 ∨ y = 17 ∨ y = 18 ∨ y = 19 ∨ y = 20 ∨ y = 21 ∨ y = 22 ∨ y = 23 ∨ y = 24 ∨ y = 25 ∨ y = 26 ∨ y = 27 ∨ y = 28 ∨ y = 29 ∨ y = 30 ∨ y = 31 := by
  obtain ⟨h1, h2⟩ := h
  have : ∀ k : Nat, k ≤ 31 → y.toInt = k → y = nI k := fun k hk e => by
    apply Int32.toInt_inj.mp
    rw [e, nI_toInt (by omega)]
  rcases (show y.toInt = (0 : Nat) ∨ y.toInt = (1 : Nat) ∨ y.toInt = (2 : Nat) ∨ y.toInt = (3 : Nat) ∨ y.toInt = (4 : Nat) ∨ y.toInt = (5 : Nat) ∨ y.toInt = (6 : Nat) ∨ y.toInt = (7 : Nat) ∨ y.toInt = (8 : Nat) ∨ y.toInt = (9 : Nat) ∨ y.toInt = (10 : Nat) ∨ y.toInt = (11 : Nat) ∨ y.toInt = (12 : Nat) ∨ y.toInt = (13 : Nat) ∨ y.toInt = (14 : Nat) ∨ y.toInt = (15 : Nat) ∨ y.toInt = (16 : Nat) ∨ y.toInt = (17 : Nat) ∨ y.toInt = (18 : Nat) ∨ y.toInt = (19 : Nat) ∨ y.toInt = (20 : Nat) ∨ y.toInt = (21 : Nat) ∨ y.toInt = (22 : Nat) ∨ y.toInt = (23 : Nat) ∨ y.toInt = (24 : Nat) ∨ y.toInt = (25 : Nat) ∨ y.toInt = (26 : Nat) ∨ y.toInt = (27 : Nat) ∨ y.toInt = (28 : Nat) ∨ y.toInt = (29 : Nat) ∨ y.toInt = (30 : Nat) ∨ y.toInt = (31 : Nat) by omega) with q | q | q | q | q | q | q | q | q | q | q | q | q | q | q | q | q | q | q | q | q | q | q | q | q | q | q | q | q | q | q | q
  · exact (Or.inl (this 0 (by decide) q))
  · exact (Or.inr (Or.inl (this 1 (by decide) q)))
  · exact (Or.inr (Or.inr (Or.inl (this 2 (by decide) q))))
  · exact (Or.inr (Or.inr (Or.inr (Or.inl (this 3 (by decide) q)))))
  · exact (Or.inr (Or.inr (Or.inr (Or.inr (Or.inl (this 4 (by decide) q))))))
  · exact (Or.inr (Or.inr (Or.inr (Or.inr (Or.inr (Or.inl (this 5 (by decide) q)))))))
  · exact (Or.inr (Or.inr (Or.inr (Or.inr (Or.inr (Or.inr (Or.inl (this 6 (by decide) q))))))))
  · exact (Or.inr (Or.inr (Or.inr (Or.inr (Or.inr (Or.inr (Or.inr (Or.inl (this 7 (by decide) q)))))))))
  · exact (Or.inr (Or.inr (Or.inr (Or.inr (Or.inr (Or.inr (Or.inr (Or.inr (Or.inl (this 8 (by decide) q))))))))))
  · exact (Or.inr (Or.inr (Or.inr (Or.inr (Or.inr (Or.inr (Or.inr (Or.inr (Or.inr (Or.inl (this 9 (by decide) q)))))))))))
  · exact (Or.inr (Or.inr (Or.inr (Or.inr (Or.inr (Or.inr (Or.inr (Or.inr (Or.inr (Or.inr (Or.inl (this 10 (by decide) q))))))))))))
  · exact (Or.inr (Or.inr (Or.inr (Or.inr (Or.inr (Or.inr (Or.inr (Or.inr (Or.inr (Or.inr (Or.inr (Or.inl (this 11 (by decide) q)))))))))))))
  · exact (Or.inr (Or.inr (Or.inr (Or.inr (Or.inr (Or.inr (Or.inr (Or.inr (Or.inr (Or.inr (Or.inr (Or.inr (Or.inl (this 12 (by decide) q))))))))))))))
  · exact (Or.inr (Or.inr (Or.inr (Or.inr (Or.inr (Or.inr (Or.inr (Or.inr (Or.inr (Or.inr (Or.inr (Or.inr (Or.inr (Or.inl (this 13 (by decide) q)))))))))))))))
  · exact (Or.inr (Or.inr (Or.inr (Or.inr (Or.inr (Or.inr (Or.inr (Or.inr (Or.inr (Or.inr (Or.inr (Or.inr (Or.inr (Or.inr (Or.inl (this 14 (by decide) q))))))))))))))))
  · exact (Or.inr (Or.inr (Or.inr (Or.inr (Or.inr (Or.inr (Or.inr (Or.inr (Or.inr (Or.inr (Or.inr (Or.inr (Or.inr (Or.inr (Or.inr (Or.inl (this 15 (by decide) q)))))))))))))))))
  · exact (Or.inr (Or.inr (Or.inr (Or.inr (Or.inr (Or.inr (Or.inr (Or.inr (Or.inr (Or.inr (Or.inr (Or.inr (Or.inr (Or.inr (Or.inr (Or.inr (Or.inl (this 16 (by decide) q))))))))))))))))))
  · exact (Or.inr (Or.inr (Or.inr (Or.inr (Or.inr (Or.inr (Or.inr (Or.inr (Or.inr (Or.inr (Or.inr (Or.inr (Or.inr (Or.inr (Or.inr (Or.inr (Or.inr (Or.inl (this 17 (by decide) q)))))))))))))))))))
  · exact (Or.inr (Or.inr (Or.inr (Or.inr (Or.inr (Or.inr (Or.inr (Or.inr (Or.inr (Or.inr (Or.inr (Or.inr (Or.inr (Or.inr (Or.inr (Or.inr (Or.inr (Or.inr (Or.inl (this 18 (by decide) q))))))))))))))))))))
  · exact (Or.inr (Or.inr (Or.inr (Or.inr (Or.inr (Or.inr (Or.inr (Or.inr (Or.inr (Or.inr (Or.inr (Or.inr (Or.inr (Or.inr (Or.inr (Or.inr (Or.inr (Or.inr (Or.inr (Or.inl (this 19 (by decide) q)))))))))))))))))))))
  · exact (Or.inr (Or.inr (Or.inr (Or.inr (Or.inr (Or.inr (Or.inr (Or.inr (Or.inr (Or.inr (Or.inr (Or.inr (Or.inr (Or.inr (Or.inr (Or.inr (Or.inr (Or.inr (Or.inr (Or.inr (Or.inl (this 20 (by decide) q))))))))))))))))))))))
  · exact (Or.inr (Or.inr (Or.inr (Or.inr (Or.inr (Or.inr (Or.inr (Or.inr (Or.inr (Or.inr (Or.inr (Or.inr (Or.inr (Or.inr (Or.inr (Or.inr (Or.inr (Or.inr (Or.inr (Or.inr (Or.inr (Or.inl (this 21 (by decide) q)))))))))))))))))))))))
  · exact (Or.inr (Or.inr (Or.inr (Or.inr (Or.inr (Or.inr (Or.inr (Or.inr (Or.inr (Or.inr (Or.inr (Or.inr (Or.inr (Or.inr (Or.inr (Or.inr (Or.inr (Or.inr (Or.inr (Or.inr (Or.inr (Or.inr (Or.inl (this 22 (by decide) q))))))))))))))))))))))))
  · exact (Or.inr (Or.inr (Or.inr (Or.inr (Or.inr (Or.inr (Or.inr (Or.inr (Or.inr (Or.inr (Or.inr (Or.inr (Or.inr (Or.inr (Or.inr (Or.inr (Or.inr (Or.inr (Or.inr (Or.inr (Or.inr (Or.inr (Or.inr (Or.inl (this 23 (by decide) q)))))))))))))))))))))))))
  · exact (Or.inr (Or.inr (Or.inr (Or.inr (Or.inr (Or.inr (Or.inr (Or.inr (Or.inr (Or.inr (Or.inr (Or.inr (Or.inr (Or.inr (Or.inr (Or.inr (Or.inr (Or.inr (Or.inr (Or.inr (Or.inr (Or.inr (Or.inr (Or.inr (Or.inl (this 24 (by decide) q))))))))))))))))))))))))))
  · exact (Or.inr (Or.inr (Or.inr (Or.inr (Or.inr (Or.inr (Or.inr (Or.inr (Or.inr (Or.inr (Or.inr (Or.inr (Or.inr (Or.inr (Or.inr (Or.inr (Or.inr (Or.inr (Or.inr (Or.inr (Or.inr (Or.inr (Or.inr (Or.inr (Or.inr (Or.inl (this 25 (by decide) q)))))))))))))))))))))))))))
  · exact (Or.inr (Or.inr (Or.inr (Or.inr (Or.inr (Or.inr (Or.inr (Or.inr (Or.inr (Or.inr (Or.inr (Or.inr (Or.inr (Or.inr (Or.inr (Or.inr (Or.inr (Or.inr (Or.inr (Or.inr (Or.inr (Or.inr (Or.inr (Or.inr (Or.inr (Or.inr (Or.inl (this 26 (by decide) q))))))))))))))))))))))))))))
  · exact (Or.inr (Or.inr (Or.inr (Or.inr (Or.inr (Or.inr (Or.inr (Or.inr (Or.inr (Or.inr (Or.inr (Or.inr (Or.inr (Or.inr (Or.inr (Or.inr (Or.inr (Or.inr (Or.inr (Or.inr (Or.inr (Or.inr (Or.inr (Or.inr (Or.inr (Or.inr (Or.inr (Or.inl (this 27 (by decide) q)))))))))))))))))))))))))))))
  · exact (Or.inr (Or.inr (Or.inr (Or.inr (Or.inr (Or.inr (Or.inr (Or.inr (Or.inr (Or.inr (Or.inr (Or.inr (Or.inr (Or.inr (Or.inr (Or.inr (Or.inr (Or.inr (Or.inr (Or.inr (Or.inr (Or.inr (Or.inr (Or.inr (Or.inr (Or.inr (Or.inr (Or.inr (Or.inl (this 28 (by decide) q))))))))))))))))))))))))))))))
  · exact (Or.inr (Or.inr (Or.inr (Or.inr (Or.inr (Or.inr (Or.inr (Or.inr (Or.inr (Or.inr (Or.inr (Or.inr (Or.inr (Or.inr (Or.inr (Or.inr (Or.inr (Or.inr (Or.inr (Or.inr (Or.inr (Or.inr (Or.inr (Or.inr (Or.inr (Or.inr (Or.inr (Or.inr (Or.inr (Or.inl (this 29 (by decide) q)))))))))))))))))))))))))))))))
  · exact (Or.inr (Or.inr (Or.inr (Or.inr (Or.inr (Or.inr (Or.inr (Or.inr (Or.inr (Or.inr (Or.inr (Or.inr (Or.inr (Or.inr (Or.inr (Or.inr (Or.inr (Or.inr (Or.inr (Or.inr (Or.inr (Or.inr (Or.inr (Or.inr (Or.inr (Or.inr (Or.inr (Or.inr (Or.inr (Or.inr (Or.inl (this 30 (by decide) q))))))))))))))))))))))))))))))))
  · exact (Or.inr (Or.inr (Or.inr (Or.inr (Or.inr (Or.inr (Or.inr (Or.inr (Or.inr (Or.inr (Or.inr (Or.inr (Or.inr (Or.inr (Or.inr (Or.inr (Or.inr (Or.inr (Or.inr (Or.inr (Or.inr (Or.inr (Or.inr (Or.inr (Or.inr (Or.inr (Or.inr (Or.inr (Or.inr (Or.inr (Or.inr (this 31 (by decide) q))))))))))))))))))))))))))))))))
theorem law_turn (hop : ∀ {x i way : Int32} {w : Int64}, OP 47 134 [.int x, .int i, .int way, .long w]) {y : Int32} (hy : 0 ≤ y.toInt ∧ y.toInt ≤ 31) (ht : t < 512) (hL : 6 * t + 6 ≤ L) (hL2 : L ≤ 3072) (hG : Good B b L xs t σ) : ∃ σ2, Good B b L xs (t + 1) σ2 ∧ RUN 174 (σ, 33, [some (.ref b), some (.ref B), some (.ref (B + 6)), some (.int (nI (6 * t)))], [.int y]) = RUN 174 (σ2, 18, [some (.ref b), some (.ref B), some (.ref (B + 6)), some (.int (nI (6 * (t + 1))))], []) := by
  rw [s_174_33]
  rcases sw32 y hy with rfl | rfl | rfl | rfl | rfl | rfl | rfl | rfl | rfl | rfl | rfl | rfl | rfl | rfl | rfl | rfl | rfl | rfl | rfl | rfl | rfl | rfl | rfl | rfl | rfl | rfl | rfl | rfl | rfl | rfl | rfl | rfl
  · obtain ⟨σ2, q1, q2⟩ := law_0 ht hL hL2 hG
    exact ⟨σ2, q1, q2⟩
  · obtain ⟨σ2, q1, q2⟩ := law_1 ht hL hL2 hG
    exact ⟨σ2, q1, q2⟩
  · obtain ⟨σ2, q1, q2⟩ := law_2 ht hL hL2 hG
    exact ⟨σ2, q1, q2⟩
  · obtain ⟨σ2, q1, q2⟩ := law_3 ht hL hL2 hG
    exact ⟨σ2, q1, q2⟩
  · obtain ⟨σ2, q1, q2⟩ := law_4 ht hL hL2 hG
    exact ⟨σ2, q1, q2⟩
  · obtain ⟨σ2, q1, q2⟩ := law_5 ht hL hL2 hG
    exact ⟨σ2, q1, q2⟩
  · obtain ⟨σ2, q1, q2⟩ := law_6 ht hL hL2 hG
    exact ⟨σ2, q1, q2⟩
  · obtain ⟨σ2, q1, q2⟩ := law_7 ht hL hL2 hG
    exact ⟨σ2, q1, q2⟩
  · obtain ⟨σ2, q1, q2⟩ := law_8 ht hL hL2 hG
    exact ⟨σ2, q1, q2⟩
  · obtain ⟨σ2, q1, q2⟩ := law_9 ht hL hL2 hG
    exact ⟨σ2, q1, q2⟩
  · obtain ⟨σ2, q1, q2⟩ := law_10 ht hL hL2 hG
    exact ⟨σ2, q1, q2⟩
  · obtain ⟨σ2, q1, q2⟩ := law_11 ht hL hL2 hG
    exact ⟨σ2, q1, q2⟩
  · obtain ⟨σ2, q1, q2⟩ := law_12 ht hL hL2 hG
    exact ⟨σ2, q1, q2⟩
  · obtain ⟨σ2, q1, q2⟩ := law_13 hop ht hL hL2 hG
    exact ⟨σ2, q1, q2⟩
  · obtain ⟨σ2, q1, q2⟩ := law_14 ht hL hL2 hG
    exact ⟨σ2, q1, q2⟩
  · obtain ⟨σ2, q1, q2⟩ := law_15 ht hL hL2 hG
    exact ⟨σ2, q1, q2⟩
  · obtain ⟨σ2, q1, q2⟩ := law_16 ht hL hL2 hG
    exact ⟨σ2, q1, q2⟩
  · obtain ⟨σ2, q1, q2⟩ := law_17 ht hL hL2 hG
    exact ⟨σ2, q1, q2⟩
  · obtain ⟨σ2, q1, q2⟩ := law_18 ht hL hL2 hG
    exact ⟨σ2, q1, q2⟩
  · obtain ⟨σ2, q1, q2⟩ := law_19 ht hL hL2 hG
    exact ⟨σ2, q1, q2⟩
  · obtain ⟨σ2, q1, q2⟩ := law_20 ht hL hL2 hG
    exact ⟨σ2, q1, q2⟩
  · obtain ⟨σ2, q1, q2⟩ := law_21 ht hL hL2 hG
    exact ⟨σ2, q1, q2⟩
  · obtain ⟨σ2, q1, q2⟩ := law_22 ht hL hL2 hG
    exact ⟨σ2, q1, q2⟩
  · obtain ⟨σ2, q1, q2⟩ := law_23 ht hL hL2 hG
    exact ⟨σ2, q1, q2⟩
  · obtain ⟨σ2, q1, q2⟩ := law_24 ht hL hL2 hG
    exact ⟨σ2, q1, q2⟩
  · obtain ⟨σ2, q1, q2⟩ := law_25 ht hL hL2 hG
    exact ⟨σ2, q1, q2⟩
  · obtain ⟨σ2, q1, q2⟩ := law_26 ht hL hL2 hG
    exact ⟨σ2, q1, q2⟩
  · obtain ⟨σ2, q1, q2⟩ := law_27 ht hL hL2 hG
    exact ⟨σ2, q1, q2⟩
  · obtain ⟨σ2, q1, q2⟩ := law_28 ht hL hL2 hG
    exact ⟨σ2, q1, q2⟩
  · obtain ⟨σ2, q1, q2⟩ := law_29 ht hL hL2 hG
    exact ⟨σ2, q1, q2⟩
  · obtain ⟨σ2, q1, q2⟩ := law_30 ht hL hL2 hG
    exact ⟨σ2, q1, q2⟩
  · obtain ⟨σ2, q1, q2⟩ := law_31 ht hL hL2 hG
    exact ⟨σ2, q1, q2⟩
theorem law_loop (hop : ∀ {x i way : Int32} {w : Int64}, OP 47 134 [.int x, .int i, .int way, .long w]) (hL2 : L ≤ 3072) : ∀ d t σ, t + d = L / 6 → Good B b L xs t σ → ∃ σ' T, RUN 174 (σ, 18, [some (.ref b), some (.ref B), some (.ref (B + 6)), some (.int (nI (6 * t)))], []) = some (some (.int 1), σ') ∧ T ≤ 512 ∧ Good B b L xs T σ' := by
  have e6 : (6 : Int32).toInt = 6 := by decide
  have es : (nI L - 6).toInt = (L : Int) - 6 := by
    rw [Int32.toInt_sub, nI_toInt (by omega), e6, Int.bmod_eq_of_le (by omega) (by omega)]
  intro d
  induction d with
  | zero =>
    intro t σ e hG
    refine ⟨σ, t, ?_, by omega, hG⟩
    obtain ⟨c, m, θ, z, l, rfl, κ, nr, nu, ns, nb, nv, box, row, sht, bnk, voi, h⟩ := hG
    have q : (nI L - 6 < nI (6 * t)) = True := eq_true (by rw [i32_lt, es, nI_toInt (by omega)]; omega)
    simp only [s_174_18, s_174_19, s_174_20, s_174_21, s_174_23, s_174_24, s_174_1376, s_174_1377, eq_self, true_or, or_true, or_false, false_or, not_true_eq_false, not_false_eq_true, true_and, and_true, false_and, and_false, iR_r, iR_n, iR_f, iI_i, iJ_j, iF_f, iD_d, c1_n, c1_i, c1_r, c1_0, c1_f, c1_q, sw_0, sw_i, sw_j, sw_r, sw_rr, sw_ii, sw_ir, sw_ri, sw_rj, sw_jj, bd_s, bd_n, tl_s, tl_n, if_true, if_false, oz_1, oz_0, hs_1, kt_i, kt_j, kt_f, kt_d, kt_r, sc_ln h.1.1 h.1.2, q]
  | succ d ih =>
    intro t σ e hG
    have ht : t < 512 := by omega
    obtain ⟨σ2, q1, q2⟩ := law_turn hop (a31 (xs (6 * t))) ht (by omega) hL2 hG
    obtain ⟨σ', T, j1, j2, j3⟩ := ih (t + 1) σ2 (by omega) q1
    refine ⟨σ', T, ?_, j2, j3⟩
    rw [← j1, ← q2]
    obtain ⟨c, m, θ, z, l, rfl, κ, nr, nu, ns, nb, nv, box, row, sht, bnk, voi, h⟩ := hG
    have q : (nI L - 6 < nI (6 * t)) = False := eq_false (by rw [i32_lt, es, nI_toInt (by omega)]; omega)
    rw [s_174_18]
    simp only [s_174_19, s_174_20, s_174_21, s_174_23, s_174_24, s_174_27, s_174_28, s_174_29, s_174_30, s_174_32, eq_self, true_or, or_true, or_false, false_or, not_true_eq_false, not_false_eq_true, true_and, and_true, false_and, and_false, iR_r, iR_n, iR_f, iI_i, iJ_j, iF_f, iD_d, c1_n, c1_i, c1_r, c1_0, c1_f, c1_q, sw_0, sw_i, sw_j, sw_r, sw_rr, sw_ii, sw_ir, sw_ri, sw_rj, sw_jj, bd_s, bd_n, tl_s, tl_n, if_true, if_false, oz_1, oz_0, hs_1, kt_i, kt_j, kt_f, kt_d, kt_r, sc_ln h.1.1 h.1.2, q, sc_l0 h.1.1 h.1.2 (show 6 * t < L by omega) hL2]
end LLP
