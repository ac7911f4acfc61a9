-- SHEET
section SHT
variable {B b L : Nat} {xs : Nat → Int32} {t : Nat} {c : CS} {m : MS} {θ : Nat → Option ev_E} {z l : Nat} {κ : Nat → Nat × Nat} {nr nu ns nb nv : Nat} {box : GV} {row : GR} {sht : GS} {bnk : GB} {voi : GV} {σ : ev_H}
def gk (z k : Nat) : Nat → Option Nat := fun j => if j < k then some (z + 1 + 2 * j) else none
theorem gk_s {z k : Nat} : va_up (gk z k) k (some (z + 1 + 2 * k)) = gk z (k + 1) := by
  funext j
  unfold gk
  by_cases e : j = k
  · subst e; simp [va_up]
  · simp only [va_up, e, if_false]
    by_cases e2 : j < k
    · rw [if_pos e2, if_pos (by omega)]
    · rw [if_neg e2, if_neg (by omega)]
theorem sh_loop {v1 v2 : Option Value} {n w : Nat} (hn : n ≤ 8) (hw : w ≤ 8) (hz : B + 26 ≤ z) : ∀ d k (θ : Nat → Option ev_E) l, k + d = n → θ z = some (.inl (.object RX1, n, .inr (.inr (.inr (.inr (gk z k)))))) → (∀ j, j < k → θ (z + 1 + 2 * j) = some (.inr (.inl (1, [.int 4, .ref (z + 2 + 2 * j)]))) ∧ θ (z + 2 + 2 * j) = some (.inl (.long, w, .inr (.inl (fun _ => 0))))) →
    ∃ θ' l', RUN 35 (hs B c m θ (z + 1 + 2 * k) l, 48, [some (.ref B), v1, v2, some (.int (nI w)), some (.ref z), some (.int (nI k))], []) = RUN 35 (hs B c m θ' (z + 1 + 2 * n) l', 78, [some (.ref B), v1, v2, some (.int (nI w)), some (.ref z), some (.int (nI n))], []) ∧ l' ≤ l + 10 * d ∧ (∀ a, a < z → θ' a = θ a) ∧ θ' z = some (.inl (.object RX1, n, .inr (.inr (.inr (.inr (gk z n)))))) ∧ (∀ j, j < n → θ' (z + 1 + 2 * j) = some (.inr (.inl (1, [.int 4, .ref (z + 2 + 2 * j)]))) ∧ θ' (z + 2 + 2 * j) = some (.inl (.long, w, .inr (.inl (fun _ => 0))))) := by
  intro d
  induction d with
  | zero =>
    intro k θ l e h1 h2
    obtain rfl : k = n := by omega
    refine ⟨θ, l, ?_, by omega, fun _ _ => rfl, h1, h2⟩
    have q : (nI k ≤ nI k) = True := eq_true (by rw [nN_le (by omega) (by omega)]; omega)
    simp only [s_35_48, s_35_50, s_35_52, s_35_53, eq_self, true_or, or_true, or_false, false_or, not_true_eq_false, not_false_eq_true, true_and, and_true, false_and, and_false, iR_r, iR_n, iR_f, iI_i, iJ_j, iF_f, iD_d, c1_n, c1_i, c1_r, c1_0, c1_f, c1_q, sw_0, sw_i, sw_j, sw_r, sw_rr, sw_ii, sw_ir, sw_ri, sw_rj, sw_jj, bd_s, bd_n, tl_s, tl_n, if_true, if_false, oz_1, oz_0, hs_1, kt_i, kt_j, kt_f, kt_d, kt_r, len_th hz h1, q]
  | succ d ih =>
    intro k θ l e h1 h2
    have q : (nI n ≤ nI k) = False := eq_false (by rw [nN_le (by omega) (by omega)]; omega)
    have x1 : ev_out (nI k) n = false := ox_n (by omega) (by omega)
    have x2 : (nI k).toNatClampNeg = k := nI_clamp (by omega)
    have hZ : B + 26 ≤ z + 1 + 2 * k := by omega
    have eZ : z + 1 + 2 * k + 1 = z + 2 + 2 * k := by omega
    have eY : z + 2 + 2 * k + 1 = z + 1 + 2 * (k + 1) := by omega
    have a1 : tu (tu θ (z + 2 + 2 * k) (.inl (.long, w, .inr (.inl (fun _ => 0))))) (z + 1 + 2 * k) (.inr (.inl (1, [.int 4, .ref (z + 2 + 2 * k)]))) z = some (.inl (.object RX1, n, .inr (.inr (.inr (.inr (gk z k)))))) := by rw [tu_n (by omega), tu_n (by omega)]; exact h1
    obtain ⟨θ', l', i1, i2, i3, i4, i5⟩ := ih (k + 1) (tu (tu (tu θ (z + 2 + 2 * k) (.inl (.long, w, .inr (.inl (fun _ => 0))))) (z + 1 + 2 * k) (.inr (.inl (1, [.int 4, .ref (z + 2 + 2 * k)])))) z (.inl (.object RX1, n, .inr (.inr (.inr (.inr (gk z (k + 1)))))))) (l + 2 + w) (by omega) tu_s (fun j hj => by
      rw [tu_n (by omega), tu_n (a := z) (by omega)]
      by_cases ej : j = k
      · subst ej
        exact ⟨tu_s, by rw [tu_n (by omega)]; exact tu_s⟩
      · rw [tu_n (by omega), tu_n (by omega), tu_n (by omega), tu_n (by omega)]
        exact h2 j (by omega))
    refine ⟨θ', l', ?_, by omega, fun a ha => ?_, i4, i5⟩
    · rw [s_35_48]
      simp only [s_35_50, s_35_52, s_35_53, s_35_56, s_35_58, s_35_60, s_35_63, s_35_64, s_35_65, s_35_66, s_35_68, s_35_71, s_35_71n, s_35_71r, s_35_72, s_35_75, eq_self, true_or, or_true, or_false, false_or, not_true_eq_false, not_false_eq_true, true_and, and_true, false_and, and_false, iR_r, iR_n, iR_f, iI_i, iJ_j, iF_f, iD_d, c1_n, c1_i, c1_r, c1_0, c1_f, c1_q, sw_0, sw_i, sw_j, sw_r, sw_rr, sw_ii, sw_ir, sw_ri, sw_rj, sw_jj, bd_s, bd_n, tl_s, tl_n, if_true, if_false, oz_1, oz_0, hs_1, kt_i, kt_j, kt_f, kt_d, kt_r, len_th hz h1, q, nwo_th hZ dfl_1, eZ, nwa_l (z := z + 2 + 2 * k) (show B + 26 ≤ z + 2 + 2 * k by omega) (show w < 1000 by omega), eY, e_4, s_4_0, s_4_1, s_4_4, s_4_5, s_4_6, s_4_9, s_4_10, s_4_11, s_4_14, e_29, s_29_0, s_29_1, s_29_4, sw_rir, tu_cm (show z + 1 + 2 * k ≠ z + 2 + 2 * k by omega), pf_th hZ (tu_s (θ := tu θ (z + 2 + 2 * k) (.inl (.long, w, .inr (.inl (fun _ => 0))))) (a := z + 1 + 2 * k) (e := (.inr (.inl (1, [.int 0, .null]))))) (show 0 < 2 by decide), pf_th hZ (tu_s (θ := tu θ (z + 2 + 2 * k) (.inl (.long, w, .inr (.inl (fun _ => 0))))) (a := z + 1 + 2 * k) (e := (.inr (.inl (1, [.int 4, .null]))))) (show 1 < 2 by decide), tu_tu, List.set, ast_th hz a1 (may_s (cl_th hZ (tu_s (θ := tu θ (z + 2 + 2 * k) (.inl (.long, w, .inr (.inl (fun _ => 0))))) (a := z + 1 + 2 * k) (e := (.inr (.inl (1, [.int 4, .ref (z + 2 + 2 * k)])))))) sb_1_RX1), x1, x2, gk_s, nI_s]
      exact i1
    · rw [i3 a ha, tu_n (by omega), tu_n (by omega), tu_n (by omega)]
def uu (nu w : Nat) : Nat → Nat
  | 0 => nu
  | k + 1 => uu nu w k + w
theorem uu_le {nu w k : Nat} (hw : w ≤ 8) : uu nu w k ≤ nu + 8 * k := by
  induction k with
  | zero => exact Nat.le_refl _
  | succ k ih => show uu nu w k + w ≤ _; omega
def sm (m : MS) (ns w nr nu : Nat) : Nat → MS
  | 0 => m
  | k + 1 => mI (mS (mS (mI (mI (mI (sm m ns w nr nu k) 2 (nr + k) (nI 4)) 3 (nr + k) (nI w)) 4 (nr + k) (nI (uu nu w k))) 1 (nI (uu nu w k + w))) 0 (nI (nr + k + 1))) 6 (8 * ns + k) (nI (nr + k))
theorem sm_0 {w k : Nat} (h : m.2.2.1 0 = nI nr) : (sm m ns w nr nu k).2.2.1 0 = nI (nr + k) := by
  cases k with
  | zero => exact h
  | succ k => rfl
theorem sm_1 {w k : Nat} (h : m.2.2.1 1 = nI nu) : (sm m ns w nr nu k).2.2.1 1 = nI (uu nu w k) := by
  cases k with
  | zero => exact h
  | succ k => rfl
theorem sm_2 {w k : Nat} : (sm m ns w nr nu k).2.2.1 2 = m.2.2.1 2 := by
  induction k with
  | zero => rfl
  | succ k ih => exact ih
theorem sm_5 {w k : Nat} : (sm m ns w nr nu k).1 5 = m.1 5 := by
  induction k with
  | zero => rfl
  | succ k ih => exact ih
theorem sm_w {w k : Nat} : (sm m ns w nr nu k).2.1 = m.2.1 := by
  induction k with
  | zero => rfl
  | succ k ih => exact ih
theorem sm_6 {w k j : Nat} (h : j < k) : (sm m ns w nr nu k).1 6 (8 * ns + j) = nI (nr + j) := by
  induction k with
  | zero => omega
  | succ k ih =>
    by_cases e : j = k
    · subst e; exact pk_us (f := (sm m ns w nr nu j).1 6)
    · exact (pk_un (f := (sm m ns w nr nu k).1 6) (by omega)).trans (ih (by omega))
theorem shm_loop {v1 : Option Value} {n w : Nat} (hn : n ≤ 8) (hw : w ≤ 8) (hns : ns < 520) (hr : nr + 8 ≤ 5000) (hu : nu + 64 ≤ 36000) (h0 : m.2.2.1 0 = nI nr) (h1 : m.2.2.1 1 = nI nu) (h2 : m.2.2.1 2 = nI ns) : ∀ d k, k + d = n → RUN 118 (hs B c (sm m ns w nr nu k) θ z l, 52, [some (.ref (B + 6)), v1, some (.int (nI n)), some (.int (nI w)), some (.int (nI k))], []) = RUN 118 (hs B c (sm m ns w nr nu n) θ z l, 85, [some (.ref (B + 6)), v1, some (.int (nI n)), some (.int (nI w)), some (.int (nI n))], []) := by
  intro d
  induction d with
  | zero =>
    intro k e
    obtain rfl : k = n := by omega
    have q : (nI k ≤ nI k) = True := eq_true (by rw [nN_le (by omega) (by omega)]; omega)
    simp only [s_118_52, s_118_54, s_118_55, eq_self, true_or, or_true, or_false, false_or, not_true_eq_false, not_false_eq_true, true_and, and_true, false_and, and_false, iR_r, iR_n, iR_f, iI_i, iJ_j, iF_f, iD_d, c1_n, c1_i, c1_r, c1_0, c1_f, c1_q, sw_0, sw_i, sw_j, sw_r, sw_rr, sw_ii, sw_ir, sw_ri, sw_rj, sw_jj, bd_s, bd_n, tl_s, tl_n, if_true, if_false, oz_1, oz_0, hs_1, kt_i, kt_j, kt_f, kt_d, kt_r, q]
  | succ d ih =>
    intro k e
    have hub := uu_le (nu := nu) (w := w) (k := k) hw
    have q : (nI n ≤ nI k) = False := eq_false (by rw [nN_le (by omega) (by omega)]; omega)
    have x1 : ev_out (nI (nr + k)) 5000 = false := ox_n (by omega) (by decide)
    have x2 : (nI (nr + k)).toNatClampNeg = nr + k := nI_clamp (by omega)
    have x3 : ev_out (nI (8 * ns + k)) 4160 = false := ox_n (by omega) (by decide)
    have x4 : (nI (8 * ns + k)).toNatClampNeg = 8 * ns + k := nI_clamp (by omega)
    have s0 := sm_0 (m := m) (ns := ns) (w := w) (nr := nr) (nu := nu) (k := k) h0
    have s1 := sm_1 (m := m) (ns := ns) (w := w) (nr := nr) (nu := nu) (k := k) h1
    have s2 := (sm_2 (m := m) (ns := ns) (w := w) (nr := nr) (nu := nu) (k := k)).trans h2
    have ih' := ih (k + 1) (by omega)
    rw [s_118_52]
    simp only [s_118_54, s_118_55, s_118_58, s_118_59, s_118_62, s_118_64, s_118_65, s_118_68, s_118_69, s_118_71, s_118_72, s_118_73, s_118_74, s_118_75, s_118_78, s_118_79, s_118_82, eq_self, true_or, or_true, or_false, false_or, not_true_eq_false, not_false_eq_true, true_and, and_true, false_and, and_false, iR_r, iR_n, iR_f, iI_i, iJ_j, iF_f, iD_d, c1_n, c1_i, c1_r, c1_0, c1_f, c1_q, sw_0, sw_i, sw_j, sw_r, sw_rr, sw_ii, sw_ir, sw_ri, sw_rj, sw_jj, bd_s, bd_n, tl_s, tl_n, if_true, if_false, oz_1, oz_0, hs_1, kt_i, kt_j, kt_f, kt_d, kt_r, gm_0, gm_1, gm_2, gm_3, gm_4, gm_5, gm_6, gm_7, gm_8, gm_9, gm_10, gm_11, gm_12, gm_13, gm_14, gm_15, gm_16, gm_17, gm_18, gm_19, gm_20, gm_21, gm_22, gm_23, gm_24, gm_25, gm_26, gm_27, gm_28, kl_m, pm_2, pm_6, pm_8, pm_11, pm_15, pm_23, pm_25, pm_27, pm_22, pm_28, rd_m0, wr_m0, ln_m0, rd_m1, wr_m1, ln_m1, rd_m2, wr_m2, ln_m2, rd_m3, wr_m3, ln_m3, rd_m4, wr_m4, ln_m4, rd_m5, wr_m5, ln_m5, rd_m6, wr_m6, ln_m6, rd_m7, wr_m7, ln_m7, rd_m8, wr_m8, ln_m8, rd_m9, wr_m9, ln_m9, rd_m10, wr_m10, ln_m10, rd_m11, wr_m11, ln_m11, rd_m12, wr_m12, ln_m12, rd_m13, wr_m13, ln_m13, rd_m14, wr_m14, ln_m14, rd_m15, wr_m15, ln_m15, rd_m16, wr_m16, ln_m16, rd_m17, wr_m17, ln_m17, rd_mw, wr_mw, ln_mw, q, s2, ix8 hns (show k < 8 by omega), sw_ir, m_newRow (m := sm m ns w nr nu k) (lane := 4) (n := nI w) (show ev_out ((sm m ns w nr nu k).2.2.1 0) 5000 = false by rw [s0]; exact x1), f_newRow, s0, s1, x1, x2, x3, x4, nI_add, nI_s, nI_p (show nr + k < 100000 by omega)]
    exact ih'
theorem RR.fr6 (h : RR B b L xs t c m θ z l κ nr nu ns nb nv box row sht bnk voi) {i : Nat} {y : Int32} (hi : 8 * ns ≤ i) : RR B b L xs t c (mI m 6 i y) θ z l κ nr nu ns nb nv box row sht bnk voi := by
  obtain ⟨h1, h2, h3, h4, h5, h6, h7, h8, h9, h10, h11⟩ := h
  refine ⟨h1, h2, h3, h4, h5, h6, h7, h8, fun i' hi' => ?_, h10, h11⟩
  obtain ⟨p1, p2, p3, p4, p5, g', p6, p7⟩ := h9 i' hi'
  refine ⟨p1, p2, p3, p4, p5, g', p6, fun k hk => ?_⟩
  have e1 : (mI m 6 i y).1 6 (8 * i' + k) = m.1 6 (8 * i' + k) := pk_un (f := m.1 6) (by omega)
  rw [e1]; exact p7 k hk
theorem RR.fr5 (h : RR B b L xs t c m θ z l κ nr nu ns nb nv box row sht bnk voi) {i : Nat} {y : Int32} (hi : ns ≤ i) : RR B b L xs t c (mI m 5 i y) θ z l κ nr nu ns nb nv box row sht bnk voi := by
  obtain ⟨h1, h2, h3, h4, h5, h6, h7, h8, h9, h10, h11⟩ := h
  refine ⟨h1, h2, h3, h4, h5, h6, h7, h8, fun i' hi' => ?_, h10, h11⟩
  obtain ⟨p1, p2, p3⟩ := h9 i' hi'
  exact ⟨p1, (pk_un (f := m.1 5) (by omega)).trans p2, p3⟩
theorem RR.addS (h : RR B b L xs t c m θ z l κ nr nu ns nb nv box row sht bnk voi) {n sa la : Nat} {g : Nat → Option Nat} (hn : n ≤ 8) (bt : ns + 1 ≤ t) (ha : adr B z κ sa 3 ns) (hl : adr B z κ la 4 ns) (hθ : θ sa = some (.inr (.inl (3, [.ref la])))) (hg : θ la = some (.inl (.object RX1, n, .inr (.inr (.inr (.inr g)))))) (h5_ : m.1 5 ns = nI n) (hc : ∀ k, k < n → (m.1 6 (8 * ns + k) = -1 ∧ g k = none) ∨ ∃ r, r < nr ∧ (row r).1 = 4 ∧ m.1 6 (8 * ns + k) = nI r ∧ g k = some (row r).2.2.2.1) : RR B b L xs t c (mS m 2 (nI (ns + 1))) θ z l κ nr nu (ns + 1) nb nv box row (fun i => if i = ns then (n, sa, la) else sht i) bnk voi := by
  obtain ⟨h1, h2, h3, h4, h5, h6, h7, h8, h9, h10, h11⟩ := h
  obtain ⟨n1, n2, n3, n4, n5, n6, n7, n8, n9, n10, n11⟩ := h2
  have vo : ∀ {r : Nat}, r < ns → (if r = ns then (n, sa, la) else sht r) = sht r := fun {r} q => if_neg (by omega)
  refine ⟨h1, ⟨n1, n2, n3, by omega, n5, n6, n7, n8, rfl, n10, n11⟩, h3, h4, h5, h6, fun j hj => ?_, h8, fun i' hi' => ?_, h10, h11⟩
  · obtain ⟨x1, x2, x3⟩ := h7 j hj
    refine ⟨x1, x2, ?_⟩
    rcases x3 with q | q | ⟨q1, q2, q3⟩ | q
    · exact Or.inl q
    · exact Or.inr (Or.inl q)
    · exact Or.inr (Or.inr (Or.inl ⟨q1, by omega, by dsimp only; rw [vo q2]; exact q3⟩))
    · exact Or.inr (Or.inr (Or.inr q))
  · by_cases e : i' = ns
    · subst e
      dsimp only
      rw [if_pos rfl]
      exact ⟨hn, h5_, ha, hl, hθ, g, hg, hc⟩
    · have hr' : i' < ns := by omega
      dsimp only
      rw [if_neg e]
      exact h9 i' hr'
def rk (row : GR) (nr nu w z : Nat) : Nat → GR
  | 0 => row
  | k + 1 => fun r => if r = nr + k then (4, w, uu nu w k, z + 1 + 2 * k, z + 2 + 2 * k) else rk row nr nu w z k r
theorem rk_at {w k j : Nat} (h : j < k) : rk row nr nu w z k (nr + j) = (4, w, uu nu w j, z + 1 + 2 * j, z + 2 + 2 * j) := by
  induction k with
  | zero => omega
  | succ k ih =>
    by_cases e : j = k
    · subst e; exact if_pos rfl
    · exact (if_neg (by omega)).trans (ih (by omega))
theorem RR.rows {z0 w : Nat} (hw : w ≤ 8) (h : RR B b L xs t c m θ z l κ nr nu ns nb nv box row sht bnk voi) : ∀ k, (∀ j, j < k → adr B z κ (z0 + 1 + 2 * j) 1 (nr + j) ∧ adr B z κ (z0 + 2 + 2 * j) 2 (nr + j) ∧ θ (z0 + 1 + 2 * j) = some (.inr (.inl (1, [.int 4, .ref (z0 + 2 + 2 * j)]))) ∧ θ (z0 + 2 + 2 * j) = some (.inl (.long, w, .inr (.inl (fun _ => 0))))) → nr + k ≤ 8 * t → nu + 8 * k ≤ 64 * t → RR B b L xs t c (sm m ns w nr nu k) θ z l κ (nr + k) (uu nu w k) ns nb nv box (rk row nr nu w z0 k) sht bnk voi := by
  intro k
  induction k with
  | zero => exact fun _ _ _ => h
  | succ k ih =>
    intro hj b1 b2
    have hub := uu_le (nu := nu) (w := w) (k := k) hw
    have r := ih (fun j q => hj j (by omega)) (by omega) (by omega)
    obtain ⟨a1, a2, a3, a4⟩ := hj k (by omega)
    have e := r.2.2.2.2.2.1.1
    have q := (r.addR (ln := 4) (sz := w) (W := (sm m ns w nr nu k).2.1) (by omega) (by omega) ⟨by omega, by omega⟩ a1 a2 a3 a4 (fun _ _ => rfl) (fun i hi => e i (by omega)) (fun i hi => ⟨(e _ (by omega)).symm, WV_0 4 (by omega)⟩)).fr6 (i := 8 * ns + k) (y := nI (nr + k)) (by omega)
    exact q
end SHT
