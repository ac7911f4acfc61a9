-- THE CLASS: things in boxes, small methods
def tu (θ : Nat → Option ev_E) (a : Nat) (e : ev_E) : Nat → Option ev_E := fun q => if q = a then some e else θ q
section THG
variable {B : Nat} {c : CS} {m : MS} {θ : Nat → Option ev_E} {z l : Nat} {σ : ev_H} {a ci k n : Nat} {fs : List Value}
theorem tu_s {e : ev_E} : tu θ a e a = some e := if_pos rfl
theorem tu_n {e : ev_E} {b : Nat} (h : b ≠ a) : tu θ a e b = θ b := if_neg h
theorem th_at (ha : B + 26 ≤ a) : (hs B c m θ z l).2.2 a = θ a := hp_th ha
theorem gf_th {v : Value} (ha : B + 26 ≤ a) (h : θ a = some (.inr (.inl (ci, fs)))) (hv : fs[k]? = some v) : ev_gf (hs B c m θ z l) a ci k = some v := by
  unfold ev_gf
  rw [th_at ha, h]
  simp only [if_true, hv]
theorem cl_th (ha : B + 26 ≤ a) (h : θ a = some (.inr (.inl (ci, fs)))) : ev_cl (hs B c m θ z l) a = some ci := by
  unfold ev_cl
  rw [th_at ha, h]
theorem pf_th {v : Value} (ha : B + 26 ≤ a) (h : θ a = some (.inr (.inl (ci, fs)))) (hk : k < fs.length) : ev_pf (hs B c m θ z l) a ci k v = some (hs B c m (tu θ a (.inr (.inl (ci, fs.set k v)))) z l) := by
  unfold ev_pf
  rw [th_at ha, h]
  simp only [hk, and_self, if_true]
  exact congrArg some (hs_th ha)
theorem lld_th {f : Nat → Int64} {i : Int32} (ha : B + 26 ≤ a) (h : θ a = some (.inl (.long, n, .inr (.inl f)))) : ev_lld (hs B c m θ z l) a i = if ev_out i n = false then some (f i.toNatClampNeg) else none := by
  unfold ev_lld
  rw [th_at ha, h]
  simp only [true_and]
theorem lst_th {f : Nat → Int64} {i : Int32} {x : Int64} (ha : B + 26 ≤ a) (h : θ a = some (.inl (.long, n, .inr (.inl f)))) : ev_lst (hs B c m θ z l) a i x = if ev_out i n = false then some (hs B c m (tu θ a (.inl (.long, n, .inr (.inl (vp_updL f i.toNatClampNeg x))))) z l) else none := by
  unfold ev_lst
  rw [th_at ha, h]
  simp only [true_and]
  by_cases q : ev_out i n = false
  · rw [if_pos q, if_pos q]; exact congrArg some (hs_th ha)
  · rw [if_neg q, if_neg q]
theorem ald_th {C : String} {f : Nat → Option Nat} {i : Int32} (ha : B + 26 ≤ a) (h : θ a = some (.inl (.object C, n, .inr (.inr (.inr (.inr f)))))) : ev_ald (hs B c m θ z l) a i = if ev_out i n = false then some (f i.toNatClampNeg) else none := by
  unfold ev_ald
  rw [th_at ha, h]
theorem ast_th {C : String} {f : Nat → Option Nat} {i : Int32} {x : Option Nat} (ha : B + 26 ≤ a) (h : θ a = some (.inl (.object C, n, .inr (.inr (.inr (.inr f)))))) (hx : ev_may (hs B c m θ z l) C x = true) : ev_ast (hs B c m θ z l) a i x = if ev_out i n = false then some (hs B c m (tu θ a (.inl (.object C, n, .inr (.inr (.inr (.inr (va_up f i.toNatClampNeg x))))))) z l) else none := by
  unfold ev_ast
  rw [th_at ha, h]
  simp only [hx, and_true]
  by_cases q : ev_out i n = false
  · rw [if_pos q, if_pos q]; exact congrArg some (hs_th ha)
  · rw [if_neg q, if_neg q]
theorem len_th {ty : FieldType} {x : vp_A} (ha : B + 26 ≤ a) (h : θ a = some (.inl (ty, x))) : ev_len (hs B c m θ z l) a = some (nI x.1) := by
  unfold ev_len
  rw [th_at ha, h]
  rfl
theorem new_th {e : ev_E} (h : B + 26 ≤ z) : ev_new (hs B c m θ z l) n e = hs B c m (tu θ z e) (z + 1) (l + n) := hs_new h
theorem nwa_th {ty : FieldType} {x : vp_A} {i : Int32} (h : B + 26 ≤ z) (hi : ¬ (i < 0 ∨ 65536 < i.toNatClampNeg)) (hx : ev_zero ty i.toNatClampNeg = some x) : ev_nwa (hs B c m θ z l) ty i = some (hs B c m (tu θ z (.inl (ty, x))) (z + 1) (l + i.toNatClampNeg)) := by
  unfold ev_nwa
  rw [if_neg hi, hx]
  exact congrArg some (new_th h)
theorem nwq_th {C : String} {i : Int32} (h : B + 26 ≤ z) (hi : ¬ (i < 0 ∨ 65536 < i.toNatClampNeg)) : ev_nwq (hs B c m θ z l) C i = some (hs B c m (tu θ z (.inl (.object C, i.toNatClampNeg, .inr (.inr (.inr (.inr (fun _ => none))))))) (z + 1) (l + i.toNatClampNeg)) := by
  unfold ev_nwq
  rw [if_neg hi]
  exact congrArg some (new_th h)
theorem nwo_th {q : Nat × List Value} (h : B + 26 ≤ z) (hq : ev_dfl ci = some q) : ev_nwo (hs B c m θ z l) ci = some (hs B c m (tu θ z (.inr (.inl (ci, q.2)))) (z + 1) (l + q.1)) := by
  unfold ev_nwo
  rw [hq]
  exact congrArg some (new_th h)
theorem c_isBox {b : Int32} : EV 66 [.int b] σ = some (some (.int (bI (BX b))), σ) := by
  simp only [e_66, s_66_0, s_66_1, s_66_4, s_66_5, s_66_7, s_66_10, s_66_11, s_66_14, s_66_15, eq_self, true_or, or_true, or_false, false_or, not_true_eq_false, not_false_eq_true, true_and, and_true, false_and, and_false, iR_r, iR_n, iR_f, iI_i, iJ_j, iF_f, iD_d, c1_n, c1_i, c1_r, c1_0, c1_f, c1_q, sw_0, sw_i, sw_j, sw_r, sw_rr, sw_ii, sw_ir, sw_ri, sw_rj, sw_jj, bd_s, bd_n, tl_s, tl_n, if_true, if_false, oz_1, oz_0, hs_1, kt_i, kt_j, kt_f, kt_d, kt_r]
  by_cases h1 : b < 0
  · rw [if_pos h1, bI_f (by rw [i32_lt] at h1; simp only [BX, i32_le]; omega)]
  · rw [if_neg h1]
    by_cases h2 : 24 ≤ b
    · rw [if_pos h2, bI_f (by simp only [BX, i32_le] at h2 ⊢; simp at h2 ⊢; omega)]
    · rw [if_neg h2, bI_t (by simp only [BX, i32_le, i32_lt] at h1 h2 ⊢; simp at h1 h2 ⊢; omega)]
theorem c_isLane {b : Int32} : EV 87 [.int b] σ = some (some (.int (bI (0 ≤ b ∧ b ≤ 7))), σ) := by
  simp only [e_87, s_87_0, s_87_1, s_87_4, s_87_5, s_87_7, s_87_10, s_87_11, s_87_14, s_87_15, eq_self, true_or, or_true, or_false, false_or, not_true_eq_false, not_false_eq_true, true_and, and_true, false_and, and_false, iR_r, iR_n, iR_f, iI_i, iJ_j, iF_f, iD_d, c1_n, c1_i, c1_r, c1_0, c1_f, c1_q, sw_0, sw_i, sw_j, sw_r, sw_rr, sw_ii, sw_ir, sw_ri, sw_rj, sw_jj, bd_s, bd_n, tl_s, tl_n, if_true, if_false, oz_1, oz_0, hs_1, kt_i, kt_j, kt_f, kt_d, kt_r]
  by_cases h1 : b < 0
  · rw [if_pos h1, bI_f (by rw [i32_lt] at h1; simp only [i32_le]; omega)]
  · rw [if_neg h1]
    by_cases h2 : 7 < b
    · rw [if_pos h2, bI_f (by simp only [i32_le, i32_lt] at h2 ⊢; omega)]
    · rw [if_neg h2, bI_t (by simp only [i32_le, i32_lt] at h1 h2 ⊢; omega)]
def g_found (c : CS) (f : Int32) : CS := cI (cS c 1 f) 1 f.toNatClampNeg (c.2.1 1 f.toNatClampNeg + 1)
theorem c_found {f : Int32} (h1 : 1 ≤ f) (h2 : f < 8) : EV 70 [.ref B, .int f] (hs B c m θ z l) = some (some (.int (-10 - f)), hs B (g_found c f) m θ z l) := by
  have q1 : ¬ f < 1 := by simp only [i32_le, i32_lt] at h1 ⊢; omega
  have q2 : ¬ 8 ≤ f := by simp only [i32_le, i32_lt] at h2 ⊢; omega
  have q3 : ev_out f 8 = false := by
    simp only [i32_le, i32_lt] at h1 h2
    exact ox_of (by simp at h1; omega) (by simp at h2; omega)
  simp only [e_70, s_70_0, s_70_1, s_70_2, s_70_5, s_70_6, s_70_7, s_70_10, s_70_11, s_70_12, s_70_15, s_70_16, s_70_19, s_70_20, s_70_23, s_70_24, s_70_25, s_70_26, s_70_27, s_70_28, s_70_29, s_70_31, s_70_32, s_70_33, eq_self, true_or, or_true, or_false, false_or, not_true_eq_false, not_false_eq_true, true_and, and_true, false_and, and_false, iR_r, iR_n, iR_f, iI_i, iJ_j, iF_f, iD_d, c1_n, c1_i, c1_r, c1_0, c1_f, c1_q, sw_0, sw_i, sw_j, sw_r, sw_rr, sw_ii, sw_ir, sw_ri, sw_rj, sw_jj, bd_s, bd_n, tl_s, tl_n, if_true, if_false, oz_1, oz_0, hs_1, kt_i, kt_j, kt_f, kt_d, kt_r, gc_0, gc_1, gc_2, gc_3, gc_4, gc_5, gc_6, gc_7, gc_8, gc_9, gff_0, gff_1, gff_2, gfd_0, gfd_1, gfd_2, kl_c, kl_f, kl_d, pc_5, pc_6, pc_7, pc_8, pc_9, rd_c0, wr_c0, ln_c0, rd_c1, wr_c1, ln_c1, rd_cb, ln_cb, mI_1, mI_2, mW_1, mW_2, mW_3, mS_1, mS_2, mS_3, mS_4, mQ_1, mQ_2, mQ_3, mQ_4, cB_1, cB_2, cI_1, cI_2, cI_3, cS_1, cS_2, cS_3, cS_4, cQ_1, cQ_2, cQ_3, cQ_4, q1, q2, q3, g_found]
theorem c_thingIn {b : Int32} (h : BX b) : EV 67 [.ref B, .int b] (hs B c m θ z l) = some (some (va_rf (c.1 b.toNatClampNeg)), hs B c m θ z l) := by
  have hb := ox_b h
  have q1 : ¬ b < 0 := by obtain ⟨h1, h2⟩ := h; simp only [i32_le, i32_lt] at h1 ⊢; omega
  have q2 : ¬ 24 ≤ b := by obtain ⟨h1, h2⟩ := h; simp only [i32_le] at h2 ⊢; simp at h2 ⊢; omega
  simp only [e_67, s_67_0, s_67_1, s_67_4, s_67_5, s_67_6, s_67_9, s_67_10, s_67_13, s_67_14, s_67_17, s_67_18, s_67_19, s_67_22, s_67_23, eq_self, true_or, or_true, or_false, false_or, not_true_eq_false, not_false_eq_true, true_and, and_true, false_and, and_false, iR_r, iR_n, iR_f, iI_i, iJ_j, iF_f, iD_d, c1_n, c1_i, c1_r, c1_0, c1_f, c1_q, sw_0, sw_i, sw_j, sw_r, sw_rr, sw_ii, sw_ir, sw_ri, sw_rj, sw_jj, bd_s, bd_n, tl_s, tl_n, if_true, if_false, oz_1, oz_0, hs_1, kt_i, kt_j, kt_f, kt_d, kt_r, gc_0, gc_1, gc_2, gc_3, gc_4, gc_5, gc_6, gc_7, gc_8, gc_9, gff_0, gff_1, gff_2, gfd_0, gfd_1, gfd_2, kl_c, kl_f, kl_d, pc_5, pc_6, pc_7, pc_8, pc_9, rd_c0, wr_c0, ln_c0, rd_c1, wr_c1, ln_c1, rd_cb, ln_cb, q1, q2, hb]
theorem c_isOther {x y : Option Nat} : EV 72 [va_rf x, va_rf y] σ = some (some (.int (bI (x ≠ none ∧ y = none))), σ) := by
  cases x <;> cases y <;> simp only [va_rf, e_72, s_72_0, s_72_1n, s_72_1, s_72_4, s_72_5n, s_72_5, s_72_8, s_72_9, s_72_12, s_72_13, eq_self, true_or, or_true, or_false, false_or, not_true_eq_false, not_false_eq_true, true_and, and_true, false_and, and_false, iR_r, iR_n, iR_f, iI_i, iJ_j, iF_f, iD_d, c1_n, c1_i, c1_r, c1_0, c1_f, c1_q, sw_0, sw_i, sw_j, sw_r, sw_rr, sw_ii, sw_ir, sw_ri, sw_rj, sw_jj, bd_s, bd_n, tl_s, tl_n, if_true, if_false, oz_1, oz_0, hs_1, kt_i, kt_j, kt_f, kt_d, kt_r] <;> simp [bI]
theorem c_joined {h n : Int64} : EV 73 [.long h, .long n] σ = some (some (.long (31 * h + n)), σ) := by
  simp only [e_73, s_73_0, s_73_3, s_73_4, s_73_5, s_73_6, s_73_7, eq_self, true_or, or_true, or_false, false_or, not_true_eq_false, not_false_eq_true, true_and, and_true, false_and, and_false, iR_r, iR_n, iR_f, iI_i, iJ_j, iF_f, iD_d, c1_n, c1_i, c1_r, c1_0, c1_f, c1_q, sw_0, sw_i, sw_j, sw_r, sw_rr, sw_ii, sw_ir, sw_ri, sw_rj, sw_jj, bd_s, bd_n, tl_s, tl_n, if_true, if_false, oz_1, oz_0, hs_1, kt_i, kt_j, kt_f, kt_d, kt_r]
theorem c_isOfKind {k o : Int32} : EV 82 [.int k, .int o] σ = some (some (.int (bI (SU k o))), σ) := by
  simp only [e_82, s_82_0, s_82_1, s_82_44, s_82_45, s_82_48, s_82_49, s_82_50, s_82_53, s_82_54, s_82_55, s_82_58, s_82_59, s_82_62, s_82_63, s_82_64, s_82_65, s_82_66, s_82_69, s_82_70, s_82_71, s_82_74, s_82_75, s_82_78, s_82_79, s_82_80, s_82_81, s_82_82, s_82_85, s_82_86, s_82_87, s_82_90, s_82_91, s_82_92, s_82_95, s_82_96, s_82_99, s_82_100, s_82_101, s_82_102, s_82_103, s_82_104, s_82_105, s_82_108, s_82_109, s_82_112, s_82_113, eq_self, true_or, or_true, or_false, false_or, not_true_eq_false, not_false_eq_true, true_and, and_true, false_and, and_false, iR_r, iR_n, iR_f, iI_i, iJ_j, iF_f, iD_d, c1_n, c1_i, c1_r, c1_0, c1_f, c1_q, sw_0, sw_i, sw_j, sw_r, sw_rr, sw_ii, sw_ir, sw_ri, sw_rj, sw_jj, bd_s, bd_n, tl_s, tl_n, if_true, if_false, oz_1, oz_0, hs_1, kt_i, kt_j, kt_f, kt_d, kt_r]
  by_cases h0 : o = 0
  · subst h0
    by_cases h1 : k = 0
    · subst h1; simp [bI]
    by_cases h2 : k = 1
    · subst h2; simp [bI]
    by_cases h3 : k = 2
    · subst h3; simp [bI]
    rw [bI_f (by simp [SU, h1, h2, h3])]; simp [h1, h2, h3]
  by_cases h5 : o = 1
  · subst h5
    by_cases h2 : k = 1
    · subst h2; simp [bI]
    by_cases h3 : k = 2
    · subst h3; simp [bI]
    rw [bI_f (by simp [SU, h2, h3])]; simp [h2, h3]
  by_cases h6 : o = 3
  · subst h6
    by_cases h2 : k = 3
    · subst h2; simp [bI]
    by_cases h3 : k = 4
    · subst h3; simp [bI]
    by_cases h4 : k = 5
    · subst h4; simp [bI]
    rw [bI_f (by simp [SU, h2, h3, h4])]; simp [h2, h3, h4]
  by_cases h7 : o = 6
  · subst h7
    rw [bI_t (show SU k 6 from Or.inr (Or.inl rfl))]; simp
  by_cases h8 : o = 2
  · subst h8
    by_cases h1 : k = 2
    · subst h1; simp [bI]
    · rw [bI_f (by simp [SU, h1])]; simp [h1]
  by_cases h9 : o = 4
  · subst h9
    by_cases h1 : k = 4
    · subst h1; simp [bI]
    · rw [bI_f (by simp [SU, h1])]; simp [h1]
  by_cases h10 : o = 5
  · subst h10
    by_cases h1 : k = 5
    · subst h1; simp [bI]
    · rw [bI_f (by simp [SU, h1])]; simp [h1]
  by_cases h1 : k = o
  · subst h1
    rw [bI_t (Or.inl rfl)]; simp [h0, h5, h6, h7, h8, h9, h10]
  · rw [bI_f (by simp [SU, h0, h5, h6, h7, h1])]; simp [h0, h5, h6, h7, h8, h9, h10, h1]
theorem c_isHeard {k : Int32} : EV 83 [.int k] σ = some (some (.int (bI (k = 5 ∨ SU k 0))), σ) := by
  simp only [e_83, s_83_0, s_83_1, s_83_2, s_83_5, s_83_6, s_83_7, s_83_10, s_83_13, s_83_14, s_83_17, s_83_18, eq_self, true_or, or_true, or_false, false_or, not_true_eq_false, not_false_eq_true, true_and, and_true, false_and, and_false, iR_r, iR_n, iR_f, iI_i, iJ_j, iF_f, iD_d, c1_n, c1_i, c1_r, c1_0, c1_f, c1_q, sw_0, sw_i, sw_j, sw_r, sw_rr, sw_ii, sw_ir, sw_ri, sw_rj, sw_jj, bd_s, bd_n, tl_s, tl_n, if_true, if_false, oz_1, oz_0, hs_1, kt_i, kt_j, kt_f, kt_d, kt_r, c_isOfKind, bI_0, nn_]
  by_cases h1 : k = 5
  · subst h1; simp [bI]
  · by_cases h2 : SU k 0
    · rw [bI_t (Or.inr h2)]; simp only [h1, h2, not_true, not_false_eq_true, if_true, if_false, eq_self, true_or, or_true, or_false, false_or, not_true_eq_false, not_false_eq_true, true_and, and_true, false_and, and_false, iR_r, iR_n, iR_f, iI_i, iJ_j, iF_f, iD_d, c1_n, c1_i, c1_r, c1_0, c1_f, c1_q, sw_0, sw_i, sw_j, sw_r, sw_rr, sw_ii, sw_ir, sw_ri, sw_rj, sw_jj, bd_s, bd_n, tl_s, tl_n, if_true, if_false, oz_1, oz_0, hs_1, kt_i, kt_j, kt_f, kt_d, kt_r]
    · rw [bI_f (by simp only [h1, h2, or_self, not_false_eq_true])]; simp only [h1, h2, not_true, not_false_eq_true, if_true, if_false, eq_self, true_or, or_true, or_false, false_or, not_true_eq_false, not_false_eq_true, true_and, and_true, false_and, and_false, iR_r, iR_n, iR_f, iI_i, iJ_j, iF_f, iD_d, c1_n, c1_i, c1_r, c1_0, c1_f, c1_q, sw_0, sw_i, sw_j, sw_r, sw_rr, sw_ii, sw_ir, sw_ri, sw_rj, sw_jj, bd_s, bd_n, tl_s, tl_n, if_true, if_false, oz_1, oz_0, hs_1, kt_i, kt_j, kt_f, kt_d, kt_r]
def g_note (c : CS) (x : Int32) : CS := if c.2.2.1 0 < 100 then cS (cI c 0 (c.2.2.1 0).toNatClampNeg x) 0 (c.2.2.1 0 + 1) else c
theorem c_note {x : Int32} (h0 : 0 ≤ c.2.2.1 0) : EV 95 [.ref B, .int x] (hs B c m θ z l) = some (none, hs B (g_note c x) m θ z l) := by
  by_cases h : c.2.2.1 0 < 100
  · have h2 : ¬ 100 ≤ c.2.2.1 0 := by rw [i32_le]; rw [i32_lt] at h; omega
    have ho : ev_out (c.2.2.1 0) 100 = false := by
      rw [i32_le] at h0; rw [i32_lt] at h
      exact ox_of (by simpa using h0) (by simpa using h)
    simp only [e_95, s_95_0, s_95_1, s_95_4, s_95_5, s_95_8, s_95_9, s_95_12, s_95_13, s_95_16, s_95_17, s_95_20, s_95_21, s_95_22, s_95_23, s_95_24, s_95_27, s_95_28, s_95_29, s_95_32, eq_self, true_or, or_true, or_false, false_or, not_true_eq_false, not_false_eq_true, true_and, and_true, false_and, and_false, iR_r, iR_n, iR_f, iI_i, iJ_j, iF_f, iD_d, c1_n, c1_i, c1_r, c1_0, c1_f, c1_q, sw_0, sw_i, sw_j, sw_r, sw_rr, sw_ii, sw_ir, sw_ri, sw_rj, sw_jj, bd_s, bd_n, tl_s, tl_n, if_true, if_false, oz_1, oz_0, hs_1, kt_i, kt_j, kt_f, kt_d, kt_r, gc_0, gc_1, gc_2, gc_3, gc_4, gc_5, gc_6, gc_7, gc_8, gc_9, gff_0, gff_1, gff_2, gfd_0, gfd_1, gfd_2, kl_c, kl_f, kl_d, pc_5, pc_6, pc_7, pc_8, pc_9, rd_c0, wr_c0, ln_c0, rd_c1, wr_c1, ln_c1, rd_cb, ln_cb, mI_1, mI_2, mW_1, mW_2, mW_3, mS_1, mS_2, mS_3, mS_4, mQ_1, mQ_2, mQ_3, mQ_4, cB_1, cB_2, cI_1, cI_2, cI_3, cS_1, cS_2, cS_3, cS_4, cQ_1, cQ_2, cQ_3, cQ_4, h2, ho, g_note, h]
  · have h2 : 100 ≤ c.2.2.1 0 := by rw [i32_le]; rw [i32_lt] at h; omega
    simp only [e_95, s_95_0, s_95_1, s_95_4, s_95_5, s_95_8, s_95_9, s_95_12, s_95_13, s_95_16, s_95_17, s_95_20, s_95_21, s_95_22, s_95_23, s_95_24, s_95_27, s_95_28, s_95_29, s_95_32, eq_self, true_or, or_true, or_false, false_or, not_true_eq_false, not_false_eq_true, true_and, and_true, false_and, and_false, iR_r, iR_n, iR_f, iI_i, iJ_j, iF_f, iD_d, c1_n, c1_i, c1_r, c1_0, c1_f, c1_q, sw_0, sw_i, sw_j, sw_r, sw_rr, sw_ii, sw_ir, sw_ri, sw_rj, sw_jj, bd_s, bd_n, tl_s, tl_n, if_true, if_false, oz_1, oz_0, hs_1, kt_i, kt_j, kt_f, kt_d, kt_r, gc_0, gc_1, gc_2, gc_3, gc_4, gc_5, gc_6, gc_7, gc_8, gc_9, gff_0, gff_1, gff_2, gfd_0, gfd_1, gfd_2, kl_c, kl_f, kl_d, pc_5, pc_6, pc_7, pc_8, pc_9, rd_c0, wr_c0, ln_c0, rd_c1, wr_c1, ln_c1, rd_cb, ln_cb, mI_1, mI_2, mW_1, mW_2, mW_3, mS_1, mS_2, mS_3, mS_4, mQ_1, mQ_2, mQ_3, mQ_4, cB_1, cB_2, cI_1, cI_2, cI_3, cS_1, cS_2, cS_3, cS_4, cQ_1, cQ_2, cQ_3, cQ_4, h2, g_note, h]
end THG
