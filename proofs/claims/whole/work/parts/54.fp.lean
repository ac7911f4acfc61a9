-- numbers with a point, in Nat: a size S of a format with F stored digits tells fp_vl F S times the least one
def fp_dg (F S : Nat) : Nat := if S < 2 ^ F then S else 2 ^ F + S % 2 ^ F
def fp_fd (F S : Nat) : Nat := if S < 2 ^ F then 1 else S / 2 ^ F
def fp_vl (F S : Nat) : Nat := fp_dg F S * 2 ^ (fp_fd F S - 1)
theorem fp_pos (F : Nat) : 0 < 2 ^ F := Nat.two_pow_pos F
theorem fp_lo {F t : Nat} (h : t ≤ 2 ^ F) : fp_vl F t = t := by
  unfold fp_vl fp_dg fp_fd
  by_cases h1 : t < 2 ^ F
  · simp [h1]
  · have e : t = 2 ^ F := by omega
    subst e
    simp [Nat.div_self (fp_pos F)]
theorem fp_hi {F e t : Nat} (he : 1 ≤ e) (h : t ≤ 2 ^ F) : fp_vl F (e * 2 ^ F + t) = (2 ^ F + t) * 2 ^ (e - 1) := by
  have hp := fp_pos F
  have hge : ¬ e * 2 ^ F + t < 2 ^ F := by
    have := Nat.mul_le_mul_right (2 ^ F) he
    omega
  unfold fp_vl fp_dg fp_fd
  rw [if_neg hge, if_neg hge]
  by_cases h1 : t < 2 ^ F
  · rw [Nat.mul_add_mod_of_lt h1]
    have : (e * 2 ^ F + t) / 2 ^ F = e := by
      rw [Nat.mul_comm, Nat.mul_add_div hp, Nat.div_eq_of_lt h1]; rfl
    rw [this]
  · have e1 : t = 2 ^ F := by omega
    subst e1
    have h2 : e * 2 ^ F + 2 ^ F = (e + 1) * 2 ^ F := by rw [Nat.succ_mul]
    rw [h2, Nat.mul_mod_left, Nat.mul_div_left _ hp]
    obtain ⟨d, rfl⟩ : ∃ d, e = d + 1 := ⟨e - 1, by omega⟩
    simp only [Nat.add_sub_cancel, Nat.add_zero]
    rw [Nat.pow_succ, ← Nat.two_mul, Nat.mul_comm 2 (2 ^ F), Nat.mul_assoc, Nat.mul_comm 2 (2 ^ d)]
theorem fp_cut (F S : Nat) : S < 2 ^ F ∨ ∃ e t, 1 ≤ e ∧ t < 2 ^ F ∧ S = e * 2 ^ F + t := by
  by_cases h : S < 2 ^ F
  · exact Or.inl h
  · refine Or.inr ⟨S / 2 ^ F, S % 2 ^ F, ?_, Nat.mod_lt _ (fp_pos F), ?_⟩
    · exact (Nat.one_le_div_iff (fp_pos F)).mpr (by omega)
    · rw [Nat.mul_comm]; exact (Nat.div_add_mod S (2 ^ F)).symm
theorem fp_succ (F S : Nat) : fp_vl F S < fp_vl F (S + 1) := by
  rcases fp_cut F S with h | ⟨e, t, he, ht, rfl⟩
  · rw [fp_lo (by omega), fp_lo (by omega)]; omega
  · rw [fp_hi he (by omega), Nat.add_assoc, fp_hi he (by omega)]
    exact Nat.mul_lt_mul_of_pos_right (by omega) (fp_pos _)
theorem fp_lt {F a b : Nat} (h : a < b) : fp_vl F a < fp_vl F b := by
  induction h with
  | refl => exact fp_succ F a
  | step _ ih => exact Nat.lt_trans ih (fp_succ F _)
theorem fp_lt_iff {F a b : Nat} : fp_vl F a < fp_vl F b ↔ a < b := by
  constructor
  · intro h
    rcases Nat.lt_trichotomy a b with q | q | q
    · exact q
    · subst q; exact absurd h (Nat.lt_irrefl _)
    · exact absurd (fp_lt (F := F) q) (by omega)
  · exact fp_lt
theorem fp_inj {F a b : Nat} (h : fp_vl F a = fp_vl F b) : a = b := by
  rcases Nat.lt_trichotomy a b with q | q | q
  · have := fp_lt (F := F) q; omega
  · exact q
  · have := fp_lt (F := F) q; omega
theorem fp_zero (F : Nat) : fp_vl F 0 = 0 := fp_lo (Nat.zero_le _)
theorem fp_vl0 {F S : Nat} : fp_vl F S = 0 ↔ S = 0 := ⟨fun h => fp_inj (F := F) (by rw [h, fp_zero]), fun h => by rw [h, fp_zero]⟩
theorem fp_dg_lt (F S : Nat) : fp_dg F S < 2 ^ (F + 1) := by
  have h := Nat.mod_lt S (fp_pos F)
  unfold fp_dg
  rw [Nat.pow_succ]
  split <;> omega
theorem fp_fd1 (F S : Nat) : ∃ j, fp_fd F S = j + 1 := by
  unfold fp_fd
  split
  · exact ⟨0, rfl⟩
  · refine ⟨S / 2 ^ F - 1, ?_⟩
    have : 1 ≤ S / 2 ^ F := (Nat.one_le_div_iff (fp_pos F)).mpr (by omega)
    omega
theorem fp_vlj {F S j : Nat} (h : fp_fd F S = j + 1) : fp_vl F S = fp_dg F S * 2 ^ j := by
  unfold fp_vl; rw [h]; rfl
theorem fp_dg0 {F S : Nat} : fp_dg F S = 0 ↔ S = 0 := by
  refine Iff.trans ?_ (fp_vl0 (F := F) (S := S))
  unfold fp_vl
  constructor
  · intro h; rw [h, Nat.zero_mul]
  · intro h
    rcases Nat.mul_eq_zero.mp h with q | q
    · exact q
    · have := fp_pos (fp_fd F S - 1); omega
-- the formats of the library
def fp_f (E F : Nat) : FP.Core.Fmt := ⟨E, F + 1⟩
theorem fp_b32 : FP.Core.b32 = fp_f 8 23 := rfl
theorem fp_b64 : FP.Core.b64 = fp_f 11 52 := rfl
def fp_bt (E F : Nat) (s : Bool) (S : Nat) : Nat := s.toNat * 2 ^ E * 2 ^ F + S
theorem fp_fields {E F S : Nat} {s : Bool} (h : S / 2 ^ F < 2 ^ E) : FP.Core.fieldT (fp_f E F) (fp_bt E F s S) = S % 2 ^ F ∧ FP.Core.fieldE (fp_f E F) (fp_bt E F s S) = S / 2 ^ F ∧ FP.Core.fieldS (fp_f E F) (fp_bt E F s S) = s := by
  have hp := fp_pos F
  have hE := fp_pos E
  have hn : fp_bt E F s S / 2 ^ F = s.toNat * 2 ^ E + S / 2 ^ F := by
    unfold fp_bt; rw [Nat.mul_comm _ (2 ^ F), Nat.mul_add_div hp]
  refine ⟨?_, ?_, ?_⟩
  · show (s.toNat * 2 ^ E * 2 ^ F + S) % 2 ^ F = _
    exact Nat.mul_add_mod' _ _ _
  · show fp_bt E F s S / 2 ^ F % 2 ^ E = _
    rw [hn, Nat.mul_add_mod_of_lt h]
  · show (fp_bt E F s S / 2 ^ F / 2 ^ E % 2 == 1) = s
    rw [hn, Nat.mul_comm, Nat.mul_add_div hE, Nat.div_eq_of_lt h]
    cases s <;> rfl
theorem fp_dec {E F S : Nat} {s : Bool} (h : S < (2 ^ E - 1) * 2 ^ F) : FP.Core.decode (fp_f E F) (fp_bt E F s S) = .fin s (fp_dg F S) ((fp_f E F).qmin + ((fp_fd F S : Int) - 1)) := by
  have hp := fp_pos F
  have hq : S / 2 ^ F < 2 ^ E - 1 := (Nat.div_lt_iff_lt_mul hp).mpr h
  obtain ⟨h1, h2, h3⟩ := fp_fields (E := E) (F := F) (S := S) (s := s) (Nat.lt_of_lt_of_le hq (Nat.sub_le _ _))
  unfold FP.Core.decode
  rw [h1, h2, h3, if_neg (show ¬ S / 2 ^ F = (fp_f E F).exps - 1 by show ¬ S / 2 ^ F = 2 ^ E - 1; omega)]
  by_cases h0 : S < 2 ^ F
  · rw [if_pos (Nat.div_eq_of_lt h0)]
    unfold fp_dg fp_fd
    rw [if_pos h0, if_pos h0, Nat.mod_eq_of_lt h0]
    simp
  · have h4 : 1 ≤ S / 2 ^ F := (Nat.one_le_div_iff hp).mpr (by omega)
    rw [if_neg (by omega)]
    unfold fp_dg fp_fd
    rw [if_neg h0, if_neg h0]
    rfl
theorem fp_decI {E F : Nat} {s : Bool} : FP.Core.decode (fp_f E F) (fp_bt E F s ((2 ^ E - 1) * 2 ^ F)) = .inf s := by
  have hp := fp_pos F
  have hE := fp_pos E
  have hq : (2 ^ E - 1) * 2 ^ F / 2 ^ F = 2 ^ E - 1 := Nat.mul_div_left _ hp
  obtain ⟨h1, h2, h3⟩ := fp_fields (E := E) (F := F) (S := (2 ^ E - 1) * 2 ^ F) (s := s) (by omega)
  unfold FP.Core.decode
  rw [h1, h2, h3, hq, if_pos (show 2 ^ E - 1 = (fp_f E F).exps - 1 from rfl), if_pos (Nat.mul_mod_left _ _)]
theorem fp_enc {E F S : Nat} {s : Bool} : FP.Core.encode (fp_f E F) (.fin s (fp_dg F S) ((fp_f E F).qmin + ((fp_fd F S : Int) - 1))) = fp_bt E F s S := by
  have hp := fp_pos F
  show (if fp_dg F S < 2 ^ F then (s.toNat * 2 ^ E + 0) * 2 ^ F + fp_dg F S else (s.toNat * 2 ^ E + (((fp_f E F).qmin + ((fp_fd F S : Int) - 1) - (fp_f E F).qmin).toNat + 1)) * 2 ^ F + (fp_dg F S - 2 ^ F)) = s.toNat * 2 ^ E * 2 ^ F + S
  by_cases h0 : S < 2 ^ F
  · unfold fp_dg
    rw [if_pos h0, if_pos h0, Nat.add_zero]
  · have h4 : 1 ≤ S / 2 ^ F := (Nat.one_le_div_iff hp).mpr (by omega)
    have h5 : ((fp_f E F).qmin + (((S / 2 ^ F : Nat) : Int) - 1) - (fp_f E F).qmin).toNat + 1 = S / 2 ^ F := by omega
    unfold fp_dg fp_fd
    rw [if_neg h0, if_neg h0, if_neg (by omega), h5, Nat.add_mul, Nat.add_sub_cancel_left, Nat.add_assoc, Nat.mul_comm (S / 2 ^ F), Nat.div_add_mod]
theorem fp_near {d k : Nat} (h : 0 < k) : FP.Core.nearest (d * k) k = d := by
  unfold FP.Core.nearest
  rw [Nat.mul_mod_left, if_pos (by omega), Nat.mul_div_left _ h]
theorem fp_log {n a : Nat} (h : n ≠ 0) : Nat.log2 (n * 2 ^ a) = Nat.log2 n + a := by
  have h1 := Nat.log2_self_le h
  have h2 := @Nat.lt_log2_self n
  have hp := fp_pos a
  refine (Nat.log2_eq_iff (by have := Nat.mul_pos (Nat.pos_of_ne_zero h) hp; omega)).mpr ⟨?_, ?_⟩
  · rw [Nat.pow_add]; exact Nat.mul_le_mul_right _ h1
  · rw [show Nat.log2 n + a + 1 = Nat.log2 n + 1 + a by omega, Nat.pow_add]; exact Nat.mul_lt_mul_of_pos_right h2 hp
theorem fp_lead {c : Nat} (h : c ≠ 0) : FP.Core.leading c 1 = (Nat.log2 c : Int) := by
  have h1 := Nat.log2_self_le h
  unfold FP.Core.leading
  have e : Nat.log2 1 = 0 := by decide
  simp only [e, Int.ofNat_zero, Int.sub_zero, Int.toNat_natCast]
  rw [if_pos]
  have e2 : (-(Nat.log2 c : Int)).toNat = 0 := by omega
  rw [Nat.one_mul]
  simpa [e2] using h1
theorem fp_qmin (E F : Nat) : (fp_f E F).qmin = 2 - ((2 ^ (E - 1) - 1 : Nat) : Int) - ((F + 1 : Nat) : Int) := rfl
theorem fp_qmax (E F : Nat) : (fp_f E F).qmax = ((2 ^ (E - 1) - 1 : Nat) : Int) - ((F + 1 : Nat) : Int) + 1 := rfl
theorem fp_two {E : Nat} (hE : 2 ≤ E) : 2 ^ E = 2 * 2 ^ (E - 1) ∧ 2 ≤ 2 ^ (E - 1) := by
  obtain ⟨d, rfl⟩ : ∃ d, E = d + 2 := ⟨E - 2, by omega⟩
  have hp := fp_pos d
  constructor
  · rw [show d + 2 - 1 = d + 1 by omega, Nat.pow_succ 2 (d + 1), Nat.mul_comm]
  · rw [show d + 2 - 1 = d + 1 by omega, Nat.pow_succ]; omega
/-- a number that the format has is rounded to itself -/
theorem fp_round {E F S c a b : Nat} {q : Int} {s : Bool} (hE : 2 ≤ E) (h : S < (2 ^ E - 1) * 2 ^ F) (hc : c * 2 ^ a = fp_vl F S * 2 ^ b) (hq : q + b = (fp_f E F).qmin + a) : FP.Core.round (fp_f E F) (.fin s c q) = .fin s (fp_dg F S) ((fp_f E F).qmin + ((fp_fd F S : Int) - 1)) := by
  show FP.Core.roundRatio (fp_f E F) s c 1 q = _
  unfold FP.Core.roundRatio
  by_cases h0 : c = 0
  · subst h0
    rw [if_pos rfl]
    have hS : S = 0 := by
      rw [Nat.zero_mul] at hc
      rcases Nat.mul_eq_zero.mp hc.symm with z | z
      · exact fp_vl0.mp z
      · have := fp_pos b; omega
    subst hS
    simp [fp_dg, fp_fd, fp_pos]
  · rw [if_neg h0]
    obtain ⟨j, hj⟩ := fp_fd1 F S
    have hS0 : S ≠ 0 := by
      intro z
      rw [z, fp_zero, Nat.zero_mul] at hc
      rcases Nat.mul_eq_zero.mp hc with z | z
      · exact h0 z
      · have := fp_pos a; omega
    have hd0 : fp_dg F S ≠ 0 := fun z => hS0 (fp_dg0.mp z)
    have hv := fp_vlj hj
    have hl : Nat.log2 c + a = Nat.log2 (fp_dg F S) + (j + b) := by
      rw [← fp_log h0, hc, hv, Nat.mul_assoc, ← Nat.pow_add, fp_log hd0]
    have hp := fp_pos F
    have hquo : S / 2 ^ F < 2 ^ E - 1 := (Nat.div_lt_iff_lt_mul hp).mpr h
    have hquant : FP.Core.quantum (fp_f E F) c 1 q = (fp_f E F).qmin + ((fp_fd F S : Int) - 1) := by
      unfold FP.Core.quantum
      rw [fp_lead h0, hj]
      show max (fp_f E F).qmin ((Nat.log2 c : Int) + q - (((F + 1 : Nat) : Int) - 1)) = _
      by_cases hS : S < 2 ^ F
      · have e1 : fp_dg F S = S := by unfold fp_dg; rw [if_pos hS]
        have e2 : j = 0 := by unfold fp_fd at hj; rw [if_pos hS] at hj; omega
        have e3 : Nat.log2 (fp_dg F S) < F := (Nat.log2_lt hd0).mpr (by rw [e1]; exact hS)
        generalize (fp_f E F).qmin = Q at *
        omega
      · have e1 : fp_dg F S = 2 ^ F + S % 2 ^ F := by unfold fp_dg; rw [if_neg hS]
        have e3 : Nat.log2 (fp_dg F S) = F := (Nat.log2_eq_iff hd0).mpr ⟨by rw [e1]; omega, fp_dg_lt F S⟩
        generalize (fp_f E F).qmin = Q at *
        omega
    rw [hquant]
    unfold FP.Core.roundAt FP.Core.unitsNum FP.Core.unitsDen
    have hcan : c * 2 ^ (q - ((fp_f E F).qmin + ((fp_fd F S : Int) - 1))).toNat = fp_dg F S * 2 ^ ((fp_f E F).qmin + ((fp_fd F S : Int) - 1) - q).toNat := by
      have hxy : (q - ((fp_f E F).qmin + ((fp_fd F S : Int) - 1))).toNat + (j + b) = a + ((fp_f E F).qmin + ((fp_fd F S : Int) - 1) - q).toNat := by
        rw [hj]
        generalize (fp_f E F).qmin = Q at *
        omega
      generalize (q - ((fp_f E F).qmin + ((fp_fd F S : Int) - 1))).toNat = x at *
      generalize ((fp_f E F).qmin + ((fp_fd F S : Int) - 1) - q).toNat = y at *
      refine Nat.eq_of_mul_eq_mul_right (fp_pos (j + b)) ?_
      rw [Nat.mul_assoc, ← Nat.pow_add, hxy, Nat.pow_add, ← Nat.mul_assoc, hc, hv, Nat.pow_add]
      simp only [Nat.mul_assoc, Nat.mul_comm, Nat.mul_left_comm]
    rw [Nat.one_mul, hcan, fp_near (fp_pos _)]
    show (if fp_dg F S < 2 ^ (F + 1) then FP.Core.bound (fp_f E F) s (fp_dg F S) ((fp_f E F).qmin + ((fp_fd F S : Int) - 1)) else _) = _
    rw [if_pos (fp_dg_lt F S)]
    unfold FP.Core.bound
    rw [if_pos]
    rw [fp_qmin, fp_qmax]
    obtain ⟨t1, t2⟩ := fp_two hE
    have hfd : fp_fd F S ≤ 2 ^ E - 2 := by
      unfold fp_fd
      split <;> omega
    generalize 2 ^ (E - 1) = w at *
    omega
theorem fp_er {E F S c a b : Nat} {q : Int} {s : Bool} (hE : 2 ≤ E) (h : S < (2 ^ E - 1) * 2 ^ F) (hc : c * 2 ^ a = fp_vl F S * 2 ^ b) (hq : q + b = (fp_f E F).qmin + a) : FP.Core.encode (fp_f E F) (FP.Core.round (fp_f E F) (.fin s c q)) = fp_bt E F s S := by
  rw [fp_round hE h hc hq, fp_enc]
theorem fp_unit {c j k : Nat} {Q : Int} : FP.Core.inUnits c (Q + (((j + 1 : Nat) : Int) - 1)) (min (Q + (((j + 1 : Nat) : Int) - 1)) (Q + (((k + 1 : Nat) : Int) - 1))) = c * 2 ^ (j - min j k) := by
  unfold FP.Core.inUnits
  rw [show (Q + (((j + 1 : Nat) : Int) - 1) - min (Q + (((j + 1 : Nat) : Int) - 1)) (Q + (((k + 1 : Nat) : Int) - 1))).toNat = j - min j k by omega]
theorem fp_unit' {c j k : Nat} {Q : Int} : FP.Core.inUnits c (Q + (((k + 1 : Nat) : Int) - 1)) (min (Q + (((j + 1 : Nat) : Int) - 1)) (Q + (((k + 1 : Nat) : Int) - 1))) = c * 2 ^ (k - min j k) := by
  unfold FP.Core.inUnits
  rw [show (Q + (((k + 1 : Nat) : Int) - 1) - min (Q + (((j + 1 : Nat) : Int) - 1)) (Q + (((k + 1 : Nat) : Int) - 1))).toNat = k - min j k by omega]
theorem fp_back {c j m : Nat} (h : m ≤ j) : c * 2 ^ (j - m) * 2 ^ m = c * 2 ^ j := by
  rw [Nat.mul_assoc, ← Nat.pow_add, show j - m + m = j by omega]
theorem fp_minq {j k : Nat} {Q : Int} : min (Q + (((j + 1 : Nat) : Int) - 1)) (Q + (((k + 1 : Nat) : Int) - 1)) = Q + (min j k : Nat) := by omega
section FPO
variable {E F S R Z : Nat} {s t : Bool}
theorem fp_rem (hE : 2 ≤ E) (hS : S < (2 ^ E - 1) * 2 ^ F) (hR : R < (2 ^ E - 1) * 2 ^ F) (hR0 : R ≠ 0) (hZ : Z < (2 ^ E - 1) * 2 ^ F) (hv : fp_vl F Z = fp_vl F S % fp_vl F R) : FP.Core.rem (fp_f E F) (fp_bt E F s S) (fp_bt E F t R) = fp_bt E F s Z := by
  unfold FP.Core.rem
  rw [fp_dec hS, fp_dec hR]
  obtain ⟨j, hj⟩ := fp_fd1 F S
  obtain ⟨k, hk⟩ := fp_fd1 F R
  rw [hj, hk]
  show FP.Core.encode _ (FP.Core.round _ (if fp_dg F R = 0 then .nan else _)) = _
  rw [if_neg (fun z => hR0 (fp_dg0.mp z)), fp_unit, fp_unit', fp_minq]
  refine fp_er (a := min j k) (b := 0) hE hZ ?_ (by omega)
  rw [Nat.pow_zero, Nat.mul_one, hv, fp_vlj hj, fp_vlj hk, ← Nat.mul_mod_mul_right, fp_back (Nat.min_le_left _ _), fp_back (Nat.min_le_right _ _)]
theorem fp_remI (hE : 2 ≤ E) (hS : S < (2 ^ E - 1) * 2 ^ F) : FP.Core.rem (fp_f E F) (fp_bt E F s S) (fp_bt E F t ((2 ^ E - 1) * 2 ^ F)) = fp_bt E F s S := by
  unfold FP.Core.rem
  rw [fp_dec hS, fp_decI]
  obtain ⟨j, hj⟩ := fp_fd1 F S
  show FP.Core.encode _ (FP.Core.round _ (.fin s (fp_dg F S) ((fp_f E F).qmin + ((fp_fd F S : Int) - 1)))) = _
  refine fp_er (a := j) (b := 0) hE hS ?_ (by rw [hj]; omega)
  rw [Nat.pow_zero, Nat.mul_one, fp_vlj hj]
theorem fp_cmpI {a b a' b' : Int} (h1 : a < b ↔ a' < b') (h2 : a = b ↔ a' = b') : compare a b = compare a' b' := by
  show (if a < b then Ordering.lt else if a = b then .eq else .gt) = (if a' < b' then Ordering.lt else if a' = b' then .eq else .gt)
  simp only [h1, h2]
theorem fp_sgn (s : Bool) (n : Nat) : FP.Core.signed s n = if s = true then -(n : Int) else n := by cases s <;> rfl
theorem fp_ord {x y X Y : Nat} (h1 : x < y ↔ X < Y) (h2 : y < x ↔ Y < X) (h3 : x = 0 ↔ X = 0) (h4 : y = 0 ↔ Y = 0) : compare (FP.Core.signed s x) (FP.Core.signed t y) = compare (FP.Core.signed s X) (FP.Core.signed t Y) := by
  cases s <;> cases t <;> simp only [fp_sgn, if_true, if_false, Bool.false_eq_true] <;> exact fp_cmpI (by omega) (by omega)
/-- the order of two of them is that of their sizes, with their signs -/
theorem fp_cmp (hS : S ≤ (2 ^ E - 1) * 2 ^ F) (hR : R ≤ (2 ^ E - 1) * 2 ^ F) (hE : 2 ≤ E) : FP.Core.cmp (fp_f E F) (fp_bt E F s S) (fp_bt E F t R) = some (compare (FP.Core.signed s S) (FP.Core.signed t R)) := by
  have htop : 0 < (2 ^ E - 1) * 2 ^ F := Nat.mul_pos (by obtain ⟨t1, t2⟩ := fp_two hE; omega) (fp_pos F)
  unfold FP.Core.cmp
  by_cases hS1 : S < (2 ^ E - 1) * 2 ^ F
  · rw [fp_dec hS1]
    by_cases hR1 : R < (2 ^ E - 1) * 2 ^ F
    · rw [fp_dec hR1]
      obtain ⟨j, hj⟩ := fp_fd1 F S
      obtain ⟨k, hk⟩ := fp_fd1 F R
      rw [hj, hk]
      show some (compare (FP.Core.signed s (FP.Core.inUnits _ _ _)) (FP.Core.signed t (FP.Core.inUnits _ _ _))) = _
      rw [fp_unit, fp_unit']
      have e1 : fp_dg F S * 2 ^ (j - min j k) * 2 ^ min j k = fp_vl F S := by rw [fp_back (Nat.min_le_left _ _), fp_vlj hj]
      have e2 : fp_dg F R * 2 ^ (k - min j k) * 2 ^ min j k = fp_vl F R := by rw [fp_back (Nat.min_le_right _ _), fp_vlj hk]
      have hp := fp_pos (min j k)
      generalize fp_dg F S * 2 ^ (j - min j k) = x at *
      generalize fp_dg F R * 2 ^ (k - min j k) = y at *
      refine congrArg some (fp_ord ?_ ?_ ?_ ?_)
      · refine Iff.trans ?_ (fp_lt_iff (F := F) (a := S) (b := R)); rw [← e1, ← e2]; exact (Nat.mul_lt_mul_right hp).symm
      · refine Iff.trans ?_ (fp_lt_iff (F := F) (a := R) (b := S)); rw [← e1, ← e2]; exact (Nat.mul_lt_mul_right hp).symm
      · refine Iff.trans ?_ (fp_vl0 (F := F) (S := S)); rw [← e1, Nat.mul_eq_zero]; omega
      · refine Iff.trans ?_ (fp_vl0 (F := F) (S := R)); rw [← e2, Nat.mul_eq_zero]; omega
    · have e : R = (2 ^ E - 1) * 2 ^ F := by omega
      rw [e, fp_decI]
      show some (compare 0 (FP.Core.signed t 1)) = _
      generalize (2 ^ E - 1) * 2 ^ F = w at *
      refine congrArg some ?_
      cases s <;> cases t <;> simp only [fp_sgn, if_true, if_false, Bool.false_eq_true] <;> exact fp_cmpI (by omega) (by omega)
  · have e : S = (2 ^ E - 1) * 2 ^ F := by omega
    rw [e, fp_decI]
    by_cases hR1 : R < (2 ^ E - 1) * 2 ^ F
    · rw [fp_dec hR1]
      show some (compare (FP.Core.signed s 1) 0) = _
      generalize (2 ^ E - 1) * 2 ^ F = w at *
      refine congrArg some ?_
      cases s <;> cases t <;> simp only [fp_sgn, if_true, if_false, Bool.false_eq_true] <;> exact fp_cmpI (by omega) (by omega)
    · have e : R = (2 ^ E - 1) * 2 ^ F := by omega
      rw [e, fp_decI]
      show some (compare (FP.Core.signed s 1) (FP.Core.signed t 1)) = _
      generalize (2 ^ E - 1) * 2 ^ F = w at *
      exact congrArg some (fp_ord (by omega) (by omega) (by omega) (by omega))
theorem fp_addx (hE : 2 ≤ E) (hS : S < (2 ^ E - 1) * 2 ^ F) (hR : R < (2 ^ E - 1) * 2 ^ F) (hZ : Z < (2 ^ E - 1) * 2 ^ F) (hv : fp_vl F Z = fp_vl F S + fp_vl F R) : FP.Core.add (fp_f E F) (fp_bt E F false S) (fp_bt E F false R) = fp_bt E F false Z := by
  unfold FP.Core.add
  rw [fp_dec hS, fp_dec hR]
  obtain ⟨j, hj⟩ := fp_fd1 F S
  obtain ⟨k, hk⟩ := fp_fd1 F R
  rw [hj, hk]
  unfold FP.Core.exactSum FP.Core.sumUnits
  simp only [fp_unit, fp_unit']
  rw [fp_minq]
  have e1 : fp_dg F S * 2 ^ (j - min j k) * 2 ^ min j k = fp_vl F S := by rw [fp_back (Nat.min_le_left _ _), fp_vlj hj]
  have e2 : fp_dg F R * 2 ^ (k - min j k) * 2 ^ min j k = fp_vl F R := by rw [fp_back (Nat.min_le_right _ _), fp_vlj hk]
  generalize fp_dg F S * 2 ^ (j - min j k) = x at *
  generalize fp_dg F R * 2 ^ (k - min j k) = y at *
  have e3 : FP.Core.signed false x + FP.Core.signed false y = ((x + y : Nat) : Int) := by simp [fp_sgn]
  have e4 : FP.Core.sumSign false false ((x + y : Nat) : Int) = false := by
    unfold FP.Core.sumSign
    split
    · rfl
    · exact decide_eq_false (by omega)
  rw [e3, e4, Int.natAbs_natCast]
  refine fp_er (a := min j k) (b := 0) hE hZ ?_ (by omega)
  rw [Nat.pow_zero, Nat.mul_one, hv, ← e1, ← e2, Nat.add_mul]
theorem fp_subx (hE : 2 ≤ E) (hS : S < (2 ^ E - 1) * 2 ^ F) (hR : R < (2 ^ E - 1) * 2 ^ F) (hZ : Z < (2 ^ E - 1) * 2 ^ F) (hv : fp_vl F Z + fp_vl F R = fp_vl F S) : FP.Core.sub (fp_f E F) (fp_bt E F false S) (fp_bt E F false R) = fp_bt E F false Z := by
  unfold FP.Core.sub
  rw [fp_dec hS, fp_dec hR]
  obtain ⟨j, hj⟩ := fp_fd1 F S
  obtain ⟨k, hk⟩ := fp_fd1 F R
  rw [hj, hk]
  unfold FP.Core.negate FP.Core.exactSum FP.Core.sumUnits
  simp only [fp_unit, fp_unit']
  rw [fp_minq]
  have e1 : fp_dg F S * 2 ^ (j - min j k) * 2 ^ min j k = fp_vl F S := by rw [fp_back (Nat.min_le_left _ _), fp_vlj hj]
  have e2 : fp_dg F R * 2 ^ (k - min j k) * 2 ^ min j k = fp_vl F R := by rw [fp_back (Nat.min_le_right _ _), fp_vlj hk]
  have hp := fp_pos (min j k)
  generalize fp_dg F S * 2 ^ (j - min j k) = x at *
  generalize fp_dg F R * 2 ^ (k - min j k) = y at *
  have hle : y ≤ x := Nat.le_of_mul_le_mul_right (by rw [e1, e2]; omega) hp
  have e3 : FP.Core.signed false x + FP.Core.signed (!false) y = ((x - y : Nat) : Int) := by simp [fp_sgn]; omega
  have e4 : FP.Core.sumSign false (!false) ((x - y : Nat) : Int) = false := by
    unfold FP.Core.sumSign
    split
    · rfl
    · exact decide_eq_false (by omega)
  rw [e3, e4, Int.natAbs_natCast]
  refine fp_er (a := min j k) (b := 0) hE hZ ?_ (by omega)
  rw [Nat.pow_zero, Nat.mul_one, Nat.sub_mul, e1, e2]
  omega
/-- cut to a whole number -/
theorem fp_trunc {c j G : Nat} {Q : Int} (hG : Q = -(G : Int)) : FP.Core.truncate s c (Q + (((j + 1 : Nat) : Int) - 1)) = FP.Core.signed s (c * 2 ^ j / 2 ^ G) := by
  unfold FP.Core.truncate
  subst hG
  refine congrArg _ ?_
  by_cases h : G ≤ j
  · rw [show (-(G : Int) + (((j + 1 : Nat) : Int) - 1)).toNat = j - G by omega, show (-(-(G : Int) + (((j + 1 : Nat) : Int) - 1))).toNat = 0 by omega, Nat.pow_zero, Nat.div_one]
    rw [← fp_back (c := c) h, Nat.mul_div_left _ (fp_pos G)]
  · rw [show (-(G : Int) + (((j + 1 : Nat) : Int) - 1)).toNat = 0 by omega, show (-(-(G : Int) + (((j + 1 : Nat) : Int) - 1))).toNat = G - j by omega, Nat.pow_zero, Nat.mul_one]
    rw [show 2 ^ G = 2 ^ (G - j) * 2 ^ j by rw [← Nat.pow_add, show G - j + j = G by omega], Nat.mul_div_mul_right _ _ (fp_pos j)]
theorem fp_toInt {G : Nat} {lo hi : Int} (hG : (fp_f E F).qmin = -(G : Int)) (hS : S < (2 ^ E - 1) * 2 ^ F) : FP.Core.toInt lo hi (FP.Core.decode (fp_f E F) (fp_bt E F s S)) = max lo (min hi (FP.Core.signed s (fp_vl F S / 2 ^ G))) := by
  rw [fp_dec hS]
  obtain ⟨j, hj⟩ := fp_fd1 F S
  rw [hj]
  show max lo (min hi (FP.Core.truncate _ _ _)) = _
  rw [fp_trunc hG, fp_vlj hj]
end FPO
