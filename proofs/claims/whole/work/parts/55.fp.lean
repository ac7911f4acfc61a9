-- whole numbers among them; the nearest one
theorem fp_near_add {n d m : Nat} (hd : 0 < d) (hm : m % 2 = 0) : FP.Core.nearest (n + m * d) d = FP.Core.nearest n d + m := by
  unfold FP.Core.nearest
  rw [Nat.add_mul_mod_self_right, Nat.add_mul_div_right _ _ hd]
  split
  · rfl
  · split
    · omega
    · omega
theorem fp_near_mul {n d k : Nat} (hk : 0 < k) : FP.Core.nearest (n * k) (d * k) = FP.Core.nearest n d := by
  unfold FP.Core.nearest
  rw [Nat.mul_mod_mul_right, Nat.mul_div_mul_right _ _ hk, ← Nat.mul_assoc]
  have h1 : 2 * (n % d) * k < d * k ↔ 2 * (n % d) < d := Nat.mul_lt_mul_right hk
  have h2 : d * k < 2 * (n % d) * k ↔ d < 2 * (n % d) := Nat.mul_lt_mul_right hk
  simp only [h1, h2]
theorem fp_near_ge {n d m : Nat} (hd : 0 < d) (h : m * d ≤ n) : m ≤ FP.Core.nearest n d := by
  have h1 : m ≤ n / d := (Nat.le_div_iff_mul_le hd).mpr h
  unfold FP.Core.nearest
  split
  · exact h1
  · split <;> omega
theorem fp_near_le {n d m : Nat} (hd : 0 < d) (h : n ≤ m * d) : FP.Core.nearest n d ≤ m := by
  have h1 : n / d ≤ m := by
    have := Nat.div_le_div_right (c := d) h
    rwa [Nat.mul_div_left _ hd] at this
  have h2 : n / d = m → n % d = 0 := by
    intro e
    have := Nat.div_add_mod n d
    rw [e, Nat.mul_comm] at this
    omega
  unfold FP.Core.nearest
  split
  · exact h1
  · next q =>
    have h3 : n / d ≠ m := fun e => q (by rw [h2 e]; omega)
    split <;> omega
/-- any n of few digits times a power stands in the format -/
theorem fp_mk {F n g : Nat} (hn : n < 2 ^ (F + 1)) (hg : F ≤ g) : ∃ Z, fp_vl F Z = n * 2 ^ g ∧ Z < (g + 2) * 2 ^ F := by
  have hp := fp_pos F
  by_cases h0 : n = 0
  · subst h0
    exact ⟨0, by rw [fp_zero, Nat.zero_mul], Nat.mul_pos (by omega) hp⟩
  · have hk : Nat.log2 n ≤ F := by have := (Nat.log2_lt h0).mpr hn; omega
    have h1 := Nat.log2_self_le h0
    have h2 := @Nat.lt_log2_self n
    have e1 : 2 ^ F ≤ n * 2 ^ (F - Nat.log2 n) := by
      have := Nat.mul_le_mul_right (2 ^ (F - Nat.log2 n)) h1
      rwa [← Nat.pow_add, show Nat.log2 n + (F - Nat.log2 n) = F by omega] at this
    have e2 : n * 2 ^ (F - Nat.log2 n) < 2 ^ (F + 1) := by
      have := Nat.mul_lt_mul_of_pos_right h2 (fp_pos (F - Nat.log2 n))
      rwa [← Nat.pow_add, show Nat.log2 n + 1 + (F - Nat.log2 n) = F + 1 by omega] at this
    rw [Nat.pow_succ] at e2
    refine ⟨(g - F + Nat.log2 n + 1) * 2 ^ F + (n * 2 ^ (F - Nat.log2 n) - 2 ^ F), ?_, ?_⟩
    · rw [fp_hi (by omega) (by omega), show 2 ^ F + (n * 2 ^ (F - Nat.log2 n) - 2 ^ F) = n * 2 ^ (F - Nat.log2 n) by omega, Nat.mul_assoc, ← Nat.pow_add, show F - Nat.log2 n + (g - F + Nat.log2 n + 1 - 1) = g by omega]
    · have : (g - F + Nat.log2 n + 1) * 2 ^ F ≤ (g + 1) * 2 ^ F := Nat.mul_le_mul_right _ (by omega)
      rw [show (g + 2) * 2 ^ F = (g + 1) * 2 ^ F + 2 ^ F by rw [Nat.succ_mul (g + 1)]]
      omega
/-- to the whole number below (1), above (2), nearest (3): of a size V in units U -/
def fp_rnd (way : Int32) (s : Bool) (V U : Nat) : Nat := if way = 3 then FP.Core.nearest V U else if (decide (way = 1) = s) ∧ V % U ≠ 0 then V / U + 1 else V / U
theorem fp_rnd_mul {way : Int32} {s : Bool} {V U k : Nat} (hk : 0 < k) : fp_rnd way s (V * k) (U * k) = fp_rnd way s V U := by
  unfold fp_rnd
  rw [fp_near_mul hk, Nat.mul_mod_mul_right, Nat.mul_div_mul_right _ _ hk]
  have : (V % U * k ≠ 0) ↔ V % U ≠ 0 := by rw [Ne, Nat.mul_eq_zero]; omega
  simp only [this]
theorem fp_rnd_whole {way : Int32} {s : Bool} {n U : Nat} (hU : 0 < U) : fp_rnd way s (n * U) U = n := by
  unfold fp_rnd
  rw [fp_near hU, Nat.mul_mod_left, Nat.mul_div_left _ hU]
  simp
theorem fp_rnd_le {way : Int32} {s : Bool} {V U m : Nat} (hU : 0 < U) (h : V ≤ m * U) : fp_rnd way s V U ≤ m := by
  unfold fp_rnd
  have h1 : V / U ≤ m := by
    have := Nat.div_le_div_right (c := U) h
    rwa [Nat.mul_div_left _ hU] at this
  split
  · exact fp_near_le hU h
  · split
    · next q =>
      have : V / U ≠ m := by
        intro e
        have h3 := Nat.div_add_mod V U
        rw [e, Nat.mul_comm] at h3
        omega
      omega
    · exact h1
-- what the class does with the bits, on sizes
section FPC
variable {F b G S : Nat} {s : Bool} {way : Int32}
theorem fp_one (hb : 1 ≤ b) (hG : G + 1 = b + F) : fp_vl F (b * 2 ^ F) = 2 ^ G := by
  have := fp_hi (F := F) (e := b) (t := 0) hb (Nat.zero_le _)
  rw [Nat.add_zero, Nat.add_zero, ← Nat.pow_add, show F + (b - 1) = G by omega] at this
  exact this
theorem fp_half (hb : 2 ≤ b) (hG : G + 1 = b + F) : 2 * fp_vl F ((b - 1) * 2 ^ F) = 2 ^ G := by
  have := fp_hi (F := F) (e := b - 1) (t := 0) (by omega) (Nat.zero_le _)
  rw [Nat.add_zero, Nat.add_zero, ← Nat.pow_add] at this
  rw [this, Nat.mul_comm, ← Nat.pow_succ, show (F + (b - 1 - 1)).succ = G by omega]
/-- below 1 -/
theorem fp_small (hb : 2 ≤ b) (hG : G + 1 = b + F) (hS0 : S ≠ 0) (hS : S < b * 2 ^ F) : fp_vl F (if (if way = 3 then (b - 1) * 2 ^ F < S else decide (way = 1) = s) then b * 2 ^ F else 0) = fp_rnd way s (fp_vl F S) (2 ^ G) * 2 ^ G := by
  have hV : fp_vl F S < 2 ^ G := by rw [← fp_one (by omega) hG]; exact fp_lt hS
  have hV0 : fp_vl F S ≠ 0 := fun z => hS0 (fp_vl0.mp z)
  have hh := fp_half hb hG
  have hc : (b - 1) * 2 ^ F < S ↔ 2 ^ G < 2 * fp_vl F S := by rw [← fp_lt_iff (F := F)]; omega
  have e1 : fp_vl F S / 2 ^ G = 0 := Nat.div_eq_of_lt hV
  have e2 : fp_vl F S % 2 ^ G = fp_vl F S := Nat.mod_eq_of_lt hV
  unfold fp_rnd FP.Core.nearest
  rw [e1, e2]
  by_cases h3 : way = 3
  · simp only [h3, if_true, hc]
    by_cases h4 : 2 ^ G < 2 * fp_vl F S
    · rw [if_pos h4, if_neg (by omega), if_pos h4, fp_one (by omega) hG]; omega
    · rw [if_neg h4, fp_zero]
      split
      · omega
      · omega
  · simp only [h3, if_false]
    by_cases h4 : decide (way = 1) = s
    · rw [if_pos h4, if_pos ⟨h4, hV0⟩, fp_one (by omega) hG]; omega
    · rw [if_neg h4, if_neg (fun z => h4 z.1), fp_zero]; omega
theorem fp_pow_cut {P : Nat} (hP : P ≤ F) : 2 ^ F = 2 ^ P * 2 ^ (F - P) := by rw [← Nat.pow_add, show P + (F - P) = F by omega]
theorem fp_mod_t {P e t : Nat} (hP : P ≤ F) : (e * 2 ^ F + t) % 2 ^ (F - P) = t % 2 ^ (F - P) := by
  rw [fp_pow_cut hP, ← Nat.mul_assoc, Nat.mul_add_mod']
/-- from 1 on, with something behind the point -/
theorem fp_mid {P t : Nat} (hb : 2 ≤ b) (hodd : b % 2 = 1) (hG : G + 1 = b + F) (hP : P < F) (ht : t < 2 ^ F) (hr : t % 2 ^ (F - P) ≠ 0) :
    fp_vl F (if (if way = 3 then (if ((b + P) * 2 ^ F + t) / 2 ^ (F - P) % 2 = 1 then 2 ^ (F - P) ≤ 2 * (t % 2 ^ (F - P)) else 2 ^ (F - P) < 2 * (t % 2 ^ (F - P))) else decide (way = 1) = s) then (b + P) * 2 ^ F + t - t % 2 ^ (F - P) + 2 ^ (F - P) else (b + P) * 2 ^ F + t - t % 2 ^ (F - P)) = fp_rnd way s (fp_vl F ((b + P) * 2 ^ F + t)) (2 ^ G) * 2 ^ G := by
  have hp := fp_pos F
  have hu := fp_pos (F - P)
  have hw := fp_pos (b + P - 1)
  have hT := fp_pow_cut (F := F) (P := P) (by omega)
  have hV : fp_vl F ((b + P) * 2 ^ F + t) = (2 ^ F + t) * 2 ^ (b + P - 1) := fp_hi (by omega) (by omega)
  have hU : 2 ^ G = 2 ^ (F - P) * 2 ^ (b + P - 1) := by rw [← Nat.pow_add, show F - P + (b + P - 1) = G by omega]
  have hmod : (2 ^ F + t) % 2 ^ (F - P) = t % 2 ^ (F - P) := by rw [hT, Nat.mul_add_mod']
  have hdiv : (2 ^ F + t) / 2 ^ (F - P) = 2 ^ P + t / 2 ^ (F - P) := by
    rw [hT, Nat.mul_comm, Nat.mul_add_div hu]
  have hdiv2 : ((b + P) * 2 ^ F + t) / 2 ^ (F - P) = (b + P) * 2 ^ P + t / 2 ^ (F - P) := by
    rw [hT, ← Nat.mul_assoc, Nat.mul_comm _ (2 ^ (F - P)), Nat.mul_add_div hu]
  have hpar : ((b + P) * 2 ^ P + t / 2 ^ (F - P)) % 2 = (2 ^ P + t / 2 ^ (F - P)) % 2 := by
    rcases Nat.eq_zero_or_pos P with z | z
    · subst z; simp only [Nat.pow_zero, Nat.mul_one]; omega
    · obtain ⟨d, rfl⟩ : ∃ d, P = d + 1 := ⟨P - 1, by omega⟩
      rw [Nat.pow_succ, ← Nat.mul_assoc]; omega
  have hdm := Nat.div_add_mod t (2 ^ (F - P))
  have hml := Nat.mod_lt t hu
  have htu : t - t % 2 ^ (F - P) + 2 ^ (F - P) ≤ 2 ^ F := by
    have h1 : t / 2 ^ (F - P) < 2 ^ P := (Nat.div_lt_iff_lt_mul hu).mpr (by rw [← hT]; exact ht)
    have h2 : 2 ^ (F - P) * (t / 2 ^ (F - P) + 1) ≤ 2 ^ (F - P) * 2 ^ P := Nat.mul_le_mul_left _ h1
    rw [Nat.mul_comm (2 ^ (F - P)) (2 ^ P), ← hT, Nat.mul_succ] at h2
    omega
  have hin : fp_vl F ((b + P) * 2 ^ F + t - t % 2 ^ (F - P)) = (2 ^ P + t / 2 ^ (F - P)) * 2 ^ G := by
    rw [show (b + P) * 2 ^ F + t - t % 2 ^ (F - P) = (b + P) * 2 ^ F + (t - t % 2 ^ (F - P)) by omega, fp_hi (by omega) (by omega), hU, ← Nat.mul_assoc, Nat.add_mul (2 ^ P), ← hT, Nat.mul_comm (t / 2 ^ (F - P))]
    congr 2
    omega
  have hout : fp_vl F ((b + P) * 2 ^ F + t - t % 2 ^ (F - P) + 2 ^ (F - P)) = (2 ^ P + t / 2 ^ (F - P) + 1) * 2 ^ G := by
    rw [show (b + P) * 2 ^ F + t - t % 2 ^ (F - P) + 2 ^ (F - P) = (b + P) * 2 ^ F + (t - t % 2 ^ (F - P) + 2 ^ (F - P)) by omega, fp_hi (by omega) (by omega), hU, ← Nat.mul_assoc, Nat.succ_mul, Nat.add_mul (2 ^ P), ← hT, Nat.mul_comm (t / 2 ^ (F - P))]
    congr 1
    omega
  rw [hV, hU, fp_rnd_mul hw, ← hU]
  unfold fp_rnd FP.Core.nearest
  rw [hmod, hdiv, hdiv2, hpar]
  by_cases h3 : way = 3
  · simp only [h3, if_true]
    by_cases h5 : (2 ^ P + t / 2 ^ (F - P)) % 2 = 1
    · simp only [eq_true h5, if_true]
      by_cases h4 : 2 ^ (F - P) ≤ 2 * (t % 2 ^ (F - P))
      · rw [if_pos h4, if_neg (by omega), hout, h5]; simp
      · rw [if_neg h4, if_pos (by omega), hin]
    · simp only [eq_false h5, if_false]
      by_cases h4 : 2 ^ (F - P) < 2 * (t % 2 ^ (F - P))
      · rw [if_pos h4, if_neg (by omega), if_pos h4, hout]
      · rw [if_neg h4, hin]
        have h6 : (2 ^ P + t / 2 ^ (F - P)) % 2 = 0 := by omega
        simp only [h4, if_false, h6, Nat.add_zero, ite_self]
  · simp only [h3, if_false]
    by_cases h4 : decide (way = 1) = s
    · rw [if_pos h4, if_pos ⟨h4, hr⟩, hout]
    · rw [if_neg h4, if_neg (fun z => h4 z.1), hin]
theorem fp_mid0 {P t : Nat} (hb : 2 ≤ b) (hG : G + 1 = b + F) (hP : P < F) (ht : t < 2 ^ F) (hr : t % 2 ^ (F - P) = 0) : fp_vl F ((b + P) * 2 ^ F + t) = fp_rnd way s (fp_vl F ((b + P) * 2 ^ F + t)) (2 ^ G) * 2 ^ G := by
  have hT := fp_pow_cut (F := F) (P := P) (by omega)
  have hV : fp_vl F ((b + P) * 2 ^ F + t) = (2 ^ F + t) * 2 ^ (b + P - 1) := fp_hi (by omega) (by omega)
  have hU : 2 ^ G = 2 ^ (F - P) * 2 ^ (b + P - 1) := by rw [← Nat.pow_add, show F - P + (b + P - 1) = G by omega]
  have hdm := Nat.div_add_mod t (2 ^ (F - P))
  have e : fp_vl F ((b + P) * 2 ^ F + t) = (2 ^ P + t / 2 ^ (F - P)) * 2 ^ G := by
    rw [hV, hU, ← Nat.mul_assoc, Nat.add_mul (2 ^ P), ← hT, Nat.mul_comm (t / 2 ^ (F - P))]
    congr 2
    omega
  rw [e, fp_rnd_whole (fp_pos G)]
theorem fp_big (hG : G + 1 = b + F) (hb : 2 ≤ b) (hS : (b + F) * 2 ^ F ≤ S) : fp_vl F S = fp_rnd way s (fp_vl F S) (2 ^ G) * 2 ^ G := by
  have hp := fp_pos F
  rcases fp_cut F S with h | ⟨e, t, he, ht, rfl⟩
  · have : 1 * 2 ^ F ≤ (b + F) * 2 ^ F := Nat.mul_le_mul_right _ (by omega)
    omega
  · have he2 : b + F ≤ e := by
      have h1 : (b + F) * 2 ^ F < (e + 1) * 2 ^ F := by rw [Nat.succ_mul]; omega
      have := Nat.lt_of_mul_lt_mul_right h1
      omega
    have e1 : fp_vl F (e * 2 ^ F + t) = (2 ^ F + t) * 2 ^ (e - 1 - G) * 2 ^ G := by
      rw [fp_hi he (by omega), Nat.mul_assoc, ← Nat.pow_add, show e - 1 - G + G = e - 1 by omega]
    rw [e1, fp_rnd_whole (fp_pos G)]
end FPC
