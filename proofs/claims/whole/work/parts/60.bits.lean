-- WORDS AND THE LIBRARY'S BITS
theorem bt64 (s : Bool) (S : Nat) : fp_bt 11 52 s S = (if s = true then 2 ^ 63 else 0) + S := by
  unfold fp_bt; cases s <;> simp
theorem bt32 (s : Bool) (S : Nat) : fp_bt 8 23 s S = (if s = true then 2 ^ 31 else 0) + S := by
  unfold fp_bt; cases s <;> simp
section UD
variable {s t : Bool} {S R Z : Nat}
theorem ud_nat (hS : S < 2 ^ 63) : (jw 63 s S).toUInt64.toNat = fp_bt 11 52 s S := by
  rw [bt64]
  cases s
  · rw [jw_f, n64_jl (by omega)]; simp
  · rw [jw_t, n64_jl (by omega)]; simp
theorem ud_of (hS : S < 2 ^ 63) : UInt64.ofNat (fp_bt 11 52 s S) = (jw 63 s S).toUInt64 := by
  apply UInt64.toNat_inj.mp
  rw [ud_nat hS, UInt64.toNat_ofNat', Nat.mod_eq_of_lt]
  rw [bt64]
  split <;> omega
theorem jw_ex (x : Int64) : ∃ s S, S < 2 ^ 63 ∧ x = jw 63 s S := by
  have hn : x.toUInt64.toNat < 2 ^ 64 := x.toUInt64.toNat_lt
  have hx : x = JL x.toUInt64.toNat := n64_inj (by rw [n64_jl hn])
  by_cases h : x.toUInt64.toNat < 2 ^ 63
  · exact ⟨false, _, h, by rw [jw_f]; exact hx⟩
  · refine ⟨true, x.toUInt64.toNat - 2 ^ 63, by omega, ?_⟩
    rw [jw_t, show 2 ^ 64 - 2 ^ 63 + (x.toUInt64.toNat - 2 ^ 63) = x.toUInt64.toNat by omega]
    exact hx
def iw (s : Bool) (S : Nat) : Int32 := if s = true then nI (2 ^ 31 + S) else nI S
theorem n32_nI (n : Nat) : (nI n).toUInt32.toNat = n % 2 ^ 32 := by
  show (UInt32.ofNat n).toNat = _
  rw [UInt32.toNat_ofNat']
theorem n32_inj {x y : Int32} (h : x.toUInt32.toNat = y.toUInt32.toNat) : x = y := Int32.toBitVec_inj.mp (BitVec.eq_of_toNat_eq h)
theorem uf_nat (hS : S < 2 ^ 31) : (iw s S).toUInt32.toNat = fp_bt 8 23 s S := by
  rw [bt32]
  unfold iw
  cases s
  · simp only [Bool.false_eq_true, if_false]; rw [n32_nI, Nat.mod_eq_of_lt (by omega)]; simp
  · simp only [if_true]; rw [n32_nI, Nat.mod_eq_of_lt (by omega)]
theorem uf_of (hS : S < 2 ^ 31) : UInt32.ofNat (fp_bt 8 23 s S) = (iw s S).toUInt32 := by
  apply UInt32.toNat_inj.mp
  rw [uf_nat hS, UInt32.toNat_ofNat', Nat.mod_eq_of_lt]
  rw [bt32]
  split <;> omega
theorem iw_ex (x : Int32) : ∃ s S, S < 2 ^ 31 ∧ x = iw s S := by
  have hn : x.toUInt32.toNat < 2 ^ 32 := x.toUInt32.toNat_lt
  have hx : x = nI x.toUInt32.toNat := n32_inj (by rw [n32_nI, Nat.mod_eq_of_lt hn])
  by_cases h : x.toUInt32.toNat < 2 ^ 31
  · exact ⟨false, _, h, hx⟩
  · refine ⟨true, x.toUInt32.toNat - 2 ^ 31, by omega, ?_⟩
    show x = nI (2 ^ 31 + (x.toUInt32.toNat - 2 ^ 31))
    rw [show 2 ^ 31 + (x.toUInt32.toNat - 2 ^ 31) = x.toUInt32.toNat by omega]
    exact hx
theorem iw_toInt (hS : S < 2 ^ 31) : (iw s S).toInt = (S : Int) - (if s = true then 2 ^ 31 else 0) := by
  unfold iw
  cases s
  · simp only [Bool.false_eq_true, if_false]; rw [nI_toInt hS]; simp
  · simp only [if_true]
    unfold nI
    rw [Int32.toInt_ofNat', show Int32.size = 4294967296 from rfl, Int.bmod_def]
    split <;> omega
theorem iw_l (hS : S < 2 ^ 31) : (iw s S).toInt64 = jw 31 s S := Int64.toInt_inj.mp (by rw [Int32.toInt_toInt64, iw_toInt hS, jw_toInt (by omega) hS])
theorem iw_i (hS : S < 2 ^ 31) : (jw 31 s S).toInt32 = iw s S := by
  rw [← iw_l hS]
  exact Int32.toInt32_toInt64 _
-- comparisons
def cv (A B : Int) : Int32 := if A < B then -1 else if A = B then 0 else 1
theorem cv_op {A B : Int} {o : CmpOp} : Op.cmpValue (some (compare A B)) o = cv A B := by
  show Op.cmpValue (some (if A < B then Ordering.lt else if A = B then .eq else .gt)) o = cv A B
  unfold cv
  split
  · cases o <;> rfl
  · split <;> cases o <;> rfl
theorem cv_3 (A B : Int) : (A < B ∧ cv A B = -1) ∨ (A = B ∧ cv A B = 0) ∨ (B < A ∧ cv A B = 1) := by
  unfold cv
  by_cases h : A < B
  · exact Or.inl ⟨h, if_pos h⟩
  · by_cases h2 : A = B
    · exact Or.inr (Or.inl ⟨h2, by rw [if_neg h, if_pos h2]⟩)
    · exact Or.inr (Or.inr ⟨by omega, by rw [if_neg h, if_neg h2]⟩)
theorem cv_ge (A B : Int) : (0 ≤ cv A B) = (B ≤ A) := by
  rcases cv_3 A B with ⟨h, e⟩ | ⟨h, e⟩ | ⟨h, e⟩ <;> rw [e] <;> apply propext <;> constructor <;> intro q <;> first | omega | decide | (exact absurd q (by decide))
theorem cv_le (A B : Int) : (cv A B ≤ 0) = (A ≤ B) := by
  rcases cv_3 A B with ⟨h, e⟩ | ⟨h, e⟩ | ⟨h, e⟩ <;> rw [e] <;> apply propext <;> constructor <;> intro q <;> first | omega | decide | (exact absurd q (by decide))
theorem cv_lt (A B : Int) : (cv A B < 0) = (A < B) := by
  rcases cv_3 A B with ⟨h, e⟩ | ⟨h, e⟩ | ⟨h, e⟩ <;> rw [e] <;> apply propext <;> constructor <;> intro q <;> first | omega | decide | (exact absurd q (by decide))
theorem cv_gt (A B : Int) : (0 < cv A B) = (B < A) := by
  rcases cv_3 A B with ⟨h, e⟩ | ⟨h, e⟩ | ⟨h, e⟩ <;> rw [e] <;> apply propext <;> constructor <;> intro q <;> first | omega | decide | (exact absurd q (by decide))
theorem cv_eq (A B : Int) : (cv A B = 0) = (A = B) := by
  rcases cv_3 A B with ⟨h, e⟩ | ⟨h, e⟩ | ⟨h, e⟩ <;> rw [e] <;> apply propext <;> constructor <;> intro q <;> first | omega | decide | (exact absurd q (by decide))
def sg (s : Bool) (S : Nat) : Int := if s = true then -(S : Int) else S
theorem d_cmp {o : CmpOp} (hS : S ≤ 2047 * 2 ^ 52) (hR : R ≤ 2047 * 2 ^ 52) : Op.cmpValue (FP.dcmp (jw 63 s S).toUInt64 (jw 63 t R).toUInt64) o = cv (sg s S) (sg t R) := by
  show Op.cmpValue (FP.Core.cmp (fp_f 11 52) (jw 63 s S).toUInt64.toNat (jw 63 t R).toUInt64.toNat) o = _
  rw [ud_nat (by omega), ud_nat (by omega), fp_cmp (by omega) (by omega) (by omega), cv_op, fp_sgn, fp_sgn]
  rfl
theorem f_cmp {o : CmpOp} (hS : S ≤ 255 * 2 ^ 23) (hR : R ≤ 255 * 2 ^ 23) : Op.cmpValue (FP.fcmp (iw s S).toUInt32 (iw t R).toUInt32) o = cv (sg s S) (sg t R) := by
  show Op.cmpValue (FP.Core.cmp (fp_f 8 23) (iw s S).toUInt32.toNat (iw t R).toUInt32.toNat) o = _
  rw [uf_nat (by omega), uf_nat (by omega), fp_cmp (by omega) (by omega) (by omega), cv_op, fp_sgn, fp_sgn]
  rfl
theorem d_zero : FP.dconst0 = (jw 63 false 0).toUInt64 := by decide +kernel
theorem f_zero : FP.fconst0 = (iw false 0).toUInt32 := by decide +kernel
theorem d_one : FP.dconst1 = (jw 63 false (1023 * 2 ^ 52)).toUInt64 := by decide +kernel
theorem d_whole : (4841369599423283200 : UInt64) = (jw 63 false (1075 * 2 ^ 52)).toUInt64 := by decide +kernel
theorem nat_xor63 {n : Nat} (h : n < 2 ^ 63) : n ^^^ 2 ^ 63 = 2 ^ 63 * 1 + n := by
  apply Nat.eq_of_testBit_eq
  intro j
  rw [Nat.testBit_xor, Nat.testBit_two_pow_mul_add 1 h, Nat.testBit_two_pow]
  by_cases h1 : j < 63
  · rw [if_pos h1, decide_eq_false (by omega), Bool.xor_false]
  · rw [if_neg h1, Nat.testBit_lt_two_pow (Nat.lt_of_lt_of_le h (Nat.pow_le_pow_right (by omega) (by omega))), Bool.false_xor, show (1 : Nat) = 2 ^ 0 from rfl, Nat.testBit_two_pow]
    congr 1
    apply propext
    omega
theorem d_neg (hS : S < 2 ^ 63) : FP.dneg (jw 63 s S).toUInt64 = (jw 63 (!s) S).toUInt64 := by
  apply UInt64.toNat_inj.mp
  unfold FP.dneg
  rw [UInt64.toNat_xor, ud_nat hS, ud_nat hS, bt64, bt64]
  show _ ^^^ 2 ^ 63 = _
  cases s
  · simp only [Bool.false_eq_true, if_false, Bool.not_false, if_true]
    rw [Nat.zero_add, nat_xor63 hS, Nat.mul_one]
  · simp only [Bool.not_true, Bool.false_eq_true, if_false, if_true]
    have e := nat_xor63 hS
    rw [Nat.mul_one] at e
    rw [← e, Nat.xor_assoc, Nat.xor_self, Nat.xor_zero, Nat.zero_add]
theorem ud_mask (hS : S < 2 ^ 63) : ((jw 63 s S).toUInt64 &&& 0x7fffffffffffffff).toNat = S := by
  rw [UInt64.toNat_and, ud_nat hS, bt64]
  show _ &&& 2 ^ 63 - 1 = _
  rw [Nat.and_two_pow_sub_one_eq_mod]
  split <;> omega
theorem uf_mask (hS : S < 2 ^ 31) : ((iw s S).toUInt32 &&& 0x7fffffff).toNat = S := by
  rw [UInt32.toNat_and, uf_nat hS, bt32]
  show _ &&& 2 ^ 31 - 1 = _
  rw [Nat.and_two_pow_sub_one_eq_mod]
  split <;> omega
theorem d_num (hS : S ≤ 2047 * 2 ^ 52) : ev_n64 (jw 63 s S).toUInt64 = true := by
  unfold ev_n64
  refine decide_eq_true (UInt64.le_iff_toNat_le.mpr ?_)
  rw [ud_mask (by omega)]
  exact hS
theorem f_num (hS : S ≤ 255 * 2 ^ 23) : ev_n32 (iw s S).toUInt32 = true := by
  unfold ev_n32
  refine decide_eq_true (UInt32.le_iff_toNat_le.mpr ?_)
  rw [uf_mask (by omega)]
  exact hS
theorem d_sn (hS : S ≤ 2047 * 2 ^ 52) : vn_snl2d (jw 63 s S) = false := by
  unfold vn_snl2d
  have h : ¬ ((jw 63 s S).toUInt64 &&& 0x7fffffffffffffff > 0x7ff0000000000000) := by
    intro q
    have := UInt64.lt_iff_toNat_lt.mp q
    rw [ud_mask (by omega)] at this
    exact absurd this (Nat.not_lt.mpr hS)
  rw [decide_eq_false h, Bool.false_and]
theorem f_sn (hS : S ≤ 255 * 2 ^ 23) : vn_sni2f (iw s S) = false := by
  unfold vn_sni2f
  have h : ¬ ((iw s S).toUInt32 &&& 0x7fffffff > 0x7f800000) := by
    intro q
    have := UInt32.lt_iff_toNat_lt.mp q
    rw [uf_mask (by omega)] at this
    exact absurd this (Nat.not_lt.mpr hS)
  rw [decide_eq_false h, Bool.false_and]
-- what the operations answer
theorem d_rem (hS : S < 2047 * 2 ^ 52) (hR : R < 2047 * 2 ^ 52) (hR0 : R ≠ 0) (hZ : Z < 2047 * 2 ^ 52) (hv : fp_vl 52 Z = fp_vl 52 S % fp_vl 52 R) : FP.drem (jw 63 s S).toUInt64 (jw 63 t R).toUInt64 = (jw 63 s Z).toUInt64 := by
  show UInt64.ofNat (FP.Core.rem (fp_f 11 52) (jw 63 s S).toUInt64.toNat (jw 63 t R).toUInt64.toNat) = _
  rw [ud_nat (by omega), ud_nat (by omega), fp_rem (Z := Z) (by omega) (by omega) (by omega) hR0 (by omega) hv, ud_of (by omega)]
theorem d_remI (hS : S < 2047 * 2 ^ 52) : FP.drem (jw 63 s S).toUInt64 (jw 63 t (2047 * 2 ^ 52)).toUInt64 = (jw 63 s S).toUInt64 := by
  show UInt64.ofNat (FP.Core.rem (fp_f 11 52) (jw 63 s S).toUInt64.toNat (jw 63 t (2047 * 2 ^ 52)).toUInt64.toNat) = _
  rw [ud_nat (by omega), ud_nat (by omega)]
  have := fp_remI (E := 11) (F := 52) (S := S) (s := s) (t := t) (by omega) (by omega)
  rw [show (2 ^ 11 - 1) * 2 ^ 52 = 2047 * 2 ^ 52 by decide] at this
  rw [this, ud_of (by omega)]
theorem f_rem (hS : S < 255 * 2 ^ 23) (hR : R < 255 * 2 ^ 23) (hR0 : R ≠ 0) (hZ : Z < 255 * 2 ^ 23) (hv : fp_vl 23 Z = fp_vl 23 S % fp_vl 23 R) : FP.frem (iw s S).toUInt32 (iw t R).toUInt32 = (iw s Z).toUInt32 := by
  show UInt32.ofNat (FP.Core.rem (fp_f 8 23) (iw s S).toUInt32.toNat (iw t R).toUInt32.toNat) = _
  rw [uf_nat (by omega), uf_nat (by omega), fp_rem (Z := Z) (by omega) (by omega) (by omega) hR0 (by omega) hv, uf_of (by omega)]
theorem f_remI (hS : S < 255 * 2 ^ 23) : FP.frem (iw s S).toUInt32 (iw t (255 * 2 ^ 23)).toUInt32 = (iw s S).toUInt32 := by
  show UInt32.ofNat (FP.Core.rem (fp_f 8 23) (iw s S).toUInt32.toNat (iw t (255 * 2 ^ 23)).toUInt32.toNat) = _
  rw [uf_nat (by omega), uf_nat (by omega)]
  have := fp_remI (E := 8) (F := 23) (S := S) (s := s) (t := t) (by omega) (by omega)
  rw [show (2 ^ 8 - 1) * 2 ^ 23 = 255 * 2 ^ 23 by decide] at this
  rw [this, uf_of (by omega)]
theorem d_add (hS : S < 2047 * 2 ^ 52) (hR : R < 2047 * 2 ^ 52) (hZ : Z < 2047 * 2 ^ 52) (hv : fp_vl 52 Z = fp_vl 52 S + fp_vl 52 R) : FP.dadd (jw 63 false S).toUInt64 (jw 63 false R).toUInt64 = (jw 63 false Z).toUInt64 := by
  show UInt64.ofNat (FP.Core.add (fp_f 11 52) (jw 63 false S).toUInt64.toNat (jw 63 false R).toUInt64.toNat) = _
  rw [ud_nat (by omega), ud_nat (by omega), fp_addx (Z := Z) (by omega) (by omega) (by omega) (by omega) hv, ud_of (by omega)]
theorem d_sub (hS : S < 2047 * 2 ^ 52) (hR : R < 2047 * 2 ^ 52) (hZ : Z < 2047 * 2 ^ 52) (hv : fp_vl 52 Z + fp_vl 52 R = fp_vl 52 S) : FP.dsub (jw 63 false S).toUInt64 (jw 63 false R).toUInt64 = (jw 63 false Z).toUInt64 := by
  show UInt64.ofNat (FP.Core.sub (fp_f 11 52) (jw 63 false S).toUInt64.toNat (jw 63 false R).toUInt64.toNat) = _
  rw [ud_nat (by omega), ud_nat (by omega), fp_subx (Z := Z) (by omega) (by omega) (by omega) (by omega) hv, ud_of (by omega)]
end UD
