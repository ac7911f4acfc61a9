-- LONGS AS NATS
def JL (n : Nat) : Int64 := Int64.ofNat n
theorem jl_toInt {n : Nat} (h : n < 2 ^ 63) : (JL n).toInt = n := Int64.toInt_ofNat_of_lt h
theorem jl_add (a b : Nat) : JL a + JL b = JL (a + b) := (Int64.ofNat_add a b).symm
theorem jl_mul (a b : Nat) : JL a * JL b = JL (a * b) := (Int64.ofNat_mul a b).symm
theorem jl_sub {a b : Nat} (h : b ≤ a) : JL a - JL b = JL (a - b) := (Int64.ofNat_sub a b h).symm
theorem jl_div {a b : Nat} (ha : a < 2 ^ 63) (hb : b < 2 ^ 63) : JL a / JL b = JL (a / b) := (Int64.ofNat_div ha hb).symm
theorem jl_rem {a b : Nat} (ha : a < 2 ^ 63) (hb : b < 2 ^ 63) : JL a - JL a / JL b * JL b = JL (a % b) := by
  rw [jl_div ha hb, jl_mul, jl_sub (Nat.div_mul_le_self a b)]
  have := Nat.div_add_mod a b
  rw [Nat.mul_comm] at this
  congr 1
  omega
theorem jl_lt {a b : Nat} (ha : a < 2 ^ 63) (hb : b < 2 ^ 63) : (JL a < JL b) = (a < b) := by
  rw [Int64.lt_iff_toInt_lt, jl_toInt ha, jl_toInt hb]
  exact propext Int.ofNat_lt
theorem jl_le {a b : Nat} (ha : a < 2 ^ 63) (hb : b < 2 ^ 63) : (JL a ≤ JL b) = (a ≤ b) := by
  rw [Int64.le_iff_toInt_le, jl_toInt ha, jl_toInt hb]
  exact propext Int.ofNat_le
theorem jl_eq {a b : Nat} (ha : a < 2 ^ 63) (hb : b < 2 ^ 63) : (JL a = JL b) = (a = b) := by
  rw [← Int64.toInt_inj, jl_toInt ha, jl_toInt hb]
  exact propext Int.ofNat_inj
theorem n64_inj {x y : Int64} (h : x.toUInt64.toNat = y.toUInt64.toNat) : x = y := by
  exact Int64.toBitVec_inj.mp (BitVec.eq_of_toNat_eq h)
theorem n64_neg (x : Int64) : (-x).toUInt64.toNat = (2 ^ 64 - x.toUInt64.toNat) % 2 ^ 64 := BitVec.toNat_neg x.toBitVec
theorem n64_jl {n : Nat} (h : n < 2 ^ 64) : (JL n).toUInt64.toNat = n := by
  show (UInt64.ofNat n).toNat = n
  rw [UInt64.toNat_ofNat']
  exact Nat.mod_eq_of_lt h
theorem jl_and {a b : Nat} (ha : a < 2 ^ 64) (hb : b < 2 ^ 64) : JL a &&& JL b = JL (a &&& b) := by
  apply n64_inj
  rw [Int64.toUInt64_and, UInt64.toNat_and, n64_jl ha, n64_jl hb, n64_jl (Nat.lt_of_le_of_lt Nat.and_le_left ha)]
theorem jl_or {a b : Nat} (ha : a < 2 ^ 64) (hb : b < 2 ^ 64) : JL a ||| JL b = JL (a ||| b) := by
  apply n64_inj
  rw [Int64.toUInt64_or, UInt64.toNat_or, n64_jl ha, n64_jl hb, n64_jl (Nat.or_lt_two_pow ha hb)]
theorem jl_mask {a k : Nat} (ha : a < 2 ^ 64) (hk : k ≤ 64) : JL a &&& JL (2 ^ k - 1) = JL (a % 2 ^ k) := by
  have hp := fp_pos k
  have h1 : 2 ^ k ≤ 2 ^ 64 := Nat.pow_le_pow_right (by omega) hk
  rw [jl_and ha (by omega), Nat.and_two_pow_sub_one_eq_mod]
theorem jl_join {a b i : Nat} (hb : b < 2 ^ i) (h : 2 ^ i * a + b < 2 ^ 64) : JL b ||| JL (2 ^ i * a) = JL (2 ^ i * a + b) := by
  rw [jl_or (by omega) (by omega), Nat.or_comm, ← Nat.two_pow_add_eq_or_of_lt hb]
theorem jl_bv (a : Nat) : (JL a).toBitVec.toNat = a % 2 ^ 64 := by
  unfold JL
  rw [Int64.toBitVec_ofNat', BitVec.toNat_ofNat]
theorem sh_key : ∀ k : Fin 64, (((Int32.ofNat k.val).toInt64 &&& 63).toBitVec.smod 64) = BitVec.ofNat 64 k.val := by decide +kernel
theorem sh_key2 : ∀ k : Fin 64, (((Int32.ofNat k.val).toInt64.toUInt64 &&& Int64.toUInt64 63).toNat % 64) = k.val := by decide +kernel
theorem jl_shl {a k : Nat} (hk : k < 64) : JL a <<< ((nI k).toInt64 &&& 63) = JL (a * 2 ^ k) := by
  apply Int64.toBitVec_inj.mp
  show (JL a).toBitVec <<< (((Int32.ofNat k).toInt64 &&& 63).toBitVec.smod 64) = _
  rw [sh_key ⟨k, hk⟩]
  apply BitVec.eq_of_toNat_eq
  show ((JL a).toBitVec <<< (BitVec.ofNat 64 k).toNat).toNat = _
  rw [BitVec.toNat_shiftLeft, BitVec.toNat_ofNat, Nat.mod_eq_of_lt (show k < 2 ^ 64 by omega), Nat.shiftLeft_eq, jl_bv, jl_bv, Nat.mul_mod, Nat.mod_mod, ← Nat.mul_mod]
theorem jl_one : (1 : Int64) = JL 1 := rfl
theorem jl_zero : (0 : Int64) = JL 0 := rfl
theorem jl_two : (2 : Int64) = JL 2 := rfl
theorem jl_shl1 {k : Nat} (hk : k < 64) : (1 : Int64) <<< ((nI k).toInt64 &&& 63) = JL (2 ^ k) := by
  rw [jl_one, jl_shl hk, Nat.one_mul]
theorem jl_shr {a k : Nat} (hk : k < 64) (ha : a < 2 ^ 64) : ((JL a).toUInt64 >>> ((nI k).toInt64.toUInt64 &&& Int64.toUInt64 63)).toInt64 = JL (a / 2 ^ k) := by
  apply n64_inj
  rw [n64_jl (Nat.lt_of_le_of_lt (Nat.div_le_self _ _) ha)]
  show ((JL a).toUInt64 >>> ((nI k).toInt64.toUInt64 &&& Int64.toUInt64 63)).toNat = _
  rw [UInt64.toNat_shiftRight, n64_jl ha]
  show a >>> (((Int32.ofNat k).toInt64.toUInt64 &&& Int64.toUInt64 63).toNat % 64) = _
  rw [sh_key2 ⟨k, hk⟩, Nat.shiftRight_eq_div_pow]
theorem jl_i32 {a : Nat} : (JL a).toInt32 = nI a := by
  apply Int32.toBitVec_inj.mp
  rw [Int64.toBitVec_toInt32]
  apply BitVec.eq_of_toNat_eq
  rw [BitVec.signExtend_eq_setWidth_of_le _ (by omega), BitVec.toNat_setWidth, jl_bv]
  unfold nI
  rw [Int32.toBitVec_ofNat', BitVec.toNat_ofNat]
  omega
theorem nI_jl {a : Nat} (h : a < 2 ^ 31) : (nI a).toInt64 = JL a := Int64.toInt_inj.mp (by rw [Int32.toInt_toInt64, nI_toInt h, jl_toInt (by omega)])
theorem nI_sub {a b : Nat} (h : b ≤ a) : nI a - nI b = nI (a - b) := (Int32.ofNat_sub a b h).symm
theorem nat_andneg {S h : Nat} (hS : S < 2 ^ 64) (hh : h ≤ 64) : S &&& (2 ^ 64 - 2 ^ h) = S - S % 2 ^ h := by
  have e1 : 2 ^ 64 - 2 ^ h = 2 ^ h * (2 ^ (64 - h) - 1) := by rw [Nat.mul_sub, ← Nat.pow_add, Nat.mul_one, show h + (64 - h) = 64 by omega]
  have e2 : S - S % 2 ^ h = 2 ^ h * (S / 2 ^ h) := by have := Nat.div_add_mod S (2 ^ h); omega
  rw [e1, e2]
  apply Nat.eq_of_testBit_eq
  intro i
  rw [Nat.testBit_and, Nat.testBit_two_pow_mul, Nat.testBit_two_pow_mul, Nat.testBit_two_pow_sub_one, Nat.testBit_div_two_pow]
  by_cases h1 : h ≤ i
  · simp only [h1, decide_true, Bool.true_and]
    rw [show i - h + h = i by omega]
    by_cases h2 : i < 64
    · rw [decide_eq_true (show i - h < 64 - h by omega), Bool.and_true]
    · rw [Nat.testBit_lt_two_pow (Nat.lt_of_lt_of_le hS (Nat.pow_le_pow_right (by omega) (by omega))), Bool.false_and]
  · simp [h1]
theorem jl_andneg {S h : Nat} (hS : S < 2 ^ 64) (hh : h < 64) : JL S &&& -(JL (2 ^ h)) = JL (S - S % 2 ^ h) := by
  have hp : 2 ^ h < 2 ^ 64 := Nat.pow_lt_pow_right (by omega) hh
  have hp0 := fp_pos h
  apply n64_inj
  rw [Int64.toUInt64_and, UInt64.toNat_and, n64_jl hS, n64_jl (by omega), n64_neg, n64_jl hp]
  rw [Nat.mod_eq_of_lt (by omega), nat_andneg hS (by omega)]
theorem nat_bit {S h : Nat} : S &&& 2 ^ h = if S / 2 ^ h % 2 = 1 then 2 ^ h else 0 := by
  apply Nat.eq_of_testBit_eq
  intro i
  rw [Nat.testBit_and, Nat.testBit_two_pow]
  by_cases e : h = i
  · subst e
    rw [Nat.testBit_eq_decide_div_mod_eq]
    by_cases h1 : S / 2 ^ h % 2 = 1
    · simp [h1]
    · simp [h1]
  · simp only [e, decide_false, Bool.and_false]
    split
    · rw [Nat.testBit_two_pow]; simp [e]
    · simp
theorem jl_bit {S h : Nat} (hS : S < 2 ^ 63) (hh : h < 63) : (JL S &&& JL (2 ^ h) = 0) = ¬ (S / 2 ^ h % 2 = 1) := by
  have hp : 2 ^ h < 2 ^ 63 := Nat.pow_lt_pow_right (by omega) hh
  have hp0 := fp_pos h
  rw [jl_and (by omega) (by omega), jl_zero, jl_eq (Nat.lt_of_le_of_lt Nat.and_le_left hS) (by omega), nat_bit]
  by_cases h1 : S / 2 ^ h % 2 = 1
  · simp only [h1, if_true, not_true_eq_false, eq_iff_iff, iff_false]; omega
  · simp [h1]
-- words with a sign: K digits below it
def jm (K : Nat) : Int64 := JL (2 ^ 64 - 2 ^ K)
def jw (K : Nat) (s : Bool) (S : Nat) : Int64 := if s = true then JL (2 ^ 64 - 2 ^ K + S) else JL S
theorem jw_f (K S : Nat) : jw K false S = JL S := rfl
theorem jw_t (K S : Nat) : jw K true S = JL (2 ^ 64 - 2 ^ K + S) := rfl
section JW
variable {K S : Nat} {s : Bool}
theorem jw_toInt (hK : K ≤ 63) (hS : S < 2 ^ K) : (jw K s S).toInt = (S : Int) - (if s = true then 2 ^ K else 0) := by
  have hk : 2 ^ K ≤ 2 ^ 63 := Nat.pow_le_pow_right (by omega) hK
  cases s
  · rw [jw_f, jl_toInt (by omega)]; simp
  · rw [jw_t]
    show (Int64.ofNat (2 ^ 64 - 2 ^ K + S)).toInt = _
    have e : Int64.ofNat (2 ^ 64 - 2 ^ K + S) = Int64.ofInt ((S : Int) - ((2 ^ K : Nat) : Int)) := by
      rw [← Int64.ofInt_eq_ofNat]
      apply Int64.toInt_inj.mp
      rw [Int64.toInt_ofInt, Int64.toInt_ofInt]
      rw [show ((2 ^ 64 - 2 ^ K + S : Nat) : Int) = ((S : Int) - ((2 ^ K : Nat) : Int)) + Int64.size by show _ = _ + ((2 ^ 64 : Nat) : Int); omega, Int.add_bmod_right]
    rw [e, Int64.toInt_ofInt_of_le (by omega) (by omega)]
    simp
theorem jw_neg (hK : K ≤ 63) (hS : S < 2 ^ K) : (jw K s S < 0) = (s = true) := by
  rw [Int64.lt_iff_toInt_lt, jw_toInt hK hS]
  have hp : ((2 : Int) ^ K) = ((2 ^ K : Nat) : Int) := by simp
  rw [hp]
  cases s <;> simp <;> omega
theorem jw_nn (hK : K ≤ 63) (hS : S < 2 ^ K) : (0 ≤ jw K s S) = (s = false) := by
  have h := jw_neg (s := s) hK hS
  have q : (0 ≤ jw K s S) ↔ ¬ jw K s S < 0 := by rw [Int64.lt_iff_toInt_lt, Int64.le_iff_toInt_le]; omega
  rw [propext q, h]
  cases s <;> simp
theorem jm_not (hK : K ≤ 63) : jm K ^^^ -1 = JL (2 ^ K - 1) := by
  have hp0 := fp_pos K
  have hk : 2 ^ K ≤ 2 ^ 63 := Nat.pow_le_pow_right (by omega) hK
  have e1 : jm K = -(JL (2 ^ K)) := by
    apply n64_inj
    rw [n64_neg, n64_jl (by omega)]
    unfold jm
    rw [n64_jl (by omega), Nat.mod_eq_of_lt (by omega)]
  have e2 : ∀ x : Int64, -x ^^^ -1 = x - 1 := by
    intro x
    rw [Int64.xor_neg_one, Int64.not_eq_neg_add, Int64.neg_neg]
  rw [e1, e2, jl_one, jl_sub (by omega)]
theorem jw_size (hK : K ≤ 63) (hS : S < 2 ^ K) : jw K s S &&& (jm K ^^^ -1) = JL S := by
  have hp0 := fp_pos K
  have hk : 2 ^ K ≤ 2 ^ 63 := Nat.pow_le_pow_right (by omega) hK
  rw [jm_not hK]
  cases s
  · rw [jw_f, jl_mask (by omega) (by omega), Nat.mod_eq_of_lt hS]
  · rw [jw_t, jl_mask (by omega) (by omega)]
    congr 1
    have e1 : 2 ^ 64 - 2 ^ K = 2 ^ K * (2 ^ (64 - K) - 1) := by rw [Nat.mul_sub, ← Nat.pow_add, Nat.mul_one, show K + (64 - K) = 64 by omega]
    rw [e1, Nat.mul_add_mod, Nat.mod_eq_of_lt hS]
theorem jw_sign (hK : K ≤ 63) (hS : S < 2 ^ K) : JL S ||| jm K = jw K true S := by
  have hp0 := fp_pos K
  have hk : 2 ^ K ≤ 2 ^ 63 := Nat.pow_le_pow_right (by omega) hK
  have e1 : 2 ^ 64 - 2 ^ K = 2 ^ K * (2 ^ (64 - K) - 1) := by rw [Nat.mul_sub, ← Nat.pow_add, Nat.mul_one, show K + (64 - K) = 64 by omega]
  unfold jm
  rw [jw_t, e1, jl_join hS (by rw [← e1]; omega)]
theorem jw_inj {t : Bool} {R : Nat} (hK : K ≤ 63) (hS : S < 2 ^ K) (hR : R < 2 ^ K) (h : jw K s S = jw K t R) : s = t ∧ S = R := by
  have h1 := congrArg Int64.toInt h
  rw [jw_toInt hK hS, jw_toInt hK hR] at h1
  have hp : ((2 : Int) ^ K) = ((2 ^ K : Nat) : Int) := by simp
  rw [hp] at h1
  cases s <;> cases t <;> simp at h1 ⊢ <;> omega
end JW
