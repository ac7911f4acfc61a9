-- THE LAW'S HEAP. The reference's state m: arrays of ints (sorts, numbers, laneOf, sizeOf, firstOf, linesOf, lines, bankKind, placesOf, places, kinds, levels, owns, skins, edits, armed, traces, found), words, ints (rows, used, sheets, banks, voices, traced, latest, turned), longs (seen, h)
abbrev MS : Type := (Nat → Nat → Int32) × (Nat → Int64) × (Nat → Int32) × (Nat → Int64)
/-- the class's own cells c: boxes; arrays (traced, timesFound); ints (tracedCount, latestFound, voicesMade, turnsDone); lastSeen -/
abbrev CS : Type := (Nat → Option Nat) × (Nat → Nat → Int32) × (Nat → Int32) × Int64
def mI (m : MS) (k i : Nat) (x : Int32) : MS := (fun q => if q = k then upd (m.1 k) i x else m.1 q, m.2)
def mW (m : MS) (i : Nat) (x : Int64) : MS := (m.1, vp_updL m.2.1 i x, m.2.2)
def mS (m : MS) (k : Nat) (x : Int32) : MS := (m.1, m.2.1, fun q => if q = k then x else m.2.2.1 q, m.2.2.2)
def mQ (m : MS) (k : Nat) (x : Int64) : MS := (m.1, m.2.1, m.2.2.1, fun q => if q = k then x else m.2.2.2 q)
def cB (c : CS) (i : Nat) (x : Option Nat) : CS := (va_up c.1 i x, c.2)
def cI (c : CS) (k i : Nat) (x : Int32) : CS := (c.1, fun q => if q = k then upd (c.2.1 k) i x else c.2.1 q, c.2.2)
def cS (c : CS) (k : Nat) (x : Int32) : CS := (c.1, c.2.1, fun q => if q = k then x else c.2.2.1 q, c.2.2.2)
def cQ (c : CS) (x : Int64) : CS := (c.1, c.2.1, c.2.2.1, x)
def fxd (B : Nat) (c : CS) (m : MS) (i : Nat) : Option ev_E := match i with
  | 0 => some (.inr (.inl (5, [.ref (B + 1), .ref (B + 2), .ref (B + 3), .ref (B + 4), .ref (B + 5), .int (c.2.2.1 0), .int (c.2.2.1 1), .int (c.2.2.1 2), .int (c.2.2.1 3), .long c.2.2.2])))
  | 1 => some (.inl (.object RX4, 24, .inr (.inr (.inr (.inr c.1)))))
  | 2 => some (.inl (.int, 100, .inl (c.2.1 0)))
  | 3 => some (.inl (.int, 8, .inl (c.2.1 1)))
  | 4 => some (.inr (.inl (2, [.int 23, .int 127, .long (-2147483648)])))
  | 5 => some (.inr (.inl (2, [.int 52, .int 1023, .long (-9223372036854775808)])))
  | 6 => some (.inr (.inl (6, [.ref (B + 7), .ref (B + 8), .int (m.2.2.1 0), .ref (B + 9), .ref (B + 10), .ref (B + 11), .int (m.2.2.1 1), .ref (B + 12), .int (m.2.2.1 2), .ref (B + 13), .ref (B + 14), .int (m.2.2.1 3), .ref (B + 15), .ref (B + 16), .ref (B + 17), .int (m.2.2.1 4), .ref (B + 18), .ref (B + 19), .ref (B + 20), .ref (B + 21), .ref (B + 22), .ref (B + 23), .long (m.2.2.2 0), .int (m.2.2.1 5), .ref (B + 24), .int (m.2.2.1 6), .ref (B + 25), .int (m.2.2.1 7), .long (m.2.2.2 1)])))
  | 7 => some (.inl (.int, 24, .inl (m.1 0)))
  | 8 => some (.inl (.int, 24, .inl (m.1 1)))
  | 9 => some (.inl (.int, 5000, .inl (m.1 2)))
  | 10 => some (.inl (.int, 5000, .inl (m.1 3)))
  | 11 => some (.inl (.int, 5000, .inl (m.1 4)))
  | 12 => some (.inl (.long, 36000, .inr (.inl m.2.1)))
  | 13 => some (.inl (.int, 520, .inl (m.1 5)))
  | 14 => some (.inl (.int, 4160, .inl (m.1 6)))
  | 15 => some (.inl (.int, 520, .inl (m.1 7)))
  | 16 => some (.inl (.int, 520, .inl (m.1 8)))
  | 17 => some (.inl (.int, 4160, .inl (m.1 9)))
  | 18 => some (.inl (.int, 40, .inl (m.1 10)))
  | 19 => some (.inl (.int, 40, .inl (m.1 11)))
  | 20 => some (.inl (.int, 40, .inl (m.1 12)))
  | 21 => some (.inl (.int, 40, .inl (m.1 13)))
  | 22 => some (.inl (.int, 40, .inl (m.1 14)))
  | 23 => some (.inl (.boolean, 40, .inl (m.1 15)))
  | 24 => some (.inl (.int, 100, .inl (m.1 16)))
  | 25 => some (.inl (.int, 8, .inl (m.1 17)))
  | _ => none
def hp (B : Nat) (c : CS) (m : MS) (θ : Nat → Option ev_E) (a : Nat) : Option ev_E := if B ≤ a ∧ a < B + 26 then fxd B c m (a - B) else θ a
def hs (B : Nat) (c : CS) (m : MS) (θ : Nat → Option ev_E) (z l : Nat) : ev_H := (z, l, hp B c m θ)
section HS
variable {B : Nat} {c c' : CS} {m m' : MS} {θ : Nat → Option ev_E} {z l : Nat}
theorem hp_at {j : Nat} (h : j < 26) : hp B c m θ (B + j) = fxd B c m j := by
  unfold hp
  rw [if_pos ⟨Nat.le_add_right _ _, by omega⟩, Nat.add_sub_cancel_left]
theorem hp_th {a : Nat} (h : B + 26 ≤ a) : hp B c m θ a = θ a := by
  unfold hp
  rw [if_neg (by omega)]
theorem hp_lo {a : Nat} (h : a < B) : hp B c m θ a = θ a := by
  unfold hp
  rw [if_neg (by omega)]
theorem hs_up {j : Nat} {e : ev_E} (h : j < 26) (h1 : fxd B c' m' j = some e) (h2 : ∀ i, i ≠ j → fxd B c' m' i = fxd B c m i) : ev_up (hs B c m θ z l) (B + j) e = hs B c' m' θ z l := by
  unfold ev_up hs
  simp only [Prod.mk.injEq, true_and]
  funext a
  unfold hp
  by_cases ha : a = B + j
  · subst ha
    rw [if_pos rfl, if_pos ⟨Nat.le_add_right _ _, by omega⟩, Nat.add_sub_cancel_left, h1]
  · rw [if_neg ha]
    by_cases hb : B ≤ a ∧ a < B + 26
    · rw [if_pos hb, if_pos hb, h2 _ (by omega)]
    · rw [if_neg hb, if_neg hb]
theorem hs_th {a : Nat} {e : ev_E} (h : B + 26 ≤ a) : ev_up (hs B c m θ z l) a e = hs B c m (fun q => if q = a then some e else θ q) z l := by
  unfold ev_up hs
  simp only [Prod.mk.injEq, true_and]
  funext q
  unfold hp
  by_cases ha : q = a
  · subst ha
    rw [if_pos rfl, if_neg (by omega)]
    show some e = if q = q then some e else θ q
    rw [if_pos rfl]
  · rw [if_neg ha]
    by_cases hb : B ≤ q ∧ q < B + 26
    · rw [if_pos hb, if_pos hb]
    · rw [if_neg hb, if_neg hb]
      show θ q = if q = a then some e else θ q
      rw [if_neg ha]
theorem hs_new {n : Nat} {e : ev_E} (h : B + 26 ≤ z) : ev_new (hs B c m θ z l) n e = hs B c m (fun q => if q = z then some e else θ q) (z + 1) (l + n) := by
  have := hs_th (B := B) (c := c) (m := m) (θ := θ) (z := z + 1) (l := l + n) (a := z) (e := e) h
  unfold ev_up at this
  rw [← this]
  rfl
theorem hs_1 : (hs B c m θ z l).1 = z := rfl
theorem fxd_mS {q : Nat} {x : Int32} {i : Nat} (h : i ≠ 6) : fxd B c (mS m q x) i = fxd B c m i := by
  unfold fxd
  split <;> first | rfl | (exact absurd rfl h)
theorem fxd_mQ {q : Nat} {x : Int64} {i : Nat} (h : i ≠ 6) : fxd B c (mQ m q x) i = fxd B c m i := by
  unfold fxd
  split <;> first | rfl | (exact absurd rfl h)
theorem fxd_mW {q : Nat} {x : Int64} {i : Nat} (h : i ≠ 12) : fxd B c (mW m q x) i = fxd B c m i := by
  unfold fxd
  split <;> first | rfl | (exact absurd rfl h)
theorem fxd_cS {q : Nat} {x : Int32} {i : Nat} (h : i ≠ 0) : fxd B (cS c q x) m i = fxd B c m i := by
  unfold fxd
  split <;> first | rfl | (exact absurd rfl h)
theorem fxd_cQ {x : Int64} {i : Nat} (h : i ≠ 0) : fxd B (cQ c x) m i = fxd B c m i := by
  unfold fxd
  split <;> first | rfl | (exact absurd rfl h)
theorem fxd_cB {q : Nat} {x : Option Nat} {i : Nat} (h : i ≠ 1) : fxd B (cB c q x) m i = fxd B c m i := by
  unfold fxd
  split <;> first | rfl | (exact absurd rfl h)
theorem fxd_cI0 {q : Nat} {x : Int32} {i : Nat} (h : i ≠ 2) : fxd B (cI c 0 q x) m i = fxd B c m i := by
  unfold fxd
  split <;> first | rfl | (exact absurd rfl h)
theorem fxd_cI1 {q : Nat} {x : Int32} {i : Nat} (h : i ≠ 3) : fxd B (cI c 1 q x) m i = fxd B c m i := by
  unfold fxd
  split <;> first | rfl | (exact absurd rfl h)
theorem fxd_mI0 {q : Nat} {x : Int32} {i : Nat} (h : i ≠ 7) : fxd B c (mI m 0 q x) i = fxd B c m i := by
  unfold fxd
  split <;> first | rfl | (exact absurd rfl h)
theorem fxd_mI1 {q : Nat} {x : Int32} {i : Nat} (h : i ≠ 8) : fxd B c (mI m 1 q x) i = fxd B c m i := by
  unfold fxd
  split <;> first | rfl | (exact absurd rfl h)
theorem fxd_mI2 {q : Nat} {x : Int32} {i : Nat} (h : i ≠ 9) : fxd B c (mI m 2 q x) i = fxd B c m i := by
  unfold fxd
  split <;> first | rfl | (exact absurd rfl h)
theorem fxd_mI3 {q : Nat} {x : Int32} {i : Nat} (h : i ≠ 10) : fxd B c (mI m 3 q x) i = fxd B c m i := by
  unfold fxd
  split <;> first | rfl | (exact absurd rfl h)
theorem fxd_mI4 {q : Nat} {x : Int32} {i : Nat} (h : i ≠ 11) : fxd B c (mI m 4 q x) i = fxd B c m i := by
  unfold fxd
  split <;> first | rfl | (exact absurd rfl h)
theorem fxd_mI5 {q : Nat} {x : Int32} {i : Nat} (h : i ≠ 13) : fxd B c (mI m 5 q x) i = fxd B c m i := by
  unfold fxd
  split <;> first | rfl | (exact absurd rfl h)
theorem fxd_mI6 {q : Nat} {x : Int32} {i : Nat} (h : i ≠ 14) : fxd B c (mI m 6 q x) i = fxd B c m i := by
  unfold fxd
  split <;> first | rfl | (exact absurd rfl h)
theorem fxd_mI7 {q : Nat} {x : Int32} {i : Nat} (h : i ≠ 15) : fxd B c (mI m 7 q x) i = fxd B c m i := by
  unfold fxd
  split <;> first | rfl | (exact absurd rfl h)
theorem fxd_mI8 {q : Nat} {x : Int32} {i : Nat} (h : i ≠ 16) : fxd B c (mI m 8 q x) i = fxd B c m i := by
  unfold fxd
  split <;> first | rfl | (exact absurd rfl h)
theorem fxd_mI9 {q : Nat} {x : Int32} {i : Nat} (h : i ≠ 17) : fxd B c (mI m 9 q x) i = fxd B c m i := by
  unfold fxd
  split <;> first | rfl | (exact absurd rfl h)
theorem fxd_mI10 {q : Nat} {x : Int32} {i : Nat} (h : i ≠ 18) : fxd B c (mI m 10 q x) i = fxd B c m i := by
  unfold fxd
  split <;> first | rfl | (exact absurd rfl h)
theorem fxd_mI11 {q : Nat} {x : Int32} {i : Nat} (h : i ≠ 19) : fxd B c (mI m 11 q x) i = fxd B c m i := by
  unfold fxd
  split <;> first | rfl | (exact absurd rfl h)
theorem fxd_mI12 {q : Nat} {x : Int32} {i : Nat} (h : i ≠ 20) : fxd B c (mI m 12 q x) i = fxd B c m i := by
  unfold fxd
  split <;> first | rfl | (exact absurd rfl h)
theorem fxd_mI13 {q : Nat} {x : Int32} {i : Nat} (h : i ≠ 21) : fxd B c (mI m 13 q x) i = fxd B c m i := by
  unfold fxd
  split <;> first | rfl | (exact absurd rfl h)
theorem fxd_mI14 {q : Nat} {x : Int32} {i : Nat} (h : i ≠ 22) : fxd B c (mI m 14 q x) i = fxd B c m i := by
  unfold fxd
  split <;> first | rfl | (exact absurd rfl h)
theorem fxd_mI15 {q : Nat} {x : Int32} {i : Nat} (h : i ≠ 23) : fxd B c (mI m 15 q x) i = fxd B c m i := by
  unfold fxd
  split <;> first | rfl | (exact absurd rfl h)
theorem fxd_mI16 {q : Nat} {x : Int32} {i : Nat} (h : i ≠ 24) : fxd B c (mI m 16 q x) i = fxd B c m i := by
  unfold fxd
  split <;> first | rfl | (exact absurd rfl h)
theorem fxd_mI17 {q : Nat} {x : Int32} {i : Nat} (h : i ≠ 25) : fxd B c (mI m 17 q x) i = fxd B c m i := by
  unfold fxd
  split <;> first | rfl | (exact absurd rfl h)
theorem hp_at0 : hp B c m θ B = fxd B c m 0 := hp_at (j := 0) (by decide)
theorem gm_0 : ev_gf (hs B c m θ z l) (B + 6) 6 0 = some (.ref (B + 7)) := by unfold ev_gf hs; dsimp only; rw [hp_at (show 6 < 26 by decide)]; rfl
theorem gm_1 : ev_gf (hs B c m θ z l) (B + 6) 6 1 = some (.ref (B + 8)) := by unfold ev_gf hs; dsimp only; rw [hp_at (show 6 < 26 by decide)]; rfl
theorem gm_2 : ev_gf (hs B c m θ z l) (B + 6) 6 2 = some (.int (m.2.2.1 0)) := by unfold ev_gf hs; dsimp only; rw [hp_at (show 6 < 26 by decide)]; rfl
theorem gm_3 : ev_gf (hs B c m θ z l) (B + 6) 6 3 = some (.ref (B + 9)) := by unfold ev_gf hs; dsimp only; rw [hp_at (show 6 < 26 by decide)]; rfl
theorem gm_4 : ev_gf (hs B c m θ z l) (B + 6) 6 4 = some (.ref (B + 10)) := by unfold ev_gf hs; dsimp only; rw [hp_at (show 6 < 26 by decide)]; rfl
theorem gm_5 : ev_gf (hs B c m θ z l) (B + 6) 6 5 = some (.ref (B + 11)) := by unfold ev_gf hs; dsimp only; rw [hp_at (show 6 < 26 by decide)]; rfl
theorem gm_6 : ev_gf (hs B c m θ z l) (B + 6) 6 6 = some (.int (m.2.2.1 1)) := by unfold ev_gf hs; dsimp only; rw [hp_at (show 6 < 26 by decide)]; rfl
theorem gm_7 : ev_gf (hs B c m θ z l) (B + 6) 6 7 = some (.ref (B + 12)) := by unfold ev_gf hs; dsimp only; rw [hp_at (show 6 < 26 by decide)]; rfl
theorem gm_8 : ev_gf (hs B c m θ z l) (B + 6) 6 8 = some (.int (m.2.2.1 2)) := by unfold ev_gf hs; dsimp only; rw [hp_at (show 6 < 26 by decide)]; rfl
theorem gm_9 : ev_gf (hs B c m θ z l) (B + 6) 6 9 = some (.ref (B + 13)) := by unfold ev_gf hs; dsimp only; rw [hp_at (show 6 < 26 by decide)]; rfl
theorem gm_10 : ev_gf (hs B c m θ z l) (B + 6) 6 10 = some (.ref (B + 14)) := by unfold ev_gf hs; dsimp only; rw [hp_at (show 6 < 26 by decide)]; rfl
theorem gm_11 : ev_gf (hs B c m θ z l) (B + 6) 6 11 = some (.int (m.2.2.1 3)) := by unfold ev_gf hs; dsimp only; rw [hp_at (show 6 < 26 by decide)]; rfl
theorem gm_12 : ev_gf (hs B c m θ z l) (B + 6) 6 12 = some (.ref (B + 15)) := by unfold ev_gf hs; dsimp only; rw [hp_at (show 6 < 26 by decide)]; rfl
theorem gm_13 : ev_gf (hs B c m θ z l) (B + 6) 6 13 = some (.ref (B + 16)) := by unfold ev_gf hs; dsimp only; rw [hp_at (show 6 < 26 by decide)]; rfl
theorem gm_14 : ev_gf (hs B c m θ z l) (B + 6) 6 14 = some (.ref (B + 17)) := by unfold ev_gf hs; dsimp only; rw [hp_at (show 6 < 26 by decide)]; rfl
theorem gm_15 : ev_gf (hs B c m θ z l) (B + 6) 6 15 = some (.int (m.2.2.1 4)) := by unfold ev_gf hs; dsimp only; rw [hp_at (show 6 < 26 by decide)]; rfl
theorem gm_16 : ev_gf (hs B c m θ z l) (B + 6) 6 16 = some (.ref (B + 18)) := by unfold ev_gf hs; dsimp only; rw [hp_at (show 6 < 26 by decide)]; rfl
theorem gm_17 : ev_gf (hs B c m θ z l) (B + 6) 6 17 = some (.ref (B + 19)) := by unfold ev_gf hs; dsimp only; rw [hp_at (show 6 < 26 by decide)]; rfl
theorem gm_18 : ev_gf (hs B c m θ z l) (B + 6) 6 18 = some (.ref (B + 20)) := by unfold ev_gf hs; dsimp only; rw [hp_at (show 6 < 26 by decide)]; rfl
theorem gm_19 : ev_gf (hs B c m θ z l) (B + 6) 6 19 = some (.ref (B + 21)) := by unfold ev_gf hs; dsimp only; rw [hp_at (show 6 < 26 by decide)]; rfl
theorem gm_20 : ev_gf (hs B c m θ z l) (B + 6) 6 20 = some (.ref (B + 22)) := by unfold ev_gf hs; dsimp only; rw [hp_at (show 6 < 26 by decide)]; rfl
theorem gm_21 : ev_gf (hs B c m θ z l) (B + 6) 6 21 = some (.ref (B + 23)) := by unfold ev_gf hs; dsimp only; rw [hp_at (show 6 < 26 by decide)]; rfl
theorem gm_22 : ev_gf (hs B c m θ z l) (B + 6) 6 22 = some (.long (m.2.2.2 0)) := by unfold ev_gf hs; dsimp only; rw [hp_at (show 6 < 26 by decide)]; rfl
theorem gm_23 : ev_gf (hs B c m θ z l) (B + 6) 6 23 = some (.int (m.2.2.1 5)) := by unfold ev_gf hs; dsimp only; rw [hp_at (show 6 < 26 by decide)]; rfl
theorem gm_24 : ev_gf (hs B c m θ z l) (B + 6) 6 24 = some (.ref (B + 24)) := by unfold ev_gf hs; dsimp only; rw [hp_at (show 6 < 26 by decide)]; rfl
theorem gm_25 : ev_gf (hs B c m θ z l) (B + 6) 6 25 = some (.int (m.2.2.1 6)) := by unfold ev_gf hs; dsimp only; rw [hp_at (show 6 < 26 by decide)]; rfl
theorem gm_26 : ev_gf (hs B c m θ z l) (B + 6) 6 26 = some (.ref (B + 25)) := by unfold ev_gf hs; dsimp only; rw [hp_at (show 6 < 26 by decide)]; rfl
theorem gm_27 : ev_gf (hs B c m θ z l) (B + 6) 6 27 = some (.int (m.2.2.1 7)) := by unfold ev_gf hs; dsimp only; rw [hp_at (show 6 < 26 by decide)]; rfl
theorem gm_28 : ev_gf (hs B c m θ z l) (B + 6) 6 28 = some (.long (m.2.2.2 1)) := by unfold ev_gf hs; dsimp only; rw [hp_at (show 6 < 26 by decide)]; rfl
theorem gc_0 : ev_gf (hs B c m θ z l) B 5 0 = some (.ref (B + 1)) := by unfold ev_gf hs; dsimp only; rw [hp_at0]; rfl
theorem gc_1 : ev_gf (hs B c m θ z l) B 5 1 = some (.ref (B + 2)) := by unfold ev_gf hs; dsimp only; rw [hp_at0]; rfl
theorem gc_2 : ev_gf (hs B c m θ z l) B 5 2 = some (.ref (B + 3)) := by unfold ev_gf hs; dsimp only; rw [hp_at0]; rfl
theorem gc_3 : ev_gf (hs B c m θ z l) B 5 3 = some (.ref (B + 4)) := by unfold ev_gf hs; dsimp only; rw [hp_at0]; rfl
theorem gc_4 : ev_gf (hs B c m θ z l) B 5 4 = some (.ref (B + 5)) := by unfold ev_gf hs; dsimp only; rw [hp_at0]; rfl
theorem gc_5 : ev_gf (hs B c m θ z l) B 5 5 = some (.int (c.2.2.1 0)) := by unfold ev_gf hs; dsimp only; rw [hp_at0]; rfl
theorem gc_6 : ev_gf (hs B c m θ z l) B 5 6 = some (.int (c.2.2.1 1)) := by unfold ev_gf hs; dsimp only; rw [hp_at0]; rfl
theorem gc_7 : ev_gf (hs B c m θ z l) B 5 7 = some (.int (c.2.2.1 2)) := by unfold ev_gf hs; dsimp only; rw [hp_at0]; rfl
theorem gc_8 : ev_gf (hs B c m θ z l) B 5 8 = some (.int (c.2.2.1 3)) := by unfold ev_gf hs; dsimp only; rw [hp_at0]; rfl
theorem gc_9 : ev_gf (hs B c m θ z l) B 5 9 = some (.long c.2.2.2) := by unfold ev_gf hs; dsimp only; rw [hp_at0]; rfl
theorem gff_0 : ev_gf (hs B c m θ z l) (B + 4) 2 0 = some (.int 23) := by unfold ev_gf hs; dsimp only; rw [hp_at (show 4 < 26 by decide)]; rfl
theorem gff_1 : ev_gf (hs B c m θ z l) (B + 4) 2 1 = some (.int 127) := by unfold ev_gf hs; dsimp only; rw [hp_at (show 4 < 26 by decide)]; rfl
theorem gff_2 : ev_gf (hs B c m θ z l) (B + 4) 2 2 = some (.long (-2147483648)) := by unfold ev_gf hs; dsimp only; rw [hp_at (show 4 < 26 by decide)]; rfl
theorem gfd_0 : ev_gf (hs B c m θ z l) (B + 5) 2 0 = some (.int 52) := by unfold ev_gf hs; dsimp only; rw [hp_at (show 5 < 26 by decide)]; rfl
theorem gfd_1 : ev_gf (hs B c m θ z l) (B + 5) 2 1 = some (.int 1023) := by unfold ev_gf hs; dsimp only; rw [hp_at (show 5 < 26 by decide)]; rfl
theorem gfd_2 : ev_gf (hs B c m θ z l) (B + 5) 2 2 = some (.long (-9223372036854775808)) := by unfold ev_gf hs; dsimp only; rw [hp_at (show 5 < 26 by decide)]; rfl
theorem kl_c : ev_cl (hs B c m θ z l) B = some 5 := by unfold ev_cl hs; dsimp only; rw [hp_at0]; rfl
theorem kl_f : ev_cl (hs B c m θ z l) (B + 4) = some 2 := by unfold ev_cl hs; dsimp only; rw [hp_at (show 4 < 26 by decide)]; rfl
theorem kl_d : ev_cl (hs B c m θ z l) (B + 5) = some 2 := by unfold ev_cl hs; dsimp only; rw [hp_at (show 5 < 26 by decide)]; rfl
theorem kl_m : ev_cl (hs B c m θ z l) (B + 6) = some 6 := by unfold ev_cl hs; dsimp only; rw [hp_at (show 6 < 26 by decide)]; rfl
theorem pm_2 {x : Int32} : ev_pf (hs B c m θ z l) (B + 6) 6 2 (.int x) = some (hs B c (mS m 0 x) θ z l) := by
  unfold ev_pf
  rw [show (hs B c m θ z l).2.2 (B + 6) = fxd B c m 6 from hp_at (by decide)]
  exact congrArg some (hs_up (by decide) rfl (fun i h => fxd_mS h))
theorem pm_6 {x : Int32} : ev_pf (hs B c m θ z l) (B + 6) 6 6 (.int x) = some (hs B c (mS m 1 x) θ z l) := by
  unfold ev_pf
  rw [show (hs B c m θ z l).2.2 (B + 6) = fxd B c m 6 from hp_at (by decide)]
  exact congrArg some (hs_up (by decide) rfl (fun i h => fxd_mS h))
theorem pm_8 {x : Int32} : ev_pf (hs B c m θ z l) (B + 6) 6 8 (.int x) = some (hs B c (mS m 2 x) θ z l) := by
  unfold ev_pf
  rw [show (hs B c m θ z l).2.2 (B + 6) = fxd B c m 6 from hp_at (by decide)]
  exact congrArg some (hs_up (by decide) rfl (fun i h => fxd_mS h))
theorem pm_11 {x : Int32} : ev_pf (hs B c m θ z l) (B + 6) 6 11 (.int x) = some (hs B c (mS m 3 x) θ z l) := by
  unfold ev_pf
  rw [show (hs B c m θ z l).2.2 (B + 6) = fxd B c m 6 from hp_at (by decide)]
  exact congrArg some (hs_up (by decide) rfl (fun i h => fxd_mS h))
theorem pm_15 {x : Int32} : ev_pf (hs B c m θ z l) (B + 6) 6 15 (.int x) = some (hs B c (mS m 4 x) θ z l) := by
  unfold ev_pf
  rw [show (hs B c m θ z l).2.2 (B + 6) = fxd B c m 6 from hp_at (by decide)]
  exact congrArg some (hs_up (by decide) rfl (fun i h => fxd_mS h))
theorem pm_23 {x : Int32} : ev_pf (hs B c m θ z l) (B + 6) 6 23 (.int x) = some (hs B c (mS m 5 x) θ z l) := by
  unfold ev_pf
  rw [show (hs B c m θ z l).2.2 (B + 6) = fxd B c m 6 from hp_at (by decide)]
  exact congrArg some (hs_up (by decide) rfl (fun i h => fxd_mS h))
theorem pm_25 {x : Int32} : ev_pf (hs B c m θ z l) (B + 6) 6 25 (.int x) = some (hs B c (mS m 6 x) θ z l) := by
  unfold ev_pf
  rw [show (hs B c m θ z l).2.2 (B + 6) = fxd B c m 6 from hp_at (by decide)]
  exact congrArg some (hs_up (by decide) rfl (fun i h => fxd_mS h))
theorem pm_27 {x : Int32} : ev_pf (hs B c m θ z l) (B + 6) 6 27 (.int x) = some (hs B c (mS m 7 x) θ z l) := by
  unfold ev_pf
  rw [show (hs B c m θ z l).2.2 (B + 6) = fxd B c m 6 from hp_at (by decide)]
  exact congrArg some (hs_up (by decide) rfl (fun i h => fxd_mS h))
theorem pm_22 {x : Int64} : ev_pf (hs B c m θ z l) (B + 6) 6 22 (.long x) = some (hs B c (mQ m 0 x) θ z l) := by
  unfold ev_pf
  rw [show (hs B c m θ z l).2.2 (B + 6) = fxd B c m 6 from hp_at (by decide)]
  exact congrArg some (hs_up (by decide) rfl (fun i h => fxd_mQ h))
theorem pm_28 {x : Int64} : ev_pf (hs B c m θ z l) (B + 6) 6 28 (.long x) = some (hs B c (mQ m 1 x) θ z l) := by
  unfold ev_pf
  rw [show (hs B c m θ z l).2.2 (B + 6) = fxd B c m 6 from hp_at (by decide)]
  exact congrArg some (hs_up (by decide) rfl (fun i h => fxd_mQ h))
theorem pc_5 {x : Int32} : ev_pf (hs B c m θ z l) B 5 5 (.int x) = some (hs B (cS c 0 x) m θ z l) := by
  unfold ev_pf
  rw [show (hs B c m θ z l).2.2 B = fxd B c m 0 from hp_at0]
  exact congrArg some (hs_up (j := 0) (by decide) rfl (fun i h => fxd_cS h))
theorem pc_6 {x : Int32} : ev_pf (hs B c m θ z l) B 5 6 (.int x) = some (hs B (cS c 1 x) m θ z l) := by
  unfold ev_pf
  rw [show (hs B c m θ z l).2.2 B = fxd B c m 0 from hp_at0]
  exact congrArg some (hs_up (j := 0) (by decide) rfl (fun i h => fxd_cS h))
theorem pc_7 {x : Int32} : ev_pf (hs B c m θ z l) B 5 7 (.int x) = some (hs B (cS c 2 x) m θ z l) := by
  unfold ev_pf
  rw [show (hs B c m θ z l).2.2 B = fxd B c m 0 from hp_at0]
  exact congrArg some (hs_up (j := 0) (by decide) rfl (fun i h => fxd_cS h))
theorem pc_8 {x : Int32} : ev_pf (hs B c m θ z l) B 5 8 (.int x) = some (hs B (cS c 3 x) m θ z l) := by
  unfold ev_pf
  rw [show (hs B c m θ z l).2.2 B = fxd B c m 0 from hp_at0]
  exact congrArg some (hs_up (j := 0) (by decide) rfl (fun i h => fxd_cS h))
theorem pc_9 {x : Int64} : ev_pf (hs B c m θ z l) B 5 9 (.long x) = some (hs B (cQ c x) m θ z l) := by
  unfold ev_pf
  rw [show (hs B c m θ z l).2.2 B = fxd B c m 0 from hp_at0]
  exact congrArg some (hs_up (j := 0) (by decide) rfl (fun i h => fxd_cQ h))
theorem rd_m0 {i : Int32} : ev_ild (hs B c m θ z l) (B + 7) i = if ev_out i 24 = false then some (m.1 0 i.toNatClampNeg) else none := by
  unfold ev_ild
  rw [show (hs B c m θ z l).2.2 (B + 7) = fxd B c m 7 from hp_at (by decide)]
  simp only [fxd, true_and]
theorem wr_m0 {i : Int32} {x : Int32} : ev_ist (hs B c m θ z l) (B + 7) i x = if ev_out i 24 = false then some (hs B c (mI m 0 i.toNatClampNeg x) θ z l) else none := by
  unfold ev_ist
  rw [show (hs B c m θ z l).2.2 (B + 7) = fxd B c m 7 from hp_at (by decide)]
  simp only [fxd, true_and]
  by_cases h : ev_out i 24 = false
  · rw [if_pos h, if_pos h]
    exact congrArg some (hs_up (by decide) rfl (fun i h => fxd_mI0 h))
  · rw [if_neg h, if_neg h]
theorem ln_m0 : ev_len (hs B c m θ z l) (B + 7) = some 24 := by
  unfold ev_len
  rw [show (hs B c m θ z l).2.2 (B + 7) = fxd B c m 7 from hp_at (by decide)]
  rfl
theorem rd_m1 {i : Int32} : ev_ild (hs B c m θ z l) (B + 8) i = if ev_out i 24 = false then some (m.1 1 i.toNatClampNeg) else none := by
  unfold ev_ild
  rw [show (hs B c m θ z l).2.2 (B + 8) = fxd B c m 8 from hp_at (by decide)]
  simp only [fxd, true_and]
theorem wr_m1 {i : Int32} {x : Int32} : ev_ist (hs B c m θ z l) (B + 8) i x = if ev_out i 24 = false then some (hs B c (mI m 1 i.toNatClampNeg x) θ z l) else none := by
  unfold ev_ist
  rw [show (hs B c m θ z l).2.2 (B + 8) = fxd B c m 8 from hp_at (by decide)]
  simp only [fxd, true_and]
  by_cases h : ev_out i 24 = false
  · rw [if_pos h, if_pos h]
    exact congrArg some (hs_up (by decide) rfl (fun i h => fxd_mI1 h))
  · rw [if_neg h, if_neg h]
theorem ln_m1 : ev_len (hs B c m θ z l) (B + 8) = some 24 := by
  unfold ev_len
  rw [show (hs B c m θ z l).2.2 (B + 8) = fxd B c m 8 from hp_at (by decide)]
  rfl
theorem rd_m2 {i : Int32} : ev_ild (hs B c m θ z l) (B + 9) i = if ev_out i 5000 = false then some (m.1 2 i.toNatClampNeg) else none := by
  unfold ev_ild
  rw [show (hs B c m θ z l).2.2 (B + 9) = fxd B c m 9 from hp_at (by decide)]
  simp only [fxd, true_and]
theorem wr_m2 {i : Int32} {x : Int32} : ev_ist (hs B c m θ z l) (B + 9) i x = if ev_out i 5000 = false then some (hs B c (mI m 2 i.toNatClampNeg x) θ z l) else none := by
  unfold ev_ist
  rw [show (hs B c m θ z l).2.2 (B + 9) = fxd B c m 9 from hp_at (by decide)]
  simp only [fxd, true_and]
  by_cases h : ev_out i 5000 = false
  · rw [if_pos h, if_pos h]
    exact congrArg some (hs_up (by decide) rfl (fun i h => fxd_mI2 h))
  · rw [if_neg h, if_neg h]
theorem ln_m2 : ev_len (hs B c m θ z l) (B + 9) = some 5000 := by
  unfold ev_len
  rw [show (hs B c m θ z l).2.2 (B + 9) = fxd B c m 9 from hp_at (by decide)]
  rfl
theorem rd_m3 {i : Int32} : ev_ild (hs B c m θ z l) (B + 10) i = if ev_out i 5000 = false then some (m.1 3 i.toNatClampNeg) else none := by
  unfold ev_ild
  rw [show (hs B c m θ z l).2.2 (B + 10) = fxd B c m 10 from hp_at (by decide)]
  simp only [fxd, true_and]
theorem wr_m3 {i : Int32} {x : Int32} : ev_ist (hs B c m θ z l) (B + 10) i x = if ev_out i 5000 = false then some (hs B c (mI m 3 i.toNatClampNeg x) θ z l) else none := by
  unfold ev_ist
  rw [show (hs B c m θ z l).2.2 (B + 10) = fxd B c m 10 from hp_at (by decide)]
  simp only [fxd, true_and]
  by_cases h : ev_out i 5000 = false
  · rw [if_pos h, if_pos h]
    exact congrArg some (hs_up (by decide) rfl (fun i h => fxd_mI3 h))
  · rw [if_neg h, if_neg h]
theorem ln_m3 : ev_len (hs B c m θ z l) (B + 10) = some 5000 := by
  unfold ev_len
  rw [show (hs B c m θ z l).2.2 (B + 10) = fxd B c m 10 from hp_at (by decide)]
  rfl
theorem rd_m4 {i : Int32} : ev_ild (hs B c m θ z l) (B + 11) i = if ev_out i 5000 = false then some (m.1 4 i.toNatClampNeg) else none := by
  unfold ev_ild
  rw [show (hs B c m θ z l).2.2 (B + 11) = fxd B c m 11 from hp_at (by decide)]
  simp only [fxd, true_and]
theorem wr_m4 {i : Int32} {x : Int32} : ev_ist (hs B c m θ z l) (B + 11) i x = if ev_out i 5000 = false then some (hs B c (mI m 4 i.toNatClampNeg x) θ z l) else none := by
  unfold ev_ist
  rw [show (hs B c m θ z l).2.2 (B + 11) = fxd B c m 11 from hp_at (by decide)]
  simp only [fxd, true_and]
  by_cases h : ev_out i 5000 = false
  · rw [if_pos h, if_pos h]
    exact congrArg some (hs_up (by decide) rfl (fun i h => fxd_mI4 h))
  · rw [if_neg h, if_neg h]
theorem ln_m4 : ev_len (hs B c m θ z l) (B + 11) = some 5000 := by
  unfold ev_len
  rw [show (hs B c m θ z l).2.2 (B + 11) = fxd B c m 11 from hp_at (by decide)]
  rfl
theorem rd_m5 {i : Int32} : ev_ild (hs B c m θ z l) (B + 13) i = if ev_out i 520 = false then some (m.1 5 i.toNatClampNeg) else none := by
  unfold ev_ild
  rw [show (hs B c m θ z l).2.2 (B + 13) = fxd B c m 13 from hp_at (by decide)]
  simp only [fxd, true_and]
theorem wr_m5 {i : Int32} {x : Int32} : ev_ist (hs B c m θ z l) (B + 13) i x = if ev_out i 520 = false then some (hs B c (mI m 5 i.toNatClampNeg x) θ z l) else none := by
  unfold ev_ist
  rw [show (hs B c m θ z l).2.2 (B + 13) = fxd B c m 13 from hp_at (by decide)]
  simp only [fxd, true_and]
  by_cases h : ev_out i 520 = false
  · rw [if_pos h, if_pos h]
    exact congrArg some (hs_up (by decide) rfl (fun i h => fxd_mI5 h))
  · rw [if_neg h, if_neg h]
theorem ln_m5 : ev_len (hs B c m θ z l) (B + 13) = some 520 := by
  unfold ev_len
  rw [show (hs B c m θ z l).2.2 (B + 13) = fxd B c m 13 from hp_at (by decide)]
  rfl
theorem rd_m6 {i : Int32} : ev_ild (hs B c m θ z l) (B + 14) i = if ev_out i 4160 = false then some (m.1 6 i.toNatClampNeg) else none := by
  unfold ev_ild
  rw [show (hs B c m θ z l).2.2 (B + 14) = fxd B c m 14 from hp_at (by decide)]
  simp only [fxd, true_and]
theorem wr_m6 {i : Int32} {x : Int32} : ev_ist (hs B c m θ z l) (B + 14) i x = if ev_out i 4160 = false then some (hs B c (mI m 6 i.toNatClampNeg x) θ z l) else none := by
  unfold ev_ist
  rw [show (hs B c m θ z l).2.2 (B + 14) = fxd B c m 14 from hp_at (by decide)]
  simp only [fxd, true_and]
  by_cases h : ev_out i 4160 = false
  · rw [if_pos h, if_pos h]
    exact congrArg some (hs_up (by decide) rfl (fun i h => fxd_mI6 h))
  · rw [if_neg h, if_neg h]
theorem ln_m6 : ev_len (hs B c m θ z l) (B + 14) = some 4160 := by
  unfold ev_len
  rw [show (hs B c m θ z l).2.2 (B + 14) = fxd B c m 14 from hp_at (by decide)]
  rfl
theorem rd_m7 {i : Int32} : ev_ild (hs B c m θ z l) (B + 15) i = if ev_out i 520 = false then some (m.1 7 i.toNatClampNeg) else none := by
  unfold ev_ild
  rw [show (hs B c m θ z l).2.2 (B + 15) = fxd B c m 15 from hp_at (by decide)]
  simp only [fxd, true_and]
theorem wr_m7 {i : Int32} {x : Int32} : ev_ist (hs B c m θ z l) (B + 15) i x = if ev_out i 520 = false then some (hs B c (mI m 7 i.toNatClampNeg x) θ z l) else none := by
  unfold ev_ist
  rw [show (hs B c m θ z l).2.2 (B + 15) = fxd B c m 15 from hp_at (by decide)]
  simp only [fxd, true_and]
  by_cases h : ev_out i 520 = false
  · rw [if_pos h, if_pos h]
    exact congrArg some (hs_up (by decide) rfl (fun i h => fxd_mI7 h))
  · rw [if_neg h, if_neg h]
theorem ln_m7 : ev_len (hs B c m θ z l) (B + 15) = some 520 := by
  unfold ev_len
  rw [show (hs B c m θ z l).2.2 (B + 15) = fxd B c m 15 from hp_at (by decide)]
  rfl
theorem rd_m8 {i : Int32} : ev_ild (hs B c m θ z l) (B + 16) i = if ev_out i 520 = false then some (m.1 8 i.toNatClampNeg) else none := by
  unfold ev_ild
  rw [show (hs B c m θ z l).2.2 (B + 16) = fxd B c m 16 from hp_at (by decide)]
  simp only [fxd, true_and]
theorem wr_m8 {i : Int32} {x : Int32} : ev_ist (hs B c m θ z l) (B + 16) i x = if ev_out i 520 = false then some (hs B c (mI m 8 i.toNatClampNeg x) θ z l) else none := by
  unfold ev_ist
  rw [show (hs B c m θ z l).2.2 (B + 16) = fxd B c m 16 from hp_at (by decide)]
  simp only [fxd, true_and]
  by_cases h : ev_out i 520 = false
  · rw [if_pos h, if_pos h]
    exact congrArg some (hs_up (by decide) rfl (fun i h => fxd_mI8 h))
  · rw [if_neg h, if_neg h]
theorem ln_m8 : ev_len (hs B c m θ z l) (B + 16) = some 520 := by
  unfold ev_len
  rw [show (hs B c m θ z l).2.2 (B + 16) = fxd B c m 16 from hp_at (by decide)]
  rfl
theorem rd_m9 {i : Int32} : ev_ild (hs B c m θ z l) (B + 17) i = if ev_out i 4160 = false then some (m.1 9 i.toNatClampNeg) else none := by
  unfold ev_ild
  rw [show (hs B c m θ z l).2.2 (B + 17) = fxd B c m 17 from hp_at (by decide)]
  simp only [fxd, true_and]
theorem wr_m9 {i : Int32} {x : Int32} : ev_ist (hs B c m θ z l) (B + 17) i x = if ev_out i 4160 = false then some (hs B c (mI m 9 i.toNatClampNeg x) θ z l) else none := by
  unfold ev_ist
  rw [show (hs B c m θ z l).2.2 (B + 17) = fxd B c m 17 from hp_at (by decide)]
  simp only [fxd, true_and]
  by_cases h : ev_out i 4160 = false
  · rw [if_pos h, if_pos h]
    exact congrArg some (hs_up (by decide) rfl (fun i h => fxd_mI9 h))
  · rw [if_neg h, if_neg h]
theorem ln_m9 : ev_len (hs B c m θ z l) (B + 17) = some 4160 := by
  unfold ev_len
  rw [show (hs B c m θ z l).2.2 (B + 17) = fxd B c m 17 from hp_at (by decide)]
  rfl
theorem rd_m10 {i : Int32} : ev_ild (hs B c m θ z l) (B + 18) i = if ev_out i 40 = false then some (m.1 10 i.toNatClampNeg) else none := by
  unfold ev_ild
  rw [show (hs B c m θ z l).2.2 (B + 18) = fxd B c m 18 from hp_at (by decide)]
  simp only [fxd, true_and]
theorem wr_m10 {i : Int32} {x : Int32} : ev_ist (hs B c m θ z l) (B + 18) i x = if ev_out i 40 = false then some (hs B c (mI m 10 i.toNatClampNeg x) θ z l) else none := by
  unfold ev_ist
  rw [show (hs B c m θ z l).2.2 (B + 18) = fxd B c m 18 from hp_at (by decide)]
  simp only [fxd, true_and]
  by_cases h : ev_out i 40 = false
  · rw [if_pos h, if_pos h]
    exact congrArg some (hs_up (by decide) rfl (fun i h => fxd_mI10 h))
  · rw [if_neg h, if_neg h]
theorem ln_m10 : ev_len (hs B c m θ z l) (B + 18) = some 40 := by
  unfold ev_len
  rw [show (hs B c m θ z l).2.2 (B + 18) = fxd B c m 18 from hp_at (by decide)]
  rfl
theorem rd_m11 {i : Int32} : ev_ild (hs B c m θ z l) (B + 19) i = if ev_out i 40 = false then some (m.1 11 i.toNatClampNeg) else none := by
  unfold ev_ild
  rw [show (hs B c m θ z l).2.2 (B + 19) = fxd B c m 19 from hp_at (by decide)]
  simp only [fxd, true_and]
theorem wr_m11 {i : Int32} {x : Int32} : ev_ist (hs B c m θ z l) (B + 19) i x = if ev_out i 40 = false then some (hs B c (mI m 11 i.toNatClampNeg x) θ z l) else none := by
  unfold ev_ist
  rw [show (hs B c m θ z l).2.2 (B + 19) = fxd B c m 19 from hp_at (by decide)]
  simp only [fxd, true_and]
  by_cases h : ev_out i 40 = false
  · rw [if_pos h, if_pos h]
    exact congrArg some (hs_up (by decide) rfl (fun i h => fxd_mI11 h))
  · rw [if_neg h, if_neg h]
theorem ln_m11 : ev_len (hs B c m θ z l) (B + 19) = some 40 := by
  unfold ev_len
  rw [show (hs B c m θ z l).2.2 (B + 19) = fxd B c m 19 from hp_at (by decide)]
  rfl
theorem rd_m12 {i : Int32} : ev_ild (hs B c m θ z l) (B + 20) i = if ev_out i 40 = false then some (m.1 12 i.toNatClampNeg) else none := by
  unfold ev_ild
  rw [show (hs B c m θ z l).2.2 (B + 20) = fxd B c m 20 from hp_at (by decide)]
  simp only [fxd, true_and]
theorem wr_m12 {i : Int32} {x : Int32} : ev_ist (hs B c m θ z l) (B + 20) i x = if ev_out i 40 = false then some (hs B c (mI m 12 i.toNatClampNeg x) θ z l) else none := by
  unfold ev_ist
  rw [show (hs B c m θ z l).2.2 (B + 20) = fxd B c m 20 from hp_at (by decide)]
  simp only [fxd, true_and]
  by_cases h : ev_out i 40 = false
  · rw [if_pos h, if_pos h]
    exact congrArg some (hs_up (by decide) rfl (fun i h => fxd_mI12 h))
  · rw [if_neg h, if_neg h]
theorem ln_m12 : ev_len (hs B c m θ z l) (B + 20) = some 40 := by
  unfold ev_len
  rw [show (hs B c m θ z l).2.2 (B + 20) = fxd B c m 20 from hp_at (by decide)]
  rfl
theorem rd_m13 {i : Int32} : ev_ild (hs B c m θ z l) (B + 21) i = if ev_out i 40 = false then some (m.1 13 i.toNatClampNeg) else none := by
  unfold ev_ild
  rw [show (hs B c m θ z l).2.2 (B + 21) = fxd B c m 21 from hp_at (by decide)]
  simp only [fxd, true_and]
theorem wr_m13 {i : Int32} {x : Int32} : ev_ist (hs B c m θ z l) (B + 21) i x = if ev_out i 40 = false then some (hs B c (mI m 13 i.toNatClampNeg x) θ z l) else none := by
  unfold ev_ist
  rw [show (hs B c m θ z l).2.2 (B + 21) = fxd B c m 21 from hp_at (by decide)]
  simp only [fxd, true_and]
  by_cases h : ev_out i 40 = false
  · rw [if_pos h, if_pos h]
    exact congrArg some (hs_up (by decide) rfl (fun i h => fxd_mI13 h))
  · rw [if_neg h, if_neg h]
theorem ln_m13 : ev_len (hs B c m θ z l) (B + 21) = some 40 := by
  unfold ev_len
  rw [show (hs B c m θ z l).2.2 (B + 21) = fxd B c m 21 from hp_at (by decide)]
  rfl
theorem rd_m14 {i : Int32} : ev_ild (hs B c m θ z l) (B + 22) i = if ev_out i 40 = false then some (m.1 14 i.toNatClampNeg) else none := by
  unfold ev_ild
  rw [show (hs B c m θ z l).2.2 (B + 22) = fxd B c m 22 from hp_at (by decide)]
  simp only [fxd, true_and]
theorem wr_m14 {i : Int32} {x : Int32} : ev_ist (hs B c m θ z l) (B + 22) i x = if ev_out i 40 = false then some (hs B c (mI m 14 i.toNatClampNeg x) θ z l) else none := by
  unfold ev_ist
  rw [show (hs B c m θ z l).2.2 (B + 22) = fxd B c m 22 from hp_at (by decide)]
  simp only [fxd, true_and]
  by_cases h : ev_out i 40 = false
  · rw [if_pos h, if_pos h]
    exact congrArg some (hs_up (by decide) rfl (fun i h => fxd_mI14 h))
  · rw [if_neg h, if_neg h]
theorem ln_m14 : ev_len (hs B c m θ z l) (B + 22) = some 40 := by
  unfold ev_len
  rw [show (hs B c m θ z l).2.2 (B + 22) = fxd B c m 22 from hp_at (by decide)]
  rfl
theorem rd_m15 {i : Int32} : ev_zld (hs B c m θ z l) (B + 23) i = if ev_out i 40 = false then some (m.1 15 i.toNatClampNeg) else none := by
  unfold ev_zld
  rw [show (hs B c m θ z l).2.2 (B + 23) = fxd B c m 23 from hp_at (by decide)]
  simp only [fxd, true_and]
theorem wr_m15 {i : Int32} {x : Int32} : ev_zst (hs B c m θ z l) (B + 23) i x = if ev_out i 40 = false then some (hs B c (mI m 15 i.toNatClampNeg (vp_nar .boolean x)) θ z l) else none := by
  unfold ev_zst
  rw [show (hs B c m θ z l).2.2 (B + 23) = fxd B c m 23 from hp_at (by decide)]
  simp only [fxd, true_and]
  by_cases h : ev_out i 40 = false
  · rw [if_pos h, if_pos h]
    exact congrArg some (hs_up (by decide) rfl (fun i h => fxd_mI15 h))
  · rw [if_neg h, if_neg h]
theorem ln_m15 : ev_len (hs B c m θ z l) (B + 23) = some 40 := by
  unfold ev_len
  rw [show (hs B c m θ z l).2.2 (B + 23) = fxd B c m 23 from hp_at (by decide)]
  rfl
theorem rd_m16 {i : Int32} : ev_ild (hs B c m θ z l) (B + 24) i = if ev_out i 100 = false then some (m.1 16 i.toNatClampNeg) else none := by
  unfold ev_ild
  rw [show (hs B c m θ z l).2.2 (B + 24) = fxd B c m 24 from hp_at (by decide)]
  simp only [fxd, true_and]
theorem wr_m16 {i : Int32} {x : Int32} : ev_ist (hs B c m θ z l) (B + 24) i x = if ev_out i 100 = false then some (hs B c (mI m 16 i.toNatClampNeg x) θ z l) else none := by
  unfold ev_ist
  rw [show (hs B c m θ z l).2.2 (B + 24) = fxd B c m 24 from hp_at (by decide)]
  simp only [fxd, true_and]
  by_cases h : ev_out i 100 = false
  · rw [if_pos h, if_pos h]
    exact congrArg some (hs_up (by decide) rfl (fun i h => fxd_mI16 h))
  · rw [if_neg h, if_neg h]
theorem ln_m16 : ev_len (hs B c m θ z l) (B + 24) = some 100 := by
  unfold ev_len
  rw [show (hs B c m θ z l).2.2 (B + 24) = fxd B c m 24 from hp_at (by decide)]
  rfl
theorem rd_m17 {i : Int32} : ev_ild (hs B c m θ z l) (B + 25) i = if ev_out i 8 = false then some (m.1 17 i.toNatClampNeg) else none := by
  unfold ev_ild
  rw [show (hs B c m θ z l).2.2 (B + 25) = fxd B c m 25 from hp_at (by decide)]
  simp only [fxd, true_and]
theorem wr_m17 {i : Int32} {x : Int32} : ev_ist (hs B c m θ z l) (B + 25) i x = if ev_out i 8 = false then some (hs B c (mI m 17 i.toNatClampNeg x) θ z l) else none := by
  unfold ev_ist
  rw [show (hs B c m θ z l).2.2 (B + 25) = fxd B c m 25 from hp_at (by decide)]
  simp only [fxd, true_and]
  by_cases h : ev_out i 8 = false
  · rw [if_pos h, if_pos h]
    exact congrArg some (hs_up (by decide) rfl (fun i h => fxd_mI17 h))
  · rw [if_neg h, if_neg h]
theorem ln_m17 : ev_len (hs B c m θ z l) (B + 25) = some 8 := by
  unfold ev_len
  rw [show (hs B c m θ z l).2.2 (B + 25) = fxd B c m 25 from hp_at (by decide)]
  rfl
theorem rd_mw {i : Int32} : ev_lld (hs B c m θ z l) (B + 12) i = if ev_out i 36000 = false then some (m.2.1 i.toNatClampNeg) else none := by
  unfold ev_lld
  rw [show (hs B c m θ z l).2.2 (B + 12) = fxd B c m 12 from hp_at (by decide)]
  simp only [fxd, true_and]
theorem wr_mw {i : Int32} {x : Int64} : ev_lst (hs B c m θ z l) (B + 12) i x = if ev_out i 36000 = false then some (hs B c (mW m i.toNatClampNeg x) θ z l) else none := by
  unfold ev_lst
  rw [show (hs B c m θ z l).2.2 (B + 12) = fxd B c m 12 from hp_at (by decide)]
  simp only [fxd, true_and]
  by_cases h : ev_out i 36000 = false
  · rw [if_pos h, if_pos h]
    exact congrArg some (hs_up (by decide) rfl (fun i h => fxd_mW h))
  · rw [if_neg h, if_neg h]
theorem ln_mw : ev_len (hs B c m θ z l) (B + 12) = some 36000 := by
  unfold ev_len
  rw [show (hs B c m θ z l).2.2 (B + 12) = fxd B c m 12 from hp_at (by decide)]
  rfl
theorem rd_c0 {i : Int32} : ev_ild (hs B c m θ z l) (B + 2) i = if ev_out i 100 = false then some (c.2.1 0 i.toNatClampNeg) else none := by
  unfold ev_ild
  rw [show (hs B c m θ z l).2.2 (B + 2) = fxd B c m 2 from hp_at (by decide)]
  simp only [fxd, true_and]
theorem wr_c0 {i : Int32} {x : Int32} : ev_ist (hs B c m θ z l) (B + 2) i x = if ev_out i 100 = false then some (hs B (cI c 0 i.toNatClampNeg x) m θ z l) else none := by
  unfold ev_ist
  rw [show (hs B c m θ z l).2.2 (B + 2) = fxd B c m 2 from hp_at (by decide)]
  simp only [fxd, true_and]
  by_cases h : ev_out i 100 = false
  · rw [if_pos h, if_pos h]
    exact congrArg some (hs_up (by decide) rfl (fun i h => fxd_cI0 h))
  · rw [if_neg h, if_neg h]
theorem ln_c0 : ev_len (hs B c m θ z l) (B + 2) = some 100 := by
  unfold ev_len
  rw [show (hs B c m θ z l).2.2 (B + 2) = fxd B c m 2 from hp_at (by decide)]
  rfl
theorem rd_c1 {i : Int32} : ev_ild (hs B c m θ z l) (B + 3) i = if ev_out i 8 = false then some (c.2.1 1 i.toNatClampNeg) else none := by
  unfold ev_ild
  rw [show (hs B c m θ z l).2.2 (B + 3) = fxd B c m 3 from hp_at (by decide)]
  simp only [fxd, true_and]
theorem wr_c1 {i : Int32} {x : Int32} : ev_ist (hs B c m θ z l) (B + 3) i x = if ev_out i 8 = false then some (hs B (cI c 1 i.toNatClampNeg x) m θ z l) else none := by
  unfold ev_ist
  rw [show (hs B c m θ z l).2.2 (B + 3) = fxd B c m 3 from hp_at (by decide)]
  simp only [fxd, true_and]
  by_cases h : ev_out i 8 = false
  · rw [if_pos h, if_pos h]
    exact congrArg some (hs_up (by decide) rfl (fun i h => fxd_cI1 h))
  · rw [if_neg h, if_neg h]
theorem ln_c1 : ev_len (hs B c m θ z l) (B + 3) = some 8 := by
  unfold ev_len
  rw [show (hs B c m θ z l).2.2 (B + 3) = fxd B c m 3 from hp_at (by decide)]
  rfl
theorem rd_cb {i : Int32} : ev_ald (hs B c m θ z l) (B + 1) i = if ev_out i 24 = false then some (c.1 i.toNatClampNeg) else none := by
  unfold ev_ald
  rw [show (hs B c m θ z l).2.2 (B + 1) = fxd B c m 1 from hp_at (by decide)]
  rfl
theorem ln_cb : ev_len (hs B c m θ z l) (B + 1) = some 24 := by
  unfold ev_len
  rw [show (hs B c m θ z l).2.2 (B + 1) = fxd B c m 1 from hp_at (by decide)]
  rfl
theorem wr_cb {i : Int32} {x : Option Nat} (hx : ev_may (hs B c m θ z l) RX4 x = true) : ev_ast (hs B c m θ z l) (B + 1) i x = if ev_out i 24 = false then some (hs B (cB c i.toNatClampNeg x) m θ z l) else none := by
  unfold ev_ast
  rw [show (hs B c m θ z l).2.2 (B + 1) = fxd B c m 1 from hp_at (by decide)]
  simp only [fxd, hx, and_true]
  by_cases h : ev_out i 24 = false
  · rw [if_pos h, if_pos h]
    exact congrArg some (hs_up (by decide) rfl (fun i h => fxd_cB h))
  · rw [if_neg h, if_neg h]
end HS
-- what updates change
section UP
variable {m : MS} {c : CS}
theorem mI_1 {k i q : Nat} {x : Int32} : (mI m k i x).1 q = if q = k then upd (m.1 k) i x else m.1 q := rfl
theorem mI_2 {k i : Nat} {x : Int32} : (mI m k i x).2 = m.2 := rfl
theorem mW_1 {i : Nat} {x : Int64} : (mW m i x).1 = m.1 := rfl
theorem mW_2 {i : Nat} {x : Int64} : (mW m i x).2.1 = vp_updL m.2.1 i x := rfl
theorem mW_3 {i : Nat} {x : Int64} : (mW m i x).2.2 = m.2.2 := rfl
theorem mS_1 {k : Nat} {x : Int32} : (mS m k x).1 = m.1 := rfl
theorem mS_2 {k : Nat} {x : Int32} : (mS m k x).2.1 = m.2.1 := rfl
theorem mS_3 {k q : Nat} {x : Int32} : (mS m k x).2.2.1 q = if q = k then x else m.2.2.1 q := rfl
theorem mS_4 {k : Nat} {x : Int32} : (mS m k x).2.2.2 = m.2.2.2 := rfl
theorem mQ_1 {k : Nat} {x : Int64} : (mQ m k x).1 = m.1 := rfl
theorem mQ_2 {k : Nat} {x : Int64} : (mQ m k x).2.1 = m.2.1 := rfl
theorem mQ_3 {k : Nat} {x : Int64} : (mQ m k x).2.2.1 = m.2.2.1 := rfl
theorem mQ_4 {k q : Nat} {x : Int64} : (mQ m k x).2.2.2 q = if q = k then x else m.2.2.2 q := rfl
theorem cB_1 {i : Nat} {x : Option Nat} : (cB c i x).1 = va_up c.1 i x := rfl
theorem cB_2 {i : Nat} {x : Option Nat} : (cB c i x).2 = c.2 := rfl
theorem cI_1 {k i : Nat} {x : Int32} : (cI c k i x).1 = c.1 := rfl
theorem cI_2 {k i q : Nat} {x : Int32} : (cI c k i x).2.1 q = if q = k then upd (c.2.1 k) i x else c.2.1 q := rfl
theorem cI_3 {k i : Nat} {x : Int32} : (cI c k i x).2.2 = c.2.2 := rfl
theorem cS_1 {k : Nat} {x : Int32} : (cS c k x).1 = c.1 := rfl
theorem cS_2 {k : Nat} {x : Int32} : (cS c k x).2.1 = c.2.1 := rfl
theorem cS_3 {k q : Nat} {x : Int32} : (cS c k x).2.2.1 q = if q = k then x else c.2.2.1 q := rfl
theorem cS_4 {k : Nat} {x : Int32} : (cS c k x).2.2.2 = c.2.2.2 := rfl
theorem cQ_1 {x : Int64} : (cQ c x).1 = c.1 := rfl
theorem cQ_2 {x : Int64} : (cQ c x).2.1 = c.2.1 := rfl
theorem cQ_3 {x : Int64} : (cQ c x).2.2.1 = c.2.2.1 := rfl
theorem cQ_4 {x : Int64} : (cQ c x).2.2.2 = x := rfl
end UP
-- small facts for the simplifier
theorem iR_r (a : Nat) : ev_isR (.ref a) = true := id rfl
theorem iR_n : ev_isR .null = true := id rfl
theorem iR_f (x : Option Nat) : ev_isR (va_rf x) = true := by cases x <;> rfl
theorem iI_i (x : Int32) : ev_isI (.int x) = true := id rfl
theorem iJ_j (x : Int64) : ev_isJ (.long x) = true := id rfl
theorem iF_f (x : UInt32) : ev_isF (.float x) = true := id rfl
theorem iD_d (x : UInt64) : ev_isD (.double x) = true := id rfl
theorem c1_n : ev_c1 none = true := id rfl
theorem c1_i (x : Int32) : ev_c1 (some (.int x)) = true := id rfl
theorem c1_r (x : Nat) : ev_c1 (some (.ref x)) = true := id rfl
theorem c1_0 : ev_c1 (some .null) = true := id rfl
theorem c1_f (x : UInt32) : ev_c1 (some (.float x)) = true := id rfl
theorem c1_q (x : Option Nat) : ev_c1 (some (va_rf x)) = true := by cases x <;> rfl
theorem kt_i (x : Int32) : (Value.int x).category = 1 := id rfl
theorem kt_j (x : Int64) : (Value.long x).category = 2 := id rfl
theorem kt_f (x : UInt32) : (Value.float x).category = 1 := id rfl
theorem kt_d (x : UInt64) : (Value.double x).category = 2 := id rfl
theorem kt_r (x : Nat) : (Value.ref x).category = 1 := id rfl
theorem sw_0 : ev_sw [] ≤ 8 := by decide
theorem sw_i (x : Int32) : ev_sw [.int x] ≤ 8 := Nat.le_of_ble_eq_true rfl
theorem sw_j (x : Int64) : ev_sw [.long x] ≤ 8 := Nat.le_of_ble_eq_true rfl
theorem sw_r (x : Nat) : ev_sw [.ref x] ≤ 8 := Nat.le_of_ble_eq_true rfl
theorem sw_rr (x y : Nat) : ev_sw [.ref x, .ref y] ≤ 8 := Nat.le_of_ble_eq_true rfl
theorem sw_ii (x y : Int32) : ev_sw [.int x, .int y] ≤ 8 := Nat.le_of_ble_eq_true rfl
theorem sw_ir (x : Int32) (y : Nat) : ev_sw [.int x, .ref y] ≤ 8 := Nat.le_of_ble_eq_true rfl
theorem sw_ri (x : Int32) (y : Nat) : ev_sw [.ref y, .int x] ≤ 8 := Nat.le_of_ble_eq_true rfl
theorem sw_rj (x : Int64) (y : Nat) : ev_sw [.ref y, .long x] ≤ 8 := Nat.le_of_ble_eq_true rfl
theorem sw_jj (x y : Int64) : ev_sw [.long x, .long y] ≤ 8 := Nat.le_of_ble_eq_true rfl
theorem bd_s {α β : Type} (a : α) (f : α → Option β) : (some a).bind f = f a := rfl
theorem bd_n {α β : Type} (f : α → Option β) : (none : Option α).bind f = none := rfl
theorem bd_if {α β : Type} (P : Prop) (h : Decidable P) (a b : Option α) (f : α → Option β) : (if P then a else b).bind f = if P then a.bind f else b.bind f := by split <;> rfl
theorem tl_s {α : Type} (a : α) (l : List α) : (some a).toList ++ l = a :: l := rfl
theorem tl_n {α : Type} (l : List α) : (none : Option α).toList ++ l = l := rfl
theorem oz_1 : ((1 : Int32) = 0 ∨ (1 : Int32) = 1) := by decide
theorem oz_0 : ((0 : Int32) = 0 ∨ (0 : Int32) = 1) := by decide
def bI (P : Prop) [h : Decidable P] : Int32 := if P then 1 else 0
theorem bI_oz {P : Prop} [h : Decidable P] : bI P = 0 ∨ bI P = 1 := by unfold bI; split <;> decide
theorem bI_0 {P : Prop} [h : Decidable P] : (bI P = 0) = ¬ P := by unfold bI; split <;> simp_all
theorem bI_t {P : Prop} [h : Decidable P] (hp : P) : bI P = 1 := if_pos hp
theorem bI_f {P : Prop} [h : Decidable P] (hp : ¬ P) : bI P = 0 := if_neg hp
