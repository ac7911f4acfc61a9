-- HOW THE CLASS'S THINGS STAND FOR THE REFERENCE'S TABLES
def p_told (ln : Nat) (w : Int64) : Int64 := match ln with
  | 0 => w &&& 1
  | 1 => w.toInt32.toInt8.toInt32.toInt64
  | 2 => (w.toInt32.toUInt32 % 65536).toInt32.toInt64
  | 3 => w.toInt32.toInt16.toInt32.toInt64
  | 4 => w.toInt32.toInt64
  | 6 => w.toInt32.toInt64
  | _ => w
def p_tells (ln : Nat) (w : Int64) : Prop := match ln with
  | 6 => w &&& 2147483647 ≤ 2139095040
  | 7 => w &&& 9223372036854775807 ≤ 9218868437227405312
  | _ => True
def WV (ln : Nat) (w : Int64) : Prop := p_told ln w = w ∧ p_tells ln w
theorem WV_0 (ln : Nat) (h : ln ≤ 7) : WV ln 0 := by
  rcases (show ln = 0 ∨ ln = 1 ∨ ln = 2 ∨ ln = 3 ∨ ln = 4 ∨ ln = 5 ∨ ln = 6 ∨ ln = 7 by omega) with rfl | rfl | rfl | rfl | rfl | rfl | rfl | rfl <;> exact ⟨by decide, by first | trivial | (show _ ≤ _; decide)⟩
abbrev GR : Type := Nat → Nat × Nat × Nat × Nat × Nat
abbrev GS : Type := Nat → Nat × Nat × Nat
abbrev GB : Type := Nat → Nat × Nat × Nat × Nat
abbrev GV : Type := Nat → Nat × Nat
def adr (B z : Nat) (κ : Nat → Nat × Nat) (a t i : Nat) : Prop := B + 26 ≤ a ∧ a < z ∧ κ a = (t, i)
def okR (B z : Nat) (m : MS) (θ : Nat → Option ev_E) (κ : Nat → Nat × Nat) (nu r ln sz fs ra wa : Nat) : Prop :=
  ln ≤ 7 ∧ sz ≤ 16 ∧ fs + sz ≤ nu ∧ m.1 2 r = nI ln ∧ m.1 3 r = nI sz ∧ m.1 4 r = nI fs ∧ adr B z κ ra 1 r ∧ adr B z κ wa 2 r ∧
  θ ra = some (.inr (.inl (1, [.int (nI ln), .ref wa]))) ∧ ∃ f, θ wa = some (.inl (.long, sz, .inr (.inl f))) ∧ ∀ k, k < sz → f k = m.2.1 (fs + k) ∧ WV ln (f k)
def okS (B z : Nat) (m : MS) (θ : Nat → Option ev_E) (κ : Nat → Nat × Nat) (nr : Nat) (row : GR) (i n sa la : Nat) : Prop :=
  n ≤ 8 ∧ m.1 5 i = nI n ∧ adr B z κ sa 3 i ∧ adr B z κ la 4 i ∧ θ sa = some (.inr (.inl (3, [.ref la]))) ∧ ∃ g, θ la = some (.inl (.object RX1, n, .inr (.inr (.inr (.inr g))))) ∧
  ∀ k, k < n → (m.1 6 (8 * i + k) = -1 ∧ g k = none) ∨ ∃ r, r < nr ∧ (row r).1 = 4 ∧ m.1 6 (8 * i + k) = nI r ∧ g k = some (row r).2.2.2.1
def okB (B z : Nat) (m : MS) (θ : Nat → Option ev_E) (κ : Nat → Nat × Nat) (nv : Nat) (voi : GV) (i kd n ba pa : Nat) : Prop :=
  kd ≤ 6 ∧ n ≤ 8 ∧ m.1 7 i = nI kd ∧ m.1 8 i = nI n ∧ adr B z κ ba 5 i ∧ adr B z κ pa 6 i ∧ θ ba = some (.inr (.inl (0, [.int (nI kd), .ref pa]))) ∧ ∃ g, θ pa = some (.inl (.object RX5, n, .inr (.inr (.inr (.inr g))))) ∧
  ∀ k, k < n → (m.1 9 (8 * i + k) = -1 ∧ g k = none) ∨ ∃ v, v < nv ∧ m.1 9 (8 * i + k) = nI v ∧ g k = some (voi v).2
def okV (B z : Nat) (m : MS) (θ : Nat → Option ev_E) (κ : Nat → Nat × Nat) (v kd va : Nat) : Prop :=
  kd ≤ 5 ∧ m.1 10 v = nI kd ∧ adr B z κ va 7 v ∧ θ va = some (.inr (.inl (4, [.int (nI kd), .int (nI v), .int (m.1 11 v), .int (m.1 12 v), .int (m.1 13 v), .int (m.1 14 v), .int (m.1 15 v)]))) ∧ (m.1 15 v = 0 ∨ m.1 15 v = 1) ∧ (kd ≠ 1 → kd ≠ 2 → m.1 12 v = 0) ∧ (kd ≠ 5 → m.1 13 v = 0)
def okX (c : CS) (m : MS) (nr ns nb nv : Nat) (row : GR) (sht : GS) (bnk : GB) (voi : GV) (j s n : Nat) : Prop :=
  m.1 0 j = nI s ∧ m.1 1 j = nI n ∧ ((s = 0 ∧ c.1 j = none) ∨ (s = 1 ∧ n < nr ∧ c.1 j = some (row n).2.2.2.1) ∨ (s = 2 ∧ n < ns ∧ c.1 j = some (sht n).2.1) ∨ (s = 3 ∧ n < nb ∧ c.1 j = some (bnk n).2.2.1) ∨ (s = 4 ∧ n < nv ∧ c.1 j = some (voi n).2))
def okC (c : CS) (m : MS) : Prop := c.2.1 0 = m.1 16 ∧ c.2.1 1 = m.1 17 ∧ c.2.2.1 0 = m.2.2.1 5 ∧ c.2.2.1 1 = m.2.2.1 6 ∧ c.2.2.1 2 = m.2.2.1 4 ∧ c.2.2.1 3 = m.2.2.1 7 ∧ c.2.2.2 = m.2.2.2 0 ∧ 0 ≤ m.2.2.1 5 ∧ m.2.2.1 5 ≤ 100
def okN (m : MS) (t nr nu ns nb nv : Nat) : Prop := t ≤ 512 ∧ nr ≤ 8 * t ∧ nu ≤ 64 * t ∧ ns ≤ t ∧ nb ≤ t ∧ nv ≤ 40 ∧ m.2.2.1 0 = nI nr ∧ m.2.2.1 1 = nI nu ∧ m.2.2.1 2 = nI ns ∧ m.2.2.1 3 = nI nb ∧ m.2.2.1 4 = nI nv
def okZ (B z l t : Nat) : Prop := B + 26 ≤ z ∧ z ≤ B + 26 + 18 * t ∧ l ≤ 70000 + 200 * t
def okP (row : GR) (nr : Nat) : Prop := ∀ r r', r < r' → r' < nr → (row r).2.2.1 + (row r).2.1 ≤ (row r').2.2.1
def ok0 (m : MS) (nu nv : Nat) : Prop := (∀ k, nu ≤ k → m.2.1 k = 0) ∧ ∀ v, nv ≤ v → m.1 11 v = 0 ∧ m.1 12 v = 0 ∧ m.1 13 v = 0 ∧ m.1 14 v = 0 ∧ m.1 15 v = 0
/-- all of it, with what the reference's numbers are and where the class's things lie -/
def RR (B b L : Nat) (xs : Nat → Int32) (t : Nat) (c : CS) (m : MS) (θ : Nat → Option ev_E) (z l : Nat) (κ : Nat → Nat × Nat) (nr nu ns nb nv : Nat) (box : GV) (row : GR) (sht : GS) (bnk : GB) (voi : GV) : Prop :=
  (b < B ∧ θ b = some (.inr (.inr (L, xs)))) ∧ okN m t nr nu ns nb nv ∧ okZ B z l t ∧ okC c m ∧ okP row nr ∧ ok0 m nu nv ∧
  (∀ j, j < 24 → okX c m nr ns nb nv row sht bnk voi j (box j).1 (box j).2) ∧
  (∀ r, r < nr → okR B z m θ κ nu r (row r).1 (row r).2.1 (row r).2.2.1 (row r).2.2.2.1 (row r).2.2.2.2) ∧
  (∀ i, i < ns → okS B z m θ κ nr row i (sht i).1 (sht i).2.1 (sht i).2.2) ∧
  (∀ i, i < nb → okB B z m θ κ nv voi i (bnk i).1 (bnk i).2.1 (bnk i).2.2.1 (bnk i).2.2.2) ∧
  (∀ v, v < nv → okV B z m θ κ v (voi v).1 (voi v).2)
def Rel (B b L : Nat) (xs : Nat → Int32) (t : Nat) (c : CS) (m : MS) (θ : Nat → Option ev_E) (z l : Nat) : Prop := ∃ (κ : Nat → Nat × Nat) (nr nu ns nb nv : Nat) (box : GV) (row : GR) (sht : GS) (bnk : GB) (voi : GV), RR B b L xs t c m θ z l κ nr nu ns nb nv box row sht bnk voi
/-- between two calls of the law -/
def Good (B b L : Nat) (xs : Nat → Int32) (t : Nat) (σ : ev_H) : Prop := ∃ c m θ z l, σ = hs B c m θ z l ∧ Rel B b L xs t c m θ z l
/-- a call answers alike, and leaves things so -/
def OP (kc km : Nat) (as : List Value) : Prop := ∀ (B b L : Nat) (xs : Nat → Int32) (t : Nat) (σ : ev_H), t < 512 → Good B b L xs t σ → ∃ (v : Value) (σ1 σ2 : ev_H), EV kc (.ref B :: as) σ = some (some v, σ1) ∧ EV km (.ref (B + 6) :: as) σ1 = some (some v, σ2) ∧ Good B b L xs (t + 1) σ2 ∧ (if kc = 48 ∨ kc = 65 then ev_isJ v else ev_isI v) = true ∧ ∃ (c1 : CS) (m1 : MS) (θ1 : Nat → Option ev_E) (z1 l1 : Nat), σ1 = hs B c1 m1 θ1 z1 l1 ∧ b < B ∧ θ1 b = some (.inr (.inr (L, xs)))
section REL
variable {B b L : Nat} {xs : Nat → Int32} {t : Nat} {c : CS} {m : MS} {θ : Nat → Option ev_E} {z l : Nat} {κ : Nat → Nat × Nat} {nr nu ns nb nv : Nat} {box : GV} {row : GR} {sht : GS} {bnk : GB} {voi : GV}
theorem okN.up (h : okN m t nr nu ns nb nv) (ht : t < 512) : okN m (t + 1) nr nu ns nb nv := by
  obtain ⟨h1, h2, h3, h4, h5, h6⟩ := h
  exact ⟨by omega, by omega, by omega, by omega, by omega, h6⟩
theorem okZ.up (h : okZ B z l t) : okZ B z l (t + 1) := by
  obtain ⟨h1, h2, h3⟩ := h
  exact ⟨h1, by omega, by omega⟩
theorem RR.up (h : RR B b L xs t c m θ z l κ nr nu ns nb nv box row sht bnk voi) (ht : t < 512) : RR B b L xs (t + 1) c m θ z l κ nr nu ns nb nv box row sht bnk voi := ⟨h.1, h.2.1.up ht, h.2.2.1.up, h.2.2.2⟩
/-- nothing happened -/
theorem op_same {kc km : Nat} {as : List Value} {v : Value} (h : RR B b L xs t c m θ z l κ nr nu ns nb nv box row sht bnk voi) (ht : t < 512) (h1 : EV kc (.ref B :: as) (hs B c m θ z l) = some (some v, hs B c m θ z l)) (h2 : EV km (.ref (B + 6) :: as) (hs B c m θ z l) = some (some v, hs B c m θ z l)) (hv : (if kc = 48 ∨ kc = 65 then ev_isJ v else ev_isI v) = true := by rfl) : ∃ (v : Value) (σ1 σ2 : ev_H), EV kc (.ref B :: as) (hs B c m θ z l) = some (some v, σ1) ∧ EV km (.ref (B + 6) :: as) σ1 = some (some v, σ2) ∧ Good B b L xs (t + 1) σ2 ∧ (if kc = 48 ∨ kc = 65 then ev_isJ v else ev_isI v) = true ∧ ∃ (c1 : CS) (m1 : MS) (θ1 : Nat → Option ev_E) (z1 l1 : Nat), σ1 = hs B c1 m1 θ1 z1 l1 ∧ b < B ∧ θ1 b = some (.inr (.inr (L, xs))) :=
  ⟨v, _, _, h1, h2, ⟨c, m, θ, z, l, rfl, κ, nr, nu, ns, nb, nv, box, row, sht, bnk, voi, h.up ht⟩, hv, c, m, θ, z, l, rfl, h.1⟩
/-- a call that did something -/
theorem op_do {kc km : Nat} {as : List Value} {v : Value} {c1 : CS} {m2 : MS} {θ1 : Nat → Option ev_E} {z1 l1 : Nat} (h : RR B b L xs t c1 m2 θ1 z1 l1 κ nr nu ns nb nv box row sht bnk voi) (h1 : EV kc (.ref B :: as) (hs B c m θ z l) = some (some v, hs B c1 m θ1 z1 l1)) (h2 : EV km (.ref (B + 6) :: as) (hs B c1 m θ1 z1 l1) = some (some v, hs B c1 m2 θ1 z1 l1)) (hv : (if kc = 48 ∨ kc = 65 then ev_isJ v else ev_isI v) = true := by rfl) : ∃ (v : Value) (σ1 σ2 : ev_H), EV kc (.ref B :: as) (hs B c m θ z l) = some (some v, σ1) ∧ EV km (.ref (B + 6) :: as) σ1 = some (some v, σ2) ∧ Good B b L xs t σ2 ∧ (if kc = 48 ∨ kc = 65 then ev_isJ v else ev_isI v) = true ∧ ∃ (c1 : CS) (m1 : MS) (θ1 : Nat → Option ev_E) (z1 l1 : Nat), σ1 = hs B c1 m1 θ1 z1 l1 ∧ b < B ∧ θ1 b = some (.inr (.inr (L, xs))) :=
  ⟨v, _, _, h1, h2, ⟨c1, m2, θ1, z1, l1, rfl, κ, nr, nu, ns, nb, nv, box, row, sht, bnk, voi, h⟩, hv, c1, m, θ1, z1, l1, rfl, h.1⟩
theorem RR.found {f : Int32} (h : RR B b L xs t c m θ z l κ nr nu ns nb nv box row sht bnk voi) : RR B b L xs t (g_found c f) (f_finds m f) θ z l κ nr nu ns nb nv box row sht bnk voi := by
  obtain ⟨h1, h2, h3, ⟨a1, a2, a3, a4, a5, a6, a7, a8⟩, h5⟩ := h
  refine ⟨h1, h2, h3, ⟨a1, ?_, a3, rfl, a5, a6, a7, a8⟩, h5⟩
  show upd (c.2.1 1) _ _ = upd (m.1 17) _ _
  rw [a2]
/-- a finding -/
theorem op_found {kc km : Nat} {as : List Value} {f : Int32} (h : RR B b L xs t c m θ z l κ nr nu ns nb nv box row sht bnk voi) (ht : t < 512) (h1 : EV kc (.ref B :: as) (hs B c m θ z l) = some (some (.int (-10 - f)), hs B (g_found c f) m θ z l)) (h2 : EV km (.ref (B + 6) :: as) (hs B (g_found c f) m θ z l) = some (some (.int (-10 - f)), hs B (g_found c f) (f_finds m f) θ z l)) (hv : (if kc = 48 ∨ kc = 65 then ev_isJ (.int (-10 - f)) else ev_isI (.int (-10 - f))) = true := by rfl) : ∃ (v : Value) (σ1 σ2 : ev_H), EV kc (.ref B :: as) (hs B c m θ z l) = some (some v, σ1) ∧ EV km (.ref (B + 6) :: as) σ1 = some (some v, σ2) ∧ Good B b L xs (t + 1) σ2 ∧ (if kc = 48 ∨ kc = 65 then ev_isJ v else ev_isI v) = true ∧ ∃ (c1 : CS) (m1 : MS) (θ1 : Nat → Option ev_E) (z1 l1 : Nat), σ1 = hs B c1 m1 θ1 z1 l1 ∧ b < B ∧ θ1 b = some (.inr (.inr (L, xs))) :=
  ⟨_, _, _, h1, h2, ⟨_, _, θ, z, l, rfl, κ, nr, nu, ns, nb, nv, box, row, sht, bnk, voi, h.found.up ht⟩, hv, _, m, θ, z, l, rfl, h.1⟩
end REL
