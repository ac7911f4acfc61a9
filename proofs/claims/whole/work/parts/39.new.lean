-- NEW THINGS
section NEW
variable {B b L : Nat} {xs : Nat → Int32} {t : Nat} {c : CS} {m : MS} {θ : Nat → Option ev_E} {z l : Nat} {κ : Nat → Nat × Nat} {nr nu ns nb nv : Nat} {box : GV} {row : GR} {sht : GS} {bnk : GB} {voi : GV} {σ : ev_H}
theorem tu_tu {a : Nat} {e e' : ev_E} : tu (tu θ a e) a e' = tu θ a e' := by
  funext q
  unfold tu
  by_cases h : q = a <;> simp [h]
theorem dfl_0 : ev_dfl 0 = some (2, [.int 0, .null]) := rfl
theorem dfl_1 : ev_dfl 1 = some (2, [.int 0, .null]) := rfl
theorem dfl_3 : ev_dfl 3 = some (1, [.null]) := rfl
theorem dfl_4 : ev_dfl 4 = some (7, [.int 0, .int 0, .int 0, .int 0, .int 0, .int 0, .int 0]) := rfl
theorem sw_rir (x : Nat) (y : Int32) (w : Nat) : ev_sw [.ref x, .int y, .ref w] ≤ 8 := Nat.le_of_ble_eq_true rfl
theorem nI_s {n : Nat} : nI n + 1 = nI (n + 1) := nI_add n 1
theorem nI_p {n : Nat} (h : n < 100000) : nI (n + 1) - 1 = nI n := by
  apply Int32.toInt_inj.mp
  rw [sub1 (n := n + 1) (by omega), nI_toInt (by omega)]
  omega
/-- new places on the heap -/
theorem RR.ext (h : RR B b L xs t c m θ z l κ nr nu ns nb nv box row sht bnk voi) (ht : t < 512) {θ' : Nat → Option ev_E} {z' l' : Nat} {κ' : Nat → Nat × Nat} (hθ : ∀ a, a < z → θ' a = θ a) (hκ : ∀ a, a < z → κ' a = κ a) (hz : z ≤ z') (hz2 : z' ≤ z + 18) (hl : l' ≤ l + 200) : RR B b L xs (t + 1) c m θ' z' l' κ' nr nu ns nb nv box row sht bnk voi := by
  have A : ∀ {a t i : Nat}, adr B z κ a t i → adr B z' κ' a t i := fun {a t i} q => ⟨q.1, Nat.lt_of_lt_of_le q.2.1 hz, (hκ _ q.2.1).trans q.2.2⟩
  obtain ⟨h1, h2, h3, h4, h5, h6, h7, h8, h9, h10, h11⟩ := h
  have hz0 := h3.1
  refine ⟨⟨h1.1, ?_⟩, h2.up ht, ⟨?_, ?_, ?_⟩, h4, h5, h6, h7, fun r' hr' => ?_, fun i' hi' => ?_, fun i' hi' => ?_, fun v' hv' => ?_⟩
  · have := h1.1
    rw [hθ _ (by omega)]; exact h1.2
  · omega
  · have := h3.2.1; omega
  · have := h3.2.2; omega
  · obtain ⟨p1, p2, p3, p4, p5, p6, p7, p8, p9, g', p10, p11⟩ := h8 r' hr'
    exact ⟨p1, p2, p3, p4, p5, p6, A p7, A p8, by rw [hθ _ p7.2.1]; exact p9, g', by rw [hθ _ p8.2.1]; exact p10, p11⟩
  · obtain ⟨p1, p2, p3, p4, p5, g', p6, p7⟩ := h9 i' hi'
    exact ⟨p1, p2, A p3, A p4, by rw [hθ _ p3.2.1]; exact p5, g', by rw [hθ _ p4.2.1]; exact p6, p7⟩
  · obtain ⟨p1, p2, p3, p4, p5, p6, p7, g', p8, p9⟩ := h10 i' hi'
    exact ⟨p1, p2, p3, p4, A p5, A p6, by rw [hθ _ p5.2.1]; exact p7, g', by rw [hθ _ p6.2.1]; exact p8, p9⟩
  · obtain ⟨p1, p2, p3, p4, p5⟩ := h11 v' hv'
    exact ⟨p1, p2, A p3, by rw [hθ _ p3.2.1]; exact p4, p5⟩
/-- one voice more -/
theorem RR.addV (h : RR B b L xs t c m θ z l κ nr nu ns nb nv box row sht bnk voi) {kd va : Nat} (hv : nv < 40) (hk : kd ≤ 5) (ha : adr B z κ va 7 nv) (hθ : θ va = some (.inr (.inl (4, [.int (nI kd), .int (nI nv), .int 0, .int 0, .int 0, .int 0, .int 0])))) : RR B b L xs t (cS c 2 (nI (nv + 1))) (mS (mI m 10 nv (nI kd)) 4 (nI (nv + 1))) θ z l κ nr nu ns nb (nv + 1) box row sht bnk (fun v => if v = nv then (kd, va) else voi v) := by
  obtain ⟨h1, h2, h3, h4, h5, h6, h7, h8, h9, h10, h11⟩ := h
  obtain ⟨n1, n2, n3, n4, n5, n6, n7, n8, n9, n10, n11⟩ := h2
  obtain ⟨a1, a2, a3, a4, a5, a6, a7, a8, a9⟩ := h4
  have vo : ∀ {v : Nat}, v < nv → (if v = nv then (kd, va) else voi v) = voi v := fun {v} q => if_neg (by omega)
  refine ⟨h1, ⟨n1, n2, n3, n4, n5, by omega, n7, n8, n9, n10, rfl⟩, h3, ⟨a1, a2, a3, a4, rfl, a6, a7, a8, a9⟩, h5, ⟨h6.1, fun q hq => h6.2 q (by omega)⟩, fun j hj => ?_, h8, h9, fun i' hi' => ?_, fun v' hv' => ?_⟩
  · obtain ⟨x1, x2, x3⟩ := h7 j hj
    refine ⟨x1, x2, ?_⟩
    rcases x3 with q | q | q | q | ⟨q1, q2, q3⟩
    · exact Or.inl q
    · exact Or.inr (Or.inl q)
    · exact Or.inr (Or.inr (Or.inl q))
    · exact Or.inr (Or.inr (Or.inr (Or.inl q)))
    · exact Or.inr (Or.inr (Or.inr (Or.inr ⟨q1, by omega, by dsimp only; rw [vo q2]; exact q3⟩)))
  · obtain ⟨p1, p2, p3, p4, p5, p6, p7, g', p8, p9⟩ := h10 i' hi'
    refine ⟨p1, p2, p3, p4, p5, p6, p7, g', p8, fun k hk => ?_⟩
    rcases p9 k hk with q | ⟨v, q1, q2, q3⟩
    · exact Or.inl q
    · exact Or.inr ⟨v, by omega, q2, by dsimp only; rw [vo q1]; exact q3⟩
  · by_cases e : v' = nv
    · subst e
      obtain ⟨e1, e2, e3, e4, e5⟩ := h6.2 v' (Nat.le_refl _)
      dsimp only
      rw [if_pos rfl]
      refine ⟨hk, pk_us (f := m.1 10), ha, ?_, Or.inl e5, fun _ _ => e2, fun _ => e3⟩
      show θ va = some (.inr (.inl (4, [.int (nI kd), .int (nI v'), .int (m.1 11 v'), .int (m.1 12 v'), .int (m.1 13 v'), .int (m.1 14 v'), .int (m.1 15 v')])))
      rw [e1, e2, e3, e4, e5]; exact hθ
    · have q := h11 v' (by omega)
      dsimp only
      rw [if_neg e]
      obtain ⟨p1, p2, p3⟩ := q
      exact ⟨p1, (pk_un (f := m.1 10) e).trans p2, p3⟩
/-- one row more -/
theorem RR.addR (h : RR B b L xs t c m θ z l κ nr nu ns nb nv box row sht bnk voi) {ln sz ra wa : Nat} {f W : Nat → Int64} (hln : ln ≤ 7) (hsz : sz ≤ 16) (bt : nr + 1 ≤ 8 * t ∧ nu + sz ≤ 64 * t) (ha : adr B z κ ra 1 nr) (hw : adr B z κ wa 2 nr) (hθ : θ ra = some (.inr (.inl (1, [.int (nI ln), .ref wa])))) (hf : θ wa = some (.inl (.long, sz, .inr (.inl f)))) (hW1 : ∀ k, k < nu → W k = m.2.1 k) (hW2 : ∀ k, nu + sz ≤ k → W k = 0) (hW3 : ∀ k, k < sz → f k = W (nu + k) ∧ WV ln (f k)) : RR B b L xs t c ((mS (mS (mI (mI (mI m 2 nr (nI ln)) 3 nr (nI sz)) 4 nr (nI nu)) 1 (nI (nu + sz))) 0 (nI (nr + 1))).1, W, (mS (mS (mI (mI (mI m 2 nr (nI ln)) 3 nr (nI sz)) 4 nr (nI nu)) 1 (nI (nu + sz))) 0 (nI (nr + 1))).2.2) θ z l κ (nr + 1) (nu + sz) ns nb nv box (fun r => if r = nr then (ln, sz, nu, ra, wa) else row r) sht bnk voi := by
  obtain ⟨h1, h2, h3, h4, h5, h6, h7, h8, h9, h10, h11⟩ := h
  obtain ⟨n1, n2, n3, n4, n5, n6, n7, n8, n9, n10, n11⟩ := h2
  have vo : ∀ {r : Nat}, r < nr → (if r = nr then (ln, sz, nu, ra, wa) else row r) = row r := fun {r} q => if_neg (by omega)
  refine ⟨h1, ⟨n1, by omega, by omega, n4, n5, n6, rfl, rfl, n9, n10, n11⟩, h3, h4, ?_, ⟨fun k hk => hW2 k hk, h6.2⟩, fun j hj => ?_, fun r hr => ?_, fun i' hi' => ?_, h10, h11⟩
  · intro r r' q1 q2
    have q3 : r < nr := by omega
    dsimp only
    rw [vo q3]
    by_cases e : r' = nr
    · subst e
      rw [if_pos rfl]
      exact (h8 r q3).2.2.1
    · rw [if_neg e]
      exact h5 r r' q1 (by omega)
  · obtain ⟨x1, x2, x3⟩ := h7 j hj
    refine ⟨x1, x2, ?_⟩
    rcases x3 with q | ⟨q1, q2, q3⟩ | q
    · exact Or.inl q
    · exact Or.inr (Or.inl ⟨q1, by omega, by dsimp only; rw [vo q2]; exact q3⟩)
    · exact Or.inr (Or.inr q)
  · by_cases e : r = nr
    · subst e
      dsimp only
      rw [if_pos rfl]
      exact ⟨hln, hsz, Nat.le_refl _, pk_us (f := m.1 2), pk_us (f := m.1 3), pk_us (f := m.1 4), ha, hw, hθ, f, hf, hW3⟩
    · have hr' : r < nr := by omega
      dsimp only
      rw [if_neg e]
      obtain ⟨p1, p2, p3, p4, p5, p6, p7, p8, p9, g', p10, p11⟩ := h8 r hr'
      refine ⟨p1, p2, by omega, (pk_un (f := m.1 2) e).trans p4, (pk_un (f := m.1 3) e).trans p5, (pk_un (f := m.1 4) e).trans p6, p7, p8, p9, g', p10, fun k hk => ?_⟩
      have := p11 k hk
      rw [← hW1 _ (by omega)] at this
      exact this
  · obtain ⟨p1, p2, p3, p4, p5, g', p6, p7⟩ := h9 i' hi'
    refine ⟨p1, p2, p3, p4, p5, g', p6, fun k hk => ?_⟩
    rcases p7 k hk with q | ⟨r, q1, q2, q3, q4⟩
    · exact Or.inl q
    · exact Or.inr ⟨r, by omega, by dsimp only; rw [vo q1]; exact q2, q3, by dsimp only; rw [vo q1]; exact q4⟩
/-- one bank more -/
theorem RR.addB (h : RR B b L xs t c m θ z l κ nr nu ns nb nv box row sht bnk voi) {kd n ba pa : Nat} {P : Nat → Int32} (hk : kd ≤ 6) (hn : n ≤ 8) (bt : nb + 1 ≤ t) (ha : adr B z κ ba 5 nb) (hp : adr B z κ pa 6 nb) (hθ : θ ba = some (.inr (.inl (0, [.int (nI kd), .ref pa])))) (hg : θ pa = some (.inl (.object RX5, n, .inr (.inr (.inr (.inr (fun _ => none))))))) (hP1 : ∀ k, k < 8 * nb → P k = m.1 9 k) (hP2 : ∀ k, k < n → P (8 * nb + k) = -1) : RR B b L xs t c ((fun q => if q = 9 then P else (mI (mI m 7 nb (nI kd)) 8 nb (nI n)).1 q), (mS (mI (mI m 7 nb (nI kd)) 8 nb (nI n)) 3 (nI (nb + 1))).2) θ z l κ nr nu ns (nb + 1) nv box row sht (fun i => if i = nb then (kd, n, ba, pa) else bnk i) voi := by
  obtain ⟨h1, h2, h3, h4, h5, h6, h7, h8, h9, h10, h11⟩ := h
  obtain ⟨n1, n2, n3, n4, n5, n6, n7, n8, n9, n10, n11⟩ := h2
  have vo : ∀ {r : Nat}, r < nb → (if r = nb then (kd, n, ba, pa) else bnk r) = bnk r := fun {r} q => if_neg (by omega)
  refine ⟨h1, ⟨n1, n2, n3, n4, by omega, n6, n7, n8, n9, rfl, n11⟩, h3, h4, h5, h6, fun j hj => ?_, h8, h9, fun i' hi' => ?_, h11⟩
  · obtain ⟨x1, x2, x3⟩ := h7 j hj
    refine ⟨x1, x2, ?_⟩
    rcases x3 with q | q | q | ⟨q1, q2, q3⟩ | q
    · exact Or.inl q
    · exact Or.inr (Or.inl q)
    · exact Or.inr (Or.inr (Or.inl q))
    · exact Or.inr (Or.inr (Or.inr (Or.inl ⟨q1, by omega, by dsimp only; rw [vo q2]; exact q3⟩)))
    · exact Or.inr (Or.inr (Or.inr (Or.inr q)))
  · by_cases e : i' = nb
    · subst e
      dsimp only
      rw [if_pos rfl]
      exact ⟨hk, hn, pk_us (f := m.1 7), pk_us (f := m.1 8), ha, hp, hθ, fun _ => none, hg, fun k hk => Or.inl ⟨hP2 k hk, rfl⟩⟩
    · have hr' : i' < nb := by omega
      dsimp only
      rw [if_neg e]
      obtain ⟨p1, p2, p3, p4, p5, p6, p7, g', p8, p9⟩ := h10 i' hr'
      refine ⟨p1, p2, (pk_un (f := m.1 7) e).trans p3, (pk_un (f := m.1 8) e).trans p4, p5, p6, p7, g', p8, fun k hk => ?_⟩
      have := p9 k hk
      rw [← hP1 _ (by omega)] at this
      exact this
end NEW
