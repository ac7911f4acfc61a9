-- natives, the library's Math, Object's maker
section EVN
variable {p : Program} {l : Launch} {e : Env} {R : Room} {s : State} {m : MethodId} {args : Array Value} {below : List Frame} {meth : Method} {c : Code} {D : va_G} {B n0 n1 k : Nat} {r : ev_ME} {Q : State → Prop} {σ : ev_H} {pc : Nat} {L : ev_L} {st : List Value} {c' : ev_C}
theorem ev_rok1_inv {n : Nat} (X : ev_Cx D B k r p R s m args meth c) (h : ev_rok1 k n = true) : 1 ≤ R.frames ∧ 8 + n ≤ R.locals := by
  unfold ev_rok1 at h
  rw [X.1] at h
  simp only [Bool.and_eq_true, decide_eq_true_eq] at h
  exact ⟨Nat.le_trans h.1 X.2.2.2.2.2.2.1, Nat.le_trans h.2 X.2.2.2.2.2.2.2.1⟩
theorem ev_nlk {own x : Nat} {q : Nat × Nat} {y : MethodName} (h : ev_t2 ev_tT own x = some q) (hy : ev_nat q.1 = some y) : Cond.methodLink (ev_own own) x y ∈ ev_G := by
  have h1 := List.all_eq_true.mp ev_okT _ (ev_t2_mem h)
  unfold ev_ckT at h1
  dsimp only at h1
  rw [hy] at h1
  exact ev_in h1
/-- System.arraycopy over rows of longs -/
theorem ev_copy {H : Heap} {locs : List Loc} {cells slots : Nat} {ls : Array Slot} {x : Nat} {rest : List Value} (hexec : p.tables.exec = Jvm.exec) {cc : ByteArray} (hb : c.code = cc) (hml : c.maxLocals = ls.size) {own : String} (hown : s.vm.findClass own = some m.cls) (hlink : (Cond.methodLink own x arraycopyName).before args s = true) (hnat : (Cond.native arraycopyName).before args s = true) (hstat : (Cond.static arraycopyName).before args s = true) (hini : (Cond.initialized "java/lang/System").before args s = true)
    {a b : Nat} {c0 c1 : ClassId} {m0 m1 : Nat} {f g : Nat → Int64} (hc0 : H[a]? = some (vp_cell c0 (m0, .inr (.inl f)))) (hc1 : H[b]? = some (vp_cell c1 (m1, .inr (.inl g)))) (ht0 : ArrOfT s c0 .long) (ht1 : ArrOfT s c1 .long)
    {sp dp n : Int32} (h1 : ¬ sp < 0) (h2 : ¬ dp < 0) (h3 : ¬ n < 0) (h4 : sp.toNatClampNeg + n.toNatClampNeg ≤ m0) (h5 : dp.toNatClampNeg + n.toNatClampNeg ≤ m1)
    (hframes : 1 ≤ R.frames) (hlocals : (rest.map fun v => v.category).sum + (nativeFrameWords "java/lang/System" "arraycopy" 5 + 11) ≤ R.locals) (hdg : decode cc pc = .ok (.invokestatic x, 3))
    (kk : ∀ (H1 : Heap) (L1 : List Loc), (∀ q ∈ L1, q.base = b) → H1[b]? = some (vp_cell c1 (m1, .inr (.inl (va_cpy f g sp.toNatClampNeg dp.toNatClampNeg n.toNatClampNeg)))) → H1.size = H.size → (∀ q, q ≠ b → H1[q]? = H[q]?) → W p l e R s m args below meth c H1 (locs ++ L1) cells slots Q (F0 m (pc + 3) ls rest)) : W p l e R s m args below meth c H locs cells slots Q (F0 m pc ls (.int n :: .int dp :: .ref b :: .int sp :: .ref a :: rest)) := by
  have nn : ∀ z : Int32, ¬ z < 0 → z.toInt = (z.toNatClampNeg : Int) := by
    intro z hz
    have hz0 : (0 : Int) ≤ z.toInt := by
      have := Int32.not_lt.mp hz
      simpa using Int32.le_iff_toInt_le.mp this
    show z.toInt = ((z.toInt.toNat : Nat) : Int)
    omega
  intro T hT X
  obtain ⟨-, k0, hk0, cm0, hkk0⟩ := ht0 m0 (fun j => .long (f j))
  obtain ⟨-, k1, hk1, cm1, hkk1⟩ := ht1 m1 (fun j => .long (g j))
  obtain ⟨vm', X', step⟩ := X.arraycopy hexec hown hlink hnat hstat hini (src := a) (dst := b) (cs := vp_cell c0 (m0, .inr (.inl f))) (cd := vp_cell c1 (m1, .inr (.inl g))) (srcPos := sp) (destPos := dp) (n := n) (by rw [hT]; exact hc0) (by rw [hT]; exact hc1)
    (fun _ h => by cases h) (fun _ h => by cases h) (fun h => by cases h) (fun h => by cases h) hk0 hk1 hkk0 hkk1 (by simp [refKind]) h1 h2 h3
    (by rw [nn sp h1, nn n h3]; show ¬ _ > ((arrV c0 m0 (fun j => .long (f j))).slots.size : Int); rw [arrV_size]; omega)
    (by rw [nn dp h2, nn n h3]; show ¬ _ > ((arrV c1 m1 (fun j => .long (g j))).slots.size : Int); rw [arrV_size]; omega)
    (fun vm₁ _ i hi => by
      have e : (vp_cell c0 (m0, .inr (.inl f))).slots.getD (sp.toNatClampNeg + i) .null = .long (f (sp.toNatClampNeg + i)) := by
        show (arrV c0 m0 (fun j => .long (f j))).slots.getD _ _ = _
        rw [Array.getD_eq_getD_getElem?, arrV_read _ _ (by omega)]
        rfl
      rw [e]
      exact ⟨rfl, trivial⟩)
    (g := F0 m pc ls (.int n :: .int dp :: .ref b :: .int sp :: .ref a :: rest)) rfl (by rw [hml]) (rest := rest) rfl (by rw [hb]; exact hdg) hframes (by show 2 * 0 + _ + _ ≤ _; omega)
  have e1 : copied (vp_cell c0 (m0, .inr (.inl f))) (vp_cell c1 (m1, .inr (.inl g))) sp dp n = vp_cell c1 (m1, .inr (.inl (va_cpy f g sp.toNatClampNeg dp.toNatClampNeg n.toNatClampNeg))) := va_copied (fun z => .long z) c0 c1 f g h4
  rw [e1] at X' step
  have hl : b < H.size := (Array.getElem?_eq_some_iff.mp hc1).1
  have hheap : ((T.setVm vm').setCell b (vp_cell c1 (m1, .inr (.inl (va_cpy f g sp.toNatClampNeg dp.toNatClampNeg n.toNatClampNeg))))).heap = H.setIfInBounds b (vp_cell c1 (m1, .inr (.inl (va_cpy f g sp.toNatClampNeg dp.toNatClampNeg n.toNatClampNeg)))) := by rw [← hT]; rfl
  obtain ⟨t, a1, b1⟩ := kk _ _ (fun q hq => by obtain ⟨z, -, hz⟩ := List.mem_map.mp hq; rw [← hz]) (by simp [Array.getElem?_setIfInBounds, hl]) (by simp) (fun q hq => by simp [Array.getElem?_setIfInBounds, Ne.symm hq]) _ hheap X'
  exact ⟨t, step t a1, b1⟩
theorem ev_cpy_inv {a b : Nat} {sp dp n : Int32} {σ' : ev_H} (h : ev_cpy σ a sp b dp n = some σ') : ∃ m0 m1 f g, σ.2.2 a = some (.inl (.long, m0, .inr (.inl f))) ∧ σ.2.2 b = some (.inl (.long, m1, .inr (.inl g))) ∧ (¬ sp < 0 ∧ ¬ dp < 0 ∧ ¬ n < 0 ∧ sp.toNatClampNeg + n.toNatClampNeg ≤ m0 ∧ dp.toNatClampNeg + n.toNatClampNeg ≤ m1) ∧ σ' = ev_up σ b (.inl (.long, m1, .inr (.inl (va_cpy f g sp.toNatClampNeg dp.toNatClampNeg n.toNatClampNeg)))) := by
  unfold ev_cpy at h
  split at h
  · next m0 f m1 g h0 h1 =>
    split at h
    · next hp => cases h; exact ⟨m0, m1, f, g, h0, h1, hp, rfl⟩
    · cases h
  · cases h
theorem ev_wm (x : Nat) (p0 : Nat) {w : Cond} (h : ev_at p0 w = true) (X : ev_Cx D B k r p R s m args meth c) : w.before args s = true := X.2.2.2.2.1 _ (ev_in h)
theorem ev_ins_inv {o : Nat} {i : Instr} (hr : ev_my k = some r) (h : ev_ins k pc = some (o, i)) (h2 : ev_il i = 2) : decode r.2.2.1 pc = .ok (i, 2) := by
  unfold ev_ins at h
  rw [hr] at h
  dsimp only at h
  split at h
  · next i' n hd =>
    split at h
    · next hl =>
      cases h
      rw [hd]
      rcases hl with hl | hl
      · rw [h2] at hl; cases hl
      · rw [hl, h2]
    · cases h
  · cases h
theorem ev_s_nat {x : Nat} {q : Nat × Nat} (X : ev_Cx D B k r p R s m args meth c) (hd : decode r.2.2.1 pc = .ok (.invokestatic x, 3)) (hq : ev_t2 ev_tT r.1 x = some q) (h : ev_natv k q.1 σ pc L st = some (.inl c')) (hc : σ.1 - n0 ≤ R.cells) (hs : σ.2.1 - n1 ≤ R.slots) (kk0 : ∀ d : Drawn, s.drawn.sameBut d lw_cs → ev_W p l e R (s.setDrawn d) m args below meth c D B n0 n1 Q c') : ev_W p l e R s m args below meth c D B n0 n1 Q (σ, pc, L, st) := by
  have kk : ev_W p l e R s m args below meth c D B n0 n1 Q c' := kk0 s.drawn (Drawn.sameBut.refl _ _)
  obtain ⟨n, n'⟩ := q
  dsimp only at h
  unfold ev_natv at h
  split at h
  · split at h
    · next b rs =>
      split at h
      · next hp =>
        cases h
        intro H locs ls hR hS hV hz
        obtain ⟨r1, r2⟩ := ev_rok1_inv X hp.1
        exact vn_i2f X.2.1 X.2.2.1 hz X.2.2.2.1 (X.2.2.2.2.1 _ (ev_nlk hq rfl)) (ev_wm 0 820 (by decide +kernel) X) (ev_wm 0 819 (by decide +kernel) X) (ev_wm 0 51 (by decide +kernel) X) hp.2.2 r1 (by rw [ev_sw_eq]; omega) hd (kk H locs ls hR hS hV hz)
      · unfold ev_dr1 at h
        split at h
        · next hp =>
          split at h
          · next o i hi =>
            split at h
            · next hlt =>
              cases h
              intro H locs ls hR hS hV hz
              obtain ⟨r1, r2⟩ := ev_rok1_inv X hp.1
              refine ev_i2f X.2.1 X.2.2.1 hz X.2.2.2.1 (X.2.2.2.2.1 _ (ev_nlk hq rfl)) (ev_wm 0 820 (by decide +kernel) X) (ev_wm 0 819 (by decide +kernel) X) (ev_wm 0 51 (by decide +kernel) X) r1 (by rw [ev_sw_eq]; omega) hd fun z d hd' => ?_
              have hi1 := ev_ins_inv X.1 hi rfl
              have hst : ev_op k r.1 (.fstore i) σ (pc + 3) L (.float z :: rs) = some (.inl (σ, pc + 3 + 2, ev_s1 L i (.float z), rs)) := by
                show ev_so1 _ i 2 σ (pc + 3) L (.float z :: rs) = _
                exact if_pos ⟨rfl, hlt⟩
              refine ev_s_fstore (n0 := n0) (n1 := n1) (k := k) (r := r) (σ := σ) (L := L) (c' := (σ, pc + 3 + 2, ev_s1 L i (.float z), rs)) (X.drew d) hi1 hst (fun H locs ls a1 a2 a3 a4 => kk0 d hd' H locs ls a1 a2 a3.fg1 a4) H locs ls hR hS hV hz
            · cases h
          · cases h
        · cases h
    · cases h
  · split at h
    · next b rs =>
      split at h
      · next hp =>
        cases h
        intro H locs ls hR hS hV hz
        obtain ⟨r1, r2⟩ := ev_rok1_inv X hp.1
        exact vn_f2i X.2.1 X.2.2.1 hz X.2.2.2.1 (X.2.2.2.2.1 _ (ev_nlk hq rfl)) (ev_wm 0 834 (by decide +kernel) X) (ev_wm 0 833 (by decide +kernel) X) (ev_wm 0 51 (by decide +kernel) X) r1 (by rw [ev_sw_eq]; omega) hd (kk H locs ls hR hS hV hz)
      · cases h
    · cases h
  · split at h
    · next b rs =>
      split at h
      · next hp =>
        cases h
        intro H locs ls hR hS hV hz
        obtain ⟨r1, r2⟩ := ev_rok1_inv X hp.1
        exact vn_l2d X.2.1 X.2.2.1 hz X.2.2.2.1 (X.2.2.2.2.1 _ (ev_nlk hq rfl)) (ev_wm 0 844 (by decide +kernel) X) (ev_wm 0 843 (by decide +kernel) X) (ev_wm 0 52 (by decide +kernel) X) hp.2.2 r1 (by rw [ev_sw_eq]; omega) hd (kk H locs ls hR hS hV hz)
      · unfold ev_dr2 at h
        split at h
        · next hp =>
          split at h
          · next o i hi =>
            split at h
            · next hlt =>
              cases h
              intro H locs ls hR hS hV hz
              obtain ⟨r1, r2⟩ := ev_rok1_inv X hp.1
              refine ev_l2d X.2.1 X.2.2.1 hz X.2.2.2.1 (X.2.2.2.2.1 _ (ev_nlk hq rfl)) (ev_wm 0 844 (by decide +kernel) X) (ev_wm 0 843 (by decide +kernel) X) (ev_wm 0 52 (by decide +kernel) X) r1 (by rw [ev_sw_eq]; omega) hd fun z d hd' => ?_
              have hi1 := ev_ins_inv X.1 hi rfl
              have hst : ev_op k r.1 (.dstore i) σ (pc + 3) L (.double z :: rs) = some (.inl (σ, pc + 3 + 2, ev_s2 L i (.double z), rs)) := by
                show ev_so2 _ i 2 σ (pc + 3) L (.double z :: rs) = _
                exact if_pos ⟨rfl, hlt⟩
              refine ev_s_dstore (n0 := n0) (n1 := n1) (k := k) (r := r) (σ := σ) (L := L) (c' := (σ, pc + 3 + 2, ev_s2 L i (.double z), rs)) (X.drew d) hi1 hst (fun H locs ls a1 a2 a3 a4 => kk0 d hd' H locs ls a1 a2 a3.fg2 a4) H locs ls hR hS hV hz
            · cases h
          · cases h
        · cases h
    · cases h
  · split at h
    · next b rs =>
      split at h
      · next hp =>
        cases h
        intro H locs ls hR hS hV hz
        obtain ⟨r1, r2⟩ := ev_rok1_inv X hp.1
        exact vn_d2l X.2.1 X.2.2.1 hz X.2.2.2.1 (X.2.2.2.2.1 _ (ev_nlk hq rfl)) (ev_wm 0 853 (by decide +kernel) X) (ev_wm 0 852 (by decide +kernel) X) (ev_wm 0 52 (by decide +kernel) X) r1 (by rw [ev_sw_eq]; omega) hd (kk H locs ls hR hS hV hz)
      · cases h
    · cases h
  · split at h
    · next nn dp b sp a rs =>
      split at h
      · next hp =>
        split at h
        · next σ' hv =>
          cases h
          intro H locs ls hR hS hV hz
          obtain ⟨r1, r2⟩ := ev_rok1_inv X hp.1
          obtain ⟨m0, m1, f, g, f0, f1, ⟨h1, h2, h3, h4, h5⟩, rfl⟩ := ev_cpy_inv hv
          obtain ⟨c0, u1, u2, u3⟩ := (hR.2.2 _ _ f0).1
          obtain ⟨c1, v1, v2, v3⟩ := (hR.2.2 _ _ f1).1
          have hB := hR.base f1 ev_ninl
          refine ev_copy X.2.1 X.2.2.1 hz X.2.2.2.1 (X.2.2.2.2.1 _ (ev_nlk hq rfl)) (ev_wm 0 345 (by decide +kernel) X) (ev_wm 0 344 (by decide +kernel) X) (ev_wm 0 49 (by decide +kernel) X) u1 v1 u2 v2 h1 h2 h3 h4 h5 r1 (by rw [ev_sw_eq]; show ev_sw rs + 18 ≤ _; omega) hd fun H1 L1 hL1 e z oq => ?_
          refine kk H1 _ ls (hR.up f1 ev_ninl z oq ⟨c1, e, v2, v3⟩) ⟨by rw [z]; exact hS.1, fun q g1 g2 => ?_, fun q hq => ?_⟩ hV hz
          · rw [oq q (fun e => g2 (by rw [e]; exact hB))]
            exact hS.2.1 q g1 g2
          · rcases List.mem_append.mp hq with h | h
            · exact hS.2.2 q h
            · show B ≤ q.base
              rw [hL1 q h]; exact hB
        · cases h
      · cases h
    · cases h
  · split at h
    · next y x' rs =>
      split at h
      · next hp =>
        cases h
        intro H locs ls hR hS hV hz
        obtain ⟨r1, r2⟩ := ev_rok1_inv X hp.1
        exact va_mmax X.2.1 X.2.2.1 hz X.2.2.2.1 (X.2.2.2.2.1 _ (ev_nlk hq rfl)) (ev_wm 0 393 (by decide +kernel) X) (ev_wm 0 50 (by decide +kernel) X) (ev_wm 0 394 (by decide +kernel) X) r1 (by rw [ev_sw_eq]; omega) hc hs hd (kk H locs ls hR hS hV hz)
      · cases h
    · cases h
  · split at h
    · next y x' rs =>
      split at h
      · next hp =>
        cases h
        intro H locs ls hR hS hV hz
        obtain ⟨r1, r2⟩ := ev_rok1_inv X hp.1
        exact va_mmin X.2.1 X.2.2.1 hz X.2.2.2.1 (X.2.2.2.2.1 _ (ev_nlk hq rfl)) (ev_wm 0 351 (by decide +kernel) X) (ev_wm 0 50 (by decide +kernel) X) (ev_wm 0 352 (by decide +kernel) X) r1 (by rw [ev_sw_eq]; omega) hc hs hd (kk H locs ls hR hS hV hz)
      · cases h
    · cases h
  · split at h
    · next y x' rs =>
      split at h
      · next hp =>
        cases h
        intro H locs ls hR hS hV hz
        obtain ⟨r1, r2⟩ := ev_rok1_inv X hp.1
        exact va_mmax_long X.2.1 X.2.2.1 hz X.2.2.2.1 (X.2.2.2.2.1 _ (ev_nlk hq rfl)) (ev_wm 0 420 (by decide +kernel) X) (ev_wm 0 50 (by decide +kernel) X) (ev_wm 0 421 (by decide +kernel) X) r1 (by rw [ev_sw_eq]; omega) hc hs hd (kk H locs ls hR hS hV hz)
      · cases h
    · cases h
  · split at h
    · next y x' rs =>
      split at h
      · next hp =>
        cases h
        intro H locs ls hR hS hV hz
        obtain ⟨r1, r2⟩ := ev_rok1_inv X hp.1
        exact va_mmin_long X.2.1 X.2.2.1 hz X.2.2.2.1 (X.2.2.2.2.1 _ (ev_nlk hq rfl)) (ev_wm 0 417 (by decide +kernel) X) (ev_wm 0 50 (by decide +kernel) X) (ev_wm 0 418 (by decide +kernel) X) r1 (by rw [ev_sw_eq]; omega) hc hs hd (kk H locs ls hR hS hV hz)
      · cases h
    · cases h
  · split at h
    · next x' rs =>
      split at h
      · next hp =>
        cases h
        intro H locs ls hR hS hV hz
        obtain ⟨r1, r2⟩ := ev_rok1_inv X hp.1
        exact va_mabs_long X.2.1 X.2.2.1 hz X.2.2.2.1 (X.2.2.2.2.1 _ (ev_nlk hq rfl)) (ev_wm 0 434 (by decide +kernel) X) (ev_wm 0 50 (by decide +kernel) X) (ev_wm 0 435 (by decide +kernel) X) r1 (by rw [ev_sw_eq]; omega) hc hs hd (kk H locs ls hR hS hV hz)
      · cases h
    · cases h
  · cases h
theorem ev_s_obj {x : Nat} {q : Nat} {a : Nat} {rs : List Value} (X : ev_Cx D B k r p R s m args meth c) (hd : decode r.2.2.1 pc = .ok (.invokespecial x, 3)) (hq : ev_t2 ev_tO r.1 x = some q) (hp : ev_rok1 k 12 = true ∧ ev_sw rs ≤ 8) (kk : ev_W p l e R s m args below meth c D B n0 n1 Q (σ, pc + 3, L, rs)) : ev_W p l e R s m args below meth c D B n0 n1 Q (σ, pc, L, .ref a :: rs) := by
  intro H locs ls hR hS hV hz
  obtain ⟨r1, r2⟩ := ev_rok1_inv X hp.1
  have hw := ev_in (List.all_eq_true.mp ev_okO _ (ev_t2_mem hq))
  exact W.objInit X.2.1 X.2.2.1 X.2.2.2.1 (X.2.2.2.2.1 _ hw) (ev_wm 0 59 (by decide +kernel) X) (ev_wm 0 60 (by decide +kernel) X) rfl hz.symm rfl hd r1 (by rw [ev_sw_eq]; show 2 * 0 + ev_sw rs + 12 ≤ _; omega) (kk H locs ls hR hS hV hz)
end EVN
