-- a call of the evaluator is a call of the machine; a whole run
def ev_Pc (D : va_G) (B : Nat) (σ : ev_H) (U : State) : Prop := ev_R D B U σ U.heap ∧ ev_K D U ∧ B ≤ U.heap.size
def ev_Qc (D : va_G) (B : Nat) (v : Option Value) (σ' : ev_H) : Array Value → State → Outcome → State → Prop := fun _ st oc t => oc = .returned v ∧ ev_Pc D B σ' t ∧ va_F (fun q : Nat => B ≤ q) st t
def ev_rm (r : ev_ME) (σ σ' : ev_H) : Room := { frames := r.2.2.2.2.2.2.1, cells := σ'.1 - σ.1, slots := σ'.2.1 - σ.2.1, locals := r.2.2.2.2.2.2.2.1 }
def ev_Met (l : Launch) (D : va_G) (B : Nat) (r : ev_ME) (as : List Value) (σ : ev_H) (v : Option Value) (σ' : ev_H) : Prop :=
  MetD lw_cs l r.2.1 (ev_cw r :: ev_G) (ev_rm r σ σ') (va_Pc as (ev_Pc D B σ)) (ev_Qc D B v σ') (σ'.1 - σ.1) (σ'.2.1 - σ.2.1) (fun q : Nat => B ≤ q)
theorem ev_Pc.fb {D : va_G} {B : Nat} {σ : ev_H} {as : List Value} : FrameBlind (va_Pc as (ev_Pc D B σ)) := fun a U g mk h => ⟨h.1, ev_R.moved (s := U) (U := U.calling g mk a) (Vm.Alike.refl U.vm) h.2.1, ev_K.same (s := U) (U := U.calling g mk a) rfl h.2.2.1, h.2.2.2⟩
theorem ev_good {k : Nat} {r : ev_ME} (h : ev_my k = some r) (hk : k < 174) : GoodIn ev_G (ev_cw r :: ev_G) := by
  intro w hw
  rcases List.mem_cons.mp hw with rfl | hw
  · exact ⟨ev_cwG h hk, ev_Ggood (ev_cwG h hk)⟩
  · exact ⟨hw, ev_Ggood hw⟩
theorem ev_good2 {k : Nat} {r : ev_ME} {ws : List Cond} (h : ev_my k = some r) (hk : k < 174) (hw : ∀ w ∈ ws, w ∈ ev_G) : GoodIn ev_G (ws ++ (ev_cw r :: ev_G)) := by
  intro w hx
  rcases List.mem_append.mp hx with hx | hx
  · exact ⟨hw w hx, ev_Ggood (hw w hx)⟩
  · exact ev_good h hk w hx
theorem ev_ckM_inv {k : Nat} {r : ev_ME} (h : ev_my k = some r) (hk : k < 174) : r.2.1.cls = ev_own r.1 ∧ plainFor r.2.1 = true ∧ r.2.1.cls ≠ "java/lang/invoke/MethodHandle" ∧ r.2.1.cls ≠ "java/lang/invoke/VarHandle" := by
  have hm : r ∈ ev_M.take 174 := List.mem_of_getElem? (i := k) (by rw [List.getElem?_take, if_pos hk]; exact h)
  have h1 := List.all_eq_true.mp ev_okM r hm
  unfold ev_ckM at h1
  simp only [Bool.and_eq_true, decide_eq_true_eq] at h1
  exact ⟨h1.1.1.1, h1.1.1.2, h1.1.2, h1.2⟩
section EVC
variable {p : Program} {l : Launch} {e : Env} {R : Room} {s : State} {m : MethodId} {args : Array Value} {below : List Frame} {meth : Method} {c : Code} {D : va_G} {B n0 n1 k : Nat} {r : ev_ME} {Q : State → Prop} {σ σ' : ev_H} {pc : Nat} {L : ev_L} {st : List Value} {v : Option Value}
theorem ev_goes {H : Heap} {locs : List Loc} {cells slots mc ms : Nat} {ls : Array Slot} {rest : List Value} {a : Array Value} (hr : va_RunD lw_cs p l e R s m args below meth c H locs cells slots mc ms (F0 m pc ls st) rest (ev_Qc D B v σ' a) (fun q : Nat => B ≤ q)) (hS : va_S (fun q : Nat => B ≤ q) s.heap H locs)
    (kk : ∀ (H1 : Heap) (locs1 : List Loc) (d : Drawn), s.drawn.sameBut d lw_cs → ev_R D B (s.setDrawn d) σ' H1 → va_S (fun q : Nat => B ≤ q) s.heap H1 locs1 → W p l e R (s.setDrawn d) m args below meth c H1 locs1 (cells + mc) (slots + ms) Q (F0 m (pc + 3) ls (v.toList ++ rest))) : W p l e R s m args below meth c H locs cells slots Q (F0 m pc ls st) := by
  intro T hT X
  obtain ⟨v', st₀, t, T', L, d', hd', h0, X', hL, e1, e2, ⟨hv, ⟨hb1, hb2, hb3⟩, hz, hk⟩, st⟩ := hr T hT X
  cases hv
  rw [h0] at hz hk
  have hal : (s.setDrawn d').vm.Alike t.vm := by rw [← e2]; exact X'.warmed.alike
  obtain ⟨t2, a1, b1⟩ := kk T'.heap (locs ++ L) d' hd' (by rw [e1]; exact hb1.moved hal.symm) ⟨Nat.le_trans hS.1 (by rw [e1]; exact hz), fun q h1 h2 => by rw [e1, hk q (Nat.lt_of_lt_of_le h1 hS.1) h2]; exact hS.2.1 q h1 h2, fun q hq => by
      rcases List.mem_append.mp hq with h | h
      · exact hS.2.2 q h
      · exact hL q h⟩ T' rfl X'
  exact ⟨t2, st t2 a1, b1⟩
theorem ev_rok_inv {k' : Nat} {q : ev_ME} (X : ev_Cx D B k r p R s m args meth c) (hq : ev_my k' = some q) (h : ev_rok k k' = true) : k' < 174 ∧ q.2.2.2.2.2.2.1 + 1 ≤ R.frames ∧ 8 + (q.2.2.2.1 + 11) + q.2.2.2.2.2.2.2.1 ≤ R.locals := by
  unfold ev_rok at h
  rw [X.1, hq] at h
  simp only [Bool.and_eq_true, decide_eq_true_eq] at h
  exact ⟨h.1, Nat.le_trans h.2.1 X.2.2.2.2.2.2.1, Nat.le_trans h.2.2 X.2.2.2.2.2.2.2.1⟩
theorem ev_call_inv {k' : Nat} {as : List Value} {q : Nat × List Value × Nat × ev_L × List Value} (h : ev_call k k' as pc L st = some (.inr (.inl q))) : ∃ r', ev_my k' = some r' ∧ ev_rok k k' = true ∧ as.length = r'.2.2.2.2.2.1 ∧ (ev_sl as).length ≤ r'.2.2.2.1 ∧ ev_sw st ≤ 8 ∧ q = (k', as, pc + 3, L, st) := by
  unfold ev_call at h
  split at h
  · next r' hr =>
    split at h
    · next hp => cases h; exact ⟨r', hr, hp.1, hp.2.1, hp.2.2.1, hp.2.2.2, rfl⟩
    · cases h
  · cases h
theorem ev_arith {a b d : Nat} (h1 : a ≤ b) (h2 : b ≤ d) : b - a + (d - b) = d - a := by omega
/-- what each kind of call owes behind its own words -/
theorem ev_after {k' : Nat} {as rest : List Value} {r' : ev_ME} {H : Heap} {locs : List Loc} {ls : Array Slot} {a : Array Value} (hq : ev_q R n0 n1 σ σ') (hg : ev_gr σ σ')
    (hr : va_RunD lw_cs p l e R s m args below meth c H locs (σ.1 - n0) (σ.2.1 - n1) (σ'.1 - σ.1) (σ'.2.1 - σ.2.1) (F0 m pc ls st) rest (ev_Qc D B v σ' a) (fun q : Nat => B ≤ q)) (hS : va_S (fun q : Nat => B ≤ q) s.heap H locs) (hV : ev_V ls L) (hz : c.maxLocals = ls.size)
    (kk : ∀ d : Drawn, s.drawn.sameBut d lw_cs → ev_W p l e R (s.setDrawn d) m args below meth c D B n0 n1 Q (σ', pc + 3, L, v.toList ++ rest)) : W p l e R s m args below meth c H locs (σ.1 - n0) (σ.2.1 - n1) Q (F0 m pc ls st) :=
  ev_goes hr hS fun H1 locs1 d hd h1 h2 => W.cs (ev_arith hq.1 hg.1) (ev_arith hq.2.1 hg.2) (kk d hd H1 locs1 ls h1 h2 hV hz)
theorem ev_room {X : ev_Cx D B k r p R s m args meth c} (hq : ev_q R n0 n1 σ σ') (hg : ev_gr σ σ') : σ.1 - n0 + (σ'.1 - σ.1) ≤ R.cells ∧ σ.2.1 - n1 + (σ'.2.1 - σ.2.1) ≤ R.slots := by
  rw [ev_arith hq.1 hg.1, ev_arith hq.2.1 hg.2]
  exact ⟨hq.2.2.1, hq.2.2.2⟩
theorem ev_start {as : List Value} {H : Heap} (hK : ev_K D s) (hB : B ≤ s.heap.size) (hR : ev_R D B s σ H) (hS : s.heap.size ≤ H.size) : ∀ U : State, U.heap = H → s.WarmedH U.vm → va_Pc as (ev_Pc D B σ) as.toArray U := fun U hU hW => ⟨rfl, by rw [hU]; exact hR.moved hW.alike, hK.warm hW, by rw [hU]; exact Nat.le_trans hB hS⟩
theorem ev_c_static {x : Nat} {q : Nat × List Value × Nat × ev_L × List Value} (X : ev_Cx D B k r p R s m args meth c) (hd : decode r.2.2.1 pc = .ok (.invokestatic x, 3)) (h : ev_stc k r.1 x σ pc L st = some (.inr (.inl q))) (hM : ∀ r', ev_my q.1 = some r' → q.1 < 174 → (ev_sl q.2.1).length ≤ r'.2.2.2.1 → ev_Met l D B r' q.2.1 σ v σ') (hq : ev_q R n0 n1 σ σ') (hg : ev_gr σ σ') (kk : ∀ d : Drawn, s.drawn.sameBut d lw_cs → ev_W p l e R (s.setDrawn d) m args below meth c D B n0 n1 Q (σ', q.2.2.1, q.2.2.2.1, v.toList ++ q.2.2.2.2)) : ev_W p l e R s m args below meth c D B n0 n1 Q (σ, pc, L, st) := by
  unfold ev_stc at h
  split at h
  · next y hy =>
    split at h
    · next r0 hr0 =>
      obtain ⟨r', h1, h2, h3, h4, h5, rfl⟩ := ev_call_inv h
      cases hr0.symm.trans h1
      obtain ⟨k1, k2, k3⟩ := ev_rok_inv X h1 h2
      dsimp only at hM kk
      have hM2 : MetD lw_cs l r0.2.1 (ev_cw r0 :: ev_G) (ev_rm r0 σ σ') (va_Pc (st.take r0.2.2.2.2.2.1).reverse (ev_Pc D B σ)) (ev_Qc D B v σ') (σ'.1 - σ.1) (σ'.2.1 - σ.2.1) (fun q : Nat => B ≤ q) := hM r0 h1 k1 h4
      have h6 := List.all_eq_true.mp ev_okS _ (ev_t2_mem hy)
      unfold ev_ckS at h6
      dsimp only at h6
      rw [h1] at h6
      simp only [Bool.and_eq_true, decide_eq_true_eq] at h6
      obtain ⟨⟨⟨w1, w2⟩, w3⟩, w4⟩ := h6
      obtain ⟨c1, c2, c3, c4⟩ := ev_ckM_inv h1 k1
      intro H locs ls hR hS hV hz
      refine ev_after (k' := 0) (as := []) (r' := r0) hq hg (va_runS_D (Ts := ev_G) (nL := ls.size) (As := (st.take r0.2.2.2.2.2.1).reverse) (rest := st.drop r0.2.2.2.2.2.1) ⟨X.2.1, X.2.2.1, hz, X.2.2.2.1, X.2.2.2.2.1⟩ hM2 (va_cwS (rm := ev_rm r0 σ σ') r0.2.2.2.2.2.1 X.2.2.2.2.1 (ev_good2 h1 k1 (fun w hw => ?_)) rfl rfl rfl ⟨c3, c4, w4⟩ ⟨k2, k3⟩) ⟨ev_Pc.fb, ev_start X.2.2.2.2.2.1 X.2.2.2.2.2.2.2.2.2 hR hS.1⟩ rfl h3 rfl ?_ (by rw [ev_sw_eq]; show 2 * 0 + _ ≤ _; omega) hd (ev_room (X := X) hq hg)) hS hV hz kk
      · simp only [List.mem_cons, List.not_mem_nil, or_false] at hw
        rcases hw with rfl | rfl | rfl
        · exact ev_in w1
        · exact ev_in w2
        · exact ev_in w3
      · show st = _
        rw [List.reverse_reverse, List.take_append_drop]
    · cases h
  · split at h
    · next y hy =>
      split at h
      · next r0 hr0 =>
        obtain ⟨r', h1, h2, h3, h4, h5, rfl⟩ := ev_call_inv h
        cases hr0.symm.trans h1
        obtain ⟨k1, k2, k3⟩ := ev_rok_inv X h1 h2
        dsimp only at hM kk
        have hM2 : MetD lw_cs l r0.2.1 (ev_cw r0 :: ev_G) (ev_rm r0 σ σ') (va_Pc (st.take r0.2.2.2.2.2.1).reverse (ev_Pc D B σ)) (ev_Qc D B v σ') (σ'.1 - σ.1) (σ'.2.1 - σ.2.1) (fun q : Nat => B ≤ q) := hM r0 h1 k1 h4
        have h6 := List.all_eq_true.mp ev_okSN _ (ev_t2_mem hy)
        unfold ev_ckSN at h6
        dsimp only at h6
        rw [h1] at h6
        simp only [Bool.and_eq_true, decide_eq_true_eq] at h6
        obtain ⟨⟨⟨w1, w2⟩, w3⟩, w4⟩ := h6
        obtain ⟨c1, c2, c3, c4⟩ := ev_ckM_inv h1 k1
        intro H locs ls hR hS hV hz
        refine ev_after (k' := 0) (as := []) (r' := r0) hq hg (va_runSN_D (Ts := ev_G) (nL := ls.size) (As := (st.take r0.2.2.2.2.2.1).reverse) (rest := st.drop r0.2.2.2.2.2.1) ⟨X.2.1, X.2.2.1, hz, X.2.2.2.1, X.2.2.2.2.1⟩ hM2 ⟨va_cnB (rm := ev_rm r0 σ σ') r0.2.2.2.2.2.1 X.2.2.2.2.1 (ev_good h1 k1) rfl rfl rfl (X.2.2.2.2.2.1.2.1 _ (List.mem_of_getElem? w1) rfl) (X.2.2.2.2.1 _ (ev_in w3)) ⟨c3, c4, w4⟩ ⟨k2, k3⟩, X.2.2.2.2.1 _ (ev_in w2), trivial⟩ ⟨ev_Pc.fb, ev_start X.2.2.2.2.2.1 X.2.2.2.2.2.2.2.2.2 hR hS.1⟩ rfl h3 rfl ?_ (by rw [ev_sw_eq]; show 2 * 0 + _ ≤ _; omega) hd (ev_room (X := X) hq hg)) hS hV hz kk
        show st = _
        rw [List.reverse_reverse, List.take_append_drop]
      · cases h
    · cases h
theorem ev_stack {n a : Nat} {as : List Value} (h : (st.take n).reverse = .ref a :: as) : st = as.reverse ++ .ref a :: st.drop n := by
  have e : st.take n = as.reverse ++ [.ref a] := by rw [← List.reverse_reverse (st.take n), h]; simp
  have := List.take_append_drop n st
  rw [e] at this
  refine this.symm.trans ?_
  simp
theorem ev_c_spec {x : Nat} {q : Nat × List Value × Nat × ev_L × List Value} (X : ev_Cx D B k r p R s m args meth c) (hd : decode r.2.2.1 pc = .ok (.invokespecial x, 3)) (h : ev_spec k r.1 x σ pc L st = some (.inr (.inl q))) (hM : ∀ r', ev_my q.1 = some r' → q.1 < 174 → (ev_sl q.2.1).length ≤ r'.2.2.2.1 → ev_Met l D B r' q.2.1 σ v σ') (hq : ev_q R n0 n1 σ σ') (hg : ev_gr σ σ') (kk : ∀ d : Drawn, s.drawn.sameBut d lw_cs → ev_W p l e R (s.setDrawn d) m args below meth c D B n0 n1 Q (σ', q.2.2.1, q.2.2.2.1, v.toList ++ q.2.2.2.2)) : ev_W p l e R s m args below meth c D B n0 n1 Q (σ, pc, L, st) := by
  unfold ev_spec at h
  split at h
  · split at h
    · split at h <;> cases h
    · cases h
  · split at h
    · next k' hk' =>
      split at h
      · next r0 hr0 =>
        split at h
        · next a as hst =>
          obtain ⟨r', h1, h2, h3, h4, h5, rfl⟩ := ev_call_inv h
          cases hr0.symm.trans h1
          obtain ⟨k1, k2, k3⟩ := ev_rok_inv X h1 h2
          dsimp only at hM kk
          have hM2 : MetD lw_cs l r0.2.1 (ev_cw r0 :: ev_G) (ev_rm r0 σ σ') (va_Pc (.ref a :: as) (ev_Pc D B σ)) (ev_Qc D B v σ') (σ'.1 - σ.1) (σ'.2.1 - σ.2.1) (fun q : Nat => B ≤ q) := hM r0 h1 k1 h4
          obtain ⟨c1, c2, c3, c4⟩ := ev_ckM_inv h1 k1
          have hlen : ∀ n, (ev_np r0.2.1).map (· + 1) = some r0.2.2.2.2.2.1 → as.length = n → (parseMethodDescriptor r0.2.1.desc).map (fun d => d.parameters.length) = some n := by
            intro n e1 e2
            obtain ⟨z, hz1, hz2⟩ := Option.map_eq_some_iff.mp e1
            rw [← h3] at hz2
            simp only [List.length_cons] at hz2
            rw [show n = z by omega]
            exact hz1
          split at hk'
          · next y hy =>
            cases hk'
            have h6 := List.all_eq_true.mp ev_okP _ (ev_t2_mem hy)
            unfold ev_ckP at h6
            dsimp only at h6
            rw [h1] at h6
            simp only [Bool.and_eq_true, decide_eq_true_eq] at h6
            obtain ⟨⟨⟨⟨⟨w1, w2⟩, w3⟩, w4⟩, w5⟩, w6⟩ := h6
            intro H locs ls hR hS hV hz
            refine ev_after (k' := 0) (as := []) (r' := r0) hq hg (va_runI_D (Ts := ev_G) (nL := ls.size) (b := a) (As := as) (rest := st.drop r0.2.2.2.2.2.1) ⟨X.2.1, X.2.2.1, hz, X.2.2.2.1, X.2.2.2.2.1⟩ hM2 (cwI (rm := ev_rm r0 σ σ') as.length X.2.2.2.2.1 (ev_good h1 k1) (by show ev_cw r0 :: ev_G = _; unfold ev_cw; rw [w5]) rfl rfl (X.2.2.2.2.1 _ (ev_in w3)) (X.2.2.2.2.1 _ (ev_in w1)) (X.2.2.2.2.1 _ (ev_in w2)) w4 ⟨c3, c4, hlen _ w6 rfl⟩ ⟨k2, k3⟩) ⟨ev_Pc.fb, ev_start X.2.2.2.2.2.1 X.2.2.2.2.2.2.2.2.2 hR hS.1⟩ rfl rfl rfl (ev_stack hst) (by rw [ev_sw_eq]; show 2 * 0 + _ ≤ _; omega) hd (ev_room (X := X) hq hg)) hS hV hz kk
          · obtain ⟨y, hy, rfl⟩ := Option.map_eq_some_iff.mp hk'
            have h6 := List.all_eq_true.mp ev_okPN _ (ev_t2_mem hy)
            unfold ev_ckPN at h6
            dsimp only at h6
            rw [h1] at h6
            simp only [Bool.and_eq_true, decide_eq_true_eq] at h6
            obtain ⟨⟨⟨⟨⟨w1, w2⟩, w3⟩, w4⟩, w5⟩, w6⟩ := h6
            intro H locs ls hR hS hV hz
            refine ev_after (k' := 0) (as := []) (r' := r0) hq hg (va_runIN_D (Ts := ev_G) (nL := ls.size) (b := a) (As := as) (rest := st.drop r0.2.2.2.2.2.1) ⟨X.2.1, X.2.2.1, hz, X.2.2.2.1, X.2.2.2.2.1⟩ hM2 ⟨va_cnB (rm := ev_rm r0 σ σ') as.length X.2.2.2.2.1 (ev_good h1 k1) (by show ev_cw r0 :: ev_G = _; unfold ev_cw; rw [w5]) rfl rfl (X.2.2.2.2.2.1.2.1 _ (List.mem_of_getElem? w1) rfl) (X.2.2.2.2.1 _ (ev_in w3)) ⟨c3, c4, hlen _ w6 rfl⟩ ⟨k2, k3⟩, w4, X.2.2.2.2.1 _ (ev_in w2)⟩ ⟨ev_Pc.fb, ev_start X.2.2.2.2.2.1 X.2.2.2.2.2.2.2.2.2 hR hS.1⟩ rfl rfl rfl (ev_stack hst) (by rw [ev_sw_eq]; show 2 * 0 + _ ≤ _; omega) hd (ev_room (X := X) hq hg)) hS hV hz kk
        · cases h
      · cases h
    · cases h
theorem ev_okV {q : (Nat × Nat × Nat) × Nat × Nat × Nat × Nat × Nat} (h : q ∈ ev_tV) : ev_ckV q = true := by
  obtain ⟨i, hi⟩ := List.getElem?_of_mem h
  have hl : i < 124 := (List.getElem?_eq_some_iff.mp hi).1
  have key : ∀ j : Nat, ((ev_tV.drop j).take 25).all ev_ckV = true → j ≤ i → i < j + 25 → ev_ckV q = true := by
    intro j e h1 h2
    refine List.all_eq_true.mp e q (List.mem_of_getElem? (i := i - j) ?_)
    rw [List.getElem?_take, if_pos (by omega), List.getElem?_drop, show j + (i - j) = i by omega]
    exact hi
  rcases Nat.lt_or_ge i 25 with z | z
  · exact key 0 ev_okV0 (by omega) (by omega)
  rcases Nat.lt_or_ge i 50 with z | z
  · exact key 25 ev_okV1 (by omega) (by omega)
  rcases Nat.lt_or_ge i 75 with z | z
  · exact key 50 ev_okV2 (by omega) (by omega)
  rcases Nat.lt_or_ge i 100 with z | z
  · exact key 75 ev_okV3 (by omega) (by omega)
  · exact key 100 ev_okV4 (by omega) (by omega)
theorem ev_c_virt {x : Nat} {q : Nat × List Value × Nat × ev_L × List Value} (X : ev_Cx D B k r p R s m args meth c) (hd : decode r.2.2.1 pc = .ok (.invokevirtual x, 3)) (h : ev_virt k r.1 x σ pc L st = some (.inr (.inl q))) (hM : ∀ r', ev_my q.1 = some r' → q.1 < 174 → (ev_sl q.2.1).length ≤ r'.2.2.2.1 → ev_Met l D B r' q.2.1 σ v σ') (hq : ev_q R n0 n1 σ σ') (hg : ev_gr σ σ') (kk : ∀ d : Drawn, s.drawn.sameBut d lw_cs → ev_W p l e R (s.setDrawn d) m args below meth c D B n0 n1 Q (σ', q.2.2.1, q.2.2.2.1, v.toList ++ q.2.2.2.2)) : ev_W p l e R s m args below meth c D B n0 n1 Q (σ, pc, L, st) := by
  unfold ev_virt at h
  split at h
  · next n hn =>
    split at h
    · next a as hst =>
      split at h
      · next ci hci =>
        split at h
        · next k' hk' =>
          obtain ⟨r0, h1, h2, h3, h4, h5, rfl⟩ := ev_call_inv h
          obtain ⟨k1, k2, k3⟩ := ev_rok_inv X h1 h2
          dsimp only at hM kk
          have hM2 : MetD lw_cs l r0.2.1 (ev_cw r0 :: ev_G) (ev_rm r0 σ σ') (va_Pc (.ref a :: as) (ev_Pc D B σ)) (ev_Qc D B v σ') (σ'.1 - σ.1) (σ'.2.1 - σ.2.1) (fun q : Nat => B ≤ q) := hM r0 h1 k1 h4
          obtain ⟨c1, c2, c3, c4⟩ := ev_ckM_inv h1 k1
          obtain ⟨fs, hf⟩ := ev_cl_inv hci
          have hlen : ∀ (y : MethodName) (n : Nat), (ev_np y).map (· + 1) = some r0.2.2.2.2.2.1 → as.length = n → (parseMethodDescriptor y.desc).map (fun d => d.parameters.length) = some n := by
            intro y n e1 e2
            obtain ⟨z, hz1, hz2⟩ := Option.map_eq_some_iff.mp e1
            rw [← h3] at hz2
            simp only [List.length_cons] at hz2
            rw [show n = z by omega]
            exact hz1
          unfold ev_vk at hk'
          split at hk'
          · next y hy =>
            cases hk'
            have h6 := ev_okV (ev_t3_mem hy)
            unfold ev_ckV at h6
            dsimp only at h6
            rw [h1] at h6
            split at h6
            · next r2 w e1 e2 =>
              cases e1
              simp only [Bool.and_eq_true, decide_eq_true_eq] at h6
              obtain ⟨⟨⟨⟨⟨w1, w2⟩, w3⟩, w4⟩, w5⟩, w6⟩ := h6
              intro H locs ls hR hS hV hz
              refine ev_after (k' := 0) (as := []) (r' := r0) hq hg (va_runV_D (Ts := ev_G) (nL := ls.size) (C := w.1) (b := a) (As := as) (rest := st.drop n) ⟨X.2.1, X.2.2.1, hz, X.2.2.2.1, X.2.2.2.2.1⟩ hM2 (cwV (rm := ev_rm r0 σ σ') as.length X.2.2.2.2.1 (ev_good2 h1 k1 (fun z hz => ?_)) rfl rfl rfl ⟨w1, c3, c4, hlen _ _ w6 rfl⟩ ⟨k2, k3⟩) ⟨ev_Pc.fb, ev_recv X.2.2.2.2.2.1 hR hf e2, ev_start X.2.2.2.2.2.1 X.2.2.2.2.2.2.2.2.2 hR hS.1⟩ rfl rfl rfl (ev_stack hst) (by rw [ev_sw_eq]; show 2 * 0 + _ ≤ _; omega) hd (ev_room (X := X) hq hg)) hS hV hz kk
              simp only [List.mem_cons, List.not_mem_nil, or_false] at hz
              rcases hz with rfl | rfl | rfl | rfl
              · exact ev_in w2
              · exact ev_in w3
              · exact ev_in w4
              · exact ev_in w5
            · cases h6
          · obtain ⟨y, hy, rfl⟩ := Option.map_eq_some_iff.mp hk'
            have h6 := List.all_eq_true.mp ev_okVA _ (ev_t3_mem hy)
            unfold ev_ckVA at h6
            dsimp only at h6
            rw [h1] at h6
            split at h6
            · next r2 w e1 e2 =>
              cases e1
              simp only [Bool.and_eq_true, decide_eq_true_eq] at h6
              obtain ⟨⟨⟨⟨⟨⟨⟨⟨w1, w2⟩, w3⟩, w4⟩, w5⟩, w6⟩, w7⟩, w8⟩, w9⟩ := h6
              intro H locs ls hR hS hV hz
              refine ev_after (k' := 0) (as := []) (r' := r0) hq hg (va_runU_D (Ts := ev_G) (nL := ls.size) (C := w.1) (b := a) (As := as) (rest := st.drop n) ⟨X.2.1, X.2.2.1, hz, X.2.2.2.1, X.2.2.2.2.1⟩ hM2 (va_cwA (rm := ev_rm r0 σ σ') as.length X.2.2.2.2.1 (ev_good2 h1 k1 (fun z hz => ?_)) rfl rfl rfl (X.2.2.2.2.2.1.2.1 _ w8 rfl) ⟨w6, w7, hlen _ _ w9 rfl⟩ ⟨k2, k3⟩) ⟨ev_Pc.fb, ev_recv X.2.2.2.2.2.1 hR hf e2, ev_start X.2.2.2.2.2.1 X.2.2.2.2.2.2.2.2.2 hR hS.1⟩ rfl rfl rfl (ev_stack hst) (by rw [ev_sw_eq]; show 2 * 0 + _ ≤ _; omega) hd (ev_room (X := X) hq hg)) hS hV hz kk
              simp only [List.mem_cons, List.not_mem_nil, or_false] at hz
              rcases hz with rfl | rfl | rfl | rfl | rfl
              · exact ev_in w1
              · exact ev_in w2
              · exact ev_in w3
              · exact ev_in w4
              · exact ev_in w5
            · cases h6
        · cases h
      · cases h
    · cases h
  · cases h
end EVC
