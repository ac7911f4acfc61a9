-- stores of references, new cells, casts, natives
section EVM
variable {p : Program} {l : Launch} {e : Env} {R : Room} {s : State} {m : MethodId} {args : Array Value} {below : List Frame} {meth : Method} {c : Code} {D : va_G} {B n0 n1 k : Nat} {r : ev_ME} {Q : State → Prop} {σ : ev_H} {pc : Nat} {L : ev_L} {st : List Value} {c' : ev_C}
theorem ev_cl_inv {a ci : Nat} (h : ev_cl σ a = some ci) : ∃ fs, σ.2.2 a = some (.inr (.inl (ci, fs))) := by
  unfold ev_cl at h
  split at h
  · next o ho => cases h; exact ⟨o.2, ho⟩
  · cases h
/-- an object's cell and class -/
theorem ev_recv {a ci : Nat} {fs : List Value} {w : vw_C} {H : Heap} (hK : ev_K D s) (hR : ev_R D B s σ H) (hf : σ.2.2 a = some (.inr (.inl (ci, fs)))) (hw : vwCl[ci]? = some w) : ∃ cell : Cell, H[a]? = some cell ∧ cell.vm.isStatics = false ∧ s.vm.findClass w.1 = some cell.cls :=
  va_recv hK.1 (ev_P1 (q := (a, .inr (ci, fs))) (hR.2.2 _ _ hf).1) hw (q0 := 0) rfl
/-- assignable, as ev_sub says -/
theorem ev_sub_t {ci : Nat} {C : String} (h : ev_sub ci C = some true) : ∃ w : vw_C, vwCl[ci]? = some w ∧ (w.1 = C ∨ Cond.castable w.1 C ∈ lw_tbl) := by
  unfold ev_sub at h
  split at h
  · cases h
  · next w hw =>
    refine ⟨w, hw, ?_⟩
    split at h
    · next h1 => exact Or.inl h1
    · split at h
      · next h2 => exact Or.inr h2
      · split at h <;> cases h
theorem ev_sub_f {ci : Nat} {C : String} (h : ev_sub ci C = some false) : ∃ w : vw_C, vwCl[ci]? = some w ∧ (w.1, C) ∈ ev_nc := by
  unfold ev_sub at h
  split at h
  · cases h
  · next w hw =>
    refine ⟨w, hw, ?_⟩
    split at h
    · cases h
    · split at h
      · cases h
      · split at h
        · next h3 => exact h3
        · cases h
theorem ev_asg {ci : Nat} {C : String} {w : vw_C} {c0 comp : ClassId} (hK : ev_K D s) (h : w.1 = C ∨ Cond.castable w.1 C ∈ lw_tbl) (h1 : s.vm.findClass w.1 = some c0) (h2 : s.vm.findClass C = some comp) : s.vm.assignable c0 comp = true := by
  rcases h with rfl | h
  · cases h1.symm.trans h2; exact va_asg _ _
  · obtain ⟨c9, t1, f1, f2, f3⟩ := Cond.castable_spec (va_Nw.use (A := #[]) rfl (hK.2.1 _ h rfl))
    cases h1.symm.trans f1
    cases h2.symm.trans f2
    exact f3
theorem ev_ast_inv {a : Nat} {j : Int32} {x : Option Nat} {σ' : ev_H} (h : ev_ast σ a j x = some σ') : ∃ C n f, σ.2.2 a = some (.inl (.object C, n, .inr (.inr (.inr (.inr f))))) ∧ ev_out j n = false ∧ ev_may σ C x = true ∧ σ' = ev_up σ a (.inl (.object C, n, .inr (.inr (.inr (.inr (va_up f j.toNatClampNeg x)))))) := by
  unfold ev_ast at h
  split at h
  · next C n f hf =>
    split at h
    · next hp => cases h; exact ⟨C, n, f, hf, hp.1, hp.2, rfl⟩
    · cases h
  · cases h
theorem ev_s_aastore (X : ev_Cx D B k r p R s m args meth c) (hd : decode r.2.2.1 pc = .ok (.aastore, 1)) (h : ev_op k r.1 (.aastore) σ pc L st = some (.inl c')) (kk : ev_W p l e R s m args below meth c D B n0 n1 Q c') : ev_W p l e R s m args below meth c D B n0 n1 Q (σ, pc, L, st) := by
  replace h : (match st with | .ref x :: .int j :: .ref a :: rs => (match ev_ast σ a j (some x) with | some σ' => ev_nx σ' (pc + 1) L rs | none => none) | .null :: .int j :: .ref a :: rs => (match ev_ast σ a j none with | some σ' => ev_nx σ' (pc + 1) L rs | none => none) | _ => none) = some (.inl c') := h
  split at h
  · next x j a rs =>
    split at h
    · next σ' hv =>
      cases h
      intro H locs ls hR hS hV hz
      obtain ⟨C, n, f, hf, hp, hm, rfl⟩ := ev_ast_inv hv
      obtain ⟨cA, g1, g2, g3⟩ := (hR.2.2 _ _ hf).1
      unfold ev_may at hm
      dsimp only at hm
      split at hm
      · cases hm
      · next ci hci =>
        obtain ⟨fs, hx⟩ := ev_cl_inv hci
        obtain ⟨w, hw, hsub⟩ := ev_sub_t (of_decide_eq_true (p := ev_sub ci C = some true) (by simpa using hm))
        obtain ⟨kA, comp, k1, k2, k3, k4⟩ := g3
        obtain ⟨kE, hkE, -⟩ := Vm.findClass_spec k3
        obtain ⟨r', hr', cellV, v1, v2, v3, -⟩ := (hR.2.2 _ _ hx).1
        have hcls := (X.2.2.2.2.2.1.1.1 ci w hw).2
        obtain ⟨kC, hkC, -⟩ := hcls.2
        have hin := ev_inb hp
        have hlt : j.toNatClampNeg < n := Nat.not_le.mp fun q => hin (Or.inr q)
        refine W.aast X.2.1 X.2.2.1 g1 (fun q h => by cases h) (fun h => by cases h) k1 k2 rfl hkE ⟨fun q => hin (Or.inl q), by show _ < (arrV _ _ _).slots.size; rw [arrV_size]; exact hlt⟩ v1 (fun q h => by rw [v3] at h; cases h) (by rw [v2]; exact hkC) (by rw [v2]; exact ev_asg (ci := ci) X.2.2.2.2.2.1 hsub hcls.1 k3) rfl rfl hd fun H1 e z oq => ?_
        have e : H1[a]? = some ((vp_cell cA (n, .inr (.inr (.inr (.inr f))))).setSlot j.toNatClampNeg (va_rf (some x))) := e
        rw [ev_cq] at e
        exact kk H1 _ ls (hR.up hf ev_ninl z oq ⟨cA, e, g2, ⟨kA, comp, k1, k2, k3, k4⟩⟩) (ev_S.put hS z oq (hR.base hf ev_ninl)) hV hz
    · cases h
  · next j a rs =>
    split at h
    · next σ' hv =>
      cases h
      intro H locs ls hR hS hV hz
      obtain ⟨C, n, f, hf, hp, hm, rfl⟩ := ev_ast_inv hv
      obtain ⟨cA, g1, g2, g3⟩ := (hR.2.2 _ _ hf).1
      refine va_WaastN (C := C) X.2.1 X.2.2.1 g1 (g2 n (fun j => va_rf (f j))) (fun h => by cases h) (by show ¬ (j < 0 ∨ (arrV _ _ _).slots.size ≤ _); rw [arrV_size]; exact ev_inb hp) rfl rfl hd fun H1 e z oq => ?_
      have e : H1[a]? = some ((vp_cell cA (n, .inr (.inr (.inr (.inr f))))).setSlot j.toNatClampNeg (va_rf none)) := e
      rw [ev_cq] at e
      exact kk H1 _ ls (hR.up hf ev_ninl z oq ⟨cA, e, g2, g3⟩) (ev_S.put hS z oq (hR.base hf ev_ninl)) hV hz
    · cases h
  · cases h
theorem ev_arrC : ∀ ty, (ty = .int ∨ ty = .boolean ∨ ty = .long) → Cond.arrayClass ty ∈ ev_G := by
  intro ty h
  rcases h with rfl | rfl | rfl
  · exact ev_in (p := 80) (by decide +kernel)
  · exact ev_in (p := 703) (by decide +kernel)
  · exact ev_in (p := 145) (by decide +kernel)
theorem ev_cnt {x n d : Nat} (h : n ≤ x) : x - n + d = x + d - n := by omega
theorem ev_s_newarray {t : ArrayType} (X : ev_Cx D B k r p R s m args meth c) (hd : decode r.2.2.1 pc = .ok (.newarray t, 2)) (h : ev_op k r.1 (.newarray t) σ pc L st = some (.inl c')) (hq : ev_q R n0 n1 σ c'.1) (kk : ev_W p l e R s m args below meth c D B n0 n1 Q c') : ev_W p l e R s m args below meth c D B n0 n1 Q (σ, pc, L, st) := by
  replace h : (match st with | .int n :: rs => (match ev_nwa σ (newarray.typeOf t) n with | some σ' => ev_nx σ' (pc + 2) L (.ref σ.1 :: rs) | none => none) | _ => none) = some (.inl c') := h
  split at h
  · next n rs =>
    split at h
    · next σ' hv =>
      cases h
      intro H locs ls hR hS hV hz
      unfold ev_nwa at hv
      split at hv
      · cases hv
      · next hp =>
        have hn : ¬ n < 0 := fun q => hp (Or.inl q)
        have hN : n.toNatClampNeg ≤ 65536 := Nat.not_lt.mp fun q => hp (Or.inr q)
        obtain ⟨x, hx, rfl⟩ := Option.map_eq_some_iff.mp hv
        have key : (newarray.typeOf t = .int ∨ newarray.typeOf t = .boolean ∨ newarray.typeOf t = .long) ∧ (∀ cA : ClassId, vp_cell cA x = arrV cA n.toNatClampNeg (fun _ => defaultValue (newarray.typeOf t))) ∧ n.toNatClampNeg * componentBytes (newarray.typeOf t) ≤ 536870912 := by
          generalize newarray.typeOf t = ty at hx
          unfold ev_zero at hx
          split at hx
          · cases hx; exact ⟨Or.inl rfl, fun _ => rfl, by show n.toNatClampNeg * 4 ≤ _; omega⟩
          · cases hx; exact ⟨Or.inr (Or.inl rfl), fun _ => rfl, by show n.toNatClampNeg * 1 ≤ _; omega⟩
          · cases hx; exact ⟨Or.inr (Or.inr rfl), fun _ => rfl, by show n.toNatClampNeg * 8 ≤ _; omega⟩
          · cases hx
        obtain ⟨a1, a2, a3, a4⟩ := hq
        refine va_newaK X.2.1 X.2.2.1 (X.2.2.2.2.1 _ (ev_arrC _ key.1)) rfl hd rfl hn rfl key.2.2 (by rw [ev_cnt a1]; exact a3) (by rw [ev_cnt a2]; exact a4) hR.1 fun H1 cA e1 z1 o1 hAr hNm => ?_
        refine W.cs (ev_cnt a1) (ev_cnt a2) ?_
        rw [← hR.1] at e1 z1 o1
        refine kk H1 locs ls (hR.new z1 o1 ⟨cA, by rw [key.2.1]; exact e1, hAr, ?_⟩) (ev_S.new hS z1 o1) hV hz
        generalize newarray.typeOf t = ty at hNm key
        rcases key.1 with rfl | rfl | rfl <;> exact hNm
    · cases h
  · cases h
theorem ev_s_anewarray {x : Nat} (X : ev_Cx D B k r p R s m args meth c) (hd : decode r.2.2.1 pc = .ok (.anewarray x, 3)) (h : ev_op k r.1 (.anewarray x) σ pc L st = some (.inl c')) (hq : ev_q R n0 n1 σ c'.1) (kk : ev_W p l e R s m args below meth c D B n0 n1 Q c') : ev_W p l e R s m args below meth c D B n0 n1 Q (σ, pc, L, st) := by
  replace h : (match st with | .int n :: rs => (match ev_t2 ev_tA r.1 x with | some q => if Cond.arrayOver (.object q.1) ∈ lw_tbl then (match ev_nwq σ q.1 n with | some σ' => ev_nx σ' (pc + 3) L (.ref σ.1 :: rs) | none => none) else none | none => none) | _ => none) = some (.inl c') := h
  split at h
  · next n rs =>
    split at h
    · next q hqt =>
      split at h
      · next hover =>
        split at h
        · next σ' hv =>
          cases h
          intro H locs ls hR hS hV hz
          unfold ev_nwq at hv
          split at hv
          · cases hv
          · next hp =>
            have hn : ¬ n < 0 := fun q => hp (Or.inl q)
            have hN : n.toNatClampNeg ≤ 65536 := Nat.not_lt.mp fun q => hp (Or.inr q)
            cases hv
            obtain ⟨a1, a2, a3, a4⟩ := hq
            have hw := ev_in (List.all_eq_true.mp ev_okA _ (ev_t2_mem hqt))
            refine W.anew X.2.1 X.2.2.1 X.2.2.2.1 (X.2.2.2.2.1 _ hw) (va_AO.use (X.2.2.2.2.2.1.2.2.1 _ hover)) rfl hd rfl hn (by omega) (by rw [ev_cnt a1]; exact a3) (by rw [ev_cnt a2]; exact a4) fun cA kA comp f1 f2 f3 f4 => ?_
            refine W.cs (ev_cnt a1) (ev_cnt a2) ?_
            generalize hH1 : H.push ({ cls := cA, slots := Array.replicate n.toNatClampNeg .null, vm := .none } : Cell) = H1
            have z1 : H1.size = H.size + 1 := by rw [← hH1, Array.size_push]
            have e1 : H1[H.size]? = some (arrV cA n.toNatClampNeg (fun _ => .null)) := by rw [← hH1, Array.getElem?_push_size, ← arrV_new]
            have o1 : ∀ q : Nat, q < H.size → H1[q]? = H[q]? := fun q hq => by rw [← hH1, Array.getElem?_push, if_neg (Nat.ne_of_lt hq)]
            have hAr : ArrOfT s cA (.object q.1) := fun N z => ⟨(fun k h => by cases h), kA, f2, comp, f3⟩
            rw [show (Value.ref H.size) = Value.ref σ.1 by rw [hR.1]]
            exact kk H1 locs ls (hR.new z1 o1 ⟨cA, e1, hAr, kA, comp, f2, f3, f4, f1⟩) (ev_S.new hS z1 o1) hV hz
        · cases h
      · cases h
    · cases h
  · cases h
theorem ev_ckN_inv {own x : Nat} {q : Nat × Nat × Nat × Nat} (h : ev_t2 ev_tN own x = some q) : ∃ w : vw_C, vwCl[q.1]? = some w ∧ Cond.classLink (ev_own own) x w.1 ∈ ev_G ∧ Cond.instantiable w.1 w.2.2 ∈ ev_G ∧ Cond.initialized w.1 ∈ ev_G := by
  have h1 := List.all_eq_true.mp ev_okN _ (ev_t2_mem h)
  unfold ev_ckN at h1
  dsimp only at h1
  split at h1
  · cases h1
  · next w hw =>
    simp only [Bool.and_eq_true] at h1
    exact ⟨w, hw, ev_in h1.1.1, ev_in h1.1.2, ev_in h1.2⟩
theorem ev_s_new {x : Nat} (X : ev_Cx D B k r p R s m args meth c) (hd : decode r.2.2.1 pc = .ok (.new x, 3)) (h : ev_op k r.1 (.new x) σ pc L st = some (.inl c')) (hq : ev_q R n0 n1 σ c'.1) (kk : ev_W p l e R s m args below meth c D B n0 n1 Q c') : ev_W p l e R s m args below meth c D B n0 n1 Q (σ, pc, L, st) := by
  replace h : (match ev_t2 ev_tN r.1 x with | some q => (match ev_nwo σ q.1 with | some σ' => ev_nx σ' (pc + 3) L (.ref σ.1 :: st) | none => none) | none => none) = some (.inl c') := h
  split at h
  · next q hqt =>
    split at h
    · next σ' hv =>
      cases h
      intro H locs ls hR hS hV hz
      obtain ⟨w, w1, w2, w3, w4⟩ := ev_ckN_inv hqt
      unfold ev_nwo at hv
      obtain ⟨y, hy, rfl⟩ := Option.map_eq_some_iff.mp hv
      unfold ev_dfl at hy
      rw [w1] at hy
      split at hy
      · next w' t e2 e3 =>
        cases e2; cases hy
        obtain ⟨hty, hnm⟩ := ev_tyOk w1 e3
        obtain ⟨a1, a2, a3, a4⟩ := hq
        have hKn := X.2.2.2.2.2.1.1.1 q.1 _ w1
        refine W.newcK X.2.1 X.2.2.1 X.2.2.2.1 (X.2.2.2.2.1 _ w2) (X.2.2.2.2.1 _ w3) (X.2.2.2.2.1 _ w4) rfl hd (by rw [ev_cnt a1]; exact a3) (by rw [ev_cnt a2]; exact a4) hKn.2.1 hR.1 fun H1 kC hkC e1 z1 o1 => ?_
        refine W.cs (ev_cnt a1) (ev_cnt a2) ?_
        rw [← hR.1] at e1 z1 o1
        refine kk H1 locs ls (hR.new z1 o1 ⟨w, w1, (u_born t X.2.2.2.2.1 (ev_wsIn w1) hKn hkC e1 hty).to (fun j hj => ?_)⟩) (ev_S.new hS z1 o1) hV hz
        simp [vp_V, hj]
      · cases hy
    · cases h
  · cases h
theorem ev_s_checkcast {x : Nat} (X : ev_Cx D B k r p R s m args meth c) (hd : decode r.2.2.1 pc = .ok (.checkcast x, 3)) (h : ev_op k r.1 (.checkcast x) σ pc L st = some (.inl c')) (kk : ev_W p l e R s m args below meth c D B n0 n1 Q c') : ev_W p l e R s m args below meth c D B n0 n1 Q (σ, pc, L, st) := by
  replace h : (match st with | .null :: rs => ev_nx σ (pc + 3) L (.null :: rs) | .ref a :: rs => (match ev_t2 ev_tA r.1 x with | some q => (match ev_cl σ a with | some ci => if ev_sub ci q.1 = some true then ev_nx σ (pc + 3) L (.ref a :: rs) else none | none => none) | none => none) | _ => none) = some (.inl c') := h
  split at h
  · cases h
    intro H locs ls hR hS hV hz
    exact lv_castN X.2.1 X.2.2.1 hd (kk H locs ls hR hS hV hz)
  · next a rs =>
    split at h
    · next q hqt =>
      split at h
      · next ci hci =>
        split at h
        · next hsb =>
          cases h
          intro H locs ls hR hS hV hz
          have hw := ev_in (List.all_eq_true.mp ev_okA _ (ev_t2_mem hqt))
          obtain ⟨w, w1, w2⟩ := ev_sub_t hsb
          obtain ⟨fs, hf⟩ := ev_cl_inv hci
          have hrc := ev_recv X.2.2.2.2.2.1 hR hf w1
          rcases w2 with w2 | w2
          · exact va_castS X.2.1 X.2.2.1 X.2.2.2.1 (X.2.2.2.2.1 _ hw) (by rw [← w2]; exact (X.2.2.2.2.2.1.1.1 ci w w1).2) (by rw [← w2]; exact hrc) hd (kk H locs ls hR hS hV hz)
          · exact va_castY X.2.1 X.2.2.1 X.2.2.2.1 (X.2.2.2.2.1 _ hw) (X.2.2.2.2.2.1.2.1 _ w2 rfl) hrc hd (kk H locs ls hR hS hV hz)
        · cases h
      · cases h
    · cases h
  · cases h
theorem ev_s_instanceof {x : Nat} (X : ev_Cx D B k r p R s m args meth c) (hd : decode r.2.2.1 pc = .ok (.instanceof x, 3)) (h : ev_op k r.1 (.instanceof x) σ pc L st = some (.inl c')) (kk : ev_W p l e R s m args below meth c D B n0 n1 Q c') : ev_W p l e R s m args below meth c D B n0 n1 Q (σ, pc, L, st) := by
  replace h : (match st with | .null :: rs => ev_nx σ (pc + 3) L (.int 0 :: rs) | .ref a :: rs => (match ev_t2 ev_tA r.1 x with | some q => (match ev_cl σ a with | some ci => (match ev_sub ci q.1 with | some true => ev_nx σ (pc + 3) L (.int 1 :: rs) | some false => ev_nx σ (pc + 3) L (.int 0 :: rs) | none => none) | none => none) | none => none) | _ => none) = some (.inl c') := h
  split at h
  · cases h
    intro H locs ls hR hS hV hz
    exact lv_instN X.2.1 X.2.2.1 hd (kk H locs ls hR hS hV hz)
  · next a rs =>
    split at h
    · next q hqt =>
      split at h
      · next ci hci =>
        split at h
        · next hsb =>
          cases h
          intro H locs ls hR hS hV hz
          have hw := ev_in (List.all_eq_true.mp ev_okA _ (ev_t2_mem hqt))
          obtain ⟨w, w1, w2⟩ := ev_sub_t hsb
          obtain ⟨fs, hf⟩ := ev_cl_inv hci
          have hrc := ev_recv X.2.2.2.2.2.1 hR hf w1
          rcases w2 with w2 | w2
          · exact va_instS X.2.1 X.2.2.1 X.2.2.2.1 (X.2.2.2.2.1 _ hw) (by rw [← w2]; exact (X.2.2.2.2.2.1.1.1 ci w w1).2) (by rw [← w2]; exact hrc) hd (kk H locs ls hR hS hV hz)
          · exact va_instY X.2.1 X.2.2.1 X.2.2.2.1 (X.2.2.2.2.1 _ hw) (X.2.2.2.2.2.1.2.1 _ w2 rfl) hrc hd (kk H locs ls hR hS hV hz)
        · next hsb =>
          cases h
          intro H locs ls hR hS hV hz
          have hw := ev_in (List.all_eq_true.mp ev_okA _ (ev_t2_mem hqt))
          obtain ⟨w, w1, w2⟩ := ev_sub_f hsb
          obtain ⟨fs, hf⟩ := ev_cl_inv hci
          exact va_instNo X.2.1 X.2.2.1 X.2.2.2.1 (X.2.2.2.2.1 _ hw) (X.2.2.2.2.2.1.2.2.2 _ w2) (ev_recv X.2.2.2.2.2.1 hR hf w1) hd (kk H locs ls hR hS hV hz)
        · cases h
      · cases h
    · cases h
  · cases h
end EVM
