-- the instructions that read and write cells
theorem ev_wsOk : (vwCl.all fun w => (u_ws w.1 w.2.1 w.2.2).all fun x => decide (x ∈ lw_tbl) && goodWord x) = true := by decide +kernel
theorem ev_wsIn {ci : Nat} {w : vw_C} (h : vwCl[ci]? = some w) : ∀ x ∈ u_ws w.1 w.2.1 w.2.2, x ∈ ev_G := by
  intro x hx
  have h1 := List.all_eq_true.mp (List.all_eq_true.mp ev_wsOk w (List.mem_of_getElem? h)) x hx
  simp only [Bool.and_eq_true, decide_eq_true_eq] at h1
  exact List.mem_filter.mpr h1
theorem ev_tyOk {ci : Nat} {w : vw_C} {t : Nat → FieldType} (h : vwCl[ci]? = some w) (ht : ev_vt[ci]? = some t) : (∀ k, k < w.2.2 → parseFieldDescriptor (w.2.1 k).2.2.1 = some (t k)) ∧ ∀ a, a < w.2.2 → ∀ b, b < w.2.2 → a ≠ b → (w.2.1 a).2.1 ≠ (w.2.1 b).2.1 := by
  match ci, h, ht with
  | 0, h, ht => cases h; cases ht; exact ⟨tyX0_ok, nmX0⟩
  | 1, h, ht => cases h; cases ht; exact ⟨tyX1_ok, nmX1⟩
  | 2, h, ht => cases h; cases ht; exact ⟨tyX2_ok, nmX2⟩
  | 3, h, ht => cases h; cases ht; exact ⟨tyX3_ok, nmX3⟩
  | 4, h, ht => cases h; cases ht; exact ⟨tyX5_ok, nmX5⟩
  | 5, h, ht => cases h; cases ht; exact ⟨tyX6_ok, nmX6⟩
  | 6, h, ht => cases h; cases ht; exact ⟨tyX7_ok, nmX7⟩
  | n + 7, h, ht => simp [vwCl] at h
theorem ev_P1 {D : va_G} {q : Nat × va_E} {H : Heap} (h : va_at D vwCl q H) : va_P D vwCl [q] H := by
  intro k x hx
  match k, hx with
  | 0, hx => cases hx; exact h
  | k + 1, hx => simp at hx
theorem ev_K1 {D : va_G} {s : State} {cA : ClassId} {ty : FieldType} (h : ev_K D s) (h1 : ArrOfT s cA ty) (h2 : va_RA s cA ty) : va_K D vwCl [(cA, ty)] s := by
  refine ⟨h.1.1, fun k x hx => ?_⟩
  match k, hx with
  | 0, hx => cases hx; exact ⟨h1, h2⟩
  | k + 1, hx => simp at hx
theorem ev_inb {i : Int32} {n : Nat} (h : ev_out i n = false) : vp_in i n := by
  simp only [ev_out, Bool.or_eq_false_iff, decide_eq_false_iff_not] at h
  rintro (q | q)
  · exact h.1 q
  · exact h.2 q
theorem ev_ninl {x : FieldType × vp_A} : ¬ ev_scr (.inl x) := fun ⟨_, h⟩ => by cases h
theorem ev_ninr {x : Nat × List Value} : ¬ ev_scr (.inr (.inl x)) := fun ⟨_, h⟩ => by cases h
theorem ev_ci (cA : ClassId) (n j : Nat) (f : Nat → Int32) (x : Int32) : (vp_cell cA (n, .inl f)).setSlot j (.int x) = vp_cell cA (n, .inl (upd f j x)) := by
  rw [vp_cell_i, vp_cell_i, arrV_store]
  congr 1
  funext q
  by_cases hq : q = j <;> simp [updV, upd, hq]
theorem ev_cL (cA : ClassId) (n j : Nat) (f : Nat → Int64) (x : Int64) : (vp_cell cA (n, .inr (.inl f))).setSlot j (.long x) = vp_cell cA (n, .inr (.inl (vp_updL f j x))) := by
  rw [vp_cell_l, vp_cell_l, arrV_store]
  congr 1
  funext q
  by_cases hq : q = j <;> simp [updV, vp_updL, hq]
theorem ev_cq (cA : ClassId) (n j : Nat) (f : Nat → Option Nat) (x : Option Nat) : (vp_cell cA (n, .inr (.inr (.inr (.inr f))))).setSlot j (va_rf x) = vp_cell cA (n, .inr (.inr (.inr (.inr (va_up f j x))))) := by
  rw [vp_cell_q, vp_cell_q, arrV_store]
  congr 1
  funext q
  by_cases hq : q = j <;> simp [updV, va_up, hq]
section EVH
variable {p : Program} {l : Launch} {e : Env} {R : Room} {s : State} {m : MethodId} {args : Array Value} {below : List Frame} {meth : Method} {c : Code} {D : va_G} {B n0 n1 k : Nat} {r : ev_ME} {Q : State → Prop} {σ : ev_H} {pc : Nat} {L : ev_L} {st : List Value} {c' : ev_C}
theorem ev_ckF_inv {own x : Nat} {q : Nat × Nat × Nat} (h : ev_t2 ev_tF own x = some q) : ∃ w : vw_C, vwCl[q.1]? = some w ∧ q.2.1 < w.2.2 ∧ (w.2.1 q.2.1).1 = w.1 ∧ Cond.fieldLink (ev_own own) x w.1 (w.2.1 q.2.1).2.1 (w.2.1 q.2.1).2.2.1 ∈ ev_G := by
  have h1 := List.all_eq_true.mp ev_okF _ (ev_t2_mem h)
  unfold ev_ckF at h1
  dsimp only at h1
  split at h1
  · cases h1
  · next w hw =>
    simp only [Bool.and_eq_true, decide_eq_true_eq] at h1
    exact ⟨w, hw, h1.1.1, h1.1.2, ev_in h1.2⟩
theorem ev_gf_inv {a ci kf : Nat} {v : Value} (h : ev_gf σ a ci kf = some v) : ∃ fs, σ.2.2 a = some (.inr (.inl (ci, fs))) ∧ fs[kf]? = some v := by
  unfold ev_gf at h
  split at h
  · next o ho =>
    split at h
    · next hc => subst hc; exact ⟨o.2, ho, h⟩
    · cases h
  · cases h
theorem ev_s_getfield {x : Nat} (X : ev_Cx D B k r p R s m args meth c) (hd : decode r.2.2.1 pc = .ok (.getfield x, 3)) (h : ev_op k r.1 (.getfield x) σ pc L st = some (.inl c')) (kk : ev_W p l e R s m args below meth c D B n0 n1 Q c') : ev_W p l e R s m args below meth c D B n0 n1 Q (σ, pc, L, st) := by
  replace h : (match st with | .ref a :: rs => (match ev_t2 ev_tF r.1 x with | some q => (match ev_gf σ a q.1 q.2.1 with | some v => ev_nx σ (pc + 3) L (v :: rs) | none => none) | none => none) | _ => none) = some (.inl c') := h
  split at h
  · next a rs =>
    split at h
    · next q hq =>
      split at h
      · next v hv =>
        cases h
        obtain ⟨w, w1, w2, w3, w4⟩ := ev_ckF_inv hq
        obtain ⟨fs, f1, f2⟩ := ev_gf_inv hv
        intro H locs ls hR hS hV hz
        exact va_get X.2.1 X.2.2.1 X.2.2.2.2.1 (ev_wsIn w1) X.2.2.2.1 X.2.2.2.2.2.1.1 (ev_P1 (q := (a, .inr (q.1, fs))) (hR.2.2 _ _ f1).1) 0 rfl w1 q.2.1 w2 (X.2.2.2.2.1 _ w4) (fun z hz => by rw [w3] at hz; exact hz) f2 hd (kk H locs ls hR hS hV hz)
      · cases h
    · cases h
  · cases h
theorem ev_pf_inv {a ci kf : Nat} {v : Value} {σ' : ev_H} (h : ev_pf σ a ci kf v = some σ') : ∃ fs, σ.2.2 a = some (.inr (.inl (ci, fs))) ∧ kf < fs.length ∧ σ' = ev_up σ a (.inr (.inl (ci, fs.set kf v))) := by
  unfold ev_pf at h
  split at h
  · next o ho =>
    split at h
    · next hc => obtain ⟨o1, o2⟩ := o; obtain ⟨rfl, hl⟩ := hc; cases h; exact ⟨o2, ho, hl, rfl⟩
    · cases h
  · cases h
theorem ev_s_putfield {x : Nat} (X : ev_Cx D B k r p R s m args meth c) (hd : decode r.2.2.1 pc = .ok (.putfield x, 3)) (h : ev_op k r.1 (.putfield x) σ pc L st = some (.inl c')) (kk : ev_W p l e R s m args below meth c D B n0 n1 Q c') : ev_W p l e R s m args below meth c D B n0 n1 Q (σ, pc, L, st) := by
  replace h : (match st with | v :: .ref a :: rs => (match ev_t2 ev_tF r.1 x with | some q => if ev_pok k r.1 q.1 q.2.1 v = true then (match ev_pf σ a q.1 q.2.1 v with | some σ' => ev_nx σ' (pc + 3) L rs | none => none) else none | none => none) | _ => none) = some (.inl c') := h
  split at h
  · next v a rs =>
    split at h
    · next q hq =>
      split at h
      · next hp =>
        split at h
        · next σ' hv =>
          cases h
          obtain ⟨w, w1, w2, w3, w4⟩ := ev_ckF_inv hq
          obtain ⟨fs, f1, f2, rfl⟩ := ev_pf_inv hv
          intro H locs ls hR hS hV hz
          obtain ⟨qi, qk, qp⟩ := q
          dsimp only at *
          unfold ev_pok at hp
          rw [X.1, w1] at hp
          split at hp
          · next r' w' t e1 e2 e3 =>
            cases e1; cases e2
            obtain ⟨hty, hnm⟩ := ev_tyOk w1 e3
            simp only [Bool.and_eq_true, Bool.or_eq_true, beq_iff_eq, decide_eq_true_eq] at hp
            obtain ⟨hfin, hn, hfit⟩ := hp
            obtain ⟨C, T, N⟩ := w
            dsimp only at *
            have hts := X.2.2.2.2.1
            have hK := X.2.2.2.2.2.1.1
            have hin := ev_wsIn w1
            have hap := va_apart (own := ev_own r.1) hts hin t hty hnm hK w1
            obtain ⟨r2, g1, cell, q1, q2, q3, q4⟩ := (hR.2.2 _ _ f1).1
            have e4 : r2 = (C, T, N) := Option.some.inj (g1.symm.trans w1)
            subst e4
            obtain ⟨hSl, hfc, kC, hkC, hkind⟩ := hK.1 qi _ w1
            obtain ⟨cf, kf, fi, f, hi, hsl⟩ := hSl qk w2
            have hlays := u_lays hts hin w2
            have hst := (u_facts hfc hkC hlays hi).1
            have hi' : s.fieldFound? C (T qk).2.1 (T qk).2.2.1 = some (cf, kf, fi, f) := by rw [← w3]; exact hi
            have hlay := hts _ (hin _ (u_in_lay w2))
            unfold u_lay at hlay
            have hB := hR.base f1 ev_ninr
            have fin : ∀ H' : Heap, H'[a]? = some (cell.setSlot f.slot v) → H'.size = H.size → (∀ q, q ≠ a → H'[q]? = H[q]?) → W p l e R s m args below meth c H' (locs ++ [⟨a, f.slot⟩]) (σ.1 - n0) (σ.2.1 - n1) Q (F0 m (pc + 3) ls rs) := by
              intro H' e1 e2 e3
              refine kk H' _ ls (hR.up f1 ev_ninr e2 e3 ?_) (ev_S.put hS e2 e3 hB) hV hz
              rw [hsl] at e1
              exact ⟨_, w1, t_OB.to (V := updV (vp_V fs) qk v) ⟨_, e1, q2, q3, t_set q4 hap w2 v⟩ (fun j _ => vp_updV_set f2 v j)⟩
            rcases hb : (T qk).2.2.2 with _ | _
            · rw [if_neg (by rw [hb]; decide)] at hlay
              have h6 := u_store hfc hkC hkind hlay hi (hty qk w2) hn hfit
              exact W.putK X.2.1 X.2.2.1 (f := f) ⟨X.2.2.2.1, hts _ w4, ⟨_, _, _, hi'⟩, hst⟩ (by rw [q2]; exact h6) q1 q3 (by rw [hsl]; exact k2_hasslot (q4 qk w2)) rfl rfl hd fin
            · rw [if_pos hb] at hlay
              have hf2 := hfin.resolve_left (by rw [hb]; decide)
              have hcf : m.cls = cf := by
                obtain ⟨_, _, c9, _, _, _, -, -, hf', -, -, -, hown2, -⟩ := Cond.laysFinal_spec hlay
                have e1 : c9 = cf := by have := hi.symm.trans hf'; simp at this; exact this.1.symm
                rw [w3, hf2.2] at hown2
                rw [← e1]; exact Option.some.inj (X.2.2.2.1.symm.trans hown2)
              have h6 := u_fits hfc hkC hkind (Or.inr hlay) hi (hty qk w2) hn hfit
              exact W.putFinK X.2.1 X.2.2.1 X.2.2.2.1 (hts _ w4) hi' hst hcf (X.2.2.2.2.2.2.2.2.1 hf2.1) (by rw [q2]; exact h6) q1 q3 (by rw [hsl]; exact k2_hasslot (q4 qk w2)) rfl rfl hd fin
          · cases hp
        · cases h
      · cases h
    · cases h
  · cases h
theorem ev_s_iaload (X : ev_Cx D B k r p R s m args meth c) (hd : decode r.2.2.1 pc = .ok (.iaload, 1)) (h : ev_op k r.1 (.iaload) σ pc L st = some (.inl c')) (kk : ev_W p l e R s m args below meth c D B n0 n1 Q c') : ev_W p l e R s m args below meth c D B n0 n1 Q (σ, pc, L, st) := by
  replace h : (match st with | .int j :: .ref a :: rs => (match ev_ild σ a j with | some v => ev_nx σ (pc + 1) L (.int v :: rs) | none => none) | _ => none) = some (.inl c') := h
  split at h
  · next j a rs =>
    split at h
    · next v hv =>
      cases h
      intro H locs ls hR hS hV hz
      unfold ev_ild at hv
      split at hv
      · next ty n f hf =>
        split at hv
        · next hp =>
          cases hv
          obtain ⟨rfl, hp⟩ := hp
          obtain ⟨cA, g1, g2, g3⟩ := (hR.2.2 _ _ hf).1
          exact va_iald X.2.1 X.2.2.1 (ev_K1 X.2.2.2.2.2.1 g2 g3) (ev_P1 (q := (a, .inl (cA, n, .inl f))) g1) 0 0 rfl rfl (ev_inb hp) hd (kk H locs ls hR hS hV hz)
        · cases hv
      · next n f hf =>
        split at hv
        · next hp =>
          cases hv
          obtain ⟨scr, h1, h2, h3, h4, h5⟩ := (hR.2.2 _ _ hf).1
          have hi := ev_inb hp
          have hlt : j.toNatClampNeg < n := Nat.not_le.mp fun q => hi (Or.inr q)
          exact W.iald (v := .int (f j.toNatClampNeg)) X.2.1 X.2.2.1 h1 h2 h3 (by rw [h4]; exact hi) (h5 _ hlt) rfl rfl hd (kk H locs ls hR hS hV hz)
        · cases hv
      · cases hv
    · cases h
  · cases h
theorem ev_s_baload (X : ev_Cx D B k r p R s m args meth c) (hd : decode r.2.2.1 pc = .ok (.baload, 1)) (h : ev_op k r.1 (.baload) σ pc L st = some (.inl c')) (kk : ev_W p l e R s m args below meth c D B n0 n1 Q c') : ev_W p l e R s m args below meth c D B n0 n1 Q (σ, pc, L, st) := by
  replace h : (match st with | .int j :: .ref a :: rs => (match ev_zld σ a j with | some v => ev_nx σ (pc + 1) L (.int v :: rs) | none => none) | _ => none) = some (.inl c') := h
  split at h
  · next j a rs =>
    split at h
    · next v hv =>
      cases h
      intro H locs ls hR hS hV hz
      unfold ev_zld at hv
      split at hv
      · next ty n f hf =>
        split at hv
        · next hp =>
          cases hv
          obtain ⟨rfl, hp⟩ := hp
          obtain ⟨cA, g1, g2, g3⟩ := (hR.2.2 _ _ hf).1
          exact va_zald X.2.1 X.2.2.1 (ev_K1 X.2.2.2.2.2.1 g2 g3) (ev_P1 (q := (a, .inl (cA, n, .inl f))) g1) 0 0 rfl rfl (ev_inb hp) hd (kk H locs ls hR hS hV hz)
        · cases hv
      · cases hv
    · cases h
  · cases h
theorem ev_s_laload (X : ev_Cx D B k r p R s m args meth c) (hd : decode r.2.2.1 pc = .ok (.laload, 1)) (h : ev_op k r.1 (.laload) σ pc L st = some (.inl c')) (kk : ev_W p l e R s m args below meth c D B n0 n1 Q c') : ev_W p l e R s m args below meth c D B n0 n1 Q (σ, pc, L, st) := by
  replace h : (match st with | .int j :: .ref a :: rs => (match ev_lld σ a j with | some v => ev_nx σ (pc + 1) L (.long v :: rs) | none => none) | _ => none) = some (.inl c') := h
  split at h
  · next j a rs =>
    split at h
    · next v hv =>
      cases h
      intro H locs ls hR hS hV hz
      unfold ev_lld at hv
      split at hv
      · next ty n f hf =>
        split at hv
        · next hp =>
          cases hv
          obtain ⟨rfl, hp⟩ := hp
          obtain ⟨cA, g1, g2, g3⟩ := (hR.2.2 _ _ hf).1
          exact va_lald X.2.1 X.2.2.1 (ev_K1 X.2.2.2.2.2.1 g2 g3) (ev_P1 (q := (a, .inl (cA, n, .inr (.inl f)))) g1) 0 0 rfl rfl (ev_inb hp) hd (kk H locs ls hR hS hV hz)
        · cases hv
      · cases hv
    · cases h
  · cases h
theorem ev_s_aaload (X : ev_Cx D B k r p R s m args meth c) (hd : decode r.2.2.1 pc = .ok (.aaload, 1)) (h : ev_op k r.1 (.aaload) σ pc L st = some (.inl c')) (kk : ev_W p l e R s m args below meth c D B n0 n1 Q c') : ev_W p l e R s m args below meth c D B n0 n1 Q (σ, pc, L, st) := by
  replace h : (match st with | .int j :: .ref a :: rs => (match ev_ald σ a j with | some v => ev_nx σ (pc + 1) L (va_rf v :: rs) | none => none) | _ => none) = some (.inl c') := h
  split at h
  · next j a rs =>
    split at h
    · next v hv =>
      cases h
      intro H locs ls hR hS hV hz
      unfold ev_ald at hv
      split at hv
      · next C n f hf =>
        split at hv
        · next hp =>
          cases hv
          obtain ⟨cA, g1, g2, g3⟩ := (hR.2.2 _ _ hf).1
          exact va_aldq X.2.1 X.2.2.1 (ev_K1 X.2.2.2.2.2.1 g2 g3) (ev_P1 (q := (a, .inl (cA, n, .inr (.inr (.inr (.inr f)))))) g1) 0 0 rfl rfl (ev_inb hp) hd (kk H locs ls hR hS hV hz)
        · cases hv
      · cases hv
    · cases h
  · cases h
theorem ev_s_arraylength (X : ev_Cx D B k r p R s m args meth c) (hd : decode r.2.2.1 pc = .ok (.arraylength, 1)) (h : ev_op k r.1 (.arraylength) σ pc L st = some (.inl c')) (kk : ev_W p l e R s m args below meth c D B n0 n1 Q c') : ev_W p l e R s m args below meth c D B n0 n1 Q (σ, pc, L, st) := by
  replace h : (match st with | .ref a :: rs => (match ev_len σ a with | some v => ev_nx σ (pc + 1) L (.int v :: rs) | none => none) | _ => none) = some (.inl c') := h
  split at h
  · next a rs =>
    split at h
    · next v hv =>
      cases h
      intro H locs ls hR hS hV hz
      unfold ev_len at hv
      split at hv
      · next ty n f hf =>
        cases hv
        obtain ⟨cA, g1, g2, g3⟩ := (hR.2.2 _ _ hf).1
        exact va_alen X.2.1 X.2.2.1 (ev_K1 X.2.2.2.2.2.1 g2 g3) (ev_P1 (q := (a, .inl (cA, n, f))) g1) 0 0 rfl rfl rfl hd (kk H locs ls hR hS hV hz)
      · next n f hf =>
        cases hv
        obtain ⟨scr, h1, h2, h3, h4, h5⟩ := (hR.2.2 _ _ hf).1
        exact W.alen (n := Int32.ofNat n) X.2.1 X.2.2.1 h1 h2 (by rw [h4] <;> rfl) rfl rfl hd (kk H locs ls hR hS hV hz)
      · cases hv
    · cases h
  · cases h
theorem ev_s_iastore (X : ev_Cx D B k r p R s m args meth c) (hd : decode r.2.2.1 pc = .ok (.iastore, 1)) (h : ev_op k r.1 (.iastore) σ pc L st = some (.inl c')) (kk : ev_W p l e R s m args below meth c D B n0 n1 Q c') : ev_W p l e R s m args below meth c D B n0 n1 Q (σ, pc, L, st) := by
  replace h : (match st with | .int x :: .int j :: .ref a :: rs => (match ev_ist σ a j x with | some σ' => ev_nx σ' (pc + 1) L rs | none => none) | _ => none) = some (.inl c') := h
  split at h
  · next x j a rs =>
    split at h
    · next v hv =>
      cases h
      intro H locs ls hR hS hV hz
      unfold ev_ist at hv
      split at hv
      · next ty n f hf =>
        split at hv
        · next hp =>
          cases hv
          obtain ⟨rfl, hp⟩ := hp
          obtain ⟨cA, g1, g2, g3⟩ := (hR.2.2 _ _ hf).1
          refine W.iast X.2.1 X.2.2.1 g1 (g2 n (fun j => .int (f j))) (fun q => by cases q) (by show ¬ (j < 0 ∨ (arrV _ _ _).slots.size ≤ _); rw [arrV_size]; exact ev_inb hp) rfl rfl hd fun H1 e z oq => ?_
          rw [ev_ci] at e
          exact kk H1 _ ls (hR.up hf ev_ninl z oq ⟨cA, e, g2, g3⟩) (ev_S.put hS z oq (hR.base hf ev_ninl)) hV hz
        · cases hv
      · cases hv
    · cases h
  · cases h
theorem ev_s_bastore (X : ev_Cx D B k r p R s m args meth c) (hd : decode r.2.2.1 pc = .ok (.bastore, 1)) (h : ev_op k r.1 (.bastore) σ pc L st = some (.inl c')) (kk : ev_W p l e R s m args below meth c D B n0 n1 Q c') : ev_W p l e R s m args below meth c D B n0 n1 Q (σ, pc, L, st) := by
  replace h : (match st with | .int x :: .int j :: .ref a :: rs => (match ev_zst σ a j x with | some σ' => ev_nx σ' (pc + 1) L rs | none => none) | _ => none) = some (.inl c') := h
  split at h
  · next x j a rs =>
    split at h
    · next v hv =>
      cases h
      intro H locs ls hR hS hV hz
      unfold ev_zst at hv
      split at hv
      · next ty n f hf =>
        split at hv
        · next hp =>
          cases hv
          obtain ⟨rfl, hp⟩ := hp
          obtain ⟨cA, g1, g2, g3⟩ := (hR.2.2 _ _ hf).1
          refine W.zast X.2.1 X.2.2.1 g1 (g2 n (fun j => .int (f j))) (fun q => by cases q) (by show ¬ (j < 0 ∨ (arrV _ _ _).slots.size ≤ _); rw [arrV_size]; exact ev_inb hp) rfl rfl hd fun H1 e z oq => ?_
          have e : H1[a]? = some ((vp_cell cA (n, .inl f)).setSlot j.toNatClampNeg (.int (vp_nar .boolean x))) := e
          rw [ev_ci] at e
          exact kk H1 _ ls (hR.up hf ev_ninl z oq ⟨cA, e, g2, g3⟩) (ev_S.put hS z oq (hR.base hf ev_ninl)) hV hz
        · cases hv
      · cases hv
    · cases h
  · cases h
theorem ev_s_lastore (X : ev_Cx D B k r p R s m args meth c) (hd : decode r.2.2.1 pc = .ok (.lastore, 1)) (h : ev_op k r.1 (.lastore) σ pc L st = some (.inl c')) (kk : ev_W p l e R s m args below meth c D B n0 n1 Q c') : ev_W p l e R s m args below meth c D B n0 n1 Q (σ, pc, L, st) := by
  replace h : (match st with | .long x :: .int j :: .ref a :: rs => (match ev_lst σ a j x with | some σ' => ev_nx σ' (pc + 1) L rs | none => none) | _ => none) = some (.inl c') := h
  split at h
  · next x j a rs =>
    split at h
    · next v hv =>
      cases h
      intro H locs ls hR hS hV hz
      unfold ev_lst at hv
      split at hv
      · next ty n f hf =>
        split at hv
        · next hp =>
          cases hv
          obtain ⟨rfl, hp⟩ := hp
          obtain ⟨cA, g1, g2, g3⟩ := (hR.2.2 _ _ hf).1
          refine W.last X.2.1 X.2.2.1 g1 (g2 n (fun j => .long (f j))) (fun q => by cases q) (by show ¬ (j < 0 ∨ (arrV _ _ _).slots.size ≤ _); rw [arrV_size]; exact ev_inb hp) rfl rfl hd fun H1 e z oq => ?_
          rw [ev_cL] at e
          exact kk H1 _ ls (hR.up hf ev_ninl z oq ⟨cA, e, g2, g3⟩) (ev_S.put hS z oq (hR.base hf ev_ninl)) hV hz
        · cases hv
      · cases hv
    · cases h
  · cases h
end EVH
