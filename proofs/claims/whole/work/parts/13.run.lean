-- a run of the evaluator is a run of the machine
section EVR
variable {p : Program} {l : Launch} {e : Env} {R : Room} {s : State} {m : MethodId} {args : Array Value} {below : List Frame} {meth : Method} {c : Code} {D : va_G} {B n0 n1 k : Nat} {r : ev_ME} {Q : State → Prop} {σ σ' : ev_H} {pc : Nat} {L : ev_L} {st : List Value} {c' : ev_C} {v : Option Value}
theorem ev_no_call {q : Nat × List Value × Nat × ev_L × List Value} (h : ev_nx σ pc L st = some (.inr (.inl q))) : False := by cases h
/-- which instructions call -/
theorem ev_op_call {i : Instr} {q : Nat × List Value × Nat × ev_L × List Value} (h : ev_op k r.1 i σ pc L st = some (.inr (.inl q))) : (∃ x, i = .invokestatic x ∧ ev_stc k r.1 x σ pc L st = some (.inr (.inl q))) ∨ (∃ x, i = .invokespecial x ∧ ev_spec k r.1 x σ pc L st = some (.inr (.inl q))) ∨ ∃ x, i = .invokevirtual x ∧ ev_virt k r.1 x σ pc L st = some (.inr (.inl q)) := by
  cases i
  case invokestatic x =>
    refine Or.inl ⟨x, rfl, ?_⟩
    replace h : ev_static k r.1 x σ pc L st = some (.inr (.inl q)) := h
    unfold ev_static at h
    split at h
    · unfold ev_natv at h
      repeat' (split at h)
      all_goals first
        | (cases h; done)
        | (unfold ev_dr1 at h
           repeat' (split at h)
           all_goals cases h)
        | (unfold ev_dr2 at h
           repeat' (split at h)
           all_goals cases h)
    · exact h
  case invokespecial x => exact Or.inr (Or.inl ⟨x, rfl, h⟩)
  case invokevirtual x => exact Or.inr (Or.inr ⟨x, rfl, h⟩)
  all_goals exfalso
  all_goals first
    | (cases h; done)
    | (simp only [ev_op, ev_ld, ev_so1, ev_so2, ev_ii, ev_iz, ev_i1, ev_jj, ev_jz, ev_ji, ev_j1, ev_f1, ev_d1, ev_ff, ev_dd, ev_fc, ev_dc, ev_to, ev_br, ev_ret] at h
       repeat' (split at h)
       all_goals (cases h; done))
/-- which instructions return -/
theorem ev_op_ret {i : Instr} (h : ev_op k r.1 i σ pc L st = some (.inr (.inr v))) : (i = .ireturn ∨ i = .lreturn ∨ i = .dreturn ∨ i = .areturn ∨ i = .return_) ∧ ev_ret k i st = some (.inr (.inr v)) := by
  cases i
  case ireturn => exact ⟨Or.inl rfl, h⟩
  case lreturn => exact ⟨Or.inr (Or.inl rfl), h⟩
  case dreturn => exact ⟨Or.inr (Or.inr (Or.inl rfl)), h⟩
  case areturn => exact ⟨Or.inr (Or.inr (Or.inr (Or.inl rfl))), h⟩
  case return_ => exact ⟨Or.inr (Or.inr (Or.inr (Or.inr rfl))), h⟩
  all_goals exfalso
  all_goals first
    | (cases h; done)
    | (simp only [ev_op, ev_ld, ev_so1, ev_so2, ev_ii, ev_iz, ev_i1, ev_jj, ev_jz, ev_ji, ev_j1, ev_f1, ev_d1, ev_ff, ev_dd, ev_fc, ev_dc, ev_to, ev_br, ev_static, ev_stc, ev_natv, ev_dr1, ev_dr2, ev_spec, ev_virt, ev_call] at h
       repeat' (split at h)
       all_goals (cases h; done))
theorem ev_fin {H : Heap} {locs : List Loc} (hK : ev_K D s) (hB : B ≤ s.heap.size) (hR : ev_R D B s σ H) (hS : va_S (fun q : Nat => B ≤ q) s.heap H locs) : ∀ t : State, t.heap = H → s.WarmedH t.vm → ev_Qc D B v σ args s (.returned v) t := fun t ht hW => ⟨rfl, ⟨by rw [ht]; exact hR.moved hW.alike, hK.warm hW, by rw [ht]; exact Nat.le_trans hB hS.1⟩, hS.F ht⟩
theorem ev_retW {x : ev_C} (X : ev_Cx D B k r p R s m args meth c) (hr : meth.sig.returnType = r.2.2.2.2.1) (hlocks : meth.locks = false) (h : ev_act k x = some (.inr (.inr v))) (hx : x.1 = σ') : ev_W p l e R s m args below meth c D B n0 n1 (MQ below (ev_Qc D B v σ') args s (σ'.1 - n0) (σ'.2.1 - n1) (fun q : Nat => B ≤ q)) x := by
  obtain ⟨i, n, hd, hl, ho⟩ := ev_act_inv X.1 h
  obtain ⟨σ, pc, L, st⟩ := x
  dsimp only at hd ho hx
  subst hx
  obtain ⟨hi, ho⟩ := ev_op_ret ho
  have hn : n = 1 := by
    rcases hi with rfl | rfl | rfl | rfl | rfl <;> exact hl.resolve_left (by decide)
  subst hn
  have hK := X.2.2.2.2.2.1
  have hB := X.2.2.2.2.2.2.2.2.2
  unfold ev_ret at ho
  rw [X.1] at ho
  dsimp only at ho
  split at ho
  · have e1 : r.2.2.2.2.1 = some .int := by assumption
    cases ho; rw [e1] at hr; intro H locs ls hR hS hV hz; exact W.iret X.2.1 X.2.2.1 hr (ev_fin hK hB hR hS) hS.2.2 hd hlocks
  · have e1 : r.2.2.2.2.1 = some .boolean := by assumption
    split at ho
    · next hv =>
      cases ho; rw [e1] at hr; intro H locs ls hR hS hV hz
      exact W.zret X.2.1 X.2.2.1 hr (by rcases hv with rfl | rfl <;> rfl) (ev_fin hK hB hR hS) hS.2.2 hd hlocks
    · cases ho
  · have e1 : r.2.2.2.2.1 = some .long := by assumption
    cases ho; rw [e1] at hr; intro H locs ls hR hS hV hz; exact W.lret X.2.1 X.2.2.1 hr (ev_fin hK hB hR hS) hS.2.2 hd hlocks
  · have e1 : r.2.2.2.2.1 = some .double := by assumption
    cases ho; rw [e1] at hr; intro H locs ls hR hS hV hz; exact W.dret X.2.1 X.2.2.1 hr (ev_fin hK hB hR hS) hS.2.2 hd hlocks
  · obtain ⟨C, e1⟩ : ∃ C, r.2.2.2.2.1 = some (.object C) := ⟨_, by assumption⟩
    cases ho; rw [e1] at hr; intro H locs ls hR hS hV hz; exact W.aret X.2.1 X.2.2.1 hr (Or.inl ⟨_, rfl⟩) (Or.inr ⟨_, rfl⟩) (ev_fin hK hB hR hS) hS.2.2 hd hlocks
  · obtain ⟨C, e1⟩ : ∃ C, r.2.2.2.2.1 = some (.object C) := ⟨_, by assumption⟩
    cases ho; rw [e1] at hr; intro H locs ls hR hS hV hz; exact W.aret X.2.1 X.2.2.1 hr (Or.inl ⟨_, rfl⟩) (Or.inl rfl) (ev_fin hK hB hR hS) hS.2.2 hd hlocks
  · have e1 : r.2.2.2.2.1 = none := by assumption
    cases ho; rw [e1] at hr; intro H locs ls hR hS hV hz; exact W.vret X.2.1 X.2.2.1 hr (ev_fin hK hB hR hS) hS.2.2 hd hlocks
  · cases ho
end EVR
/-- what a run says of the machine, at a fuel -/
def ev_WR (l : Launch) (D : va_G) (B n : Nat) : Prop := ∀ (p : Program) (e : Env) (R : Room) (s : State) (m : MethodId) (args : Array Value) (below : List Frame) (meth : Method) (c : Code) (n0 n1 k : Nat) (r : ev_ME) (Q : State → Prop) (x : ev_C) (v : Option Value) (σ' : ev_H), ev_Cx D B k r p R s m args meth c → ev_run n k x = some (v, σ') → ev_q R n0 n1 x.1 σ' →
  (∀ (y : ev_C) (d : Drawn), s.drawn.sameBut d lw_cs → ev_act k y = some (.inr (.inr v)) → y.1 = σ' → ev_W p l e R (s.setDrawn d) m args below meth c D B n0 n1 Q y) → ev_W p l e R s m args below meth c D B n0 n1 Q x
theorem ev_toMet {l : Launch} {D : va_G} {B n k : Nat} {r : ev_ME} {as : List Value} {σ σ' : ev_H} {v : Option Value} (ih : ev_WR l D B n) (hr : ev_my k = some r) (hk : k < 174) (hl : (ev_sl as).length ≤ r.2.2.2.1) (hrun : ev_run n k (σ, 0, ev_ent r.2.2.2.1 as, []) = some (v, σ')) : ev_Met l D B r as σ v σ' := by
  have hg := ev_g_run _ _ _ _ _ hrun
  obtain ⟨c1, c2, c3, c4⟩ := ev_ckM_inv hr hk
  unfold ev_Met
  refine MetFree.of_bodySF (code := r.2.2.1) (maxLocals := r.2.2.2.1) (ret := r.2.2.2.2.1) c2 ?_ ?_
  · intro args s m h hn
    obtain ⟨meth, c, h1, h2, h3, h4, h5, h6, -, -⟩ := Cond.code_spec hn (atoms_spec (ws := ev_cw r :: ev_G) h _ List.mem_cons_self)
    exact ⟨meth, c, h1, h2, h3, h4, h5, h6⟩
  · intro p e s m args below meth c s₁ Bd hml hP _
    obtain ⟨rfl, hR, hK, hB⟩ := hP
    have hh0 : s₁.heap = s.heap := by rw [Bd.state]; rfl
    have hts := atoms_spec (ws := ev_cw r :: ev_G) Bd.pre
    have hown : s.vm.findClass (ev_own r.1) = some m.cls := by rw [← c1]; exact findClass_of_methodNamed Bd.named
    have X : ev_Cx D B k r p (headSpec (ev_cw r :: ev_G) (ev_rm r σ σ')).room s m as.toArray meth c := ⟨hr, Bd.exec, Bd.bytes, hown, fun w hw => hts w (List.mem_cons_of_mem _ hw), hK, Nat.le_refl _, Nat.le_refl _, fun h => (name_of_methodNamed Bd.named Bd.method).1.trans h, hB⟩
    have K := ih p e _ s m as.toArray below meth c σ.1 σ.2.1 k r (MQD lw_cs below (ev_Qc D B v σ') as.toArray s (σ'.1 - σ.1) (σ'.2.1 - σ.2.1) (fun q : Nat => B ≤ q)) _ v σ' X hrun ⟨Nat.le_refl _, Nat.le_refl _, Nat.le_refl _, Nat.le_refl _⟩ (fun y d hd hy hy2 H locs ls a1 a2 a3 a4 T hT Y => by
      obtain ⟨t, b1, b2⟩ := ev_retW (l := l) (e := e) (below := below) (n0 := σ.1) (n1 := σ.2.1) (X.drew d) Bd.returns Bd.notSynchronized hy hy2 H locs ls a1 a2 a3 a4 T hT Y
      exact ⟨t, b1, d, hd, b2⟩)
    have hV := ev_V.ent hl
    have K2 := K s.heap [] _ hR va_S.rf hV (by rw [hml, hV.1]; simp [ev_ent]; omega)
    dsimp only at K2
    rw [Nat.sub_self, Nat.sub_self, ← lg_entry_eq] at K2
    obtain ⟨t, a1, d, hd, o, b1, b2, b3, b4⟩ := K2 s₁ hh0 (Stand.of_body Bd)
    exact ⟨t, o, a1, b1, b2, d, hd, b3, b4⟩
theorem ev_wr (l : Launch) (D : va_G) (B : Nat) : ∀ n, ev_WR l D B n
  | 0 => by intro p e R s m args below meth c n0 n1 k r Q x v σ' X h; cases h
  | n + 1 => by
    intro p e R s m args below meth c n0 n1 k r Q x v σ' X h hq hret
    have ih := ev_wr l D B n
    have h0 := h
    simp only [ev_run] at h
    split at h
    · cases h
    · next c' hc =>
      have hg := ev_g_run _ _ _ _ _ h
      have hg2 : ev_gr x.1 c'.1 := by
        obtain ⟨i, n, hd, hl, ho⟩ := ev_act_inv X.1 hc
        exact ev_g_op ho
      exact ev_step X hc ⟨hq.1, hq.2.1, Nat.le_trans (Nat.sub_le_sub_right hg.1 _) hq.2.2.1, Nat.le_trans (Nat.sub_le_sub_right hg.2 _) hq.2.2.2⟩ (fun d hd => ih p e R (s.setDrawn d) m args below meth c n0 n1 k r Q c' v σ' (X.drew d) h ⟨Nat.le_trans hq.1 hg2.1, Nat.le_trans hq.2.1 hg2.2, hq.2.2.1, hq.2.2.2⟩ (fun y d2 h2 => hret y d2 (Drawn.sameBut.trans hd h2)))
    · next q hc =>
      split at h
      · cases h
      · next z hz =>
        have hg := ev_g_run _ _ _ _ _ h
        have hg2 := ev_g_run _ _ _ z.1 z.2 hz
        have kk := fun (d : Drawn) (hd : s.drawn.sameBut d lw_cs) => ih p e R (s.setDrawn d) m args below meth c n0 n1 k r Q _ v σ' (X.drew d) h ⟨Nat.le_trans hq.1 hg2.1, Nat.le_trans hq.2.1 hg2.2, hq.2.2.1, hq.2.2.2⟩ (fun y d2 h2 => hret y d2 (Drawn.sameBut.trans hd h2))
        have hq2 : ev_q R n0 n1 x.1 z.2 := ⟨hq.1, hq.2.1, Nat.le_trans (Nat.sub_le_sub_right hg.1 _) hq.2.2.1, Nat.le_trans (Nat.sub_le_sub_right hg.2 _) hq.2.2.2⟩
        have hM : ∀ r', ev_my q.1 = some r' → q.1 < 174 → (ev_sl q.2.1).length ≤ r'.2.2.2.1 → ev_Met l D B r' q.2.1 x.1 z.1 z.2 := by
          intro r' e1 e2 e3
          refine ev_toMet ih e1 e2 e3 ?_
          have e4 : ev_ml q.1 = r'.2.2.2.1 := by unfold ev_ml; rw [e1]
          rw [e4] at hz
          exact hz
        obtain ⟨i, n', hd, hl, ho⟩ := ev_act_inv X.1 hc
        obtain ⟨σ, pc, L, st⟩ := x
        dsimp only at hd ho hq2 hM hg2
        rcases ev_op_call ho with ⟨y, rfl, ho2⟩ | ⟨y, rfl, ho2⟩ | ⟨y, rfl, ho2⟩
        · obtain rfl : n' = 3 := hl.resolve_left (fun z => by cases z)
          exact ev_c_static X hd ho2 hM hq2 hg2 kk
        · obtain rfl : n' = 3 := hl.resolve_left (fun z => by cases z)
          exact ev_c_spec X hd ho2 hM hq2 hg2 kk
        · obtain rfl : n' = 3 := hl.resolve_left (fun z => by cases z)
          exact ev_c_virt X hd ho2 hM hq2 hg2 kk
    · next u hc =>
      cases h
      exact hret x s.drawn (Drawn.sameBut.refl _ _) hc rfl
