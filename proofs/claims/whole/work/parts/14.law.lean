/-! THE CLAIM OUT OF ONE WALK OF THE LAW'S BODY. Your part is whole_start (and what it stands on); all else here is the same for every law, but numbers. -/
def R_law : String := "PatchAsksLaw"
def lw_P (b : Addr) (xs : List Int32) (args : Array Value) (s : State) : Prop := args = #[.ref b] ∧ s.IntsAt b xs ∧ xs.length ≤ 3072 ∧ (Jvm.Cond.and given_1 narrow_1).before args s = true
/-- what a walk over the start with the record d0 says of its end, said of the start itself -/
theorem lw_closed {s t : State} {o : Outcome} {d0 : Drawn} {L : List Loc} {k n : Nat} (hd0 : s.drawn.sameBut d0 lw_cs) (hv : ∃ v, o = .returned v) (hW : (s.setDrawn d0).WarmedH t.vm) (hs : (s.setDrawn d0).sameButNew ({ t with vm := s.vm } : State) L k n) : State.butDraws s t lw_cs (fun t1 => Framed s o t1 L k n) := by
  have h2 : t.drawn = d0 := congrArg State.drawn hs.1
  refine ⟨⟨hv, hW, State.sameButNew.setDrawn hs s.drawn⟩, ?_, by decide⟩
  rw [h2]
  exact hd0
def lw_Q (_ : Array Value) (s : State) (o : Outcome) (t : State) : Prop := o = .returned (some (.int 1)) ∧ State.butDraws s t lw_cs (fun t1 => Framed s o t1 [] 600000 7302250)
def lw_Z (below : List Frame) (a : Array Value) (s : State) : State → Prop := fun t => ∃ o, t.status = .running ∧ Ended t below o ∧ lw_Q a s o t
/-- the law's own end, with 1 on the stack, nothing written that was there before, its room as the claim has it; d0: the record of draws at this point (at the entry s.drawn: begin with 'refine W.base ?_' and 'have hd0 := Drawn.sameBut.refl s.drawn lw_cs') -/
theorem lw_ret {p : Program} {l : Launch} {e : Env} {s : State} {m : MethodId} {below : List Frame} {meth : Method} {c : Code} {b : Nat} {d0 : Drawn} (hd0 : s.drawn.sameBut d0 lw_cs) (hx : p.tables.exec = Jvm.exec) (hb : c.code = code) (hr : meth.sig.returnType = ret) (hlocks : meth.locks = false) {pc : Nat} {H : Heap} {ls : Array Slot} (hdg : decode code pc = .ok (.ireturn, 1)) : W p l e room_1 (s.setDrawn d0) m #[Value.ref b] below meth c H [] 600000 7302250 (lw_Z below #[Value.ref b] s) (F0 m pc ls [.int 1]) := by
  intro T hT X
  obtain ⟨fs, hret, hrun, hended, hW, hframe⟩ := X.leave (v := some (.int 1)) (hlocks := hlocks) (fun h => by rw [hr] at h; cases h)
  have hmeth' : T.vm.method? m = some meth := X.method'
  refine ⟨T.setFrames fs, ?_, .returned (some (.int 1)), hrun, hended, rfl, lw_closed hd0 ⟨_, rfl⟩ hW hframe⟩
  jvm_step X.here [X.here.top, hx, hb, hdg, hmeth', hr, ret, narrow_b1]
  (try refine ⟨rfl, ?_⟩); (try refine ⟨rfl, ?_⟩)
  first | (intro acts; rw [hret _ acts rfl rfl rfl]) | rw [hret _ _ rfl rfl rfl]
  exact Steps.refl _
/-- what holds at the law's entry: the machine, the code, the tables' words (any of lw_tbl by 'hts w (by decide +kernel)'), the script of L ints xs at the cell b, what the Statement gives of the start (any of its parts by flat_of_before) -/
def lw_At (p : Program) (s : State) (m : MethodId) (meth : Method) (c : Code) (b L : Nat) (xs : Nat → Int32) : Prop :=
  p.tables.exec = Jvm.exec ∧ c.code = code ∧ meth.sig.returnType = ret ∧ c.maxLocals = 4 ∧ s.vm.findClass R_law = some m.cls ∧ (∀ w ∈ lw_tbl, w.before #[Value.ref b] s = true) ∧ va_X b L xs s s.heap ∧ b < s.heap.size ∧ meth.locks = false ∧ (Jvm.Cond.and given_1 narrow_1).before #[Value.ref b] s = true

/-- the law's start, as the evaluator has it -/
def ev_s0 (B b L : Nat) (xs : Nat → Int32) : ev_H := (B, 0, fun q => if q = b then some (.inr (.inr (L, xs))) else none)
def ev_Law (B b L : Nat) (xs : Nat → Int32) : Prop := ∃ (n : Nat) (σ' : ev_H), ev_run n 174 (ev_s0 B b L xs, 0, [some (.ref b), none, none, none], []) = some (some (.int 1), σ') ∧ σ'.1 - B ≤ 600000 ∧ σ'.2.1 ≤ 7302250
theorem ev_ret_b {k : Nat} {r : ev_ME} {i : Instr} {st : List Value} {v : Option Value} (hr : ev_my k = some r) (hb : r.2.2.2.2.1 = some .boolean) (h : ev_ret k i st = some (.inr (.inr v))) : i = .ireturn ∧ ∃ x, st = [.int x] ∧ v = some (.int x) := by
  unfold ev_ret at h
  rw [hr] at h
  dsimp only at h
  rw [hb] at h
  cases i <;> first | (cases h; done) | skip
  all_goals
    rcases st with _ | ⟨x, _ | ⟨y, st⟩⟩
    all_goals first | (cases h; done) | (cases x <;> first | (cases h; done) | skip)
  simp only at h
  split at h
  · cases h; exact ⟨rfl, _, rfl, rfl⟩
  · cases h
/-- THE LAW out of the evaluator's run -/
theorem ev_whole {p : Program} {e : Env} {s : State} {m : MethodId} {below : List Frame} {meth : Method} {c : Code} (l : Launch) {b L : Nat} {xs : Nat → Int32} (hrun : ev_Law s.heap.size b L xs) (C0 : lw_At p s m meth c b L xs) : W p l e room_1 s m #[Value.ref b] below meth c s.heap [] 0 0 (lw_Z below #[Value.ref b] s) (entryFrame m ([Value.ref b] : List Value).toArray 4) := by
  obtain ⟨hx, hb, hr, hml, hown, hts, hX, hbl, hlocks, hgv⟩ := id C0
  obtain ⟨n, σ', hrun, hc1, hc2⟩ := hrun
  have hin : ∀ {ci : Nat} {w : vw_C}, vwCl[ci]? = some w → ∀ x ∈ u_ws w.1 w.2.1 w.2.2, x ∈ lw_tbl := fun h x hx => ev_Gtbl (ev_wsIn h x hx)
  obtain ⟨c0, i0, k0⟩ := u_known (C := RX0) (T := TX0) (N := 2) (n := 2) hts (hin (ci := 0) rfl) (hts (.instantiable RX0 2) (by decide +kernel))
  obtain ⟨c1, i1, k1⟩ := u_known (C := RX1) (T := TX1) (N := 2) (n := 2) hts (hin (ci := 1) rfl) (hts (.instantiable RX1 2) (by decide +kernel))
  obtain ⟨c2, i2, k2⟩ := u_known (C := RX2) (T := TX2) (N := 3) (n := 3) hts (hin (ci := 2) rfl) (hts (.instantiable RX2 3) (by decide +kernel))
  obtain ⟨c3, i3, k3⟩ := u_known (C := RX3) (T := TX3) (N := 1) (n := 1) hts (hin (ci := 3) rfl) (hts (.instantiable RX3 1) (by decide +kernel))
  obtain ⟨c4, i4, k4⟩ := u_known (C := RX5) (T := TX5) (N := 7) (n := 7) hts (hin (ci := 4) rfl) (hts (.instantiable RX5 7) (by decide +kernel))
  obtain ⟨c5, i5, k5⟩ := u_known (C := RX6) (T := TX6) (N := 10) (n := 10) hts (hin (ci := 5) rfl) (hts (.instantiable RX6 10) (by decide +kernel))
  obtain ⟨c6, i6, k6⟩ := u_known (C := RX7) (T := TX7) (N := 29) (n := 29) hts (hin (ci := 6) rfl) (hts (.instantiable RX7 29) (by decide +kernel))
  obtain ⟨D, hKc⟩ : ∃ D : va_G, ∀ (k : Nat) (q : vw_C), vwCl[k]? = some q → u_Kn s q.1 q.2.1 q.2.2 (D.1 k) (D.2 k) := by
    refine ⟨(fun k => match k with | 0 => c0 | 1 => c1 | 2 => c2 | 3 => c3 | 4 => c4 | 5 => c5 | _ => c6, fun k => match k with | 0 => i0 | 1 => i1 | 2 => i2 | 3 => i3 | 4 => i4 | 5 => i5 | _ => i6), ?_⟩
    intro k q hq
    match k, hq with
    | 0, hq => cases hq; exact k0
    | 1, hq => cases hq; exact k1
    | 2, hq => cases hq; exact k2
    | 3, hq => cases hq; exact k3
    | 4, hq => cases hq; exact k4
    | 5, hq => cases hq; exact k5
    | 6, hq => cases hq; exact k6
    | k + 7, hq => simp [vwCl] at hq
  have hK : ev_K D s := by
    refine ⟨⟨hKc, fun k q h => by simp at h⟩, fun w hw hx => va_Nw.of (ev_x_tab hx) (hts w hw), fun C hC => va_AO.of (hts _ hC), fun q hq => ?_⟩
    have hfl := flat_of_before _ hgv
    have key : (ev_nc.all fun q => decide (Cond.not (.castable q.1 q.2) ∈ flatC (Jvm.Cond.and given_1 narrow_1))) = true := by decide +kernel
    exact va_Nc.of (hfl _ (of_decide_eq_true (List.all_eq_true.mp key q hq)))
  have hR : ev_R D s.heap.size s (ev_s0 s.heap.size b L xs) s.heap := by
    refine ⟨rfl, Nat.le_refl _, fun a e he => ?_⟩
    by_cases ha : a = b
    · subst ha
      simp only [ev_s0, if_true] at he
      cases he
      exact ⟨hX, Or.inr ⟨_, rfl⟩⟩
    · simp only [ev_s0, ha, if_false] at he
      cases he
  have X : ev_Cx D s.heap.size 174 (12, yL_law, cL_law, 4, some .boolean, 1, 7, 151, 0) p room_1 s m #[Value.ref b] meth c := ⟨rfl, hx, hb, hown, fun w hw => hts w (ev_Gtbl hw), hK, by decide, by decide, fun h => absurd h (by decide), Nat.le_refl _⟩
  have K := ev_wr l D s.heap.size n p e room_1 s m #[Value.ref b] below meth c s.heap.size 0 174 _ (lw_Z below #[Value.ref b] s) _ _ σ' X hrun ⟨Nat.le_refl _, Nat.le_refl _, hc1, hc2⟩ (fun y d hdr hy hy2 => by
    obtain ⟨i, n, hd, hl, ho⟩ := ev_act_inv X.1 hy
    obtain ⟨σ, pc, Lc, st⟩ := y
    dsimp only at hd ho hy2
    subst hy2
    obtain ⟨hi, ho⟩ := ev_op_ret (r := (12, yL_law, cL_law, 4, some .boolean, 1, 7, 151, 0)) ho
    obtain ⟨rfl, x, rfl, hx1⟩ := ev_ret_b X.1 rfl ho
    cases hx1
    intro H locs ls h1 h2 h3 h4
    obtain rfl : n = 1 := hl.resolve_left (fun z => by cases z)
    refine va_forget h2.2.2 (W.widen hc1 (show σ.2.1 - 0 ≤ 7302250 from hc2) (W.base ?_))
    exact lw_ret hdr hx hb hr hlocks hd)
  have hV := ev_V.ent (vs := [Value.ref b]) (n := 4) (show 1 ≤ 4 by decide)
  have K2 := K s.heap [] _ hR va_S.rf hV (by rw [hml, hV.1]; rfl)
  dsimp only at K2
  rw [show (ev_s0 s.heap.size b L xs).1 - s.heap.size = 0 from Nat.sub_self _, show (ev_s0 s.heap.size b L xs).2.1 - 0 = 0 from rfl, ← lg_entry_eq] at K2
  exact K2
