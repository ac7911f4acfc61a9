-- the machine's heap and the evaluator's picture of it
def ev_rl (D : va_G) (s : State) (a : Nat) (e : ev_E) (H : Heap) : Prop := match e with
  | .inl x => ∃ cA : ClassId, H[a]? = some (vp_cell cA x.2) ∧ ArrOfT s cA x.1 ∧ va_RA s cA x.1
  | .inr (.inl o) => va_at D vwCl (a, .inr o) H
  | .inr (.inr x) => va_X a x.1 x.2 s H
def ev_scr (e : ev_E) : Prop := ∃ x, e = .inr (.inr x)
def ev_R (D : va_G) (B : Nat) (s : State) (σ : ev_H) (H : Heap) : Prop := H.size = σ.1 ∧ B ≤ σ.1 ∧ ∀ a e, σ.2.2 a = some e → ev_rl D s a e H ∧ (B ≤ a ∨ ev_scr e)
theorem ev_rl.lt {D : va_G} {s : State} {a : Nat} {e : ev_E} {H : Heap} (h : ev_rl D s a e H) : a < H.size := by
  match e, h with
  | .inl x, ⟨cA, h, _⟩ => exact (Array.getElem?_eq_some_iff.mp h).1
  | .inr (.inl o), h => exact va_at.lt (q := (a, .inr o)) h
  | .inr (.inr x), ⟨scr, h, _⟩ => exact (Array.getElem?_eq_some_iff.mp h).1
theorem ev_rl.kept {D : va_G} {s : State} {a : Nat} {e : ev_E} {H H1 : Heap} (h : ev_rl D s a e H) (hq : H1[a]? = H[a]?) : ev_rl D s a e H1 := by
  match e, h with
  | .inl x, ⟨cA, h, h2⟩ => exact ⟨cA, hq.trans h, h2⟩
  | .inr (.inl o), h => exact va_at.kept (q := (a, .inr o)) h hq
  | .inr (.inr x), h => exact va_X.kept h hq
theorem ev_rl.moved {D : va_G} {s U : State} {a : Nat} {e : ev_E} {H : Heap} (hvm : s.vm.Alike U.vm) (h : ev_rl D s a e H) : ev_rl D U a e H := by
  match e, h with
  | .inl x, ⟨cA, h, h2, h3⟩ => exact ⟨cA, h, arrOfT_moved hvm h2, h3.moved hvm⟩
  | .inr (.inl o), h => exact h
  | .inr (.inr x), h => exact va_X.moved hvm h
theorem ev_R.moved {D : va_G} {B : Nat} {s U : State} {σ : ev_H} {H : Heap} (hvm : s.vm.Alike U.vm) (h : ev_R D B s σ H) : ev_R D B U σ H := ⟨h.1, h.2.1, fun a e he => ⟨(h.2.2 a e he).1.moved hvm, (h.2.2 a e he).2⟩⟩
theorem ev_R.up {D : va_G} {B : Nat} {s : State} {σ : ev_H} {H H1 : Heap} {a : Nat} {e0 e : ev_E} (h : ev_R D B s σ H) (h0 : σ.2.2 a = some e0) (hn : ¬ ev_scr e0) (hz : H1.size = H.size) (ho : ∀ q, q ≠ a → H1[q]? = H[q]?) (he : ev_rl D s a e H1) : ev_R D B s (ev_up σ a e) H1 := by
  refine ⟨hz.trans h.1, h.2.1, fun q x hx => ?_⟩
  by_cases hq : q = a
  · subst hq
    simp only [ev_up, if_true] at hx
    cases hx
    exact ⟨he, Or.inl ((h.2.2 _ _ h0).2.resolve_right hn)⟩
  · simp only [ev_up, hq, if_false] at hx
    exact ⟨(h.2.2 q x hx).1.kept (ho q hq), (h.2.2 q x hx).2⟩
theorem ev_R.base {D : va_G} {B : Nat} {s : State} {σ : ev_H} {H : Heap} {a : Nat} {e0 : ev_E} (h : ev_R D B s σ H) (h0 : σ.2.2 a = some e0) (hn : ¬ ev_scr e0) : B ≤ a := (h.2.2 _ _ h0).2.resolve_right hn
theorem ev_R.new {D : va_G} {B : Nat} {s : State} {σ : ev_H} {H H1 : Heap} {n : Nat} {e : ev_E} (h : ev_R D B s σ H) (hz : H1.size = H.size + 1) (ho : ∀ q, q < H.size → H1[q]? = H[q]?) (he : ev_rl D s H.size e H1) : ev_R D B s (ev_new σ n e) H1 := by
  refine ⟨by rw [hz, h.1]; rfl, Nat.le_succ_of_le h.2.1, fun q x hx => ?_⟩
  by_cases hq : q = σ.1
  · subst hq
    simp only [ev_new, if_true] at hx
    cases hx
    exact ⟨by rw [← h.1]; exact he, Or.inl h.2.1⟩
  · simp only [ev_new, hq, if_false] at hx
    have hl := (h.2.2 q x hx).1
    exact ⟨hl.kept (ho q hl.lt), (h.2.2 q x hx).2⟩
theorem ev_S.put {B : Nat} {H0 H H1 : Heap} {locs : List Loc} {a k : Nat} (h : va_S (fun q : Nat => B ≤ q) H0 H locs) (z : H1.size = H.size) (oq : ∀ q : Nat, q ≠ a → H1[q]? = H[q]?) (ha : B ≤ a) : va_S (fun q : Nat => B ≤ q) H0 H1 (locs ++ [⟨a, k⟩]) := va_S.put h z oq ha
theorem ev_S.new {B : Nat} {H0 H H1 : Heap} {locs : List Loc} (h : va_S (fun q : Nat => B ≤ q) H0 H locs) (z : H1.size = H.size + 1) (oq : ∀ q : Nat, q < H.size → H1[q]? = H[q]?) : va_S (fun q : Nat => B ≤ q) H0 H1 locs := ⟨Nat.le_trans h.1 (by omega), fun x h1 h2 => (oq x (Nat.lt_of_lt_of_le h1 h.1)).trans (h.2.1 x h1 h2), h.2.2⟩
-- what is known of the tables in every state
def ev_x (w : Cond) : Bool := match w with
  | .methodLinkNest .. => true
  | .declares _ => true
  | .castable _ _ => true
  | _ => false
theorem ev_x_tab {w : Cond} (h : ev_x w = true) : w.onTables = true := by
  cases w <;> first | rfl | (simp [ev_x] at h; done)
theorem ev_x_warm {w : Cond} (h : ev_x w = true) {s U : State} (hW : s.WarmedH U.vm) (hZ : va_Nw w s) : va_Nw w U := by
  cases w <;> first | exact va_Nw.warmM hW hZ | exact va_Nw.warmD hW hZ | exact va_Nw.warmC hW hZ | (simp [ev_x] at h; done)
def ev_K (D : va_G) (s : State) : Prop := va_K D vwCl [] s ∧ (∀ w ∈ lw_tbl, ev_x w = true → va_Nw w s) ∧ (∀ C, Cond.arrayOver (.object C) ∈ lw_tbl → va_AO C s) ∧ ∀ q ∈ ev_nc, va_Nc q.1 q.2 s
theorem ev_K.warm {D : va_G} {s U : State} (hW : s.WarmedH U.vm) (h : ev_K D s) : ev_K D U := ⟨va_K.moved hW.alike h.1, fun w hw hx => ev_x_warm hx hW (h.2.1 w hw hx), fun C hC => (h.2.2.1 C hC).moved hW.alike, fun q hq => (h.2.2.2 q hq).moved hW.alike⟩
theorem ev_K.same {D : va_G} {s U : State} (hv : s.vm = U.vm) (h : ev_K D s) : ev_K D U := by
  have ha : s.vm.Alike U.vm := by rw [hv]; exact Vm.Alike.refl U.vm
  exact ⟨va_K.moved ha h.1, fun w hw hx => va_Nw.same (ev_x_tab hx) hv (h.2.1 w hw hx), fun C hC => (h.2.2.1 C hC).moved ha, fun q hq => (h.2.2.2 q hq).moved ha⟩
-- locals
def ev_V (ls : Array Slot) (L : ev_L) : Prop := ls.size = L.length ∧ lv_wf ls ∧ ∀ (i : Nat) (v : Value), L[i]? = some (some v) → ls[i]? = some (Slot.val v)
def ev_as (L : ev_L) : List (Nat × Value) := (List.range L.length).filterMap (fun i => match L[i]? with
  | some (some v) => some (i, v)
  | _ => none)
theorem ev_as_mem {L : ev_L} {q : Nat × Value} : q ∈ ev_as L ↔ L[q.1]? = some (some q.2) := by
  obtain ⟨i, v⟩ := q
  simp only [ev_as, List.mem_filterMap, List.mem_range]
  constructor
  · rintro ⟨j, hj, h⟩
    split at h
    · next w hw => cases h; exact hw
    · cases h
  · intro h
    refine ⟨i, (List.getElem?_eq_some_iff.mp h).1, ?_⟩
    rw [h]
theorem ev_V.has {ls : Array Slot} {L : ev_L} (h : ev_V ls L) : lv_has ls ls.size (ev_as L) := ⟨rfl, h.2.1, fun q hq => h.2.2 q.1 q.2 (ev_as_mem.mp hq)⟩
theorem ev_V.get {ls : Array Slot} {L : ev_L} (h : ev_V ls L) {i : Nat} {v : Value} (hi : ev_lg L i = some v) : ls[i]? = some (.val v) := by
  refine h.2.2 i v ?_
  unfold ev_lg at hi
  split at hi
  · next w hw => cases hi; exact hw
  · cases hi
theorem ev_kill_get {L : ev_L} {i j : Nat} {w : Value} (h : (ev_kill L i)[j]? = some (some w)) : L[j]? = some (some w) ∧ ¬ (j + 1 = i ∧ w.category = 2) := by
  cases i with
  | zero => exact ⟨h, fun q => by omega⟩
  | succ i =>
    simp only [ev_kill] at h
    split at h
    · next x hx =>
      split at h
      · next hc =>
        rw [List.getElem?_set] at h
        by_cases hj : i = j
        · subst hj
          rw [if_pos rfl] at h
          split at h <;> cases h
        · rw [if_neg hj] at h
          exact ⟨h, fun q => hj (by omega)⟩
      · next hc =>
        refine ⟨h, fun q => ?_⟩
        have e : j = i := by omega
        subst e
        rw [hx] at h
        cases h
        exact hc q.2
    · next hx =>
      refine ⟨h, fun q => ?_⟩
      have e : j = i := by omega
      subst e
      exact hx _ h
theorem ev_kill_len (L : ev_L) (i : Nat) : (ev_kill L i).length = L.length := by
  cases i with
  | zero => rfl
  | succ i =>
    simp only [ev_kill]
    split
    · split
      · simp
      · rfl
    · rfl
theorem ev_V.s1 {ls ls' : Array Slot} {L : ev_L} {i n : Nat} {v : Value} (h : ev_V ls L) (hn : n = ls.size) (h' : lv_has ls' n ((i, v) :: (ev_as L).filter (fun q => !(q.1 == i) && !(q.1 + 1 == i && q.2.category == 2)))) : ev_V ls' (ev_s1 L i v) := by
  refine ⟨?_, h'.2.1, fun j w hj => ?_⟩
  · rw [h'.1, hn, h.1]
    simp [ev_s1, ev_kill_len]
  · unfold ev_s1 at hj
    rw [List.getElem?_set] at hj
    by_cases e : i = j
    · subst e
      rw [if_pos rfl] at hj
      split at hj
      · cases hj; exact h'.2.2 (i, v) List.mem_cons_self
      · cases hj
    · rw [if_neg e] at hj
      obtain ⟨h1, h2⟩ := ev_kill_get hj
      refine h'.2.2 (j, w) (List.mem_cons_of_mem _ (List.mem_filter.mpr ⟨ev_as_mem.mpr h1, ?_⟩))
      simp only [Bool.and_eq_true, Bool.not_eq_true', beq_eq_false_iff_ne, Bool.and_eq_false_iff]
      refine ⟨fun q => e q.symm, ?_⟩
      by_cases q : j + 1 = i
      · exact Or.inr (fun z => h2 ⟨q, z⟩)
      · exact Or.inl q
theorem ev_V.s2 {ls ls' : Array Slot} {L : ev_L} {i n : Nat} {v : Value} (h : ev_V ls L) (hn : n = ls.size) (h' : lv_has ls' n ((i, v) :: (ev_as L).filter (fun q => !(q.1 == i) && (!(q.1 == i + 1) && !(q.1 + 1 == i && q.2.category == 2))))) : ev_V ls' (ev_s2 L i v) := by
  refine ⟨?_, h'.2.1, fun j w hj => ?_⟩
  · rw [h'.1, hn, h.1]
    simp [ev_s2, ev_kill_len]
  · unfold ev_s2 at hj
    rw [List.getElem?_set] at hj
    by_cases e1 : i + 1 = j
    · subst e1
      rw [if_pos rfl] at hj
      split at hj <;> cases hj
    · rw [if_neg e1] at hj
      rw [List.getElem?_set] at hj
      by_cases e : i = j
      · subst e
        rw [if_pos rfl] at hj
        split at hj
        · cases hj; exact h'.2.2 (i, v) List.mem_cons_self
        · cases hj
      · rw [if_neg e] at hj
        obtain ⟨h1, h2⟩ := ev_kill_get hj
        refine h'.2.2 (j, w) (List.mem_cons_of_mem _ (List.mem_filter.mpr ⟨ev_as_mem.mpr h1, ?_⟩))
        simp only [Bool.and_eq_true, Bool.not_eq_true', beq_eq_false_iff_ne, Bool.and_eq_false_iff]
        refine ⟨fun q => e q.symm, fun q => e1 q.symm, ?_⟩
        by_cases q : j + 1 = i
        · exact Or.inr (fun z => h2 ⟨q, z⟩)
        · exact Or.inl q
theorem ev_sl_len (vs : List Value) : (ev_sl vs).length = (lg_sl vs).length := by
  induction vs with
  | nil => rfl
  | cons v r ih =>
    unfold ev_sl
    by_cases h : v.category = 2
    · rw [if_pos h]; simp [lg_sl, h] at ih ⊢; exact ih
    · rw [if_neg h]; simp [lg_sl, h] at ih ⊢; exact ih
theorem ev_sl_args (vs : List Value) : ∀ (o i : Nat) (v : Value), (ev_sl vs)[i]? = some (some v) → (o + i, v) ∈ lv_args o vs := by
  induction vs with
  | nil => intro o i v h; simp [ev_sl] at h
  | cons u r ih =>
    intro o i v h
    unfold ev_sl at h
    by_cases hc : u.category = 2
    · rw [if_pos hc] at h
      simp only [lv_args, hc]
      match i, h with
      | 0, h => cases h; exact List.mem_cons_self
      | 1, h => cases h
      | i + 2, h =>
        refine List.mem_cons_of_mem _ ?_
        have := ih (o + 2) i v h
        rwa [show o + (i + 2) = o + 2 + i by omega]
    · rw [if_neg hc] at h
      simp only [lv_args, (lv_cat u).resolve_right hc]
      match i, h with
      | 0, h => cases h; exact List.mem_cons_self
      | i + 1, h =>
        refine List.mem_cons_of_mem _ ?_
        have := ih (o + 1) i v h
        rwa [show o + (i + 1) = o + 1 + i by omega]
theorem ev_V.ent {vs : List Value} {n : Nat} (h : (ev_sl vs).length ≤ n) : ev_V ((lg_sl vs ++ List.replicate (n - (lg_sl vs).length) Slot.unset).toArray) (ev_ent n vs) := by
  have hl := lv_entry vs (n := n) (by rw [← ev_sl_len]; exact h)
  refine ⟨?_, hl.2.1, fun i v hi => ?_⟩
  · rw [hl.1]
    simp [ev_ent]
    omega
  · unfold ev_ent at hi
    rcases Nat.lt_or_ge i (ev_sl vs).length with q | q
    · rw [List.getElem?_append_left q] at hi
      have := ev_sl_args vs 0 i v hi
      rw [Nat.zero_add] at this
      exact hl.2.2 (i, v) this
    · rw [List.getElem?_append_right q, List.getElem?_replicate] at hi
      split at hi <;> cases hi
theorem ev_sw_eq (st : List Value) : (st.map fun v => v.category).sum = ev_sw st := by
  induction st with
  | nil => rfl
  | cons v r ih => simp [ev_sw, ih]
