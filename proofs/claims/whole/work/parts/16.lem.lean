-- more lemmas for single instructions
def ev_c1 (x : Option Value) : Bool := match x with
  | some w => !(w.category == 2)
  | none => true
theorem ev_isR_c {v : Value} (h : ev_isR v = true) : v.category = 1 := by cases v <;> first | rfl | cases h
theorem ev_kill_c {L : ev_L} {i : Nat} {x : Option Value} (hc : ev_c1 x = true) (hl : L[i]? = some x) : ev_kill L (i + 1) = L := by
  simp only [ev_kill, hl]
  cases x with
  | none => rfl
  | some w =>
    simp only [ev_c1, Bool.not_eq_true', beq_eq_false_iff_ne] at hc
    simp only [if_neg hc]
theorem ev_s1_c {L L' : ev_L} {i : Nat} {x : Option Value} {v : Value} (hc : ev_c1 x = true) (hl : L[i]? = some x) (he : L.set (i + 1) (some v) = L') : ev_s1 L (i + 1) v = L' := by
  unfold ev_s1
  rw [ev_kill_c hc hl]
  exact he
theorem ev_s2_c {L L' : ev_L} {i : Nat} {x : Option Value} {v : Value} (hc : ev_c1 x = true) (hl : L[i]? = some x) (he : (L.set (i + 1) (some v)).set (i + 2) none = L') : ev_s2 L (i + 1) v = L' := by
  unfold ev_s2
  rw [ev_kill_c hc hl]
  exact he
theorem cat_i (x : Int32) : (Value.int x).category = 1 := rfl
theorem cat_j (x : Int64) : (Value.long x).category = 2 := rfl
theorem cat_f (x : UInt32) : (Value.float x).category = 1 := rfl
theorem cat_d (x : UInt64) : (Value.double x).category = 2 := rfl
theorem cat_r (x : Nat) : (Value.ref x).category = 1 := rfl
/-- the type of a field that a method may write -/
def ev_pokS (k own ci kf : Nat) : Option FieldType := match ev_my k, vwCl[ci]?, ev_vt[ci]? with
  | some r, some w, some t => if ((w.2.1 kf).2.2.2 == false || (r.2.1.name == "<init>" && w.1 == ev_own own)) = true then some (t kf) else none
  | _, _, _ => none
theorem ev_pok_of {k own ci kf : Nat} {ty : FieldType} {v : Value} (h : ev_pokS k own ci kf = some ty) (hn : narrow ty v = v) (hf : fits ty v = true) : ev_pok k own ci kf v = true := by
  unfold ev_pokS at h
  unfold ev_pok
  split at h
  · next r w t e1 e2 e3 =>
    split at h
    · next hp => cases h; simp only [e1, e2, e3, hp, hf, decide_eq_true hn]; rfl
    · cases h
  · cases h
theorem ev_pok_i {k own ci kf : Nat} {x : Int32} (h : ev_pokS k own ci kf = some .int) : ev_pok k own ci kf (.int x) = true := ev_pok_of h rfl rfl
theorem ev_pok_j {k own ci kf : Nat} {x : Int64} (h : ev_pokS k own ci kf = some .long) : ev_pok k own ci kf (.long x) = true := ev_pok_of h rfl rfl
theorem ev_pok_z {k own ci kf : Nat} {x : Int32} (h : ev_pokS k own ci kf = some .boolean) (hx : x = 0 ∨ x = 1) : ev_pok k own ci kf (.int x) = true := by rcases hx with rfl | rfl <;> exact ev_pok_of h rfl rfl
def ev_isT (t : Option FieldType) : Bool := match t with
  | some (.object _) => true
  | some (.array _) => true
  | _ => false
theorem ev_pok_r {k own ci kf : Nat} {x : Nat} (h : ev_isT (ev_pokS k own ci kf) = true) : ev_pok k own ci kf (.ref x) = true := by
  cases hs : ev_pokS k own ci kf with
  | none => rw [hs] at h; cases h
  | some ty =>
    rw [hs] at h
    cases ty <;> first | exact ev_pok_of hs rfl rfl | cases h
section RM
variable {k pc o : Nat} {σ : ev_H} {L L' : ev_L} {st : List Value}
theorem r_so1 {i : Instr} {f : Value → Bool} {j n : Nat} {v : Value} (h : ev_ins k pc = some (o, i)) (hz : ev_op k o i σ pc L (v :: st) = ev_so1 f j n σ pc L (v :: st)) (hv : f v = true) (hj : j < L.length) (hL : ev_s1 L j v = L') : RUN k (σ, pc, L, v :: st) = RUN k (σ, pc + n, L', st) := r_n h (by rw [hz]; unfold ev_so1; dsimp only; rw [if_pos ⟨hv, hj⟩, hL]; rfl)
theorem r_so2 {i : Instr} {f : Value → Bool} {j n : Nat} {v : Value} (h : ev_ins k pc = some (o, i)) (hz : ev_op k o i σ pc L (v :: st) = ev_so2 f j n σ pc L (v :: st)) (hv : f v = true) (hj : j + 1 < L.length) (hL : ev_s2 L j v = L') : RUN k (σ, pc, L, v :: st) = RUN k (σ, pc + n, L', st) := r_n h (by rw [hz]; unfold ev_so2; dsimp only; rw [if_pos ⟨hv, hj⟩, hL]; rfl)
theorem r_iinc {j : Nat} {c : Int} {v w : Int32} (h : ev_ins k pc = some (o, .iinc j c)) (hg : ev_lg L j = some (.int v)) (hw : Int32.ofInt c = w) (hj : j < L.length) (hL : ev_s1 L j (.int (v + w)) = L') : RUN k (σ, pc, L, st) = RUN k (σ, pc + 3, L', st) := r_n h (by simp only [ev_op, hg, if_pos hj, hw, hL]; rfl)
theorem r_ldc {x p : Nat} {v : Int32} (h : ev_ins k pc = some (o, .ldc x)) (ht : ev_t2 ev_tI o x = some (v, p)) : RUN k (σ, pc, L, st) = RUN k (σ, pc + 2, L, .int v :: st) := r_n h (by simp only [ev_op, ht]; rfl)
theorem r_ldc2 {x p : Nat} {v : Int64} (h : ev_ins k pc = some (o, .ldc2_w x)) (ht : ev_t2 ev_tL o x = some (v, p)) : RUN k (σ, pc, L, st) = RUN k (σ, pc + 3, L, .long v :: st) := r_n h (by simp only [ev_op, ht]; rfl)
theorem r_ldc2d {x p : Nat} {v : UInt64} (h : ev_ins k pc = some (o, .ldc2_w x)) (h0 : ev_t2 ev_tL o x = none) (ht : ev_t2 ev_tD o x = some (v, p)) : RUN k (σ, pc, L, st) = RUN k (σ, pc + 3, L, .double v :: st) := r_n h (by simp only [ev_op, h0, ht]; rfl)
theorem r_nat {x p n : Nat} {c' : ev_C} (h : ev_ins k pc = some (o, .invokestatic x)) (ht : ev_t2 ev_tT o x = some (n, p)) (hz : ev_natv k n σ pc L st = some (.inl c')) : RUN k (σ, pc, L, st) = RUN k c' := r_n h (by show ev_static k o x σ pc L st = _; unfold ev_static; rw [ht]; exact hz)
theorem r_cpy {x p a b : Nat} {sp dp n : Int32} (h : ev_ins k pc = some (o, .invokestatic x)) (ht : ev_t2 ev_tT o x = some (1004, p)) (hr : ev_rok1 k 18 = true) (hs : ev_sw st ≤ 8) : RUN k (σ, pc, L, .int n :: .int dp :: .ref b :: .int sp :: .ref a :: st) = (ev_cpy σ a sp b dp n).bind fun s' => RUN k (s', pc + 3, L, st) := by
  cases hg : ev_cpy σ a sp b dp n with
  | none => exact RUN_none (ev_actI h (by show ev_static k o x σ pc L _ = _; unfold ev_static; rw [ht]; simp only [ev_natv, if_pos (And.intro hr hs), hg]))
  | some v => exact r_n h (by show ev_static k o x σ pc L _ = _; unfold ev_static; rw [ht]; simp only [ev_natv, if_pos (And.intro hr hs), hg]; rfl)
theorem r_obj {x q a : Nat} (h : ev_ins k pc = some (o, .invokespecial x)) (ht : ev_t2 ev_tO o x = some q) (hr : ev_rok1 k 12 = true) (hs : ev_sw st ≤ 8) : RUN k (σ, pc, L, .ref a :: st) = RUN k (σ, pc + 3, L, st) := r_n h (by show ev_spec k o x σ pc L (.ref a :: st) = some (.inl (σ, pc + 3, L, st)); unfold ev_spec; rw [ht]; dsimp only; rw [if_pos ⟨hr, hs⟩]; rfl)
/-- the rows of a switch, in order -/
def ev_tsl {β : Type} (x : Int32) (F : Nat → β) (dt : Nat) : Int → List Nat → β
  | _, [] => F dt
  | lo, t :: ts => if x = Int32.ofInt lo then F t else ev_tsl x F dt (lo + 1) ts
theorem ev_toInt_ofInt {n : Int} (h1 : -2147483648 ≤ n) (h2 : n < 2147483648) : (Int32.ofInt n).toInt = n := Int32.toInt_ofInt_of_le (by simpa using h1) (by simpa using h2)
theorem ev_tsl_out {β : Type} {x : Int32} {F : Nat → β} {dt : Nat} : ∀ (ts : List Nat) (lo : Int), -2147483648 ≤ lo → lo + ts.length ≤ 2147483648 → (x.toInt < lo ∨ lo + ts.length ≤ x.toInt) → ev_tsl x F dt lo ts = F dt
  | [], _, _, _, _ => rfl
  | t :: ts, lo, h1, h2, h => by
    simp only [List.length_cons] at h2 h
    unfold ev_tsl
    rw [if_neg (fun q => by rw [q, ev_toInt_ofInt h1 (by omega)] at h; omega)]
    exact ev_tsl_out ts (lo + 1) (by omega) (by omega) (by omega)
theorem ev_tsl_in {β : Type} {x : Int32} {F : Nat → β} {dt : Nat} : ∀ (ts : List Nat) (lo : Int) (t : Nat), -2147483648 ≤ lo → lo + ts.length ≤ 2147483648 → lo ≤ x.toInt → ts[(x.toInt - lo).toNat]? = some t → ev_tsl x F dt lo ts = F t
  | [], _, _, _, _, _, h => by simp at h
  | u :: ts, lo, t, h1, h2, h3, h => by
    simp only [List.length_cons] at h2
    unfold ev_tsl
    by_cases q : x.toInt = lo
    · rw [if_pos (Int32.toInt_inj.mp (by rw [q, ev_toInt_ofInt h1 (by omega)]))]
      rw [q, Int.sub_self] at h
      cases h
      rfl
    · rw [if_neg (fun z => q (by rw [z, ev_toInt_ofInt h1 (by omega)]))]
      refine ev_tsl_in ts (lo + 1) t (by omega) (by omega) (by omega) ?_
      rw [show (x.toInt - lo).toNat = (x.toInt - (lo + 1)).toNat + 1 by omega] at h
      exact h
theorem r_tsw {d lo hi : Int} {offs : Array Int} {ts : List Nat} {dt : Nat} {x : Int32} (h : ev_ins k pc = some (o, .tableswitch d lo hi offs)) (h1 : offs.toList = ts.map (fun t : Nat => (t : Int) - pc)) (h2 : (pc : Int) + d = dt) (h3 : hi + 1 = lo + ts.length ∧ -2147483648 ≤ lo ∧ lo + ts.length ≤ 2147483648) : RUN k (σ, pc, L, .int x :: st) = ev_tsl x (fun t => RUN k (σ, t, L, st)) dt lo ts := by
  obtain ⟨h3, h4, h5⟩ := h3
  have jump : ∀ (off : Int) (t : Nat), (pc : Int) + off = t → ev_to off σ pc L st = some (.inl (σ, t, L, st)) := by
    intro off t ht
    unfold ev_to
    rw [if_pos (by omega), show ((pc : Int) + off).toNat = t by omega]
    rfl
  by_cases q : x.toInt < lo ∨ hi < x.toInt
  · rw [ev_tsl_out ts lo h4 h5 (by omega)]
    exact r_n h (by simp only [ev_op, if_pos q]; exact jump d dt h2)
  · have hlen : (x.toInt - lo).toNat < ts.length := by omega
    obtain ⟨t, ht⟩ : ∃ t, ts[(x.toInt - lo).toNat]? = some t := ⟨_, List.getElem?_eq_getElem hlen⟩
    rw [ev_tsl_in ts lo t h4 h5 (by omega) ht]
    have ho : offs[(x.toInt - lo).toNat]? = some ((t : Int) - pc) := by
      rw [← Array.getElem?_toList, h1, List.getElem?_map, ht]
      rfl
    exact r_n h (by simp only [ev_op, if_neg q, ho]; exact jump _ t (by omega))
def ev_lsl {β : Type} (x : Int32) (F : Nat → β) (dt : Nat) : List (Int × Nat) → β
  | [] => F dt
  | q :: r => if x = Int32.ofInt q.1 then F q.2 else ev_lsl x F dt r
theorem r_lsw {d : Int} {ps : Array (Int × Int)} {qs : List (Int × Nat)} {dt : Nat} {x : Int32} (h : ev_ins k pc = some (o, .lookupswitch d ps)) (h0 : (ps.toList.zip (ps.toList.drop 1)).all (fun (a, next) => a.1 < next.1) = true) (h1 : ps.toList = qs.map (fun q : Int × Nat => (q.1, (q.2 : Int) - pc))) (h2 : (pc : Int) + d = dt) (h3 : (qs.all fun q => decide (-2147483648 ≤ q.1) && decide (q.1 < 2147483648)) = true) : RUN k (σ, pc, L, .int x :: st) = ev_lsl x (fun t => RUN k (σ, t, L, st)) dt qs := by
  have jump : ∀ (off : Int) (t : Nat), (pc : Int) + off = t → ev_to off σ pc L st = some (.inl (σ, t, L, st)) := by
    intro off t ht
    unfold ev_to
    rw [if_pos (by omega), show ((pc : Int) + off).toNat = t by omega]
    rfl
  have key : ∀ qs : List (Int × Nat), (qs.all fun q => decide (-2147483648 ≤ q.1) && decide (q.1 < 2147483648)) = true → ∃ t : Nat, (pc : Int) + Op.lookupswitch.offset (qs.map (fun q : Int × Nat => (q.1, (q.2 : Int) - pc))) d x.toInt = t ∧ ev_lsl x (fun t => RUN k (σ, t, L, st)) dt qs = RUN k (σ, t, L, st) := by
    intro qs
    induction qs with
    | nil => intro _; exact ⟨dt, by simpa [Op.lookupswitch.offset] using h2, rfl⟩
    | cons q r ih =>
      intro hq
      simp only [List.all_cons, Bool.and_eq_true, decide_eq_true_eq] at hq
      by_cases hx : x = Int32.ofInt q.1
      · refine ⟨q.2, ?_, by simp only [ev_lsl, if_pos hx]⟩
        have e : x.toInt = q.1 := by rw [hx, ev_toInt_ofInt hq.1.1 hq.1.2]
        simp [Op.lookupswitch.offset, e]
        try omega
      · obtain ⟨t, h5, h6⟩ := ih hq.2
        refine ⟨t, ?_, by simp only [ev_lsl, if_neg hx]; exact h6⟩
        rw [List.map_cons, lv_osw hx (ev_toInt_ofInt hq.1.1 hq.1.2)]
        exact h5
  obtain ⟨t, h5, h6⟩ := key qs h3
  rw [h6]
  refine r_n h ?_
  simp only [ev_op, if_pos h0]
  rw [h1]
  exact jump _ t h5
end RM
