-- runs without fuel
theorem ev_run_mono : ∀ (n k : Nat) (x : ev_C) (z : Option Value × ev_H), ev_run n k x = some z → ev_run (n + 1) k x = some z
  | 0, _, _, _, h => by cases h
  | n + 1, k, x, z, h => by
    rw [ev_run] at h ⊢
    split at h
    · cases h
    · next c' hc => exact ev_run_mono n k c' z h
    · next q hc =>
      split at h
      · cases h
      · next y hy =>
        simp only [ev_run_mono n _ _ y hy]
        exact ev_run_mono n _ _ z h
    · exact h
theorem ev_run_le {n m k : Nat} {x : ev_C} {z : Option Value × ev_H} (h : ev_run n k x = some z) (hm : n ≤ m) : ev_run m k x = some z := by
  induction hm with
  | refl => exact h
  | step _ ih => exact ev_run_mono _ _ _ _ ih
noncomputable def RUN (k : Nat) (x : ev_C) : Option (Option Value × ev_H) := @dite _ (∃ z, ∃ n, ev_run n k x = some z) (Classical.propDecidable _) (fun h => some h.choose) (fun _ => none)
theorem RUN_iff {k : Nat} {x : ev_C} {z : Option Value × ev_H} : RUN k x = some z ↔ ∃ n, ev_run n k x = some z := by
  unfold RUN
  constructor
  · intro h
    split at h
    · next q =>
      obtain ⟨n, hn⟩ := q.choose_spec
      cases h
      exact ⟨n, hn⟩
    · cases h
  · rintro ⟨n, hn⟩
    have q : ∃ z, ∃ n, ev_run n k x = some z := ⟨z, n, hn⟩
    rw [dif_pos q]
    obtain ⟨m, hm⟩ := q.choose_spec
    have h1 := ev_run_le hn (Nat.le_max_left n m)
    have h2 := ev_run_le hm (Nat.le_max_right n m)
    exact h2.symm.trans h1
theorem RUN_ext {k k' : Nat} {x x' : ev_C} (h : ∀ z, (∃ n, ev_run n k x = some z) ↔ ∃ n, ev_run n k' x' = some z) : RUN k x = RUN k' x' := by
  refine Option.ext fun z => ?_
  rw [RUN_iff, RUN_iff]
  exact h z
theorem RUN_next {k : Nat} {x c' : ev_C} (h : ev_act k x = some (.inl c')) : RUN k x = RUN k c' := by
  refine RUN_ext fun z => ⟨fun ⟨n, hn⟩ => ?_, fun ⟨n, hn⟩ => ⟨n + 1, by simp only [ev_run, h]; exact hn⟩⟩
  match n, hn with
  | n + 1, hn => simp only [ev_run, h] at hn; exact ⟨n, hn⟩
theorem RUN_none {k : Nat} {x : ev_C} (h : ev_act k x = none) : RUN k x = none := by
  cases hz : RUN k x with
  | none => rfl
  | some z =>
    obtain ⟨n, hn⟩ := RUN_iff.mp hz
    match n, hn with
    | n + 1, hn => simp only [ev_run, h] at hn; cases hn
theorem RUN_ret {k : Nat} {x : ev_C} {v : Option Value} (h : ev_act k x = some (.inr (.inr v))) : RUN k x = some (v, x.1) := RUN_iff.mpr ⟨1, by simp only [ev_run, h]⟩
noncomputable def EV (k : Nat) (as : List Value) (σ : ev_H) : Option (Option Value × ev_H) := RUN k (σ, 0, ev_ent (ev_ml k) as, [])
theorem RUN_call {k : Nat} {x : ev_C} {k' : Nat} {as : List Value} {pc : Nat} {L : ev_L} {st : List Value} (h : ev_act k x = some (.inr (.inl (k', as, pc, L, st)))) : RUN k x = (EV k' as x.1).bind fun z => RUN k (z.2, pc, L, z.1.toList ++ st) := by
  refine Option.ext fun z => ?_
  rw [RUN_iff, Option.bind_eq_some_iff]
  constructor
  · rintro ⟨n, hn⟩
    match n, hn with
    | n + 1, hn =>
      simp only [ev_run, h] at hn
      split at hn
      · cases hn
      · next y hy => exact ⟨y, RUN_iff.mpr ⟨n, hy⟩, RUN_iff.mpr ⟨n, hn⟩⟩
  · rintro ⟨y, hy, hz⟩
    obtain ⟨n, hn⟩ := RUN_iff.mp hy
    obtain ⟨m, hm⟩ := RUN_iff.mp hz
    refine ⟨max n m + 1, ?_⟩
    simp only [ev_run, h, ev_run_le hn (Nat.le_max_left n m)]
    exact ev_run_le hm (Nat.le_max_right n m)
-- one lemma an instruction
theorem ev_actI {k pc o : Nat} {i : Instr} {σ : ev_H} {L : ev_L} {st : List Value} {z : ev_A} (h : ev_ins k pc = some (o, i)) (hz : ev_op k o i σ pc L st = z) : ev_act k (σ, pc, L, st) = z := by
  unfold ev_act
  rw [h]
  exact hz
section RL
variable {k pc o : Nat} {σ : ev_H} {L : ev_L} {st : List Value}
theorem r_n {i : Instr} {c' : ev_C} (h : ev_ins k pc = some (o, i)) (hz : ev_op k o i σ pc L st = some (.inl c')) : RUN k (σ, pc, L, st) = RUN k c' := RUN_next (ev_actI h hz)
theorem r_ld {i : Instr} {n : Nat} {f : Value → Bool} {j : Nat} {v : Value} (h : ev_ins k pc = some (o, i)) (hz : ev_op k o i σ pc L st = ev_ld f j n σ pc L st) (hv : ev_lg L j = some v) (hf : f v = true) : RUN k (σ, pc, L, st) = RUN k (σ, pc + n, L, v :: st) := r_n h (by rw [hz]; unfold ev_ld; rw [hv]; dsimp only; rw [if_pos hf]; rfl)
theorem r_if {i : Instr} {P : Prop} (hP : Decidable P) {b : Bool} {off : Int} {t : Nat} {st' : List Value} (h : ev_ins k pc = some (o, i)) (hz : ev_op k o i σ pc L st = ev_br b off σ pc L st') (hb : b = decide P) (ht : (pc : Int) + off = (t : Int)) : RUN k (σ, pc, L, st) = if P then RUN k (σ, t, L, st') else RUN k (σ, pc + 3, L, st') := by
  subst hb
  have h0 : 0 ≤ (pc : Int) + off := by omega
  have h1 : ((pc : Int) + off).toNat = t := by omega
  unfold ev_br at hz
  rw [if_pos h0, h1] at hz
  by_cases hp : P
  · rw [if_pos hp]
    rw [if_pos (decide_eq_true hp)] at hz
    exact r_n h hz
  · rw [if_neg hp]
    rw [if_neg (by simp [hp])] at hz
    exact r_n h hz
theorem r_gf {x a ci kf p : Nat} (h : ev_ins k pc = some (o, .getfield x)) (ht : ev_t2 ev_tF o x = some (ci, kf, p)) : RUN k (σ, pc, L, .ref a :: st) = (ev_gf σ a ci kf).bind fun v => RUN k (σ, pc + 3, L, v :: st) := by
  cases hg : ev_gf σ a ci kf with
  | none => exact RUN_none (ev_actI h (by simp only [ev_op, ht, hg]))
  | some v => exact r_n h (by simp only [ev_op, ht, hg]; rfl)
theorem r_pf {x a ci kf p : Nat} {v : Value} (h : ev_ins k pc = some (o, .putfield x)) (ht : ev_t2 ev_tF o x = some (ci, kf, p)) (hp : ev_pok k o ci kf v = true) : RUN k (σ, pc, L, v :: .ref a :: st) = (ev_pf σ a ci kf v).bind fun s' => RUN k (s', pc + 3, L, st) := by
  cases hg : ev_pf σ a ci kf v with
  | none => exact RUN_none (ev_actI h (by simp only [ev_op, ht, hg, hp, if_true]))
  | some v => exact r_n h (by simp only [ev_op, ht, hg, hp, if_true]; rfl)
theorem r_ild {a : Nat} {j : Int32} (h : ev_ins k pc = some (o, .iaload)) : RUN k (σ, pc, L, .int j :: .ref a :: st) = (ev_ild σ a j).bind fun v => RUN k (σ, pc + 1, L, .int v :: st) := by
  cases hg : ev_ild σ a j with
  | none => exact RUN_none (ev_actI h (by simp only [ev_op, hg]))
  | some v => exact r_n h (by simp only [ev_op, hg]; rfl)
theorem r_zld {a : Nat} {j : Int32} (h : ev_ins k pc = some (o, .baload)) : RUN k (σ, pc, L, .int j :: .ref a :: st) = (ev_zld σ a j).bind fun v => RUN k (σ, pc + 1, L, .int v :: st) := by
  cases hg : ev_zld σ a j with
  | none => exact RUN_none (ev_actI h (by simp only [ev_op, hg]))
  | some v => exact r_n h (by simp only [ev_op, hg]; rfl)
theorem r_lld {a : Nat} {j : Int32} (h : ev_ins k pc = some (o, .laload)) : RUN k (σ, pc, L, .int j :: .ref a :: st) = (ev_lld σ a j).bind fun v => RUN k (σ, pc + 1, L, .long v :: st) := by
  cases hg : ev_lld σ a j with
  | none => exact RUN_none (ev_actI h (by simp only [ev_op, hg]))
  | some v => exact r_n h (by simp only [ev_op, hg]; rfl)
theorem r_ald {a : Nat} {j : Int32} (h : ev_ins k pc = some (o, .aaload)) : RUN k (σ, pc, L, .int j :: .ref a :: st) = (ev_ald σ a j).bind fun v => RUN k (σ, pc + 1, L, va_rf v :: st) := by
  cases hg : ev_ald σ a j with
  | none => exact RUN_none (ev_actI h (by simp only [ev_op, hg]))
  | some v => exact r_n h (by simp only [ev_op, hg]; rfl)
theorem r_len {a : Nat} (h : ev_ins k pc = some (o, .arraylength)) : RUN k (σ, pc, L, .ref a :: st) = (ev_len σ a).bind fun v => RUN k (σ, pc + 1, L, .int v :: st) := by
  cases hg : ev_len σ a with
  | none => exact RUN_none (ev_actI h (by simp only [ev_op, hg]))
  | some v => exact r_n h (by simp only [ev_op, hg]; rfl)
theorem r_ist {a : Nat} {j x : Int32} (h : ev_ins k pc = some (o, .iastore)) : RUN k (σ, pc, L, .int x :: .int j :: .ref a :: st) = (ev_ist σ a j x).bind fun s' => RUN k (s', pc + 1, L, st) := by
  cases hg : ev_ist σ a j x with
  | none => exact RUN_none (ev_actI h (by simp only [ev_op, hg]))
  | some v => exact r_n h (by simp only [ev_op, hg]; rfl)
theorem r_zst {a : Nat} {j x : Int32} (h : ev_ins k pc = some (o, .bastore)) : RUN k (σ, pc, L, .int x :: .int j :: .ref a :: st) = (ev_zst σ a j x).bind fun s' => RUN k (s', pc + 1, L, st) := by
  cases hg : ev_zst σ a j x with
  | none => exact RUN_none (ev_actI h (by simp only [ev_op, hg]))
  | some v => exact r_n h (by simp only [ev_op, hg]; rfl)
theorem r_lst {a : Nat} {j : Int32} {x : Int64} (h : ev_ins k pc = some (o, .lastore)) : RUN k (σ, pc, L, .long x :: .int j :: .ref a :: st) = (ev_lst σ a j x).bind fun s' => RUN k (s', pc + 1, L, st) := by
  cases hg : ev_lst σ a j x with
  | none => exact RUN_none (ev_actI h (by simp only [ev_op, hg]))
  | some v => exact r_n h (by simp only [ev_op, hg]; rfl)
theorem r_ast {a x : Nat} {j : Int32} (h : ev_ins k pc = some (o, .aastore)) : RUN k (σ, pc, L, .ref x :: .int j :: .ref a :: st) = (ev_ast σ a j (some x)).bind fun s' => RUN k (s', pc + 1, L, st) := by
  cases hg : ev_ast σ a j (some x) with
  | none => exact RUN_none (ev_actI h (by simp only [ev_op, hg]))
  | some v => exact r_n h (by simp only [ev_op, hg]; rfl)
theorem r_astN {a : Nat} {j : Int32} (h : ev_ins k pc = some (o, .aastore)) : RUN k (σ, pc, L, .null :: .int j :: .ref a :: st) = (ev_ast σ a j none).bind fun s' => RUN k (s', pc + 1, L, st) := by
  cases hg : ev_ast σ a j none with
  | none => exact RUN_none (ev_actI h (by simp only [ev_op, hg]))
  | some v => exact r_n h (by simp only [ev_op, hg]; rfl)
theorem r_astR {a : Nat} {x : Option Nat} {j : Int32} (h : ev_ins k pc = some (o, .aastore)) : RUN k (σ, pc, L, va_rf x :: .int j :: .ref a :: st) = (ev_ast σ a j x).bind fun s' => RUN k (s', pc + 1, L, st) := by
  cases x with
  | none => exact r_astN h
  | some x => exact r_ast h
theorem r_nwa {t : ArrayType} {n : Int32} (h : ev_ins k pc = some (o, .newarray t)) : RUN k (σ, pc, L, .int n :: st) = (ev_nwa σ (newarray.typeOf t) n).bind fun s' => RUN k (s', pc + 2, L, .ref σ.1 :: st) := by
  cases hg : ev_nwa σ (newarray.typeOf t) n with
  | none => exact RUN_none (ev_actI h (by simp only [ev_op, hg]))
  | some v => exact r_n h (by simp only [ev_op, hg]; rfl)
theorem r_nwq {x p : Nat} {C : String} {n : Int32} (h : ev_ins k pc = some (o, .anewarray x)) (ht : ev_t2 ev_tA o x = some (C, p)) (hC : Cond.arrayOver (.object C) ∈ lw_tbl) : RUN k (σ, pc, L, .int n :: st) = (ev_nwq σ C n).bind fun s' => RUN k (s', pc + 3, L, .ref σ.1 :: st) := by
  cases hg : ev_nwq σ C n with
  | none => exact RUN_none (ev_actI h (by simp only [ev_op, ht, hg, if_pos hC]))
  | some v => exact r_n h (by simp only [ev_op, ht, hg, if_pos hC]; rfl)
theorem r_nwo {x ci : Nat} {p : Nat × Nat × Nat} (h : ev_ins k pc = some (o, .new x)) (ht : ev_t2 ev_tN o x = some (ci, p)) : RUN k (σ, pc, L, st) = (ev_nwo σ ci).bind fun s' => RUN k (s', pc + 3, L, .ref σ.1 :: st) := by
  cases hg : ev_nwo σ ci with
  | none => exact RUN_none (ev_actI h (by simp only [ev_op, ht, hg]))
  | some v => exact r_n h (by simp only [ev_op, ht, hg]; rfl)
theorem r_cast {x p ci a : Nat} {C : String} (h : ev_ins k pc = some (o, .checkcast x)) (ht : ev_t2 ev_tA o x = some (C, p)) (hc : ev_cl σ a = some ci) (hs : ev_sub ci C = some true) : RUN k (σ, pc, L, .ref a :: st) = RUN k (σ, pc + 3, L, .ref a :: st) := r_n h (by simp only [ev_op, ht, hc, hs, if_true]; rfl)
theorem r_inst {x p ci a : Nat} {C : String} {b : Bool} (h : ev_ins k pc = some (o, .instanceof x)) (ht : ev_t2 ev_tA o x = some (C, p)) (hc : ev_cl σ a = some ci) (hs : ev_sub ci C = some b) : RUN k (σ, pc, L, .ref a :: st) = RUN k (σ, pc + 3, L, .int (bif b then 1 else 0) :: st) := by
  cases b
  · exact r_n h (by simp only [ev_op, ht, hc, hs]; rfl)
  · exact r_n h (by simp only [ev_op, ht, hc, hs]; rfl)
theorem r_cs {i : Instr} {k' : Nat} {as : List Value} {st' : List Value} (h : ev_ins k pc = some (o, i)) (hz : ev_op k o i σ pc L st = ev_call k k' as pc L st') {r : ev_ME} (hr : ev_my k' = some r) (h1 : ev_rok k k' = true) (h2 : as.length = r.2.2.2.2.2.1) (h3 : (ev_sl as).length ≤ r.2.2.2.1) (h4 : ev_sw st' ≤ 8) : RUN k (σ, pc, L, st) = (EV k' as σ).bind fun z => RUN k (z.2, pc + 3, L, z.1.toList ++ st') := by
  refine RUN_call (x := (σ, pc, L, st)) (ev_actI h ?_)
  rw [hz]
  unfold ev_call
  rw [hr]
  dsimp only
  rw [if_pos ⟨h1, h2, h3, h4⟩]
theorem r_virt {x n a ci k' : Nat} {as : List Value} {st' : List Value} (h : ev_ins k pc = some (o, .invokevirtual x)) (hn : ev_vn o x = some n) (hst : st = as.reverse ++ .ref a :: st') (hl : n = as.length + 1) (hc : ev_cl σ a = some ci) (hk : ev_vk o x ci = some k') {r : ev_ME} (hr : ev_my k' = some r) (h1 : ev_rok k k' = true) (h2 : as.length + 1 = r.2.2.2.2.2.1) (h3 : (ev_sl (.ref a :: as)).length ≤ r.2.2.2.1) (h4 : ev_sw st' ≤ 8) : RUN k (σ, pc, L, st) = (EV k' (.ref a :: as) σ).bind fun z => RUN k (z.2, pc + 3, L, z.1.toList ++ st') := by
  refine r_cs h ?_ hr h1 h2 h3 h4
  show ev_virt k o x σ pc L st = _
  have e1 : (st.take n).reverse = .ref a :: as := by
    rw [hst, hl, show as.reverse ++ Value.ref a :: st' = (as.reverse ++ [.ref a]) ++ st' by simp, List.take_left' (by simp)]
    simp
  have e2 : st.drop n = st' := by
    rw [hst, hl, show as.reverse ++ Value.ref a :: st' = (as.reverse ++ [.ref a]) ++ st' by simp, List.drop_left' (by simp)]
  unfold ev_virt
  rw [hn]
  dsimp only
  rw [e1]
  dsimp only
  rw [hc]
  dsimp only
  rw [hk, e2]
theorem r_r {i : Instr} {v : Option Value} (h : ev_ins k pc = some (o, i)) (hz : ev_op k o i σ pc L st = some (.inr (.inr v))) : RUN k (σ, pc, L, st) = some (v, σ) := RUN_ret (x := (σ, pc, L, st)) (ev_actI h hz)
end RL
