-- heaps only grow
section EVG
variable {k own : Nat} {σ σ' : ev_H} {pc : Nat} {L : ev_L} {st : List Value} {c' : ev_C}
def ev_gr (σ σ' : ev_H) : Prop := σ.1 ≤ σ'.1 ∧ σ.2.1 ≤ σ'.2.1
theorem ev_gr_rf : ev_gr σ σ := ⟨Nat.le_refl _, Nat.le_refl _⟩
theorem ev_g_nx (h : ev_nx σ pc L st = some (.inl c')) : ev_gr σ c'.1 := by cases h; exact ev_gr_rf
theorem ev_g_ld {f : Value → Bool} {i n : Nat} (h : ev_ld f i n σ pc L st = some (.inl c')) : ev_gr σ c'.1 := by
  unfold ev_ld at h
  repeat' (split at h)
  all_goals first | exact ev_g_nx h | cases h
theorem ev_g_so1 {f : Value → Bool} {i n : Nat} (h : ev_so1 f i n σ pc L st = some (.inl c')) : ev_gr σ c'.1 := by
  unfold ev_so1 at h
  repeat' (split at h)
  all_goals first | exact ev_g_nx h | cases h
theorem ev_g_so2 {f : Value → Bool} {i n : Nat} (h : ev_so2 f i n σ pc L st = some (.inl c')) : ev_gr σ c'.1 := by
  unfold ev_so2 at h
  repeat' (split at h)
  all_goals first | exact ev_g_nx h | cases h
theorem ev_g_ii {f : Int32 → Int32 → Int32} (h : ev_ii f σ pc L st = some (.inl c')) : ev_gr σ c'.1 := by
  unfold ev_ii at h
  repeat' (split at h)
  all_goals first | exact ev_g_nx h | cases h
theorem ev_g_iz {f : Int32 → Int32 → Int32} (h : ev_iz f σ pc L st = some (.inl c')) : ev_gr σ c'.1 := by
  unfold ev_iz at h
  repeat' (split at h)
  all_goals first | exact ev_g_nx h | cases h
theorem ev_g_i1 {f : Int32 → Value} (h : ev_i1 f σ pc L st = some (.inl c')) : ev_gr σ c'.1 := by
  unfold ev_i1 at h
  repeat' (split at h)
  all_goals first | exact ev_g_nx h | cases h
theorem ev_g_jj {f : Int64 → Int64 → Value} (h : ev_jj f σ pc L st = some (.inl c')) : ev_gr σ c'.1 := by
  unfold ev_jj at h
  repeat' (split at h)
  all_goals first | exact ev_g_nx h | cases h
theorem ev_g_jz {f : Int64 → Int64 → Int64} (h : ev_jz f σ pc L st = some (.inl c')) : ev_gr σ c'.1 := by
  unfold ev_jz at h
  repeat' (split at h)
  all_goals first | exact ev_g_nx h | cases h
theorem ev_g_ji {f : Int64 → Int32 → Int64} (h : ev_ji f σ pc L st = some (.inl c')) : ev_gr σ c'.1 := by
  unfold ev_ji at h
  repeat' (split at h)
  all_goals first | exact ev_g_nx h | cases h
theorem ev_g_j1 {f : Int64 → Value} (h : ev_j1 f σ pc L st = some (.inl c')) : ev_gr σ c'.1 := by
  unfold ev_j1 at h
  repeat' (split at h)
  all_goals first | exact ev_g_nx h | cases h
theorem ev_g_f1 {f : UInt32 → Value} (h : ev_f1 f σ pc L st = some (.inl c')) : ev_gr σ c'.1 := by
  unfold ev_f1 at h
  repeat' (split at h)
  all_goals first | exact ev_g_nx h | cases h
theorem ev_g_d1 {f : UInt64 → Value} (h : ev_d1 f σ pc L st = some (.inl c')) : ev_gr σ c'.1 := by
  unfold ev_d1 at h
  repeat' (split at h)
  all_goals first | exact ev_g_nx h | cases h
theorem ev_g_ff {f : UInt32 → UInt32 → UInt32} (h : ev_ff f σ pc L st = some (.inl c')) : ev_gr σ c'.1 := by
  unfold ev_ff at h
  repeat' (split at h)
  all_goals first | exact ev_g_nx h | cases h
theorem ev_g_dd {f : UInt64 → UInt64 → UInt64} (h : ev_dd f σ pc L st = some (.inl c')) : ev_gr σ c'.1 := by
  unfold ev_dd at h
  repeat' (split at h)
  all_goals first | exact ev_g_nx h | cases h
theorem ev_g_fc {f : UInt32 → UInt32 → Int32} (h : ev_fc f σ pc L st = some (.inl c')) : ev_gr σ c'.1 := by
  unfold ev_fc at h
  repeat' (split at h)
  all_goals first | exact ev_g_nx h | cases h
theorem ev_g_dc {f : UInt64 → UInt64 → Int32} (h : ev_dc f σ pc L st = some (.inl c')) : ev_gr σ c'.1 := by
  unfold ev_dc at h
  repeat' (split at h)
  all_goals first | exact ev_g_nx h | cases h
theorem ev_g_to {off : Int} (h : ev_to off σ pc L st = some (.inl c')) : ev_gr σ c'.1 := by
  unfold ev_to at h
  repeat' (split at h)
  all_goals first | exact ev_g_nx h | cases h
theorem ev_g_br {b : Bool} {off : Int} (h : ev_br b off σ pc L st = some (.inl c')) : ev_gr σ c'.1 := by
  unfold ev_br at h
  repeat' (split at h)
  all_goals first | exact ev_g_nx h | cases h
theorem ev_g_pf {a ci kf : Nat} {v : Value} (h : ev_pf σ a ci kf v = some σ') : ev_gr σ σ' := by
  unfold ev_pf at h
  repeat' (split at h)
  all_goals (cases h)
  all_goals exact ev_gr_rf
theorem ev_g_ist {a : Nat} {j x : Int32} (h : ev_ist σ a j x = some σ') : ev_gr σ σ' := by
  unfold ev_ist at h
  repeat' (split at h)
  all_goals (cases h)
  all_goals exact ev_gr_rf
theorem ev_g_zst {a : Nat} {j x : Int32} (h : ev_zst σ a j x = some σ') : ev_gr σ σ' := by
  unfold ev_zst at h
  repeat' (split at h)
  all_goals (cases h)
  all_goals exact ev_gr_rf
theorem ev_g_lst {a : Nat} {j : Int32} {x : Int64} (h : ev_lst σ a j x = some σ') : ev_gr σ σ' := by
  unfold ev_lst at h
  repeat' (split at h)
  all_goals (cases h)
  all_goals exact ev_gr_rf
theorem ev_g_ast {a : Nat} {j : Int32} {x : Option Nat} (h : ev_ast σ a j x = some σ') : ev_gr σ σ' := by
  unfold ev_ast at h
  repeat' (split at h)
  all_goals (cases h)
  all_goals exact ev_gr_rf
theorem ev_g_cpy {a b : Nat} {sp dp n : Int32} (h : ev_cpy σ a sp b dp n = some σ') : ev_gr σ σ' := by
  unfold ev_cpy at h
  repeat' (split at h)
  all_goals (cases h)
  all_goals exact ev_gr_rf
theorem ev_g_new {n : Nat} {e : ev_E} : ev_gr σ (ev_new σ n e) := ⟨Nat.le_succ _, Nat.le_add_right _ _⟩
theorem ev_g_nwa {ty : FieldType} {n : Int32} (h : ev_nwa σ ty n = some σ') : ev_gr σ σ' := by
  unfold ev_nwa at h
  split at h
  · cases h
  · obtain ⟨x, -, rfl⟩ := Option.map_eq_some_iff.mp h; exact ev_g_new
theorem ev_g_nwq {C : String} {n : Int32} (h : ev_nwq σ C n = some σ') : ev_gr σ σ' := by
  unfold ev_nwq at h
  split at h
  · cases h
  · cases h; exact ev_g_new
theorem ev_g_nwo {ci : Nat} (h : ev_nwo σ ci = some σ') : ev_gr σ σ' := by
  unfold ev_nwo at h
  obtain ⟨x, -, rfl⟩ := Option.map_eq_some_iff.mp h
  exact ev_g_new
theorem ev_g_call {k' : Nat} {as : List Value} (h : ev_call k k' as pc L st = some (.inl c')) : False := by
  unfold ev_call at h
  repeat' (split at h)
  all_goals cases h
theorem ev_g_dr1 (h : ev_dr1 k σ pc L st = some (.inl c')) : ev_gr σ c'.1 := by
  unfold ev_dr1 at h
  repeat' (split at h)
  all_goals first | exact ev_g_nx h | cases h
theorem ev_g_dr2 (h : ev_dr2 k σ pc L st = some (.inl c')) : ev_gr σ c'.1 := by
  unfold ev_dr2 at h
  repeat' (split at h)
  all_goals first | exact ev_g_nx h | cases h
theorem ev_g_natv {n : Nat} (h : ev_natv k n σ pc L st = some (.inl c')) : ev_gr σ c'.1 := by
  unfold ev_natv at h
  repeat' (split at h)
  all_goals first | exact ev_g_nx h | exact ev_g_dr1 h | exact ev_g_dr2 h | (cases h; done) | (cases h; exact ev_g_cpy (by assumption))
theorem ev_g_static {x : Nat} (h : ev_static k own x σ pc L st = some (.inl c')) : ev_gr σ c'.1 := by
  unfold ev_static at h
  split at h
  · exact ev_g_natv h
  · unfold ev_stc at h
    repeat' (split at h)
    all_goals first | exact (ev_g_call h).elim | cases h
theorem ev_g_spec {x : Nat} (h : ev_spec k own x σ pc L st = some (.inl c')) : ev_gr σ c'.1 := by
  unfold ev_spec at h
  repeat' (split at h)
  all_goals first | exact ev_g_nx h | exact (ev_g_call h).elim | cases h
theorem ev_g_virt {x : Nat} (h : ev_virt k own x σ pc L st = some (.inl c')) : ev_gr σ c'.1 := by
  unfold ev_virt at h
  repeat' (split at h)
  all_goals first | exact (ev_g_call h).elim | cases h
theorem ev_g_ret {i : Instr} (h : ev_ret k i st = some (.inl c')) : False := by
  unfold ev_ret at h
  repeat' (split at h)
  all_goals cases h
theorem ev_g_op {i : Instr} (h : ev_op k own i σ pc L st = some (.inl c')) : ev_gr σ c'.1 := by
  cases i
  all_goals first
    | exact ev_g_nx h
    | exact ev_g_ld h
    | exact ev_g_so1 h
    | exact ev_g_so2 h
    | exact ev_g_ii h
    | exact ev_g_iz h
    | exact ev_g_i1 h
    | exact ev_g_jj h
    | exact ev_g_jz h
    | exact ev_g_ji h
    | exact ev_g_j1 h
    | exact ev_g_f1 h
    | exact ev_g_d1 h
    | exact ev_g_ff h
    | exact ev_g_dd h
    | exact ev_g_fc h
    | exact ev_g_dc h
    | exact ev_g_to h
    | exact ev_g_static h
    | exact ev_g_spec h
    | exact ev_g_virt h
    | exact (ev_g_ret h).elim
    | (cases h; done)
    | (simp only [ev_op] at h
       repeat' (split at h)
       all_goals first
         | (cases h; done)
         | exact ev_g_nx h
         | exact ev_g_to h
         | exact ev_g_br h
         | (cases h; exact ev_g_pf (by assumption))
         | (cases h; exact ev_g_ist (by assumption))
         | (cases h; exact ev_g_zst (by assumption))
         | (cases h; exact ev_g_lst (by assumption))
         | (cases h; exact ev_g_ast (by assumption))
         | (cases h; exact ev_g_nwa (by assumption))
         | (cases h; exact ev_g_nwq (by assumption))
         | (cases h; exact ev_g_nwo (by assumption)))
theorem ev_g_run : ∀ (n k : Nat) (x : ev_C) (v : Option Value) (σ' : ev_H), ev_run n k x = some (v, σ') → ev_gr x.1 σ'
  | 0, _, _, _, _, h => by cases h
  | n + 1, k, x, v, σ', h => by
    simp only [ev_run] at h
    split at h
    · cases h
    · next c' hc =>
      have h1 := ev_g_run n k c' v σ' h
      have h2 : ev_gr x.1 c'.1 := by
        unfold ev_act at hc
        split at hc
        · exact ev_g_op hc
        · cases hc
      exact ⟨Nat.le_trans h2.1 h1.1, Nat.le_trans h2.2 h1.2⟩
    · next q hc =>
      split at h
      · cases h
      · next z hz =>
        have h1 := ev_g_run n _ _ v σ' h
        have h2 := ev_g_run n _ _ z.1 z.2 hz
        exact ⟨Nat.le_trans h2.1 h1.1, Nat.le_trans h2.2 h1.2⟩
    · cases h; exact ev_gr_rf
end EVG
