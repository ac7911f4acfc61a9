-- what a frame knows, and one step
def ev_Cx (D : va_G) (B k : Nat) (r : ev_ME) (p : Program) (R : Room) (s : State) (m : MethodId) (args : Array Value) (meth : Method) (c : Code) : Prop :=
  ev_my k = some r ∧ p.tables.exec = Jvm.exec ∧ c.code = r.2.2.1 ∧ s.vm.findClass (ev_own r.1) = some m.cls ∧ (∀ w ∈ ev_G, w.before args s = true) ∧ ev_K D s ∧ r.2.2.2.2.2.2.1 ≤ R.frames ∧ r.2.2.2.2.2.2.2.1 ≤ R.locals ∧ (r.2.1.name = "<init>" → meth.name = "<init>") ∧ B ≤ s.heap.size
abbrev ev_W (p : Program) (l : Launch) (e : Env) (R : Room) (s : State) (m : MethodId) (args : Array Value) (below : List Frame) (meth : Method) (c : Code) (D : va_G) (B n0 n1 : Nat) (Q : State → Prop) (x : ev_C) : Prop :=
  ∀ (H : Heap) (locs : List Loc) (ls : Array Slot), ev_R D B s x.1 H → va_S (fun q : Nat => B ≤ q) s.heap H locs → ev_V ls x.2.2.1 → c.maxLocals = ls.size → W p l e R s m args below meth c H locs (x.1.1 - n0) (x.1.2.1 - n1) Q (F0 m x.2.1 ls x.2.2.2)
def ev_q (R : Room) (n0 n1 : Nat) (σ σ' : ev_H) : Prop := n0 ≤ σ.1 ∧ n1 ≤ σ.2.1 ∧ σ'.1 - n0 ≤ R.cells ∧ σ'.2.1 - n1 ≤ R.slots
theorem ev_n64_ok {x : UInt64} (h : ev_n64 x = true) : vf_n64 x := of_decide_eq_true (p := x &&& 0x7fffffffffffffff ≤ 0x7ff0000000000000) h
theorem ev_n32_ok {x : UInt32} (h : ev_n32 x = true) : vf_n32 x := of_decide_eq_true (p := x &&& 0x7fffffff ≤ 0x7f800000) h
section EVS
variable {p : Program} {l : Launch} {e : Env} {R : Room} {s : State} {m : MethodId} {args : Array Value} {below : List Frame} {meth : Method} {c : Code} {D : va_G} {B n0 n1 k : Nat} {r : ev_ME} {Q : State → Prop} {σ : ev_H} {pc : Nat} {L : ev_L} {st : List Value} {c' : ev_C}
theorem ev_s_iconst {n : Int} (X : ev_Cx D B k r p R s m args meth c) (hd : decode r.2.2.1 pc = .ok (.iconst n, 1)) (h : ev_op k r.1 (.iconst n) σ pc L st = some (.inl c')) (kk : ev_W p l e R s m args below meth c D B n0 n1 Q c') : ev_W p l e R s m args below meth c D B n0 n1 Q (σ, pc, L, st) := by
  cases h
  intro H locs ls hR hS hV hz
  exact lv_iconst X.2.1 X.2.2.1 hd rfl (kk H locs ls hR hS hV hz)
theorem ev_s_bipush {n : Int} (X : ev_Cx D B k r p R s m args meth c) (hd : decode r.2.2.1 pc = .ok (.bipush n, 2)) (h : ev_op k r.1 (.bipush n) σ pc L st = some (.inl c')) (kk : ev_W p l e R s m args below meth c D B n0 n1 Q c') : ev_W p l e R s m args below meth c D B n0 n1 Q (σ, pc, L, st) := by
  cases h
  intro H locs ls hR hS hV hz
  exact lv_bipush X.2.1 X.2.2.1 hd rfl (kk H locs ls hR hS hV hz)
theorem ev_s_sipush {n : Int} (X : ev_Cx D B k r p R s m args meth c) (hd : decode r.2.2.1 pc = .ok (.sipush n, 3)) (h : ev_op k r.1 (.sipush n) σ pc L st = some (.inl c')) (kk : ev_W p l e R s m args below meth c D B n0 n1 Q c') : ev_W p l e R s m args below meth c D B n0 n1 Q (σ, pc, L, st) := by
  cases h
  intro H locs ls hR hS hV hz
  exact lv_sipush X.2.1 X.2.2.1 hd rfl (kk H locs ls hR hS hV hz)
theorem ev_s_lconst {n : Fin 2} (X : ev_Cx D B k r p R s m args meth c) (hd : decode r.2.2.1 pc = .ok (.lconst n, 1)) (h : ev_op k r.1 (.lconst n) σ pc L st = some (.inl c')) (kk : ev_W p l e R s m args below meth c D B n0 n1 Q c') : ev_W p l e R s m args below meth c D B n0 n1 Q (σ, pc, L, st) := by
  cases h
  intro H locs ls hR hS hV hz
  exact lv_lconst X.2.1 X.2.2.1 hd rfl (kk H locs ls hR hS hV hz)
theorem ev_s_null (X : ev_Cx D B k r p R s m args meth c) (hd : decode r.2.2.1 pc = .ok (.aconst_null, 1)) (h : ev_op k r.1 (.aconst_null) σ pc L st = some (.inl c')) (kk : ev_W p l e R s m args below meth c D B n0 n1 Q c') : ev_W p l e R s m args below meth c D B n0 n1 Q (σ, pc, L, st) := by
  cases h
  intro H locs ls hR hS hV hz
  exact lv_null X.2.1 X.2.2.1 hd (kk H locs ls hR hS hV hz)
theorem ev_s_fconst {n : Fin 3} (X : ev_Cx D B k r p R s m args meth c) (hd : decode r.2.2.1 pc = .ok (.fconst n, 1)) (h : ev_op k r.1 (.fconst n) σ pc L st = some (.inl c')) (kk : ev_W p l e R s m args below meth c D B n0 n1 Q c') : ev_W p l e R s m args below meth c D B n0 n1 Q (σ, pc, L, st) := by
  replace h : (if n = 0 then ev_nx σ (pc + 1) L (.float FP.fconst0 :: st) else none) = some (.inl c') := h
  split at h
  · next hn =>
    subst hn
    cases h
    intro H locs ls hR hS hV hz
    exact lv_fconst0 X.2.1 X.2.2.1 hd (kk H locs ls hR hS hV hz)
  · cases h
theorem ev_s_dconst {n : Fin 2} (X : ev_Cx D B k r p R s m args meth c) (hd : decode r.2.2.1 pc = .ok (.dconst n, 1)) (h : ev_op k r.1 (.dconst n) σ pc L st = some (.inl c')) (kk : ev_W p l e R s m args below meth c D B n0 n1 Q c') : ev_W p l e R s m args below meth c D B n0 n1 Q (σ, pc, L, st) := by
  replace h : (if n = 0 then ev_nx σ (pc + 1) L (.double FP.dconst0 :: st) else ev_nx σ (pc + 1) L (.double FP.dconst1 :: st)) = some (.inl c') := h
  split at h
  · next hn =>
    subst hn
    cases h
    intro H locs ls hR hS hV hz
    exact lv_dconst0 X.2.1 X.2.2.1 hd (kk H locs ls hR hS hV hz)
  · next hn =>
    have hn : n = 1 := by omega
    subst hn
    cases h
    intro H locs ls hR hS hV hz
    exact lv_dconst1 X.2.1 X.2.2.1 hd (kk H locs ls hR hS hV hz)
theorem ev_s_ldc {n : Nat} (X : ev_Cx D B k r p R s m args meth c) (hd : decode r.2.2.1 pc = .ok (.ldc n, 2)) (h : ev_op k r.1 (.ldc n) σ pc L st = some (.inl c')) (kk : ev_W p l e R s m args below meth c D B n0 n1 Q c') : ev_W p l e R s m args below meth c D B n0 n1 Q (σ, pc, L, st) := by
  replace h : (match ev_t2 ev_tI r.1 n with | some q => ev_nx σ (pc + 2) L (.int q.1 :: st) | none => none) = some (.inl c') := h
  split at h
  · next q hq =>
    cases h
    intro H locs ls hR hS hV hz
    have hw := ev_in (List.all_eq_true.mp ev_okI _ (ev_t2_mem hq))
    exact lv_ldc X.2.1 X.2.2.1 X.2.2.2.1 (X.2.2.2.2.1 _ hw) hd (kk H locs ls hR hS hV hz)
  · cases h
theorem ev_s_ldc2 {n : Nat} (X : ev_Cx D B k r p R s m args meth c) (hd : decode r.2.2.1 pc = .ok (.ldc2_w n, 3)) (h : ev_op k r.1 (.ldc2_w n) σ pc L st = some (.inl c')) (kk : ev_W p l e R s m args below meth c D B n0 n1 Q c') : ev_W p l e R s m args below meth c D B n0 n1 Q (σ, pc, L, st) := by
  replace h : (match ev_t2 ev_tL r.1 n with | some q => ev_nx σ (pc + 3) L (.long q.1 :: st) | none => match ev_t2 ev_tD r.1 n with | some q => ev_nx σ (pc + 3) L (.double q.1 :: st) | none => none) = some (.inl c') := h
  split at h
  · next q hq =>
    cases h
    intro H locs ls hR hS hV hz
    have hw := ev_in (List.all_eq_true.mp ev_okL _ (ev_t2_mem hq))
    exact lv_ldc2 X.2.1 X.2.2.1 X.2.2.2.1 (X.2.2.2.2.1 _ hw) hd (kk H locs ls hR hS hV hz)
  · split at h
    · next q hq =>
      cases h
      intro H locs ls hR hS hV hz
      have hw := ev_in (List.all_eq_true.mp ev_okD _ (ev_t2_mem hq))
      exact lv_ldc2d X.2.1 X.2.2.1 X.2.2.2.1 (X.2.2.2.2.1 _ hw) hd (kk H locs ls hR hS hV hz)
    · cases h
theorem ev_s_iload {n : Nat} (X : ev_Cx D B k r p R s m args meth c) (hd : decode r.2.2.1 pc = .ok (.iload n, 2)) (h : ev_op k r.1 (.iload n) σ pc L st = some (.inl c')) (kk : ev_W p l e R s m args below meth c D B n0 n1 Q c') : ev_W p l e R s m args below meth c D B n0 n1 Q (σ, pc, L, st) := by
  replace h : ev_ld ev_isI n 2 σ pc L st = some (.inl c') := h
  unfold ev_ld at h
  split at h
  · next v hv =>
    split at h
    · next hp =>
      cases h
      intro H locs ls hR hS hV hz
      cases v with
      | int x => exact lv_iload X.2.1 X.2.2.1 hd (hV.get hv) (kk H locs ls hR hS hV hz)
      | _ => cases hp
    · cases h
  · cases h
theorem ev_s_iload_n {n : Fin 4} (X : ev_Cx D B k r p R s m args meth c) (hd : decode r.2.2.1 pc = .ok (.iload_n n, 1)) (h : ev_op k r.1 (.iload_n n) σ pc L st = some (.inl c')) (kk : ev_W p l e R s m args below meth c D B n0 n1 Q c') : ev_W p l e R s m args below meth c D B n0 n1 Q (σ, pc, L, st) := by
  replace h : ev_ld ev_isI n.val 1 σ pc L st = some (.inl c') := h
  unfold ev_ld at h
  split at h
  · next v hv =>
    split at h
    · next hp =>
      cases h
      intro H locs ls hR hS hV hz
      cases v with
      | int x => exact lv_iload_n X.2.1 X.2.2.1 hd rfl (hV.get hv) (kk H locs ls hR hS hV hz)
      | _ => cases hp
    · cases h
  · cases h
theorem ev_s_lload {n : Nat} (X : ev_Cx D B k r p R s m args meth c) (hd : decode r.2.2.1 pc = .ok (.lload n, 2)) (h : ev_op k r.1 (.lload n) σ pc L st = some (.inl c')) (kk : ev_W p l e R s m args below meth c D B n0 n1 Q c') : ev_W p l e R s m args below meth c D B n0 n1 Q (σ, pc, L, st) := by
  replace h : ev_ld ev_isJ n 2 σ pc L st = some (.inl c') := h
  unfold ev_ld at h
  split at h
  · next v hv =>
    split at h
    · next hp =>
      cases h
      intro H locs ls hR hS hV hz
      cases v with
      | long x => exact lv_lload X.2.1 X.2.2.1 hd (hV.get hv) (kk H locs ls hR hS hV hz)
      | _ => cases hp
    · cases h
  · cases h
theorem ev_s_lload_n {n : Fin 4} (X : ev_Cx D B k r p R s m args meth c) (hd : decode r.2.2.1 pc = .ok (.lload_n n, 1)) (h : ev_op k r.1 (.lload_n n) σ pc L st = some (.inl c')) (kk : ev_W p l e R s m args below meth c D B n0 n1 Q c') : ev_W p l e R s m args below meth c D B n0 n1 Q (σ, pc, L, st) := by
  replace h : ev_ld ev_isJ n.val 1 σ pc L st = some (.inl c') := h
  unfold ev_ld at h
  split at h
  · next v hv =>
    split at h
    · next hp =>
      cases h
      intro H locs ls hR hS hV hz
      cases v with
      | long x => exact lv_lload_n X.2.1 X.2.2.1 hd rfl (hV.get hv) (kk H locs ls hR hS hV hz)
      | _ => cases hp
    · cases h
  · cases h
theorem ev_s_fload {n : Nat} (X : ev_Cx D B k r p R s m args meth c) (hd : decode r.2.2.1 pc = .ok (.fload n, 2)) (h : ev_op k r.1 (.fload n) σ pc L st = some (.inl c')) (kk : ev_W p l e R s m args below meth c D B n0 n1 Q c') : ev_W p l e R s m args below meth c D B n0 n1 Q (σ, pc, L, st) := by
  replace h : ev_ld ev_isF n 2 σ pc L st = some (.inl c') := h
  unfold ev_ld at h
  split at h
  · next v hv =>
    split at h
    · next hp =>
      cases h
      intro H locs ls hR hS hV hz
      cases v with
      | float x => exact lv_fload X.2.1 X.2.2.1 hd (hV.get hv) (kk H locs ls hR hS hV hz)
      | _ => cases hp
    · cases h
  · cases h
theorem ev_s_fload_n {n : Fin 4} (X : ev_Cx D B k r p R s m args meth c) (hd : decode r.2.2.1 pc = .ok (.fload_n n, 1)) (h : ev_op k r.1 (.fload_n n) σ pc L st = some (.inl c')) (kk : ev_W p l e R s m args below meth c D B n0 n1 Q c') : ev_W p l e R s m args below meth c D B n0 n1 Q (σ, pc, L, st) := by
  replace h : ev_ld ev_isF n.val 1 σ pc L st = some (.inl c') := h
  unfold ev_ld at h
  split at h
  · next v hv =>
    split at h
    · next hp =>
      cases h
      intro H locs ls hR hS hV hz
      cases v with
      | float x => exact lv_fload_n X.2.1 X.2.2.1 hd rfl (hV.get hv) (kk H locs ls hR hS hV hz)
      | _ => cases hp
    · cases h
  · cases h
theorem ev_s_dload {n : Nat} (X : ev_Cx D B k r p R s m args meth c) (hd : decode r.2.2.1 pc = .ok (.dload n, 2)) (h : ev_op k r.1 (.dload n) σ pc L st = some (.inl c')) (kk : ev_W p l e R s m args below meth c D B n0 n1 Q c') : ev_W p l e R s m args below meth c D B n0 n1 Q (σ, pc, L, st) := by
  replace h : ev_ld ev_isD n 2 σ pc L st = some (.inl c') := h
  unfold ev_ld at h
  split at h
  · next v hv =>
    split at h
    · next hp =>
      cases h
      intro H locs ls hR hS hV hz
      cases v with
      | double x => exact lv_dload X.2.1 X.2.2.1 hd (hV.get hv) (kk H locs ls hR hS hV hz)
      | _ => cases hp
    · cases h
  · cases h
theorem ev_s_dload_n {n : Fin 4} (X : ev_Cx D B k r p R s m args meth c) (hd : decode r.2.2.1 pc = .ok (.dload_n n, 1)) (h : ev_op k r.1 (.dload_n n) σ pc L st = some (.inl c')) (kk : ev_W p l e R s m args below meth c D B n0 n1 Q c') : ev_W p l e R s m args below meth c D B n0 n1 Q (σ, pc, L, st) := by
  replace h : ev_ld ev_isD n.val 1 σ pc L st = some (.inl c') := h
  unfold ev_ld at h
  split at h
  · next v hv =>
    split at h
    · next hp =>
      cases h
      intro H locs ls hR hS hV hz
      cases v with
      | double x => exact lv_dload_n X.2.1 X.2.2.1 hd rfl (hV.get hv) (kk H locs ls hR hS hV hz)
      | _ => cases hp
    · cases h
  · cases h
theorem ev_s_aload {n : Nat} (X : ev_Cx D B k r p R s m args meth c) (hd : decode r.2.2.1 pc = .ok (.aload n, 2)) (h : ev_op k r.1 (.aload n) σ pc L st = some (.inl c')) (kk : ev_W p l e R s m args below meth c D B n0 n1 Q c') : ev_W p l e R s m args below meth c D B n0 n1 Q (σ, pc, L, st) := by
  replace h : ev_ld ev_isR n 2 σ pc L st = some (.inl c') := h
  unfold ev_ld at h
  split at h
  · next v hv =>
    split at h
    · next hp =>
      cases h
      intro H locs ls hR hS hV hz
      cases v with
      | ref x => exact lv_aload X.2.1 X.2.2.1 hd (hV.get hv) (kk H locs ls hR hS hV hz)
      | null => exact lv_aloadN X.2.1 X.2.2.1 hd (hV.get hv) (kk H locs ls hR hS hV hz)
      | _ => cases hp
    · cases h
  · cases h
theorem ev_s_aload_n {n : Fin 4} (X : ev_Cx D B k r p R s m args meth c) (hd : decode r.2.2.1 pc = .ok (.aload_n n, 1)) (h : ev_op k r.1 (.aload_n n) σ pc L st = some (.inl c')) (kk : ev_W p l e R s m args below meth c D B n0 n1 Q c') : ev_W p l e R s m args below meth c D B n0 n1 Q (σ, pc, L, st) := by
  replace h : ev_ld ev_isR n.val 1 σ pc L st = some (.inl c') := h
  unfold ev_ld at h
  split at h
  · next v hv =>
    split at h
    · next hp =>
      cases h
      intro H locs ls hR hS hV hz
      cases v with
      | ref x => exact lv_aload_n X.2.1 X.2.2.1 hd rfl (hV.get hv) (kk H locs ls hR hS hV hz)
      | null => exact lv_aload_nN X.2.1 X.2.2.1 hd rfl (hV.get hv) (kk H locs ls hR hS hV hz)
      | _ => cases hp
    · cases h
  · cases h
theorem ev_s_istore {n : Nat} (X : ev_Cx D B k r p R s m args meth c) (hd : decode r.2.2.1 pc = .ok (.istore n, 2)) (h : ev_op k r.1 (.istore n) σ pc L st = some (.inl c')) (kk : ev_W p l e R s m args below meth c D B n0 n1 Q c') : ev_W p l e R s m args below meth c D B n0 n1 Q (σ, pc, L, st) := by
  replace h : ev_so1 ev_isI n 2 σ pc L st = some (.inl c') := h
  unfold ev_so1 at h
  split at h
  · next v rs =>
    split at h
    · next hp =>
      cases h
      intro H locs ls hR hS hV hz
      cases v with
      | int x => exact lv_istore X.2.1 X.2.2.1 hd hV.has (by rw [hV.1]; exact hp.2) rfl (fun ls2 hl => kk H locs ls2 hR hS (hV.s1 rfl hl) (hz.trans hl.1.symm))
      | _ => cases hp.1
    · cases h
  · cases h
theorem ev_s_istore_n {n : Fin 4} (X : ev_Cx D B k r p R s m args meth c) (hd : decode r.2.2.1 pc = .ok (.istore_n n, 1)) (h : ev_op k r.1 (.istore_n n) σ pc L st = some (.inl c')) (kk : ev_W p l e R s m args below meth c D B n0 n1 Q c') : ev_W p l e R s m args below meth c D B n0 n1 Q (σ, pc, L, st) := by
  replace h : ev_so1 ev_isI n.val 1 σ pc L st = some (.inl c') := h
  unfold ev_so1 at h
  split at h
  · next v rs =>
    split at h
    · next hp =>
      cases h
      intro H locs ls hR hS hV hz
      cases v with
      | int x => exact lv_istore_n X.2.1 X.2.2.1 hd rfl hV.has (by rw [hV.1]; exact hp.2) rfl (fun ls2 hl => kk H locs ls2 hR hS (hV.s1 rfl hl) (hz.trans hl.1.symm))
      | _ => cases hp.1
    · cases h
  · cases h
theorem ev_s_fstore {n : Nat} (X : ev_Cx D B k r p R s m args meth c) (hd : decode r.2.2.1 pc = .ok (.fstore n, 2)) (h : ev_op k r.1 (.fstore n) σ pc L st = some (.inl c')) (kk : ev_W p l e R s m args below meth c D B n0 n1 Q c') : ev_W p l e R s m args below meth c D B n0 n1 Q (σ, pc, L, st) := by
  replace h : ev_so1 ev_isF n 2 σ pc L st = some (.inl c') := h
  unfold ev_so1 at h
  split at h
  · next v rs =>
    split at h
    · next hp =>
      cases h
      intro H locs ls hR hS hV hz
      cases v with
      | float x => exact lv_fstore X.2.1 X.2.2.1 hd hV.has (by rw [hV.1]; exact hp.2) rfl (fun ls2 hl => kk H locs ls2 hR hS (hV.s1 rfl hl) (hz.trans hl.1.symm))
      | _ => cases hp.1
    · cases h
  · cases h
theorem ev_s_fstore_n {n : Fin 4} (X : ev_Cx D B k r p R s m args meth c) (hd : decode r.2.2.1 pc = .ok (.fstore_n n, 1)) (h : ev_op k r.1 (.fstore_n n) σ pc L st = some (.inl c')) (kk : ev_W p l e R s m args below meth c D B n0 n1 Q c') : ev_W p l e R s m args below meth c D B n0 n1 Q (σ, pc, L, st) := by
  replace h : ev_so1 ev_isF n.val 1 σ pc L st = some (.inl c') := h
  unfold ev_so1 at h
  split at h
  · next v rs =>
    split at h
    · next hp =>
      cases h
      intro H locs ls hR hS hV hz
      cases v with
      | float x => exact lv_fstore_n X.2.1 X.2.2.1 hd rfl hV.has (by rw [hV.1]; exact hp.2) rfl (fun ls2 hl => kk H locs ls2 hR hS (hV.s1 rfl hl) (hz.trans hl.1.symm))
      | _ => cases hp.1
    · cases h
  · cases h
theorem ev_s_astore {n : Nat} (X : ev_Cx D B k r p R s m args meth c) (hd : decode r.2.2.1 pc = .ok (.astore n, 2)) (h : ev_op k r.1 (.astore n) σ pc L st = some (.inl c')) (kk : ev_W p l e R s m args below meth c D B n0 n1 Q c') : ev_W p l e R s m args below meth c D B n0 n1 Q (σ, pc, L, st) := by
  replace h : ev_so1 ev_isR n 2 σ pc L st = some (.inl c') := h
  unfold ev_so1 at h
  split at h
  · next v rs =>
    split at h
    · next hp =>
      cases h
      intro H locs ls hR hS hV hz
      cases v with
      | ref x => exact lv_astore X.2.1 X.2.2.1 hd hV.has (by rw [hV.1]; exact hp.2) rfl (fun ls2 hl => kk H locs ls2 hR hS (hV.s1 rfl hl) (hz.trans hl.1.symm))
      | null => exact lv_astoreN X.2.1 X.2.2.1 hd hV.has (by rw [hV.1]; exact hp.2) rfl (fun ls2 hl => kk H locs ls2 hR hS (hV.s1 rfl hl) (hz.trans hl.1.symm))
      | _ => cases hp.1
    · cases h
  · cases h
theorem ev_s_astore_n {n : Fin 4} (X : ev_Cx D B k r p R s m args meth c) (hd : decode r.2.2.1 pc = .ok (.astore_n n, 1)) (h : ev_op k r.1 (.astore_n n) σ pc L st = some (.inl c')) (kk : ev_W p l e R s m args below meth c D B n0 n1 Q c') : ev_W p l e R s m args below meth c D B n0 n1 Q (σ, pc, L, st) := by
  replace h : ev_so1 ev_isR n.val 1 σ pc L st = some (.inl c') := h
  unfold ev_so1 at h
  split at h
  · next v rs =>
    split at h
    · next hp =>
      cases h
      intro H locs ls hR hS hV hz
      cases v with
      | ref x => exact lv_astore_n X.2.1 X.2.2.1 hd rfl hV.has (by rw [hV.1]; exact hp.2) rfl (fun ls2 hl => kk H locs ls2 hR hS (hV.s1 rfl hl) (hz.trans hl.1.symm))
      | null => exact lv_astore_nN X.2.1 X.2.2.1 hd rfl hV.has (by rw [hV.1]; exact hp.2) rfl (fun ls2 hl => kk H locs ls2 hR hS (hV.s1 rfl hl) (hz.trans hl.1.symm))
      | _ => cases hp.1
    · cases h
  · cases h
theorem ev_s_lstore {n : Nat} (X : ev_Cx D B k r p R s m args meth c) (hd : decode r.2.2.1 pc = .ok (.lstore n, 2)) (h : ev_op k r.1 (.lstore n) σ pc L st = some (.inl c')) (kk : ev_W p l e R s m args below meth c D B n0 n1 Q c') : ev_W p l e R s m args below meth c D B n0 n1 Q (σ, pc, L, st) := by
  replace h : ev_so2 ev_isJ n 2 σ pc L st = some (.inl c') := h
  unfold ev_so2 at h
  split at h
  · next v rs =>
    split at h
    · next hp =>
      cases h
      intro H locs ls hR hS hV hz
      cases v with
      | long x => exact lv_lstore X.2.1 X.2.2.1 hd hV.has (by rw [hV.1]; exact hp.2) rfl (fun ls2 hl => kk H locs ls2 hR hS (hV.s2 rfl hl) (hz.trans hl.1.symm))
      | _ => cases hp.1
    · cases h
  · cases h
theorem ev_s_lstore_n {n : Fin 4} (X : ev_Cx D B k r p R s m args meth c) (hd : decode r.2.2.1 pc = .ok (.lstore_n n, 1)) (h : ev_op k r.1 (.lstore_n n) σ pc L st = some (.inl c')) (kk : ev_W p l e R s m args below meth c D B n0 n1 Q c') : ev_W p l e R s m args below meth c D B n0 n1 Q (σ, pc, L, st) := by
  replace h : ev_so2 ev_isJ n.val 1 σ pc L st = some (.inl c') := h
  unfold ev_so2 at h
  split at h
  · next v rs =>
    split at h
    · next hp =>
      cases h
      intro H locs ls hR hS hV hz
      cases v with
      | long x => exact lv_lstore_n X.2.1 X.2.2.1 hd rfl hV.has (by rw [hV.1]; exact hp.2) rfl (fun ls2 hl => kk H locs ls2 hR hS (hV.s2 rfl hl) (hz.trans hl.1.symm))
      | _ => cases hp.1
    · cases h
  · cases h
theorem ev_s_dstore {n : Nat} (X : ev_Cx D B k r p R s m args meth c) (hd : decode r.2.2.1 pc = .ok (.dstore n, 2)) (h : ev_op k r.1 (.dstore n) σ pc L st = some (.inl c')) (kk : ev_W p l e R s m args below meth c D B n0 n1 Q c') : ev_W p l e R s m args below meth c D B n0 n1 Q (σ, pc, L, st) := by
  replace h : ev_so2 ev_isD n 2 σ pc L st = some (.inl c') := h
  unfold ev_so2 at h
  split at h
  · next v rs =>
    split at h
    · next hp =>
      cases h
      intro H locs ls hR hS hV hz
      cases v with
      | double x => exact lv_dstore X.2.1 X.2.2.1 hd hV.has (by rw [hV.1]; exact hp.2) rfl (fun ls2 hl => kk H locs ls2 hR hS (hV.s2 rfl hl) (hz.trans hl.1.symm))
      | _ => cases hp.1
    · cases h
  · cases h
theorem ev_s_dstore_n {n : Fin 4} (X : ev_Cx D B k r p R s m args meth c) (hd : decode r.2.2.1 pc = .ok (.dstore_n n, 1)) (h : ev_op k r.1 (.dstore_n n) σ pc L st = some (.inl c')) (kk : ev_W p l e R s m args below meth c D B n0 n1 Q c') : ev_W p l e R s m args below meth c D B n0 n1 Q (σ, pc, L, st) := by
  replace h : ev_so2 ev_isD n.val 1 σ pc L st = some (.inl c') := h
  unfold ev_so2 at h
  split at h
  · next v rs =>
    split at h
    · next hp =>
      cases h
      intro H locs ls hR hS hV hz
      cases v with
      | double x => exact lv_dstore_n X.2.1 X.2.2.1 hd rfl hV.has (by rw [hV.1]; exact hp.2) rfl (fun ls2 hl => kk H locs ls2 hR hS (hV.s2 rfl hl) (hz.trans hl.1.symm))
      | _ => cases hp.1
    · cases h
  · cases h
theorem ev_s_iinc {n : Nat} {z : Int} (X : ev_Cx D B k r p R s m args meth c) (hd : decode r.2.2.1 pc = .ok (.iinc n z, 3)) (h : ev_op k r.1 (.iinc n z) σ pc L st = some (.inl c')) (kk : ev_W p l e R s m args below meth c D B n0 n1 Q c') : ev_W p l e R s m args below meth c D B n0 n1 Q (σ, pc, L, st) := by
  replace h : (match ev_lg L n with | some (.int v) => if n < L.length then ev_nx σ (pc + 3) (ev_s1 L n (.int (v + Int32.ofInt z))) st else none | _ => none) = some (.inl c') := h
  split at h
  · next v hv =>
    split at h
    · next hp =>
      cases h
      intro H locs ls hR hS hV hz
      have hm : (n, Value.int v) ∈ ev_as L := ev_as_mem.mpr (by
        unfold ev_lg at hv
        split at hv
        · next w hw => cases hv; exact hw
        · cases hv)
      obtain ⟨j, hj⟩ := List.getElem?_of_mem hm
      exact lv_iinc X.2.1 X.2.2.1 hd hV.has hj rfl (by rw [hV.1]; exact hp) rfl (fun ls2 hl => kk H locs ls2 hR hS (hV.s1 rfl hl) (hz.trans hl.1.symm))
    · cases h
  · cases h
theorem ev_s_iadd (X : ev_Cx D B k r p R s m args meth c) (hd : decode r.2.2.1 pc = .ok (.iadd, 1)) (h : ev_op k r.1 (.iadd) σ pc L st = some (.inl c')) (kk : ev_W p l e R s m args below meth c D B n0 n1 Q c') : ev_W p l e R s m args below meth c D B n0 n1 Q (σ, pc, L, st) := by
  replace h : ev_ii (fun x y => x + y) σ pc L st = some (.inl c') := h
  unfold ev_ii at h
  split at h
  · cases h
    intro H locs ls hR hS hV hz
    exact lv_iadd X.2.1 X.2.2.1 hd (kk H locs ls hR hS hV hz)
  · cases h
theorem ev_s_isub (X : ev_Cx D B k r p R s m args meth c) (hd : decode r.2.2.1 pc = .ok (.isub, 1)) (h : ev_op k r.1 (.isub) σ pc L st = some (.inl c')) (kk : ev_W p l e R s m args below meth c D B n0 n1 Q c') : ev_W p l e R s m args below meth c D B n0 n1 Q (σ, pc, L, st) := by
  replace h : ev_ii (fun x y => x - y) σ pc L st = some (.inl c') := h
  unfold ev_ii at h
  split at h
  · cases h
    intro H locs ls hR hS hV hz
    exact lv_isub X.2.1 X.2.2.1 hd (kk H locs ls hR hS hV hz)
  · cases h
theorem ev_s_imul (X : ev_Cx D B k r p R s m args meth c) (hd : decode r.2.2.1 pc = .ok (.imul, 1)) (h : ev_op k r.1 (.imul) σ pc L st = some (.inl c')) (kk : ev_W p l e R s m args below meth c D B n0 n1 Q c') : ev_W p l e R s m args below meth c D B n0 n1 Q (σ, pc, L, st) := by
  replace h : ev_ii (fun x y => x * y) σ pc L st = some (.inl c') := h
  unfold ev_ii at h
  split at h
  · cases h
    intro H locs ls hR hS hV hz
    exact lv_imul X.2.1 X.2.2.1 hd (kk H locs ls hR hS hV hz)
  · cases h
theorem ev_s_iand (X : ev_Cx D B k r p R s m args meth c) (hd : decode r.2.2.1 pc = .ok (.iand, 1)) (h : ev_op k r.1 (.iand) σ pc L st = some (.inl c')) (kk : ev_W p l e R s m args below meth c D B n0 n1 Q c') : ev_W p l e R s m args below meth c D B n0 n1 Q (σ, pc, L, st) := by
  replace h : ev_ii (fun x y => x &&& y) σ pc L st = some (.inl c') := h
  unfold ev_ii at h
  split at h
  · cases h
    intro H locs ls hR hS hV hz
    exact lv_iand X.2.1 X.2.2.1 hd (kk H locs ls hR hS hV hz)
  · cases h
theorem ev_s_ior (X : ev_Cx D B k r p R s m args meth c) (hd : decode r.2.2.1 pc = .ok (.ior, 1)) (h : ev_op k r.1 (.ior) σ pc L st = some (.inl c')) (kk : ev_W p l e R s m args below meth c D B n0 n1 Q c') : ev_W p l e R s m args below meth c D B n0 n1 Q (σ, pc, L, st) := by
  replace h : ev_ii (fun x y => x ||| y) σ pc L st = some (.inl c') := h
  unfold ev_ii at h
  split at h
  · cases h
    intro H locs ls hR hS hV hz
    exact lv_ior X.2.1 X.2.2.1 hd (kk H locs ls hR hS hV hz)
  · cases h
theorem ev_s_ixor (X : ev_Cx D B k r p R s m args meth c) (hd : decode r.2.2.1 pc = .ok (.ixor, 1)) (h : ev_op k r.1 (.ixor) σ pc L st = some (.inl c')) (kk : ev_W p l e R s m args below meth c D B n0 n1 Q c') : ev_W p l e R s m args below meth c D B n0 n1 Q (σ, pc, L, st) := by
  replace h : ev_ii (fun x y => x ^^^ y) σ pc L st = some (.inl c') := h
  unfold ev_ii at h
  split at h
  · cases h
    intro H locs ls hR hS hV hz
    exact lv_ixor X.2.1 X.2.2.1 hd (kk H locs ls hR hS hV hz)
  · cases h
theorem ev_s_ineg (X : ev_Cx D B k r p R s m args meth c) (hd : decode r.2.2.1 pc = .ok (.ineg, 1)) (h : ev_op k r.1 (.ineg) σ pc L st = some (.inl c')) (kk : ev_W p l e R s m args below meth c D B n0 n1 Q c') : ev_W p l e R s m args below meth c D B n0 n1 Q (σ, pc, L, st) := by
  replace h : ev_i1 (fun x => .int (-x)) σ pc L st = some (.inl c') := h
  unfold ev_i1 at h
  split at h
  · cases h
    intro H locs ls hR hS hV hz
    exact lv_ineg X.2.1 X.2.2.1 hd (kk H locs ls hR hS hV hz)
  · cases h
theorem ev_s_i2l (X : ev_Cx D B k r p R s m args meth c) (hd : decode r.2.2.1 pc = .ok (.i2l, 1)) (h : ev_op k r.1 (.i2l) σ pc L st = some (.inl c')) (kk : ev_W p l e R s m args below meth c D B n0 n1 Q c') : ev_W p l e R s m args below meth c D B n0 n1 Q (σ, pc, L, st) := by
  replace h : ev_i1 (fun x => .long x.toInt64) σ pc L st = some (.inl c') := h
  unfold ev_i1 at h
  split at h
  · cases h
    intro H locs ls hR hS hV hz
    exact lv_i2l X.2.1 X.2.2.1 hd rfl (kk H locs ls hR hS hV hz)
  · cases h
theorem ev_s_i2b (X : ev_Cx D B k r p R s m args meth c) (hd : decode r.2.2.1 pc = .ok (.i2b, 1)) (h : ev_op k r.1 (.i2b) σ pc L st = some (.inl c')) (kk : ev_W p l e R s m args below meth c D B n0 n1 Q c') : ev_W p l e R s m args below meth c D B n0 n1 Q (σ, pc, L, st) := by
  replace h : ev_i1 (fun x => .int x.toInt8.toInt32) σ pc L st = some (.inl c') := h
  unfold ev_i1 at h
  split at h
  · cases h
    intro H locs ls hR hS hV hz
    exact lv_i2b X.2.1 X.2.2.1 hd rfl (kk H locs ls hR hS hV hz)
  · cases h
theorem ev_s_i2s (X : ev_Cx D B k r p R s m args meth c) (hd : decode r.2.2.1 pc = .ok (.i2s, 1)) (h : ev_op k r.1 (.i2s) σ pc L st = some (.inl c')) (kk : ev_W p l e R s m args below meth c D B n0 n1 Q c') : ev_W p l e R s m args below meth c D B n0 n1 Q (σ, pc, L, st) := by
  replace h : ev_i1 (fun x => .int x.toInt16.toInt32) σ pc L st = some (.inl c') := h
  unfold ev_i1 at h
  split at h
  · cases h
    intro H locs ls hR hS hV hz
    exact lv_i2s X.2.1 X.2.2.1 hd rfl (kk H locs ls hR hS hV hz)
  · cases h
theorem ev_s_i2c (X : ev_Cx D B k r p R s m args meth c) (hd : decode r.2.2.1 pc = .ok (.i2c, 1)) (h : ev_op k r.1 (.i2c) σ pc L st = some (.inl c')) (kk : ev_W p l e R s m args below meth c D B n0 n1 Q c') : ev_W p l e R s m args below meth c D B n0 n1 Q (σ, pc, L, st) := by
  replace h : ev_i1 (fun x => .int (x.toUInt32 % 65536).toInt32) σ pc L st = some (.inl c') := h
  unfold ev_i1 at h
  split at h
  · cases h
    intro H locs ls hR hS hV hz
    exact lv_i2c X.2.1 X.2.2.1 hd rfl (kk H locs ls hR hS hV hz)
  · cases h
theorem ev_s_ladd (X : ev_Cx D B k r p R s m args meth c) (hd : decode r.2.2.1 pc = .ok (.ladd, 1)) (h : ev_op k r.1 (.ladd) σ pc L st = some (.inl c')) (kk : ev_W p l e R s m args below meth c D B n0 n1 Q c') : ev_W p l e R s m args below meth c D B n0 n1 Q (σ, pc, L, st) := by
  replace h : ev_jj (fun x y => .long (x + y)) σ pc L st = some (.inl c') := h
  unfold ev_jj at h
  split at h
  · cases h
    intro H locs ls hR hS hV hz
    exact lv_ladd X.2.1 X.2.2.1 hd (kk H locs ls hR hS hV hz)
  · cases h
theorem ev_s_lsub (X : ev_Cx D B k r p R s m args meth c) (hd : decode r.2.2.1 pc = .ok (.lsub, 1)) (h : ev_op k r.1 (.lsub) σ pc L st = some (.inl c')) (kk : ev_W p l e R s m args below meth c D B n0 n1 Q c') : ev_W p l e R s m args below meth c D B n0 n1 Q (σ, pc, L, st) := by
  replace h : ev_jj (fun x y => .long (x - y)) σ pc L st = some (.inl c') := h
  unfold ev_jj at h
  split at h
  · cases h
    intro H locs ls hR hS hV hz
    exact lv_lsub X.2.1 X.2.2.1 hd (kk H locs ls hR hS hV hz)
  · cases h
theorem ev_s_lmul (X : ev_Cx D B k r p R s m args meth c) (hd : decode r.2.2.1 pc = .ok (.lmul, 1)) (h : ev_op k r.1 (.lmul) σ pc L st = some (.inl c')) (kk : ev_W p l e R s m args below meth c D B n0 n1 Q c') : ev_W p l e R s m args below meth c D B n0 n1 Q (σ, pc, L, st) := by
  replace h : ev_jj (fun x y => .long (x * y)) σ pc L st = some (.inl c') := h
  unfold ev_jj at h
  split at h
  · cases h
    intro H locs ls hR hS hV hz
    exact lv_lmul X.2.1 X.2.2.1 hd (kk H locs ls hR hS hV hz)
  · cases h
theorem ev_s_land (X : ev_Cx D B k r p R s m args meth c) (hd : decode r.2.2.1 pc = .ok (.land, 1)) (h : ev_op k r.1 (.land) σ pc L st = some (.inl c')) (kk : ev_W p l e R s m args below meth c D B n0 n1 Q c') : ev_W p l e R s m args below meth c D B n0 n1 Q (σ, pc, L, st) := by
  replace h : ev_jj (fun x y => .long (x &&& y)) σ pc L st = some (.inl c') := h
  unfold ev_jj at h
  split at h
  · cases h
    intro H locs ls hR hS hV hz
    exact lv_land X.2.1 X.2.2.1 hd (kk H locs ls hR hS hV hz)
  · cases h
theorem ev_s_lor (X : ev_Cx D B k r p R s m args meth c) (hd : decode r.2.2.1 pc = .ok (.lor, 1)) (h : ev_op k r.1 (.lor) σ pc L st = some (.inl c')) (kk : ev_W p l e R s m args below meth c D B n0 n1 Q c') : ev_W p l e R s m args below meth c D B n0 n1 Q (σ, pc, L, st) := by
  replace h : ev_jj (fun x y => .long (x ||| y)) σ pc L st = some (.inl c') := h
  unfold ev_jj at h
  split at h
  · cases h
    intro H locs ls hR hS hV hz
    exact lv_lor X.2.1 X.2.2.1 hd (kk H locs ls hR hS hV hz)
  · cases h
theorem ev_s_lxor (X : ev_Cx D B k r p R s m args meth c) (hd : decode r.2.2.1 pc = .ok (.lxor, 1)) (h : ev_op k r.1 (.lxor) σ pc L st = some (.inl c')) (kk : ev_W p l e R s m args below meth c D B n0 n1 Q c') : ev_W p l e R s m args below meth c D B n0 n1 Q (σ, pc, L, st) := by
  replace h : ev_jj (fun x y => .long (x ^^^ y)) σ pc L st = some (.inl c') := h
  unfold ev_jj at h
  split at h
  · cases h
    intro H locs ls hR hS hV hz
    exact lv_lxor X.2.1 X.2.2.1 hd (kk H locs ls hR hS hV hz)
  · cases h
theorem ev_s_lcmp (X : ev_Cx D B k r p R s m args meth c) (hd : decode r.2.2.1 pc = .ok (.lcmp, 1)) (h : ev_op k r.1 (.lcmp) σ pc L st = some (.inl c')) (kk : ev_W p l e R s m args below meth c D B n0 n1 Q c') : ev_W p l e R s m args below meth c D B n0 n1 Q (σ, pc, L, st) := by
  replace h : ev_jj (fun x y => .int (lg_cmp x y)) σ pc L st = some (.inl c') := h
  unfold ev_jj at h
  split at h
  · cases h
    intro H locs ls hR hS hV hz
    exact W.lcmp X.2.1 X.2.2.1 hd (kk H locs ls hR hS hV hz)
  · cases h
theorem ev_s_lshl (X : ev_Cx D B k r p R s m args meth c) (hd : decode r.2.2.1 pc = .ok (.lshl, 1)) (h : ev_op k r.1 (.lshl) σ pc L st = some (.inl c')) (kk : ev_W p l e R s m args below meth c D B n0 n1 Q c') : ev_W p l e R s m args below meth c D B n0 n1 Q (σ, pc, L, st) := by
  replace h : ev_ji (fun x y => x <<< (y.toInt64 &&& 63)) σ pc L st = some (.inl c') := h
  unfold ev_ji at h
  split at h
  · cases h
    intro H locs ls hR hS hV hz
    exact lv_lshl X.2.1 X.2.2.1 hd rfl (kk H locs ls hR hS hV hz)
  · cases h
theorem ev_s_lshr (X : ev_Cx D B k r p R s m args meth c) (hd : decode r.2.2.1 pc = .ok (.lshr, 1)) (h : ev_op k r.1 (.lshr) σ pc L st = some (.inl c')) (kk : ev_W p l e R s m args below meth c D B n0 n1 Q c') : ev_W p l e R s m args below meth c D B n0 n1 Q (σ, pc, L, st) := by
  replace h : ev_ji (fun x y => x >>> (y.toInt64 &&& 63)) σ pc L st = some (.inl c') := h
  unfold ev_ji at h
  split at h
  · cases h
    intro H locs ls hR hS hV hz
    exact lv_lshr X.2.1 X.2.2.1 hd rfl (kk H locs ls hR hS hV hz)
  · cases h
theorem ev_s_lushr (X : ev_Cx D B k r p R s m args meth c) (hd : decode r.2.2.1 pc = .ok (.lushr, 1)) (h : ev_op k r.1 (.lushr) σ pc L st = some (.inl c')) (kk : ev_W p l e R s m args below meth c D B n0 n1 Q c') : ev_W p l e R s m args below meth c D B n0 n1 Q (σ, pc, L, st) := by
  replace h : ev_ji (fun x y => (x.toUInt64 >>> (y.toInt64.toUInt64 &&& Int64.toUInt64 63)).toInt64) σ pc L st = some (.inl c') := h
  unfold ev_ji at h
  split at h
  · cases h
    intro H locs ls hR hS hV hz
    exact lv_lushr X.2.1 X.2.2.1 hd rfl (kk H locs ls hR hS hV hz)
  · cases h
theorem ev_s_lneg (X : ev_Cx D B k r p R s m args meth c) (hd : decode r.2.2.1 pc = .ok (.lneg, 1)) (h : ev_op k r.1 (.lneg) σ pc L st = some (.inl c')) (kk : ev_W p l e R s m args below meth c D B n0 n1 Q c') : ev_W p l e R s m args below meth c D B n0 n1 Q (σ, pc, L, st) := by
  replace h : ev_j1 (fun x => .long (-x)) σ pc L st = some (.inl c') := h
  unfold ev_j1 at h
  split at h
  · cases h
    intro H locs ls hR hS hV hz
    exact lv_lneg X.2.1 X.2.2.1 hd (kk H locs ls hR hS hV hz)
  · cases h
theorem ev_s_l2i (X : ev_Cx D B k r p R s m args meth c) (hd : decode r.2.2.1 pc = .ok (.l2i, 1)) (h : ev_op k r.1 (.l2i) σ pc L st = some (.inl c')) (kk : ev_W p l e R s m args below meth c D B n0 n1 Q c') : ev_W p l e R s m args below meth c D B n0 n1 Q (σ, pc, L, st) := by
  replace h : ev_j1 (fun x => .int x.toInt32) σ pc L st = some (.inl c') := h
  unfold ev_j1 at h
  split at h
  · cases h
    intro H locs ls hR hS hV hz
    exact lv_l2i X.2.1 X.2.2.1 hd rfl (kk H locs ls hR hS hV hz)
  · cases h
theorem ev_s_l2d (X : ev_Cx D B k r p R s m args meth c) (hd : decode r.2.2.1 pc = .ok (.l2d, 1)) (h : ev_op k r.1 (.l2d) σ pc L st = some (.inl c')) (kk : ev_W p l e R s m args below meth c D B n0 n1 Q c') : ev_W p l e R s m args below meth c D B n0 n1 Q (σ, pc, L, st) := by
  replace h : ev_j1 (fun x => .double (FP.l2d x)) σ pc L st = some (.inl c') := h
  unfold ev_j1 at h
  split at h
  · cases h
    intro H locs ls hR hS hV hz
    exact lv_l2d X.2.1 X.2.2.1 hd (kk H locs ls hR hS hV hz)
  · cases h
theorem ev_s_f2i (X : ev_Cx D B k r p R s m args meth c) (hd : decode r.2.2.1 pc = .ok (.f2i, 1)) (h : ev_op k r.1 (.f2i) σ pc L st = some (.inl c')) (kk : ev_W p l e R s m args below meth c D B n0 n1 Q c') : ev_W p l e R s m args below meth c D B n0 n1 Q (σ, pc, L, st) := by
  replace h : ev_f1 (fun x => .int (FP.f2i x)) σ pc L st = some (.inl c') := h
  unfold ev_f1 at h
  split at h
  · cases h
    intro H locs ls hR hS hV hz
    exact lv_f2i X.2.1 X.2.2.1 hd (kk H locs ls hR hS hV hz)
  · cases h
theorem ev_s_f2l (X : ev_Cx D B k r p R s m args meth c) (hd : decode r.2.2.1 pc = .ok (.f2l, 1)) (h : ev_op k r.1 (.f2l) σ pc L st = some (.inl c')) (kk : ev_W p l e R s m args below meth c D B n0 n1 Q c') : ev_W p l e R s m args below meth c D B n0 n1 Q (σ, pc, L, st) := by
  replace h : ev_f1 (fun x => .long (FP.f2l x)) σ pc L st = some (.inl c') := h
  unfold ev_f1 at h
  split at h
  · cases h
    intro H locs ls hR hS hV hz
    exact lv_f2l X.2.1 X.2.2.1 hd (kk H locs ls hR hS hV hz)
  · cases h
theorem ev_s_d2i (X : ev_Cx D B k r p R s m args meth c) (hd : decode r.2.2.1 pc = .ok (.d2i, 1)) (h : ev_op k r.1 (.d2i) σ pc L st = some (.inl c')) (kk : ev_W p l e R s m args below meth c D B n0 n1 Q c') : ev_W p l e R s m args below meth c D B n0 n1 Q (σ, pc, L, st) := by
  replace h : ev_d1 (fun x => .int (FP.d2i x)) σ pc L st = some (.inl c') := h
  unfold ev_d1 at h
  split at h
  · cases h
    intro H locs ls hR hS hV hz
    exact lv_d2i X.2.1 X.2.2.1 hd (kk H locs ls hR hS hV hz)
  · cases h
theorem ev_s_d2l (X : ev_Cx D B k r p R s m args meth c) (hd : decode r.2.2.1 pc = .ok (.d2l, 1)) (h : ev_op k r.1 (.d2l) σ pc L st = some (.inl c')) (kk : ev_W p l e R s m args below meth c D B n0 n1 Q c') : ev_W p l e R s m args below meth c D B n0 n1 Q (σ, pc, L, st) := by
  replace h : ev_d1 (fun x => .long (FP.d2l x)) σ pc L st = some (.inl c') := h
  unfold ev_d1 at h
  split at h
  · cases h
    intro H locs ls hR hS hV hz
    exact lv_d2l X.2.1 X.2.2.1 hd (kk H locs ls hR hS hV hz)
  · cases h
theorem ev_s_dneg (X : ev_Cx D B k r p R s m args meth c) (hd : decode r.2.2.1 pc = .ok (.dneg, 1)) (h : ev_op k r.1 (.dneg) σ pc L st = some (.inl c')) (kk : ev_W p l e R s m args below meth c D B n0 n1 Q c') : ev_W p l e R s m args below meth c D B n0 n1 Q (σ, pc, L, st) := by
  replace h : ev_d1 (fun x => .double (FP.dneg x)) σ pc L st = some (.inl c') := h
  unfold ev_d1 at h
  split at h
  · cases h
    intro H locs ls hR hS hV hz
    exact lv_dneg X.2.1 X.2.2.1 hd (kk H locs ls hR hS hV hz)
  · cases h
theorem ev_s_fcmp {o : CmpOp} (X : ev_Cx D B k r p R s m args meth c) (hd : decode r.2.2.1 pc = .ok (.fcmp o, 1)) (h : ev_op k r.1 (.fcmp o) σ pc L st = some (.inl c')) (kk : ev_W p l e R s m args below meth c D B n0 n1 Q c') : ev_W p l e R s m args below meth c D B n0 n1 Q (σ, pc, L, st) := by
  replace h : ev_fc (fun x y => Op.cmpValue (FP.fcmp x y) o) σ pc L st = some (.inl c') := h
  unfold ev_fc at h
  split at h
  · cases h
    intro H locs ls hR hS hV hz
    exact lv_fcmp X.2.1 X.2.2.1 hd (kk H locs ls hR hS hV hz)
  · cases h
theorem ev_s_dcmp {o : CmpOp} (X : ev_Cx D B k r p R s m args meth c) (hd : decode r.2.2.1 pc = .ok (.dcmp o, 1)) (h : ev_op k r.1 (.dcmp o) σ pc L st = some (.inl c')) (kk : ev_W p l e R s m args below meth c D B n0 n1 Q c') : ev_W p l e R s m args below meth c D B n0 n1 Q (σ, pc, L, st) := by
  replace h : ev_dc (fun x y => Op.cmpValue (FP.dcmp x y) o) σ pc L st = some (.inl c') := h
  unfold ev_dc at h
  split at h
  · cases h
    intro H locs ls hR hS hV hz
    exact lv_dcmp X.2.1 X.2.2.1 hd (kk H locs ls hR hS hV hz)
  · cases h
theorem ev_s_idiv (X : ev_Cx D B k r p R s m args meth c) (hd : decode r.2.2.1 pc = .ok (.idiv, 1)) (h : ev_op k r.1 (.idiv) σ pc L st = some (.inl c')) (kk : ev_W p l e R s m args below meth c D B n0 n1 Q c') : ev_W p l e R s m args below meth c D B n0 n1 Q (σ, pc, L, st) := by
  replace h : ev_iz (fun x y => x / y) σ pc L st = some (.inl c') := h
  unfold ev_iz at h
  split at h
  · split at h
    · next hp =>
      cases h
    · next hp =>
      cases h
      intro H locs ls hR hS hV hz
      exact lv_idiv X.2.1 X.2.2.1 hd hp (kk H locs ls hR hS hV hz)
  · cases h
theorem ev_s_irem (X : ev_Cx D B k r p R s m args meth c) (hd : decode r.2.2.1 pc = .ok (.irem, 1)) (h : ev_op k r.1 (.irem) σ pc L st = some (.inl c')) (kk : ev_W p l e R s m args below meth c D B n0 n1 Q c') : ev_W p l e R s m args below meth c D B n0 n1 Q (σ, pc, L, st) := by
  replace h : ev_iz (fun x y => x - x / y * y) σ pc L st = some (.inl c') := h
  unfold ev_iz at h
  split at h
  · split at h
    · next hp =>
      cases h
    · next hp =>
      cases h
      intro H locs ls hR hS hV hz
      exact lv_irem X.2.1 X.2.2.1 hd hp (kk H locs ls hR hS hV hz)
  · cases h
theorem ev_s_ldiv (X : ev_Cx D B k r p R s m args meth c) (hd : decode r.2.2.1 pc = .ok (.ldiv, 1)) (h : ev_op k r.1 (.ldiv) σ pc L st = some (.inl c')) (kk : ev_W p l e R s m args below meth c D B n0 n1 Q c') : ev_W p l e R s m args below meth c D B n0 n1 Q (σ, pc, L, st) := by
  replace h : ev_jz (fun x y => x / y) σ pc L st = some (.inl c') := h
  unfold ev_jz at h
  split at h
  · split at h
    · next hp =>
      cases h
    · next hp =>
      cases h
      intro H locs ls hR hS hV hz
      exact lv_ldiv X.2.1 X.2.2.1 hd hp (kk H locs ls hR hS hV hz)
  · cases h
theorem ev_s_lrem (X : ev_Cx D B k r p R s m args meth c) (hd : decode r.2.2.1 pc = .ok (.lrem, 1)) (h : ev_op k r.1 (.lrem) σ pc L st = some (.inl c')) (kk : ev_W p l e R s m args below meth c D B n0 n1 Q c') : ev_W p l e R s m args below meth c D B n0 n1 Q (σ, pc, L, st) := by
  replace h : ev_jz (fun x y => x - x / y * y) σ pc L st = some (.inl c') := h
  unfold ev_jz at h
  split at h
  · split at h
    · next hp =>
      cases h
    · next hp =>
      cases h
      intro H locs ls hR hS hV hz
      exact lv_lrem X.2.1 X.2.2.1 hd hp (kk H locs ls hR hS hV hz)
  · cases h
theorem ev_s_frem (X : ev_Cx D B k r p R s m args meth c) (hd : decode r.2.2.1 pc = .ok (.frem, 1)) (h : ev_op k r.1 (.frem) σ pc L st = some (.inl c')) (kk : ev_W p l e R s m args below meth c D B n0 n1 Q c') : ev_W p l e R s m args below meth c D B n0 n1 Q (σ, pc, L, st) := by
  replace h : ev_ff (FP.frem) σ pc L st = some (.inl c') := h
  unfold ev_ff at h
  split at h
  · split at h
    · next hp =>
      cases h
      intro H locs ls hR hS hV hz
      exact lv_frem X.2.1 X.2.2.1 hd (ev_n32_ok hp) (kk H locs ls hR hS hV hz)
    · next hp =>
      cases h
  · cases h
theorem ev_s_dadd (X : ev_Cx D B k r p R s m args meth c) (hd : decode r.2.2.1 pc = .ok (.dadd, 1)) (h : ev_op k r.1 (.dadd) σ pc L st = some (.inl c')) (kk : ev_W p l e R s m args below meth c D B n0 n1 Q c') : ev_W p l e R s m args below meth c D B n0 n1 Q (σ, pc, L, st) := by
  replace h : ev_dd (FP.dadd) σ pc L st = some (.inl c') := h
  unfold ev_dd at h
  split at h
  · split at h
    · next hp =>
      cases h
      intro H locs ls hR hS hV hz
      exact lv_dadd X.2.1 X.2.2.1 hd (ev_n64_ok hp) (kk H locs ls hR hS hV hz)
    · next hp =>
      cases h
  · cases h
theorem ev_s_dsub (X : ev_Cx D B k r p R s m args meth c) (hd : decode r.2.2.1 pc = .ok (.dsub, 1)) (h : ev_op k r.1 (.dsub) σ pc L st = some (.inl c')) (kk : ev_W p l e R s m args below meth c D B n0 n1 Q c') : ev_W p l e R s m args below meth c D B n0 n1 Q (σ, pc, L, st) := by
  replace h : ev_dd (FP.dsub) σ pc L st = some (.inl c') := h
  unfold ev_dd at h
  split at h
  · split at h
    · next hp =>
      cases h
      intro H locs ls hR hS hV hz
      exact lv_dsub X.2.1 X.2.2.1 hd (ev_n64_ok hp) (kk H locs ls hR hS hV hz)
    · next hp =>
      cases h
  · cases h
theorem ev_s_drem (X : ev_Cx D B k r p R s m args meth c) (hd : decode r.2.2.1 pc = .ok (.drem, 1)) (h : ev_op k r.1 (.drem) σ pc L st = some (.inl c')) (kk : ev_W p l e R s m args below meth c D B n0 n1 Q c') : ev_W p l e R s m args below meth c D B n0 n1 Q (σ, pc, L, st) := by
  replace h : ev_dd (FP.drem) σ pc L st = some (.inl c') := h
  unfold ev_dd at h
  split at h
  · split at h
    · next hp =>
      cases h
      intro H locs ls hR hS hV hz
      exact lv_drem X.2.1 X.2.2.1 hd (ev_n64_ok hp) (kk H locs ls hR hS hV hz)
    · next hp =>
      cases h
  · cases h
theorem ev_s_f2d (X : ev_Cx D B k r p R s m args meth c) (hd : decode r.2.2.1 pc = .ok (.f2d, 1)) (h : ev_op k r.1 (.f2d) σ pc L st = some (.inl c')) (kk : ev_W p l e R s m args below meth c D B n0 n1 Q c') : ev_W p l e R s m args below meth c D B n0 n1 Q (σ, pc, L, st) := by
  replace h : (match st with | .float x :: r => if ev_n64 (FP.f2d x) = true then ev_nx σ (pc + 1) L (.double (FP.f2d x) :: r) else none | _ => none) = some (.inl c') := h
  split at h
  · split at h
    · next hp =>
      cases h
      intro H locs ls hR hS hV hz
      exact lv_f2d X.2.1 X.2.2.1 hd (ev_n64_ok hp) (kk H locs ls hR hS hV hz)
    · cases h
  · cases h
theorem ev_s_d2f (X : ev_Cx D B k r p R s m args meth c) (hd : decode r.2.2.1 pc = .ok (.d2f, 1)) (h : ev_op k r.1 (.d2f) σ pc L st = some (.inl c')) (kk : ev_W p l e R s m args below meth c D B n0 n1 Q c') : ev_W p l e R s m args below meth c D B n0 n1 Q (σ, pc, L, st) := by
  replace h : (match st with | .double x :: r => if ev_n32 (FP.d2f x) = true then ev_nx σ (pc + 1) L (.float (FP.d2f x) :: r) else none | _ => none) = some (.inl c') := h
  split at h
  · split at h
    · next hp =>
      cases h
      intro H locs ls hR hS hV hz
      exact lv_d2f X.2.1 X.2.2.1 hd (ev_n32_ok hp) (kk H locs ls hR hS hV hz)
    · cases h
  · cases h
theorem ev_s_dup (X : ev_Cx D B k r p R s m args meth c) (hd : decode r.2.2.1 pc = .ok (.dup, 1)) (h : ev_op k r.1 (.dup) σ pc L st = some (.inl c')) (kk : ev_W p l e R s m args below meth c D B n0 n1 Q c') : ev_W p l e R s m args below meth c D B n0 n1 Q (σ, pc, L, st) := by
  replace h : (match st with | v :: r => if v.category = 1 then ev_nx σ (pc + 1) L (v :: v :: r) else none | _ => none) = some (.inl c') := h
  split at h
  · split at h
    · next hp =>
      cases h
      intro H locs ls hR hS hV hz
      exact lv_dup X.2.1 X.2.2.1 hd hp (kk H locs ls hR hS hV hz)
    · cases h
  · cases h
theorem ev_s_pop (X : ev_Cx D B k r p R s m args meth c) (hd : decode r.2.2.1 pc = .ok (.pop, 1)) (h : ev_op k r.1 (.pop) σ pc L st = some (.inl c')) (kk : ev_W p l e R s m args below meth c D B n0 n1 Q c') : ev_W p l e R s m args below meth c D B n0 n1 Q (σ, pc, L, st) := by
  replace h : (match st with | v :: r => if v.category = 1 then ev_nx σ (pc + 1) L r else none | _ => none) = some (.inl c') := h
  split at h
  · split at h
    · next hp =>
      cases h
      intro H locs ls hR hS hV hz
      exact lv_pop X.2.1 X.2.2.1 hd hp (kk H locs ls hR hS hV hz)
    · cases h
  · cases h
theorem ev_s_dup2 (X : ev_Cx D B k r p R s m args meth c) (hd : decode r.2.2.1 pc = .ok (.dup2, 1)) (h : ev_op k r.1 (.dup2) σ pc L st = some (.inl c')) (kk : ev_W p l e R s m args below meth c D B n0 n1 Q c') : ev_W p l e R s m args below meth c D B n0 n1 Q (σ, pc, L, st) := by
  replace h : (match st with | v :: w :: r => if v.category = 1 ∧ w.category = 1 then ev_nx σ (pc + 1) L (v :: w :: v :: w :: r) else none | _ => none) = some (.inl c') := h
  split at h
  · split at h
    · next hp =>
      cases h
      intro H locs ls hR hS hV hz
      exact lv_dup2_11 X.2.1 X.2.2.1 hd hp.1 hp.2 (kk H locs ls hR hS hV hz)
    · cases h
  · cases h
theorem ev_to_inv {off : Int} (h : ev_to off σ pc L st = some (.inl c')) : ∃ tg : Nat, (pc : Int) + off = (tg : Int) ∧ c' = (σ, tg, L, st) := by
  unfold ev_to at h
  split at h
  · next hp => cases h; exact ⟨_, (Int.toNat_of_nonneg hp).symm, rfl⟩
  · cases h
theorem ev_s_goto {off : Int} (X : ev_Cx D B k r p R s m args meth c) (hd : decode r.2.2.1 pc = .ok (.goto off, 3)) (h : ev_op k r.1 (.goto off) σ pc L st = some (.inl c')) (kk : ev_W p l e R s m args below meth c D B n0 n1 Q c') : ev_W p l e R s m args below meth c D B n0 n1 Q (σ, pc, L, st) := by
  obtain ⟨tg, ht, rfl⟩ := ev_to_inv (show ev_to off σ pc L st = some (.inl c') from h)
  intro H locs ls hR hS hV hz
  exact lv_goto X.2.1 X.2.2.1 hd ht (kk H locs ls hR hS hV hz)
theorem ev_br_inv {b : Bool} {off : Int} (h : ev_br b off σ pc L st = some (.inl c')) : ∃ tg : Nat, (pc : Int) + off = (tg : Int) ∧ ((b = true ∧ c' = (σ, tg, L, st)) ∨ (b = false ∧ c' = (σ, pc + 3, L, st))) := by
  unfold ev_br at h
  split at h
  · next h0 =>
    refine ⟨_, (Int.toNat_of_nonneg h0).symm, ?_⟩
    split at h
    · next hp => cases h; exact Or.inl ⟨hp, rfl⟩
    · next hp => cases h; exact Or.inr ⟨by cases b <;> simp_all, rfl⟩
  · cases h
theorem ev_s_if_eq {off : Int} (X : ev_Cx D B k r p R s m args meth c) (hd : decode r.2.2.1 pc = .ok (.ifCond .eq off, 3)) (h : ev_op k r.1 (.ifCond .eq off) σ pc L st = some (.inl c')) (kk : ev_W p l e R s m args below meth c D B n0 n1 Q c') : ev_W p l e R s m args below meth c D B n0 n1 Q (σ, pc, L, st) := by
  replace h : (match st with | .int x :: r => ev_br (ev_cnd .eq x 0) off σ pc L r | _ => none) = some (.inl c') := h
  split at h
  · obtain ⟨tg, ht, ⟨hb, rfl⟩ | ⟨hb, rfl⟩⟩ := ev_br_inv h
    · intro H locs ls hR hS hV hz
      unfold ev_cnd at hb
      exact lv_if_eq X.2.1 X.2.2.1 hd ht (fun _ => (kk H locs ls hR hS hV hz)) (fun q => absurd (of_decide_eq_true hb) q)
    · intro H locs ls hR hS hV hz
      unfold ev_cnd at hb
      exact lv_if_eq X.2.1 X.2.2.1 hd ht (fun q => absurd q (of_decide_eq_false hb)) (fun _ => (kk H locs ls hR hS hV hz))
  · cases h
theorem ev_s_icmp_eq {off : Int} (X : ev_Cx D B k r p R s m args meth c) (hd : decode r.2.2.1 pc = .ok (.if_icmp .eq off, 3)) (h : ev_op k r.1 (.if_icmp .eq off) σ pc L st = some (.inl c')) (kk : ev_W p l e R s m args below meth c D B n0 n1 Q c') : ev_W p l e R s m args below meth c D B n0 n1 Q (σ, pc, L, st) := by
  replace h : (match st with | .int y :: .int x :: r => ev_br (ev_cnd .eq x y) off σ pc L r | _ => none) = some (.inl c') := h
  split at h
  · obtain ⟨tg, ht, ⟨hb, rfl⟩ | ⟨hb, rfl⟩⟩ := ev_br_inv h
    · intro H locs ls hR hS hV hz
      unfold ev_cnd at hb
      exact lv_icmp_eq X.2.1 X.2.2.1 hd ht (fun _ => (kk H locs ls hR hS hV hz)) (fun q => absurd (of_decide_eq_true hb) q)
    · intro H locs ls hR hS hV hz
      unfold ev_cnd at hb
      exact lv_icmp_eq X.2.1 X.2.2.1 hd ht (fun q => absurd q (of_decide_eq_false hb)) (fun _ => (kk H locs ls hR hS hV hz))
  · cases h
theorem ev_s_if_ne {off : Int} (X : ev_Cx D B k r p R s m args meth c) (hd : decode r.2.2.1 pc = .ok (.ifCond .ne off, 3)) (h : ev_op k r.1 (.ifCond .ne off) σ pc L st = some (.inl c')) (kk : ev_W p l e R s m args below meth c D B n0 n1 Q c') : ev_W p l e R s m args below meth c D B n0 n1 Q (σ, pc, L, st) := by
  replace h : (match st with | .int x :: r => ev_br (ev_cnd .ne x 0) off σ pc L r | _ => none) = some (.inl c') := h
  split at h
  · obtain ⟨tg, ht, ⟨hb, rfl⟩ | ⟨hb, rfl⟩⟩ := ev_br_inv h
    · intro H locs ls hR hS hV hz
      unfold ev_cnd at hb
      exact lv_if_ne X.2.1 X.2.2.1 hd ht (fun _ => (kk H locs ls hR hS hV hz)) (fun q => absurd q (of_decide_eq_true hb))
    · intro H locs ls hR hS hV hz
      unfold ev_cnd at hb
      exact lv_if_ne X.2.1 X.2.2.1 hd ht (fun q => absurd q (of_decide_eq_false hb)) (fun _ => (kk H locs ls hR hS hV hz))
  · cases h
theorem ev_s_icmp_ne {off : Int} (X : ev_Cx D B k r p R s m args meth c) (hd : decode r.2.2.1 pc = .ok (.if_icmp .ne off, 3)) (h : ev_op k r.1 (.if_icmp .ne off) σ pc L st = some (.inl c')) (kk : ev_W p l e R s m args below meth c D B n0 n1 Q c') : ev_W p l e R s m args below meth c D B n0 n1 Q (σ, pc, L, st) := by
  replace h : (match st with | .int y :: .int x :: r => ev_br (ev_cnd .ne x y) off σ pc L r | _ => none) = some (.inl c') := h
  split at h
  · obtain ⟨tg, ht, ⟨hb, rfl⟩ | ⟨hb, rfl⟩⟩ := ev_br_inv h
    · intro H locs ls hR hS hV hz
      unfold ev_cnd at hb
      exact lv_icmp_ne X.2.1 X.2.2.1 hd ht (fun _ => (kk H locs ls hR hS hV hz)) (fun q => absurd q (of_decide_eq_true hb))
    · intro H locs ls hR hS hV hz
      unfold ev_cnd at hb
      exact lv_icmp_ne X.2.1 X.2.2.1 hd ht (fun q => absurd q (of_decide_eq_false hb)) (fun _ => (kk H locs ls hR hS hV hz))
  · cases h
theorem ev_s_if_lt {off : Int} (X : ev_Cx D B k r p R s m args meth c) (hd : decode r.2.2.1 pc = .ok (.ifCond .lt off, 3)) (h : ev_op k r.1 (.ifCond .lt off) σ pc L st = some (.inl c')) (kk : ev_W p l e R s m args below meth c D B n0 n1 Q c') : ev_W p l e R s m args below meth c D B n0 n1 Q (σ, pc, L, st) := by
  replace h : (match st with | .int x :: r => ev_br (ev_cnd .lt x 0) off σ pc L r | _ => none) = some (.inl c') := h
  split at h
  · obtain ⟨tg, ht, ⟨hb, rfl⟩ | ⟨hb, rfl⟩⟩ := ev_br_inv h
    · intro H locs ls hR hS hV hz
      unfold ev_cnd at hb
      exact lv_if_lt X.2.1 X.2.2.1 hd ht (fun _ => (kk H locs ls hR hS hV hz)) (fun q => absurd (of_decide_eq_true hb) q)
    · intro H locs ls hR hS hV hz
      unfold ev_cnd at hb
      exact lv_if_lt X.2.1 X.2.2.1 hd ht (fun q => absurd q (of_decide_eq_false hb)) (fun _ => (kk H locs ls hR hS hV hz))
  · cases h
theorem ev_s_icmp_lt {off : Int} (X : ev_Cx D B k r p R s m args meth c) (hd : decode r.2.2.1 pc = .ok (.if_icmp .lt off, 3)) (h : ev_op k r.1 (.if_icmp .lt off) σ pc L st = some (.inl c')) (kk : ev_W p l e R s m args below meth c D B n0 n1 Q c') : ev_W p l e R s m args below meth c D B n0 n1 Q (σ, pc, L, st) := by
  replace h : (match st with | .int y :: .int x :: r => ev_br (ev_cnd .lt x y) off σ pc L r | _ => none) = some (.inl c') := h
  split at h
  · obtain ⟨tg, ht, ⟨hb, rfl⟩ | ⟨hb, rfl⟩⟩ := ev_br_inv h
    · intro H locs ls hR hS hV hz
      unfold ev_cnd at hb
      exact lv_icmp_lt X.2.1 X.2.2.1 hd ht (fun _ => (kk H locs ls hR hS hV hz)) (fun q => absurd (of_decide_eq_true hb) q)
    · intro H locs ls hR hS hV hz
      unfold ev_cnd at hb
      exact lv_icmp_lt X.2.1 X.2.2.1 hd ht (fun q => absurd q (of_decide_eq_false hb)) (fun _ => (kk H locs ls hR hS hV hz))
  · cases h
theorem ev_s_if_ge {off : Int} (X : ev_Cx D B k r p R s m args meth c) (hd : decode r.2.2.1 pc = .ok (.ifCond .ge off, 3)) (h : ev_op k r.1 (.ifCond .ge off) σ pc L st = some (.inl c')) (kk : ev_W p l e R s m args below meth c D B n0 n1 Q c') : ev_W p l e R s m args below meth c D B n0 n1 Q (σ, pc, L, st) := by
  replace h : (match st with | .int x :: r => ev_br (ev_cnd .ge x 0) off σ pc L r | _ => none) = some (.inl c') := h
  split at h
  · obtain ⟨tg, ht, ⟨hb, rfl⟩ | ⟨hb, rfl⟩⟩ := ev_br_inv h
    · intro H locs ls hR hS hV hz
      unfold ev_cnd at hb
      exact lv_if_ge X.2.1 X.2.2.1 hd ht (fun _ => (kk H locs ls hR hS hV hz)) (fun q => absurd (of_decide_eq_true hb) q)
    · intro H locs ls hR hS hV hz
      unfold ev_cnd at hb
      exact lv_if_ge X.2.1 X.2.2.1 hd ht (fun q => absurd q (of_decide_eq_false hb)) (fun _ => (kk H locs ls hR hS hV hz))
  · cases h
theorem ev_s_icmp_ge {off : Int} (X : ev_Cx D B k r p R s m args meth c) (hd : decode r.2.2.1 pc = .ok (.if_icmp .ge off, 3)) (h : ev_op k r.1 (.if_icmp .ge off) σ pc L st = some (.inl c')) (kk : ev_W p l e R s m args below meth c D B n0 n1 Q c') : ev_W p l e R s m args below meth c D B n0 n1 Q (σ, pc, L, st) := by
  replace h : (match st with | .int y :: .int x :: r => ev_br (ev_cnd .ge x y) off σ pc L r | _ => none) = some (.inl c') := h
  split at h
  · obtain ⟨tg, ht, ⟨hb, rfl⟩ | ⟨hb, rfl⟩⟩ := ev_br_inv h
    · intro H locs ls hR hS hV hz
      unfold ev_cnd at hb
      exact lv_icmp_ge X.2.1 X.2.2.1 hd ht (fun _ => (kk H locs ls hR hS hV hz)) (fun q => absurd (of_decide_eq_true hb) q)
    · intro H locs ls hR hS hV hz
      unfold ev_cnd at hb
      exact lv_icmp_ge X.2.1 X.2.2.1 hd ht (fun q => absurd q (of_decide_eq_false hb)) (fun _ => (kk H locs ls hR hS hV hz))
  · cases h
theorem ev_s_if_gt {off : Int} (X : ev_Cx D B k r p R s m args meth c) (hd : decode r.2.2.1 pc = .ok (.ifCond .gt off, 3)) (h : ev_op k r.1 (.ifCond .gt off) σ pc L st = some (.inl c')) (kk : ev_W p l e R s m args below meth c D B n0 n1 Q c') : ev_W p l e R s m args below meth c D B n0 n1 Q (σ, pc, L, st) := by
  replace h : (match st with | .int x :: r => ev_br (ev_cnd .gt x 0) off σ pc L r | _ => none) = some (.inl c') := h
  split at h
  · obtain ⟨tg, ht, ⟨hb, rfl⟩ | ⟨hb, rfl⟩⟩ := ev_br_inv h
    · intro H locs ls hR hS hV hz
      unfold ev_cnd at hb
      exact lv_if_gt X.2.1 X.2.2.1 hd ht (fun _ => (kk H locs ls hR hS hV hz)) (fun q => absurd (of_decide_eq_true hb) q)
    · intro H locs ls hR hS hV hz
      unfold ev_cnd at hb
      exact lv_if_gt X.2.1 X.2.2.1 hd ht (fun q => absurd q (of_decide_eq_false hb)) (fun _ => (kk H locs ls hR hS hV hz))
  · cases h
theorem ev_s_icmp_gt {off : Int} (X : ev_Cx D B k r p R s m args meth c) (hd : decode r.2.2.1 pc = .ok (.if_icmp .gt off, 3)) (h : ev_op k r.1 (.if_icmp .gt off) σ pc L st = some (.inl c')) (kk : ev_W p l e R s m args below meth c D B n0 n1 Q c') : ev_W p l e R s m args below meth c D B n0 n1 Q (σ, pc, L, st) := by
  replace h : (match st with | .int y :: .int x :: r => ev_br (ev_cnd .gt x y) off σ pc L r | _ => none) = some (.inl c') := h
  split at h
  · obtain ⟨tg, ht, ⟨hb, rfl⟩ | ⟨hb, rfl⟩⟩ := ev_br_inv h
    · intro H locs ls hR hS hV hz
      unfold ev_cnd at hb
      exact lv_icmp_gt X.2.1 X.2.2.1 hd ht (fun _ => (kk H locs ls hR hS hV hz)) (fun q => absurd (of_decide_eq_true hb) q)
    · intro H locs ls hR hS hV hz
      unfold ev_cnd at hb
      exact lv_icmp_gt X.2.1 X.2.2.1 hd ht (fun q => absurd q (of_decide_eq_false hb)) (fun _ => (kk H locs ls hR hS hV hz))
  · cases h
theorem ev_s_if_le {off : Int} (X : ev_Cx D B k r p R s m args meth c) (hd : decode r.2.2.1 pc = .ok (.ifCond .le off, 3)) (h : ev_op k r.1 (.ifCond .le off) σ pc L st = some (.inl c')) (kk : ev_W p l e R s m args below meth c D B n0 n1 Q c') : ev_W p l e R s m args below meth c D B n0 n1 Q (σ, pc, L, st) := by
  replace h : (match st with | .int x :: r => ev_br (ev_cnd .le x 0) off σ pc L r | _ => none) = some (.inl c') := h
  split at h
  · obtain ⟨tg, ht, ⟨hb, rfl⟩ | ⟨hb, rfl⟩⟩ := ev_br_inv h
    · intro H locs ls hR hS hV hz
      unfold ev_cnd at hb
      exact lv_if_le X.2.1 X.2.2.1 hd ht (fun _ => (kk H locs ls hR hS hV hz)) (fun q => absurd (of_decide_eq_true hb) q)
    · intro H locs ls hR hS hV hz
      unfold ev_cnd at hb
      exact lv_if_le X.2.1 X.2.2.1 hd ht (fun q => absurd q (of_decide_eq_false hb)) (fun _ => (kk H locs ls hR hS hV hz))
  · cases h
theorem ev_s_icmp_le {off : Int} (X : ev_Cx D B k r p R s m args meth c) (hd : decode r.2.2.1 pc = .ok (.if_icmp .le off, 3)) (h : ev_op k r.1 (.if_icmp .le off) σ pc L st = some (.inl c')) (kk : ev_W p l e R s m args below meth c D B n0 n1 Q c') : ev_W p l e R s m args below meth c D B n0 n1 Q (σ, pc, L, st) := by
  replace h : (match st with | .int y :: .int x :: r => ev_br (ev_cnd .le x y) off σ pc L r | _ => none) = some (.inl c') := h
  split at h
  · obtain ⟨tg, ht, ⟨hb, rfl⟩ | ⟨hb, rfl⟩⟩ := ev_br_inv h
    · intro H locs ls hR hS hV hz
      unfold ev_cnd at hb
      exact lv_icmp_le X.2.1 X.2.2.1 hd ht (fun _ => (kk H locs ls hR hS hV hz)) (fun q => absurd (of_decide_eq_true hb) q)
    · intro H locs ls hR hS hV hz
      unfold ev_cnd at hb
      exact lv_icmp_le X.2.1 X.2.2.1 hd ht (fun q => absurd q (of_decide_eq_false hb)) (fun _ => (kk H locs ls hR hS hV hz))
  · cases h
theorem ev_s_ifnull {off : Int} (X : ev_Cx D B k r p R s m args meth c) (hd : decode r.2.2.1 pc = .ok (.ifnull off, 3)) (h : ev_op k r.1 (.ifnull off) σ pc L st = some (.inl c')) (kk : ev_W p l e R s m args below meth c D B n0 n1 Q c') : ev_W p l e R s m args below meth c D B n0 n1 Q (σ, pc, L, st) := by
  replace h : (match st with | .null :: r => ev_to off σ pc L r | .ref _ :: r => ev_nx σ (pc + 3) L r | _ => none) = some (.inl c') := h
  split at h
  · obtain ⟨tg, ht, rfl⟩ := ev_to_inv h
    intro H locs ls hR hS hV hz
    exact lv_ifnullN X.2.1 X.2.2.1 hd ht (kk H locs ls hR hS hV hz)
  · cases h
    intro H locs ls hR hS hV hz
    exact lv_ifnull X.2.1 X.2.2.1 hd (kk H locs ls hR hS hV hz)
  · cases h
theorem ev_s_ifnonnull {off : Int} (X : ev_Cx D B k r p R s m args meth c) (hd : decode r.2.2.1 pc = .ok (.ifnonnull off, 3)) (h : ev_op k r.1 (.ifnonnull off) σ pc L st = some (.inl c')) (kk : ev_W p l e R s m args below meth c D B n0 n1 Q c') : ev_W p l e R s m args below meth c D B n0 n1 Q (σ, pc, L, st) := by
  replace h : (match st with | .ref _ :: r => ev_to off σ pc L r | .null :: r => ev_nx σ (pc + 3) L r | _ => none) = some (.inl c') := h
  split at h
  · obtain ⟨tg, ht, rfl⟩ := ev_to_inv h
    intro H locs ls hR hS hV hz
    exact lv_ifnonnull X.2.1 X.2.2.1 hd ht (kk H locs ls hR hS hV hz)
  · cases h
    intro H locs ls hR hS hV hz
    exact lv_ifnonnullN X.2.1 X.2.2.1 hd (kk H locs ls hR hS hV hz)
  · cases h
theorem ev_s_tsw {len : Nat} {d lo hi : Int} {offs : Array Int} (X : ev_Cx D B k r p R s m args meth c) (hd : decode r.2.2.1 pc = .ok (.tableswitch d lo hi offs, len)) (h : ev_op k r.1 (.tableswitch d lo hi offs) σ pc L st = some (.inl c')) (kk : ev_W p l e R s m args below meth c D B n0 n1 Q c') : ev_W p l e R s m args below meth c D B n0 n1 Q (σ, pc, L, st) := by
  replace h : (match st with | .int x :: r => if x.toInt < lo ∨ hi < x.toInt then ev_to d σ pc L r else (match offs[(x.toInt - lo).toNat]? with | some off => ev_to off σ pc L r | none => none) | _ => none) = some (.inl c') := h
  split at h
  · split at h
    · next hq =>
      obtain ⟨tg, ht, rfl⟩ := ev_to_inv h
      intro H locs ls hR hS hV hz
      exact lv_tableOut X.2.1 X.2.2.1 hd hq ht (kk H locs ls hR hS hV hz)
    · next hq =>
      split at h
      · next off ho =>
        obtain ⟨tg, ht, rfl⟩ := ev_to_inv h
        intro H locs ls hR hS hV hz
        exact lv_tableIn X.2.1 X.2.2.1 hd (fun z => hq (Or.inl z)) (fun z => hq (Or.inr z)) ho ht (kk H locs ls hR hS hV hz)
      · cases h
  · cases h
theorem ev_s_lsw {len : Nat} {d : Int} {ps : Array (Int × Int)} (X : ev_Cx D B k r p R s m args meth c) (hd : decode r.2.2.1 pc = .ok (.lookupswitch d ps, len)) (h : ev_op k r.1 (.lookupswitch d ps) σ pc L st = some (.inl c')) (kk : ev_W p l e R s m args below meth c D B n0 n1 Q c') : ev_W p l e R s m args below meth c D B n0 n1 Q (σ, pc, L, st) := by
  replace h : (match st with | .int x :: r => if (ps.toList.zip (ps.toList.drop 1)).all (fun (a, next) => a.1 < next.1) = true then ev_to (Op.lookupswitch.offset ps.toList d x.toInt) σ pc L r else none | _ => none) = some (.inl c') := h
  split at h
  · split at h
    · next hq =>
      obtain ⟨tg, ht, rfl⟩ := ev_to_inv h
      intro H locs ls hR hS hV hz
      exact lv_lookup X.2.1 X.2.2.1 hd hq rfl ht (kk H locs ls hR hS hV hz)
    · cases h
  · cases h
end EVS
