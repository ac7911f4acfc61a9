-- AN EVALUATOR of the bytecode over pictures of the heap; part 05 on show that the machine does what it says
/-- a cell: an array (element type, contents), an object (number of its class in vwCl, fields), the law's script -/
abbrev ev_E : Type := (FieldType × vp_A) ⊕ ((Nat × List Value) ⊕ (Nat × (Nat → Int32)))
/-- a heap: its size, the slots made in it, its cells -/
abbrev ev_H : Type := Nat × Nat × (Nat → Option ev_E)
abbrev ev_L : Type := List (Option Value)
abbrev ev_C : Type := ev_H × Nat × ev_L × List Value
abbrev ev_A : Type := Option (ev_C ⊕ ((Nat × List Value × Nat × ev_L × List Value) ⊕ Option Value))
def ev_nx (σ : ev_H) (pc : Nat) (L : ev_L) (st : List Value) : ev_A := some (.inl (σ, pc, L, st))
def ev_rt (v : Option Value) : ev_A := some (.inr (.inr v))
-- tables
def ev_t2 {β : Type} : List ((Nat × Nat) × β) → Nat → Nat → Option β
  | [], _, _ => none
  | q :: r, a, b => bif q.1.1 == a && q.1.2 == b then some q.2 else ev_t2 r a b
def ev_t3 {β : Type} : List ((Nat × Nat × Nat) × β) → Nat → Nat → Nat → Option β
  | [], _, _, _ => none
  | q :: r, a, b, c => bif q.1.1 == a && (q.1.2.1 == b && q.1.2.2 == c) then some q.2 else ev_t3 r a b c
theorem ev_t2_mem {β : Type} {t : List ((Nat × Nat) × β)} {a b : Nat} {v : β} (h : ev_t2 t a b = some v) : ((a, b), v) ∈ t := by
  induction t with
  | nil => cases h
  | cons q r ih =>
    unfold ev_t2 at h
    cases hc : (q.1.1 == a && q.1.2 == b) with
    | false => rw [hc] at h; exact List.mem_cons_of_mem _ (ih h)
    | true =>
      rw [hc] at h
      simp only [Bool.and_eq_true, beq_iff_eq] at hc
      obtain ⟨⟨x, y⟩, z⟩ := q
      simp only at hc
      cases h
      rw [hc.1, hc.2]
      exact List.mem_cons_self
theorem ev_t3_mem {β : Type} {t : List ((Nat × Nat × Nat) × β)} {a b c : Nat} {v : β} (h : ev_t3 t a b c = some v) : ((a, b, c), v) ∈ t := by
  induction t with
  | nil => cases h
  | cons q r ih =>
    unfold ev_t3 at h
    cases hc : (q.1.1 == a && (q.1.2.1 == b && q.1.2.2 == c)) with
    | false => rw [hc] at h; exact List.mem_cons_of_mem _ (ih h)
    | true =>
      rw [hc] at h
      simp only [Bool.and_eq_true, beq_iff_eq] at hc
      obtain ⟨⟨x, y, y2⟩, z⟩ := q
      simp only at hc
      cases h
      rw [hc.1, hc.2.1, hc.2.2]
      exact List.mem_cons_self
-- locals
def ev_lg (L : ev_L) (i : Nat) : Option Value := match L[i]? with
  | some (some v) => some v
  | _ => none
def ev_kill (L : ev_L) : Nat → ev_L
  | 0 => L
  | i + 1 => match L[i]? with
    | some (some w) => if w.category = 2 then L.set i none else L
    | _ => L
def ev_s1 (L : ev_L) (i : Nat) (v : Value) : ev_L := (ev_kill L i).set i (some v)
def ev_s2 (L : ev_L) (i : Nat) (v : Value) : ev_L := ((ev_kill L i).set i (some v)).set (i + 1) none
def ev_sl : List Value → ev_L
  | [] => []
  | v :: r => if v.category = 2 then some v :: none :: ev_sl r else some v :: ev_sl r
def ev_ent (n : Nat) (vs : List Value) : ev_L := ev_sl vs ++ List.replicate (n - (ev_sl vs).length) none
def ev_sw : List Value → Nat
  | [] => 0
  | v :: r => v.category + ev_sw r
-- heaps
def ev_up (σ : ev_H) (a : Nat) (e : ev_E) : ev_H := (σ.1, σ.2.1, fun q => if q = a then some e else σ.2.2 q)
def ev_new (σ : ev_H) (n : Nat) (e : ev_E) : ev_H := (σ.1 + 1, σ.2.1 + n, fun q => if q = σ.1 then some e else σ.2.2 q)
def ev_gf (σ : ev_H) (a ci k : Nat) : Option Value := match σ.2.2 a with
  | some (.inr (.inl o)) => if o.1 = ci then o.2[k]? else none
  | _ => none
def ev_pf (σ : ev_H) (a ci k : Nat) (v : Value) : Option ev_H := match σ.2.2 a with
  | some (.inr (.inl o)) => if o.1 = ci ∧ k < o.2.length then some (ev_up σ a (.inr (.inl (ci, o.2.set k v)))) else none
  | _ => none
def ev_cl (σ : ev_H) (a : Nat) : Option Nat := match σ.2.2 a with
  | some (.inr (.inl o)) => some o.1
  | _ => none
def ev_out (i : Int32) (n : Nat) : Bool := decide (i < 0) || decide (n ≤ i.toNatClampNeg)
def ev_ild (σ : ev_H) (a : Nat) (i : Int32) : Option Int32 := match σ.2.2 a with
  | some (.inl (ty, n, .inl f)) => if ty = .int ∧ ev_out i n = false then some (f i.toNatClampNeg) else none
  | some (.inr (.inr (n, f))) => if ev_out i n = false then some (f i.toNatClampNeg) else none
  | _ => none
def ev_zld (σ : ev_H) (a : Nat) (i : Int32) : Option Int32 := match σ.2.2 a with
  | some (.inl (ty, n, .inl f)) => if ty = .boolean ∧ ev_out i n = false then some (f i.toNatClampNeg) else none
  | _ => none
def ev_lld (σ : ev_H) (a : Nat) (i : Int32) : Option Int64 := match σ.2.2 a with
  | some (.inl (ty, n, .inr (.inl f))) => if ty = .long ∧ ev_out i n = false then some (f i.toNatClampNeg) else none
  | _ => none
def ev_ald (σ : ev_H) (a : Nat) (i : Int32) : Option (Option Nat) := match σ.2.2 a with
  | some (.inl (.object _, n, .inr (.inr (.inr (.inr f))))) => if ev_out i n = false then some (f i.toNatClampNeg) else none
  | _ => none
def ev_len (σ : ev_H) (a : Nat) : Option Int32 := match σ.2.2 a with
  | some (.inl (_, n, _)) => some (Int32.ofNat n)
  | some (.inr (.inr (n, _))) => some (Int32.ofNat n)
  | _ => none
def ev_ist (σ : ev_H) (a : Nat) (i x : Int32) : Option ev_H := match σ.2.2 a with
  | some (.inl (ty, n, .inl f)) => if ty = .int ∧ ev_out i n = false then some (ev_up σ a (.inl (ty, n, .inl (upd f i.toNatClampNeg x)))) else none
  | _ => none
def ev_zst (σ : ev_H) (a : Nat) (i x : Int32) : Option ev_H := match σ.2.2 a with
  | some (.inl (ty, n, .inl f)) => if ty = .boolean ∧ ev_out i n = false then some (ev_up σ a (.inl (ty, n, .inl (upd f i.toNatClampNeg (vp_nar .boolean x))))) else none
  | _ => none
def ev_lst (σ : ev_H) (a : Nat) (i : Int32) (x : Int64) : Option ev_H := match σ.2.2 a with
  | some (.inl (ty, n, .inr (.inl f))) => if ty = .long ∧ ev_out i n = false then some (ev_up σ a (.inl (ty, n, .inr (.inl (vp_updL f i.toNatClampNeg x))))) else none
  | _ => none
/-- the pairs of classes that the Statement says are not castable -/
def ev_nc : List (String × String) := [("PatchAsks", "PatchAsks$Bank"), ("PatchAsks$FloatForm", "PatchAsks$Bank"), ("PatchAsksModel", "PatchAsks$Bank"), ("PatchAsks$Curve", "PatchAsks$Bank"), ("PatchAsks$Sheet", "PatchAsks$Bank"), ("PatchAsks$Voice", "PatchAsks$Bank"), ("PatchAsks", "PatchAsks$Voice"), ("PatchAsks$FloatForm", "PatchAsks$Voice"), ("PatchAsksModel", "PatchAsks$Voice"), ("PatchAsks$Curve", "PatchAsks$Voice"), ("PatchAsks$Sheet", "PatchAsks$Voice"), ("PatchAsks$Bank", "PatchAsks$Voice"), ("PatchAsks", "PatchAsks$Sheet"), ("PatchAsks$FloatForm", "PatchAsks$Sheet"), ("PatchAsksModel", "PatchAsks$Sheet"), ("PatchAsks$Curve", "PatchAsks$Sheet"), ("PatchAsks$Bank", "PatchAsks$Sheet"), ("PatchAsks$Voice", "PatchAsks$Sheet"), ("PatchAsks", "PatchAsks$Curve"), ("PatchAsks$FloatForm", "PatchAsks$Curve"), ("PatchAsksModel", "PatchAsks$Curve"), ("PatchAsks$Sheet", "PatchAsks$Curve"), ("PatchAsks$Bank", "PatchAsks$Curve"), ("PatchAsks$Voice", "PatchAsks$Curve"), ("[LPatchAsks$Thing;", "PatchAsks$Bank"), ("[I", "PatchAsks$Bank"), ("[J", "PatchAsks$Bank"), ("[LPatchAsks$Curve;", "PatchAsks$Bank"), ("[LPatchAsks$Voice;", "PatchAsks$Bank"), ("[Z", "PatchAsks$Bank"), ("[LPatchAsks$Thing;", "PatchAsks$Voice"), ("[I", "PatchAsks$Voice"), ("[J", "PatchAsks$Voice"), ("[LPatchAsks$Curve;", "PatchAsks$Voice"), ("[LPatchAsks$Voice;", "PatchAsks$Voice"), ("[Z", "PatchAsks$Voice"), ("[LPatchAsks$Thing;", "PatchAsks$Sheet"), ("[I", "PatchAsks$Sheet"), ("[J", "PatchAsks$Sheet"), ("[LPatchAsks$Curve;", "PatchAsks$Sheet"), ("[LPatchAsks$Voice;", "PatchAsks$Sheet"), ("[Z", "PatchAsks$Sheet"), ("[LPatchAsks$Thing;", "PatchAsks$Curve"), ("[I", "PatchAsks$Curve"), ("[J", "PatchAsks$Curve"), ("[LPatchAsks$Curve;", "PatchAsks$Curve"), ("[LPatchAsks$Voice;", "PatchAsks$Curve"), ("[Z", "PatchAsks$Curve"), ("PatchAsks", "PatchAsks$Thing"), ("PatchAsks$FloatForm", "PatchAsks$Thing"), ("PatchAsksModel", "PatchAsks$Thing"), ("PatchAsks$Thing", "PatchAsks$Curve"), ("PatchAsks$Thing", "PatchAsks$Voice")]
/-- may an object of class number ci stand where class C is asked for? none: not known -/
def ev_sub (ci : Nat) (C : String) : Option Bool := match vwCl[ci]? with
  | none => none
  | some r => if r.1 = C then some true else if Cond.castable r.1 C ∈ lw_tbl then some true else if (r.1, C) ∈ ev_nc then some false else none
def ev_may (σ : ev_H) (C : String) (x : Option Nat) : Bool := match x with
  | none => true
  | some v => match ev_cl σ v with
    | none => false
    | some ci => ev_sub ci C == some true
def ev_ast (σ : ev_H) (a : Nat) (i : Int32) (x : Option Nat) : Option ev_H := match σ.2.2 a with
  | some (.inl (.object C, n, .inr (.inr (.inr (.inr f))))) => if ev_out i n = false ∧ ev_may σ C x = true then some (ev_up σ a (.inl (.object C, n, .inr (.inr (.inr (.inr (va_up f i.toNatClampNeg x))))))) else none
  | _ => none
def ev_cpy (σ : ev_H) (a : Nat) (sp : Int32) (b : Nat) (dp n : Int32) : Option ev_H := match σ.2.2 a, σ.2.2 b with
  | some (.inl (.long, n0, .inr (.inl f))), some (.inl (.long, n1, .inr (.inl g))) => if ¬ sp < 0 ∧ ¬ dp < 0 ∧ ¬ n < 0 ∧ sp.toNatClampNeg + n.toNatClampNeg ≤ n0 ∧ dp.toNatClampNeg + n.toNatClampNeg ≤ n1 then some (ev_up σ b (.inl (.long, n1, .inr (.inl (va_cpy f g sp.toNatClampNeg dp.toNatClampNeg n.toNatClampNeg))))) else none
  | _, _ => none
def ev_zero (ty : FieldType) (n : Nat) : Option vp_A := match ty with
  | .int => some (n, .inl (fun _ => 0))
  | .boolean => some (n, .inl (fun _ => 0))
  | .long => some (n, .inr (.inl (fun _ => 0)))
  | _ => none
def ev_nwa (σ : ev_H) (ty : FieldType) (n : Int32) : Option ev_H := if n < 0 ∨ 65536 < n.toNatClampNeg then none else (ev_zero ty n.toNatClampNeg).map (fun x => ev_new σ n.toNatClampNeg (.inl (ty, x)))
def ev_nwq (σ : ev_H) (C : String) (n : Int32) : Option ev_H := if n < 0 ∨ 65536 < n.toNatClampNeg then none else some (ev_new σ n.toNatClampNeg (.inl (.object C, n.toNatClampNeg, .inr (.inr (.inr (.inr (fun _ => none)))))))
def ev_dfl (ci : Nat) : Option (Nat × List Value) := match vwCl[ci]?, ev_vt[ci]? with
  | some r, some t => some (r.2.2, (List.range r.2.2).map (fun j => defaultValue (t j)))
  | _, _ => none
def ev_nwo (σ : ev_H) (ci : Nat) : Option ev_H := (ev_dfl ci).map (fun q => ev_new σ q.1 (.inr (.inl (ci, q.2))))
-- instructions
def ev_isR (v : Value) : Bool := match v with
  | .ref _ => true
  | .null => true
  | _ => false
def ev_isI (v : Value) : Bool := match v with
  | .int _ => true
  | _ => false
def ev_isJ (v : Value) : Bool := match v with
  | .long _ => true
  | _ => false
def ev_isF (v : Value) : Bool := match v with
  | .float _ => true
  | _ => false
def ev_isD (v : Value) : Bool := match v with
  | .double _ => true
  | _ => false
def ev_ld (p : Value → Bool) (i n : Nat) (σ : ev_H) (pc : Nat) (L : ev_L) (st : List Value) : ev_A := match ev_lg L i with
  | some v => if p v = true then ev_nx σ (pc + n) L (v :: st) else none
  | none => none
def ev_so1 (p : Value → Bool) (i n : Nat) (σ : ev_H) (pc : Nat) (L : ev_L) (st : List Value) : ev_A := match st with
  | v :: r => if p v = true ∧ i < L.length then ev_nx σ (pc + n) (ev_s1 L i v) r else none
  | _ => none
def ev_so2 (p : Value → Bool) (i n : Nat) (σ : ev_H) (pc : Nat) (L : ev_L) (st : List Value) : ev_A := match st with
  | v :: r => if p v = true ∧ i + 1 < L.length then ev_nx σ (pc + n) (ev_s2 L i v) r else none
  | _ => none
def ev_ii (f : Int32 → Int32 → Int32) (σ : ev_H) (pc : Nat) (L : ev_L) (st : List Value) : ev_A := match st with
  | .int y :: .int x :: r => ev_nx σ (pc + 1) L (.int (f x y) :: r)
  | _ => none
def ev_iz (f : Int32 → Int32 → Int32) (σ : ev_H) (pc : Nat) (L : ev_L) (st : List Value) : ev_A := match st with
  | .int y :: .int x :: r => if y = 0 then none else ev_nx σ (pc + 1) L (.int (f x y) :: r)
  | _ => none
def ev_i1 (f : Int32 → Value) (σ : ev_H) (pc : Nat) (L : ev_L) (st : List Value) : ev_A := match st with
  | .int x :: r => ev_nx σ (pc + 1) L (f x :: r)
  | _ => none
def ev_jj (f : Int64 → Int64 → Value) (σ : ev_H) (pc : Nat) (L : ev_L) (st : List Value) : ev_A := match st with
  | .long y :: .long x :: r => ev_nx σ (pc + 1) L (f x y :: r)
  | _ => none
def ev_jz (f : Int64 → Int64 → Int64) (σ : ev_H) (pc : Nat) (L : ev_L) (st : List Value) : ev_A := match st with
  | .long y :: .long x :: r => if y = 0 then none else ev_nx σ (pc + 1) L (.long (f x y) :: r)
  | _ => none
def ev_ji (f : Int64 → Int32 → Int64) (σ : ev_H) (pc : Nat) (L : ev_L) (st : List Value) : ev_A := match st with
  | .int y :: .long x :: r => ev_nx σ (pc + 1) L (.long (f x y) :: r)
  | _ => none
def ev_j1 (f : Int64 → Value) (σ : ev_H) (pc : Nat) (L : ev_L) (st : List Value) : ev_A := match st with
  | .long x :: r => ev_nx σ (pc + 1) L (f x :: r)
  | _ => none
def ev_f1 (f : UInt32 → Value) (σ : ev_H) (pc : Nat) (L : ev_L) (st : List Value) : ev_A := match st with
  | .float x :: r => ev_nx σ (pc + 1) L (f x :: r)
  | _ => none
def ev_d1 (f : UInt64 → Value) (σ : ev_H) (pc : Nat) (L : ev_L) (st : List Value) : ev_A := match st with
  | .double x :: r => ev_nx σ (pc + 1) L (f x :: r)
  | _ => none
def ev_n64 (r : UInt64) : Bool := decide (r &&& 0x7fffffffffffffff ≤ 0x7ff0000000000000)
def ev_n32 (r : UInt32) : Bool := decide (r &&& 0x7fffffff ≤ 0x7f800000)
def ev_ff (f : UInt32 → UInt32 → UInt32) (σ : ev_H) (pc : Nat) (L : ev_L) (st : List Value) : ev_A := match st with
  | .float y :: .float x :: r => if ev_n32 (f x y) = true then ev_nx σ (pc + 1) L (.float (f x y) :: r) else none
  | _ => none
def ev_dd (f : UInt64 → UInt64 → UInt64) (σ : ev_H) (pc : Nat) (L : ev_L) (st : List Value) : ev_A := match st with
  | .double y :: .double x :: r => if ev_n64 (f x y) = true then ev_nx σ (pc + 1) L (.double (f x y) :: r) else none
  | _ => none
def ev_fc (f : UInt32 → UInt32 → Int32) (σ : ev_H) (pc : Nat) (L : ev_L) (st : List Value) : ev_A := match st with
  | .float y :: .float x :: r => ev_nx σ (pc + 1) L (.int (f x y) :: r)
  | _ => none
def ev_dc (f : UInt64 → UInt64 → Int32) (σ : ev_H) (pc : Nat) (L : ev_L) (st : List Value) : ev_A := match st with
  | .double y :: .double x :: r => ev_nx σ (pc + 1) L (.int (f x y) :: r)
  | _ => none
def ev_to (off : Int) (σ : ev_H) (pc : Nat) (L : ev_L) (st : List Value) : ev_A := if 0 ≤ (pc : Int) + off then ev_nx σ ((pc : Int) + off).toNat L st else none
def ev_br (b : Bool) (off : Int) (σ : ev_H) (pc : Nat) (L : ev_L) (st : List Value) : ev_A := if 0 ≤ (pc : Int) + off then (if b = true then ev_nx σ ((pc : Int) + off).toNat L st else ev_nx σ (pc + 3) L st) else none
def ev_cnd (c : Jvm.ClassFile.Cond) (x y : Int32) : Bool := match c with
  | .eq => decide (x = y)
  | .ne => decide (¬ x = y)
  | .lt => decide (x < y)
  | .ge => decide (y ≤ x)
  | .gt => decide (y < x)
  | .le => decide (x ≤ y)
/-- a putfield that the machine takes: a field that is no constant, or one in its own maker -/
def ev_pok (k own ci kf : Nat) (v : Value) : Bool := match ev_my k, vwCl[ci]?, ev_vt[ci]? with
  | some r, some w, some t => ((w.2.1 kf).2.2.2 == false || (r.2.1.name == "<init>" && w.1 == ev_own own)) && (decide (narrow (t kf) v = v) && fits (t kf) v)
  | _, _, _ => false
/-- room for a call of k' in k -/
def ev_rok (k k' : Nat) : Bool := match ev_my k, ev_my k' with
  | some r, some q => decide (k' < 174) && (decide (q.2.2.2.2.2.2.1 + 1 ≤ r.2.2.2.2.2.2.1) && decide (8 + (q.2.2.2.1 + 11) + q.2.2.2.2.2.2.2.1 ≤ r.2.2.2.2.2.2.2.1))
  | _, _ => false
def ev_rok1 (k n : Nat) : Bool := match ev_my k with
  | some r => decide (1 ≤ r.2.2.2.2.2.2.1) && decide (8 + n ≤ r.2.2.2.2.2.2.2.1)
  | _ => false
def ev_call (k k' : Nat) (args : List Value) (pc : Nat) (L : ev_L) (r : List Value) : ev_A := match ev_my k' with
  | some q => if ev_rok k k' = true ∧ args.length = q.2.2.2.2.2.1 ∧ (ev_sl args).length ≤ q.2.2.2.1 ∧ ev_sw r ≤ 8 then some (.inr (.inl (k', args, pc + 3, L, r))) else none
  | none => none
def ev_stc (k own idx : Nat) (σ : ev_H) (pc : Nat) (L : ev_L) (st : List Value) : ev_A := match ev_t2 ev_tS own idx with
  | some q => match ev_my q.1 with
    | some r => ev_call k q.1 (st.take r.2.2.2.2.2.1).reverse pc L (st.drop r.2.2.2.2.2.1)
    | none => none
  | none => match ev_t2 ev_tSN own idx with
    | some q => match ev_my q.1 with
      | some r => ev_call k q.1 (st.take r.2.2.2.2.2.1).reverse pc L (st.drop r.2.2.2.2.2.1)
      | none => none
    | none => none
def ev_il (i : Instr) : Nat := match i with
  | .bipush _ => 2
  | .sipush _ => 3
  | .ldc _ => 2
  | .ldc2_w _ => 3
  | .iload _ => 2
  | .lload _ => 2
  | .fload _ => 2
  | .dload _ => 2
  | .aload _ => 2
  | .istore _ => 2
  | .lstore _ => 2
  | .fstore _ => 2
  | .dstore _ => 2
  | .astore _ => 2
  | .iinc _ _ => 3
  | .goto _ => 3
  | .ifCond _ _ => 3
  | .if_icmp _ _ => 3
  | .ifnull _ => 3
  | .ifnonnull _ => 3
  | .tableswitch _ _ _ _ => 0
  | .lookupswitch _ _ => 0
  | .getfield _ => 3
  | .putfield _ => 3
  | .newarray _ => 2
  | .anewarray _ => 3
  | .new _ => 3
  | .checkcast _ => 3
  | .instanceof _ => 3
  | .invokestatic _ => 3
  | .invokespecial _ => 3
  | .invokevirtual _ => 3
  | _ => 1
def ev_ins (k pc : Nat) : Option (Nat × Instr) := match ev_my k with
  | none => none
  | some r => match decode r.2.2.1 pc with
    | .ok (i, n) => if ev_il i = 0 ∨ n = ev_il i then some (r.1, i) else none
    | _ => none
def ev_fg1 (L : ev_L) (i : Nat) : ev_L := (ev_kill L i).set i none
def ev_fg2 (L : ev_L) (i : Nat) : ev_L := ((ev_kill L i).set i none).set (i + 1) none
/-- the bits of a signalling NaN are drawn: the local that takes them is no more known -/
def ev_dr1 (k : Nat) (σ : ev_H) (pc : Nat) (L : ev_L) (r : List Value) : ev_A := if ev_rok1 k 15 = true ∧ ev_sw r ≤ 8 then (match ev_ins k (pc + 3) with | some (_, .fstore n) => if n < L.length then ev_nx σ (pc + 5) (ev_fg1 L n) r else none | _ => none) else none
def ev_dr2 (k : Nat) (σ : ev_H) (pc : Nat) (L : ev_L) (r : List Value) : ev_A := if ev_rok1 k 15 = true ∧ ev_sw r ≤ 8 then (match ev_ins k (pc + 3) with | some (_, .dstore n) => if n + 1 < L.length then ev_nx σ (pc + 5) (ev_fg2 L n) r else none | _ => none) else none
def ev_natv (k n : Nat) (σ : ev_H) (pc : Nat) (L : ev_L) (st : List Value) : ev_A := match n with
  | 1000 => match st with
    | .int b :: r => if ev_rok1 k 15 = true ∧ ev_sw r ≤ 8 ∧ vn_sni2f b = false then ev_nx σ (pc + 3) L (.float b.toUInt32 :: r) else ev_dr1 k σ pc L r
    | _ => none
  | 1001 => match st with
    | .float b :: r => if ev_rok1 k 15 = true ∧ ev_sw r ≤ 8 then ev_nx σ (pc + 3) L (.int b.toInt32 :: r) else none
    | _ => none
  | 1002 => match st with
    | .long b :: r => if ev_rok1 k 15 = true ∧ ev_sw r ≤ 8 ∧ vn_snl2d b = false then ev_nx σ (pc + 3) L (.double b.toUInt64 :: r) else ev_dr2 k σ pc L r
    | _ => none
  | 1003 => match st with
    | .double b :: r => if ev_rok1 k 15 = true ∧ ev_sw r ≤ 8 then ev_nx σ (pc + 3) L (.long b.toInt64 :: r) else none
    | _ => none
  | 1004 => match st with
    | .int n :: .int dp :: .ref b :: .int sp :: .ref a :: r => if ev_rok1 k 18 = true ∧ ev_sw r ≤ 8 then (match ev_cpy σ a sp b dp n with | some σ' => ev_nx σ' (pc + 3) L r | none => none) else none
    | _ => none
  | 1005 => match st with
    | .int y :: .int x :: r => if ev_rok1 k 15 = true ∧ ev_sw r ≤ 8 then ev_nx σ (pc + 3) L (.int (if x < y then y else x) :: r) else none
    | _ => none
  | 1006 => match st with
    | .int y :: .int x :: r => if ev_rok1 k 15 = true ∧ ev_sw r ≤ 8 then ev_nx σ (pc + 3) L (.int (if y < x then y else x) :: r) else none
    | _ => none
  | 1007 => match st with
    | .long y :: .long x :: r => if ev_rok1 k 15 = true ∧ ev_sw r ≤ 8 then ev_nx σ (pc + 3) L (.long (if y < x then x else y) :: r) else none
    | _ => none
  | 1008 => match st with
    | .long y :: .long x :: r => if ev_rok1 k 15 = true ∧ ev_sw r ≤ 8 then ev_nx σ (pc + 3) L (.long (if y < x then y else x) :: r) else none
    | _ => none
  | 1009 => match st with
    | .long x :: r => if ev_rok1 k 15 = true ∧ ev_sw r ≤ 8 then ev_nx σ (pc + 3) L (.long (if 0 < x then x else -x) :: r) else none
    | _ => none
  | _ => none
def ev_static (k own idx : Nat) (σ : ev_H) (pc : Nat) (L : ev_L) (st : List Value) : ev_A := match ev_t2 ev_tT own idx with
  | some q => ev_natv k q.1 σ pc L st
  | none => ev_stc k own idx σ pc L st
def ev_spec (k own idx : Nat) (σ : ev_H) (pc : Nat) (L : ev_L) (st : List Value) : ev_A := match ev_t2 ev_tO own idx with
  | some _ => match st with
    | .ref _ :: r => if ev_rok1 k 12 = true ∧ ev_sw r ≤ 8 then ev_nx σ (pc + 3) L r else none
    | _ => none
  | none => match (match ev_t2 ev_tP own idx with | some q => some q.1 | none => (ev_t2 ev_tPN own idx).map (·.1)) with
    | some k' => match ev_my k' with
      | some r => match (st.take r.2.2.2.2.2.1).reverse with
        | .ref a :: as => ev_call k k' (.ref a :: as) pc L (st.drop r.2.2.2.2.2.1)
        | _ => none
      | none => none
    | none => none
/-- how many values an invokevirtual takes, the receiver among them: by any of its targets -/
def ev_vn (own idx : Nat) : Option Nat := match (ev_tV.find? (fun q => q.1.1 == own && q.1.2.1 == idx)).map (·.2.1) with
  | some k' => (ev_my k').map (·.2.2.2.2.2.1)
  | none => match (ev_tVA.find? (fun q => q.1.1 == own && q.1.2.1 == idx)).map (·.2.1) with
    | some k' => (ev_my k').map (·.2.2.2.2.2.1)
    | none => none
def ev_vk (own idx ci : Nat) : Option Nat := match ev_t3 ev_tV own idx ci with
  | some q => some q.1
  | none => (ev_t3 ev_tVA own idx ci).map (·.1)
def ev_virt (k own idx : Nat) (σ : ev_H) (pc : Nat) (L : ev_L) (st : List Value) : ev_A := match ev_vn own idx with
  | some n => match (st.take n).reverse with
    | .ref a :: as => match ev_cl σ a with
      | some ci => match ev_vk own idx ci with
        | some k' => ev_call k k' (.ref a :: as) pc L (st.drop n)
        | none => none
      | none => none
    | _ => none
  | none => none
def ev_ret (k : Nat) (i : Instr) (st : List Value) : ev_A := match ev_my k with
  | none => none
  | some r => match i, r.2.2.2.2.1, st with
    | .ireturn, some .int, [.int v] => ev_rt (some (.int v))
    | .ireturn, some .boolean, [.int v] => if v = 0 ∨ v = 1 then ev_rt (some (.int v)) else none
    | .lreturn, some .long, [.long v] => ev_rt (some (.long v))
    | .dreturn, some .double, [.double v] => ev_rt (some (.double v))
    | .areturn, some (.object _), [.ref v] => ev_rt (some (.ref v))
    | .areturn, some (.object _), [.null] => ev_rt (some .null)
    | .return_, none, [] => ev_rt none
    | _, _, _ => none
def ev_op (k own : Nat) (i : Instr) (σ : ev_H) (pc : Nat) (L : ev_L) (st : List Value) : ev_A := match i with
  | .iconst c => ev_nx σ (pc + 1) L (.int (Int32.ofInt c) :: st)
  | .bipush c => ev_nx σ (pc + 2) L (.int (Int8.ofInt c).toInt32 :: st)
  | .sipush c => ev_nx σ (pc + 3) L (.int (Int16.ofInt c).toInt32 :: st)
  | .lconst c => ev_nx σ (pc + 1) L (.long (Int64.ofNat c) :: st)
  | .fconst c => if c = 0 then ev_nx σ (pc + 1) L (.float FP.fconst0 :: st) else none
  | .dconst c => if c = 0 then ev_nx σ (pc + 1) L (.double FP.dconst0 :: st) else ev_nx σ (pc + 1) L (.double FP.dconst1 :: st)
  | .aconst_null => ev_nx σ (pc + 1) L (.null :: st)
  | .ldc x => match ev_t2 ev_tI own x with
    | some q => ev_nx σ (pc + 2) L (.int q.1 :: st)
    | none => none
  | .ldc2_w x => match ev_t2 ev_tL own x with
    | some q => ev_nx σ (pc + 3) L (.long q.1 :: st)
    | none => match ev_t2 ev_tD own x with
      | some q => ev_nx σ (pc + 3) L (.double q.1 :: st)
      | none => none
  | .iload x => ev_ld ev_isI x 2 σ pc L st
  | .iload_n x => ev_ld ev_isI x.val 1 σ pc L st
  | .lload x => ev_ld ev_isJ x 2 σ pc L st
  | .lload_n x => ev_ld ev_isJ x.val 1 σ pc L st
  | .fload x => ev_ld ev_isF x 2 σ pc L st
  | .fload_n x => ev_ld ev_isF x.val 1 σ pc L st
  | .dload x => ev_ld ev_isD x 2 σ pc L st
  | .dload_n x => ev_ld ev_isD x.val 1 σ pc L st
  | .aload x => ev_ld ev_isR x 2 σ pc L st
  | .aload_n x => ev_ld ev_isR x.val 1 σ pc L st
  | .istore x => ev_so1 ev_isI x 2 σ pc L st
  | .istore_n x => ev_so1 ev_isI x.val 1 σ pc L st
  | .fstore x => ev_so1 ev_isF x 2 σ pc L st
  | .fstore_n x => ev_so1 ev_isF x.val 1 σ pc L st
  | .astore x => ev_so1 ev_isR x 2 σ pc L st
  | .astore_n x => ev_so1 ev_isR x.val 1 σ pc L st
  | .lstore x => ev_so2 ev_isJ x 2 σ pc L st
  | .lstore_n x => ev_so2 ev_isJ x.val 1 σ pc L st
  | .dstore x => ev_so2 ev_isD x 2 σ pc L st
  | .dstore_n x => ev_so2 ev_isD x.val 1 σ pc L st
  | .iinc x c => match ev_lg L x with
    | some (.int v) => if x < L.length then ev_nx σ (pc + 3) (ev_s1 L x (.int (v + Int32.ofInt c))) st else none
    | _ => none
  | .iadd => ev_ii (fun x y => x + y) σ pc L st
  | .isub => ev_ii (fun x y => x - y) σ pc L st
  | .imul => ev_ii (fun x y => x * y) σ pc L st
  | .iand => ev_ii (fun x y => x &&& y) σ pc L st
  | .ior => ev_ii (fun x y => x ||| y) σ pc L st
  | .ixor => ev_ii (fun x y => x ^^^ y) σ pc L st
  | .idiv => ev_iz (fun x y => x / y) σ pc L st
  | .irem => ev_iz (fun x y => x - x / y * y) σ pc L st
  | .ineg => ev_i1 (fun x => .int (-x)) σ pc L st
  | .i2l => ev_i1 (fun x => .long x.toInt64) σ pc L st
  | .i2b => ev_i1 (fun x => .int x.toInt8.toInt32) σ pc L st
  | .i2s => ev_i1 (fun x => .int x.toInt16.toInt32) σ pc L st
  | .i2c => ev_i1 (fun x => .int (x.toUInt32 % 65536).toInt32) σ pc L st
  | .ladd => ev_jj (fun x y => .long (x + y)) σ pc L st
  | .lsub => ev_jj (fun x y => .long (x - y)) σ pc L st
  | .lmul => ev_jj (fun x y => .long (x * y)) σ pc L st
  | .land => ev_jj (fun x y => .long (x &&& y)) σ pc L st
  | .lor => ev_jj (fun x y => .long (x ||| y)) σ pc L st
  | .lxor => ev_jj (fun x y => .long (x ^^^ y)) σ pc L st
  | .lcmp => ev_jj (fun x y => .int (lg_cmp x y)) σ pc L st
  | .ldiv => ev_jz (fun x y => x / y) σ pc L st
  | .lrem => ev_jz (fun x y => x - x / y * y) σ pc L st
  | .lshl => ev_ji (fun x y => x <<< (y.toInt64 &&& 63)) σ pc L st
  | .lshr => ev_ji (fun x y => x >>> (y.toInt64 &&& 63)) σ pc L st
  | .lushr => ev_ji (fun x y => (x.toUInt64 >>> (y.toInt64.toUInt64 &&& Int64.toUInt64 63)).toInt64) σ pc L st
  | .lneg => ev_j1 (fun x => .long (-x)) σ pc L st
  | .l2i => ev_j1 (fun x => .int x.toInt32) σ pc L st
  | .l2d => ev_j1 (fun x => .double (FP.l2d x)) σ pc L st
  | .f2i => ev_f1 (fun x => .int (FP.f2i x)) σ pc L st
  | .f2l => ev_f1 (fun x => .long (FP.f2l x)) σ pc L st
  | .d2i => ev_d1 (fun x => .int (FP.d2i x)) σ pc L st
  | .d2l => ev_d1 (fun x => .long (FP.d2l x)) σ pc L st
  | .dneg => ev_d1 (fun x => .double (FP.dneg x)) σ pc L st
  | .f2d => match st with
    | .float x :: r => if ev_n64 (FP.f2d x) = true then ev_nx σ (pc + 1) L (.double (FP.f2d x) :: r) else none
    | _ => none
  | .d2f => match st with
    | .double x :: r => if ev_n32 (FP.d2f x) = true then ev_nx σ (pc + 1) L (.float (FP.d2f x) :: r) else none
    | _ => none
  | .frem => ev_ff FP.frem σ pc L st
  | .dadd => ev_dd FP.dadd σ pc L st
  | .dsub => ev_dd FP.dsub σ pc L st
  | .drem => ev_dd FP.drem σ pc L st
  | .fcmp o => ev_fc (fun x y => Op.cmpValue (FP.fcmp x y) o) σ pc L st
  | .dcmp o => ev_dc (fun x y => Op.cmpValue (FP.dcmp x y) o) σ pc L st
  | .dup => match st with
    | v :: r => if v.category = 1 then ev_nx σ (pc + 1) L (v :: v :: r) else none
    | _ => none
  | .dup2 => match st with
    | v :: w :: r => if v.category = 1 ∧ w.category = 1 then ev_nx σ (pc + 1) L (v :: w :: v :: w :: r) else none
    | _ => none
  | .pop => match st with
    | v :: r => if v.category = 1 then ev_nx σ (pc + 1) L r else none
    | _ => none
  | .goto off => ev_to off σ pc L st
  | .ifCond c off => match st with
    | .int x :: r => ev_br (ev_cnd c x 0) off σ pc L r
    | _ => none
  | .if_icmp c off => match st with
    | .int y :: .int x :: r => ev_br (ev_cnd c x y) off σ pc L r
    | _ => none
  | .ifnull off => match st with
    | .null :: r => ev_to off σ pc L r
    | .ref _ :: r => ev_nx σ (pc + 3) L r
    | _ => none
  | .ifnonnull off => match st with
    | .ref _ :: r => ev_to off σ pc L r
    | .null :: r => ev_nx σ (pc + 3) L r
    | _ => none
  | .tableswitch d lo hi offs => match st with
    | .int x :: r => if x.toInt < lo ∨ hi < x.toInt then ev_to d σ pc L r else match offs[(x.toInt - lo).toNat]? with
      | some off => ev_to off σ pc L r
      | none => none
    | _ => none
  | .lookupswitch d ps => match st with
    | .int x :: r => if (ps.toList.zip (ps.toList.drop 1)).all (fun (a, next) => a.1 < next.1) = true then ev_to (Op.lookupswitch.offset ps.toList d x.toInt) σ pc L r else none
    | _ => none
  | .getfield x => match st with
    | .ref a :: r => match ev_t2 ev_tF own x with
      | some q => match ev_gf σ a q.1 q.2.1 with
        | some v => ev_nx σ (pc + 3) L (v :: r)
        | none => none
      | none => none
    | _ => none
  | .putfield x => match st with
    | v :: .ref a :: r => match ev_t2 ev_tF own x with
      | some q => if ev_pok k own q.1 q.2.1 v = true then (match ev_pf σ a q.1 q.2.1 v with | some σ' => ev_nx σ' (pc + 3) L r | none => none) else none
      | none => none
    | _ => none
  | .iaload => match st with
    | .int j :: .ref a :: r => match ev_ild σ a j with
      | some v => ev_nx σ (pc + 1) L (.int v :: r)
      | none => none
    | _ => none
  | .baload => match st with
    | .int j :: .ref a :: r => match ev_zld σ a j with
      | some v => ev_nx σ (pc + 1) L (.int v :: r)
      | none => none
    | _ => none
  | .laload => match st with
    | .int j :: .ref a :: r => match ev_lld σ a j with
      | some v => ev_nx σ (pc + 1) L (.long v :: r)
      | none => none
    | _ => none
  | .aaload => match st with
    | .int j :: .ref a :: r => match ev_ald σ a j with
      | some v => ev_nx σ (pc + 1) L (va_rf v :: r)
      | none => none
    | _ => none
  | .arraylength => match st with
    | .ref a :: r => match ev_len σ a with
      | some v => ev_nx σ (pc + 1) L (.int v :: r)
      | none => none
    | _ => none
  | .iastore => match st with
    | .int x :: .int j :: .ref a :: r => match ev_ist σ a j x with
      | some σ' => ev_nx σ' (pc + 1) L r
      | none => none
    | _ => none
  | .bastore => match st with
    | .int x :: .int j :: .ref a :: r => match ev_zst σ a j x with
      | some σ' => ev_nx σ' (pc + 1) L r
      | none => none
    | _ => none
  | .lastore => match st with
    | .long x :: .int j :: .ref a :: r => match ev_lst σ a j x with
      | some σ' => ev_nx σ' (pc + 1) L r
      | none => none
    | _ => none
  | .aastore => match st with
    | .ref x :: .int j :: .ref a :: r => match ev_ast σ a j (some x) with
      | some σ' => ev_nx σ' (pc + 1) L r
      | none => none
    | .null :: .int j :: .ref a :: r => match ev_ast σ a j none with
      | some σ' => ev_nx σ' (pc + 1) L r
      | none => none
    | _ => none
  | .newarray t => match st with
    | .int n :: r => match ev_nwa σ (newarray.typeOf t) n with
      | some σ' => ev_nx σ' (pc + 2) L (.ref σ.1 :: r)
      | none => none
    | _ => none
  | .anewarray x => match st with
    | .int n :: r => match ev_t2 ev_tA own x with
      | some q => if Cond.arrayOver (.object q.1) ∈ lw_tbl then (match ev_nwq σ q.1 n with | some σ' => ev_nx σ' (pc + 3) L (.ref σ.1 :: r) | none => none) else none
      | none => none
    | _ => none
  | .new x => match ev_t2 ev_tN own x with
    | some q => match ev_nwo σ q.1 with
      | some σ' => ev_nx σ' (pc + 3) L (.ref σ.1 :: st)
      | none => none
    | none => none
  | .checkcast x => match st with
    | .null :: r => ev_nx σ (pc + 3) L (.null :: r)
    | .ref a :: r => match ev_t2 ev_tA own x with
      | some q => match ev_cl σ a with
        | some ci => if ev_sub ci q.1 = some true then ev_nx σ (pc + 3) L (.ref a :: r) else none
        | none => none
      | none => none
    | _ => none
  | .instanceof x => match st with
    | .null :: r => ev_nx σ (pc + 3) L (.int 0 :: r)
    | .ref a :: r => match ev_t2 ev_tA own x with
      | some q => match ev_cl σ a with
        | some ci => match ev_sub ci q.1 with
          | some true => ev_nx σ (pc + 3) L (.int 1 :: r)
          | some false => ev_nx σ (pc + 3) L (.int 0 :: r)
          | none => none
        | none => none
      | none => none
    | _ => none
  | .invokestatic x => ev_static k own x σ pc L st
  | .invokespecial x => ev_spec k own x σ pc L st
  | .invokevirtual x => ev_virt k own x σ pc L st
  | .ireturn => ev_ret k .ireturn st
  | .lreturn => ev_ret k .lreturn st
  | .dreturn => ev_ret k .dreturn st
  | .areturn => ev_ret k .areturn st
  | .return_ => ev_ret k .return_ st
  | _ => none
/-- how long an instruction is, as the rows of the kit have it; 0: any -/
def ev_act (k : Nat) (c : ev_C) : ev_A := match ev_ins k c.2.1 with
  | some q => ev_op k q.1 q.2 c.1 c.2.1 c.2.2.1 c.2.2.2
  | none => none
def ev_ml (k : Nat) : Nat := match ev_my k with
  | some r => r.2.2.2.1
  | none => 0
def ev_run : Nat → Nat → ev_C → Option (Option Value × ev_H)
  | 0, _, _ => none
  | n + 1, k, c => match ev_act k c with
    | none => none
    | some (.inl c') => ev_run n k c'
    | some (.inr (.inl q)) => match ev_run n q.1 (c.1, 0, ev_ent (ev_ml q.1) q.2.1, []) with
      | none => none
      | some z => ev_run n k (z.2, q.2.2.1, q.2.2.2.1, z.1.toList ++ q.2.2.2.2)
    | some (.inr (.inr v)) => some (v, c.1)
