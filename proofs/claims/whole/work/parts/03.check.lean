-- what the tables of part 02 rest on: each word stands where its row says (decided once)
def ev_own (o : Nat) : String := ev_cn.getD o ""
def ev_at (p : Nat) (w : Cond) : Bool := decide (lw_tbl[p]? = some w) && goodWord w
def ev_G : List Cond := lw_tbl.filter goodWord
theorem ev_in {p : Nat} {w : Cond} (h : ev_at p w = true) : w ∈ ev_G := by
  simp only [ev_at, Bool.and_eq_true, decide_eq_true_eq] at h
  exact List.mem_filter.mpr ⟨List.mem_of_getElem? h.1, h.2⟩
theorem ev_Ggood {w : Cond} (h : w ∈ ev_G) : (w.onTables && w.keeps) = true ∨ ∃ ty, w = .arrayClass ty := good_of_word (List.mem_filter.mp h).2
theorem ev_Gtbl {w : Cond} (h : w ∈ ev_G) : w ∈ lw_tbl := (List.mem_filter.mp h).1
abbrev ev_ME : Type := Nat × MethodName × ByteArray × Nat × Option FieldType × Nat × Nat × Nat × Nat
def ev_ckM (q : ev_ME) : Bool := decide (q.2.1.cls = ev_own q.1) && plainFor q.2.1 && decide (q.2.1.cls ≠ "java/lang/invoke/MethodHandle") && decide (q.2.1.cls ≠ "java/lang/invoke/VarHandle")
def ev_cw (q : ev_ME) : Cond := .code q.2.1 q.2.2.1 q.2.2.2.1 q.2.2.2.2.1
def ev_np (y : MethodName) : Option Nat := (parseMethodDescriptor y.desc).map (fun d => d.parameters.length)
def ev_my (k : Nat) : Option ev_ME := ev_M[k]?
def ev_ckF (q : (Nat × Nat) × Nat × Nat × Nat) : Bool := match vwCl[q.2.1]? with
  | none => false
  | some r => decide (q.2.2.1 < r.2.2) && decide ((r.2.1 q.2.2.1).1 = r.1) && ev_at q.2.2.2 (.fieldLink (ev_own q.1.1) q.1.2 r.1 (r.2.1 q.2.2.1).2.1 (r.2.1 q.2.2.1).2.2.1)
def ev_ckN (q : (Nat × Nat) × Nat × Nat × Nat × Nat) : Bool := match vwCl[q.2.1]? with
  | none => false
  | some r => ev_at q.2.2.1 (.classLink (ev_own q.1.1) q.1.2 r.1) && ev_at q.2.2.2.1 (.instantiable r.1 r.2.2) && ev_at q.2.2.2.2 (.initialized r.1)
def ev_ckA (q : (Nat × Nat) × String × Nat) : Bool := ev_at q.2.2 (.classLink (ev_own q.1.1) q.1.2 q.2.1)
def ev_ckI (q : (Nat × Nat) × Int32 × Nat) : Bool := ev_at q.2.2 (.constant (ev_own q.1.1) q.1.2 q.2.1)
def ev_ckL (q : (Nat × Nat) × Int64 × Nat) : Bool := ev_at q.2.2 (.constantLong (ev_own q.1.1) q.1.2 q.2.1)
def ev_ckD (q : (Nat × Nat) × UInt64 × Nat) : Bool := ev_at q.2.2 (.constantDouble (ev_own q.1.1) q.1.2 q.2.1)
def ev_nat (n : Nat) : Option MethodName := match n with
  | 1000 => some ⟨"java/lang/Float", "intBitsToFloat", "(I)F"⟩
  | 1001 => some ⟨"java/lang/Float", "floatToRawIntBits", "(F)I"⟩
  | 1002 => some ⟨"java/lang/Double", "longBitsToDouble", "(J)D"⟩
  | 1003 => some ⟨"java/lang/Double", "doubleToRawLongBits", "(D)J"⟩
  | 1004 => some arraycopyName
  | 1005 => some Lib.Math.max.name
  | 1006 => some Lib.Math.min.name
  | 1007 => some Lib.MathLoose.max_long.x
  | 1008 => some Lib.MathLoose.min_long.x
  | 1009 => some Lib.MathLoose.abs_long.x
  | _ => none
def ev_ckT (q : (Nat × Nat) × Nat × Nat) : Bool := match ev_nat q.2.1 with
  | none => false
  | some x => ev_at q.2.2 (.methodLink (ev_own q.1.1) q.1.2 x)
def ev_ckO (q : (Nat × Nat) × Nat) : Bool := ev_at q.2 (.methodLink (ev_own q.1.1) q.1.2 objectInit)
def ev_ckS (q : (Nat × Nat) × Nat × Nat × Nat × Nat) : Bool := match ev_my q.2.1 with
  | none => false
  | some r => ev_at q.2.2.1 (.methodLink (ev_own q.1.1) q.1.2 r.2.1) && ev_at q.2.2.2.1 (.static r.2.1) && ev_at q.2.2.2.2 (.initialized r.2.1.cls) && decide (ev_np r.2.1 = some r.2.2.2.2.2.1)
def ev_ckSN (q : (Nat × Nat) × Nat × Nat × Nat × Nat × String) : Bool := match ev_my q.2.1 with
  | none => false
  | some r => decide (lw_tbl[q.2.2.1]? = some (.methodLinkNest (ev_own q.1.1) q.1.2 r.2.1 q.2.2.2.2.2)) && ev_at q.2.2.2.1 (.static r.2.1) && ev_at q.2.2.2.2.1 (.initialized r.2.1.cls) && decide (ev_np r.2.1 = some r.2.2.2.2.2.1)
def ev_ckP (q : (Nat × Nat) × Nat × Nat × Nat × Nat) : Bool := match ev_my q.2.1 with
  | none => false
  | some r => ev_at q.2.2.1 (.methodLink (ev_own q.1.1) q.1.2 r.2.1) && ev_at q.2.2.2.1 (.instanceMethod r.2.1) && ev_at q.2.2.2.2 (.initialized r.2.1.cls) && decide (r.2.1.name = "<init>") && decide (r.2.2.2.2.1 = none) && decide ((ev_np r.2.1).map (· + 1) = some r.2.2.2.2.2.1)
def ev_ckPN (q : (Nat × Nat) × Nat × Nat × Nat × Nat × String) : Bool := match ev_my q.2.1 with
  | none => false
  | some r => decide (lw_tbl[q.2.2.1]? = some (.methodLinkNest (ev_own q.1.1) q.1.2 r.2.1 q.2.2.2.2.2)) && ev_at q.2.2.2.1 (.instanceMethod r.2.1) && ev_at q.2.2.2.2.1 (.initialized r.2.1.cls) && decide (r.2.1.name = "<init>") && decide (r.2.2.2.2.1 = none) && decide ((ev_np r.2.1).map (· + 1) = some r.2.2.2.2.2.1)
def ev_ckV (q : (Nat × Nat × Nat) × Nat × Nat × Nat × Nat × Nat) : Bool := match ev_my q.2.1, vwCl[q.1.2.2]? with
  | some r, some w => decide (r.2.1.cls = w.1) && ev_at q.2.2.1 (.methodLink (ev_own q.1.1) q.1.2.1 r.2.1) && ev_at q.2.2.2.1 (.instanceMethod r.2.1) && ev_at q.2.2.2.2.1 (.selects w.1 r.2.1 r.2.1) && ev_at q.2.2.2.2.2 (.initialized w.1) && decide ((ev_np r.2.1).map (· + 1) = some r.2.2.2.2.2.1)
  | _, _ => false
def ev_ckVA (q : (Nat × Nat × Nat) × Nat × Nat × Nat × Nat × Nat × Nat × MethodName) : Bool := match ev_my q.2.1, vwCl[q.1.2.2]? with
  | some r, some w => ev_at q.2.2.1 (.methodLink (ev_own q.1.1) q.1.2.1 q.2.2.2.2.2.2.2) && ev_at q.2.2.2.1 (.sameMethod q.2.2.2.2.2.2.2.cls q.2.2.2.2.2.2.2.cls q.2.2.2.2.2.2.2.name q.2.2.2.2.2.2.2.desc) && ev_at q.2.2.2.2.1 (.selects w.1 q.2.2.2.2.2.2.2 r.2.1) && ev_at q.2.2.2.2.2.1 (.instanceMethod r.2.1) && ev_at q.2.2.2.2.2.2.1 (.initialized r.2.1.cls) && decide (q.2.2.2.2.2.2.2.cls ≠ "java/lang/invoke/MethodHandle") && decide (q.2.2.2.2.2.2.2.cls ≠ "java/lang/invoke/VarHandle") && decide (Cond.declares q.2.2.2.2.2.2.2 ∈ lw_tbl) && decide ((ev_np q.2.2.2.2.2.2.2).map (· + 1) = some r.2.2.2.2.2.1)
  | _, _ => false
theorem ev_okM : (ev_M.take 174).all ev_ckM = true := by decide +kernel
set_option maxRecDepth 100000 in
theorem ev_okC0 : ((ev_M.drop 0).take 29).map (fun r => lw_tbl[r.2.2.2.2.2.2.2.2]?) = ((ev_M.drop 0).take 29).map (fun r => some (ev_cw r)) := rfl
set_option maxRecDepth 100000 in
theorem ev_okC1 : ((ev_M.drop 29).take 29).map (fun r => lw_tbl[r.2.2.2.2.2.2.2.2]?) = ((ev_M.drop 29).take 29).map (fun r => some (ev_cw r)) := rfl
set_option maxRecDepth 100000 in
theorem ev_okC2 : ((ev_M.drop 58).take 29).map (fun r => lw_tbl[r.2.2.2.2.2.2.2.2]?) = ((ev_M.drop 58).take 29).map (fun r => some (ev_cw r)) := rfl
set_option maxRecDepth 100000 in
theorem ev_okC3 : ((ev_M.drop 87).take 29).map (fun r => lw_tbl[r.2.2.2.2.2.2.2.2]?) = ((ev_M.drop 87).take 29).map (fun r => some (ev_cw r)) := rfl
set_option maxRecDepth 100000 in
theorem ev_okC4 : ((ev_M.drop 116).take 29).map (fun r => lw_tbl[r.2.2.2.2.2.2.2.2]?) = ((ev_M.drop 116).take 29).map (fun r => some (ev_cw r)) := rfl
set_option maxRecDepth 100000 in
theorem ev_okC5 : ((ev_M.drop 145).take 29).map (fun r => lw_tbl[r.2.2.2.2.2.2.2.2]?) = ((ev_M.drop 145).take 29).map (fun r => some (ev_cw r)) := rfl
theorem ev_cwG {k : Nat} {r : ev_ME} (h : ev_my k = some r) (hk : k < 174) : ev_cw r ∈ ev_G := by
  have hm : r ∈ ev_M := List.mem_of_getElem? h
  have key : ∀ (i : Nat), ((ev_M.drop i).take 29).map (fun r => lw_tbl[r.2.2.2.2.2.2.2.2]?) = ((ev_M.drop i).take 29).map (fun r => some (ev_cw r)) → i ≤ k → k < i + 29 → ev_cw r ∈ ev_G := by
    intro i e h1 h2
    have hr : r ∈ (ev_M.drop i).take 29 := by
      refine List.mem_of_getElem? (i := k - i) ?_
      rw [List.getElem?_take, if_pos (by omega), List.getElem?_drop, show i + (k - i) = k by omega]
      exact h
    have h3 := List.map_inj_left.mp e r hr
    exact List.mem_filter.mpr ⟨List.mem_of_getElem? h3, rfl⟩
  rcases Nat.lt_or_ge k 29 with q | q
  · exact key 0 ev_okC0 (by omega) (by omega)
  rcases Nat.lt_or_ge k 58 with q | q
  · exact key 29 ev_okC1 (by omega) (by omega)
  rcases Nat.lt_or_ge k 87 with q | q
  · exact key 58 ev_okC2 (by omega) (by omega)
  rcases Nat.lt_or_ge k 116 with q | q
  · exact key 87 ev_okC3 (by omega) (by omega)
  rcases Nat.lt_or_ge k 145 with q | q
  · exact key 116 ev_okC4 (by omega) (by omega)
  · exact key 145 ev_okC5 (by omega) (by omega)
theorem ev_okF : ev_tF.all ev_ckF = true := by decide +kernel
theorem ev_okN : ev_tN.all ev_ckN = true := by decide +kernel
theorem ev_okA : ev_tA.all ev_ckA = true := by decide +kernel
theorem ev_okI : ev_tI.all ev_ckI = true := by decide +kernel
theorem ev_okL : ev_tL.all ev_ckL = true := by decide +kernel
theorem ev_okD : ev_tD.all ev_ckD = true := by decide +kernel
theorem ev_okT : ev_tT.all ev_ckT = true := by decide +kernel
theorem ev_okO : ev_tO.all ev_ckO = true := by decide +kernel
theorem ev_okS : ev_tS.all ev_ckS = true := by decide +kernel
theorem ev_okSN : ev_tSN.all ev_ckSN = true := by decide +kernel
theorem ev_okP : ev_tP.all ev_ckP = true := by decide +kernel
theorem ev_okPN : ev_tPN.all ev_ckPN = true := by decide +kernel
theorem ev_okV0 : ((ev_tV.drop 0).take 25).all ev_ckV = true := by decide +kernel
theorem ev_okV1 : ((ev_tV.drop 25).take 25).all ev_ckV = true := by decide +kernel
theorem ev_okV2 : ((ev_tV.drop 50).take 25).all ev_ckV = true := by decide +kernel
theorem ev_okV3 : ((ev_tV.drop 75).take 25).all ev_ckV = true := by decide +kernel
theorem ev_okV4 : ((ev_tV.drop 100).take 25).all ev_ckV = true := by decide +kernel
theorem ev_okVA : ev_tVA.all ev_ckVA = true := by decide +kernel
