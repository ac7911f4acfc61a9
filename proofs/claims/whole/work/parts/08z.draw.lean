-- a draw: the bits of a signalling NaN
def ev_cpyN : Choice := .named "NaN.copy"
theorem lw_copy : ev_cpyN ∈ lw_cs := List.mem_cons_of_mem _ List.mem_cons_self
theorem ev_dr_next (d : Drawn) : d.sameBut (d.next ev_cpyN) lw_cs := Drawn.sameBut.mono (Drawn.next_named d "NaN.copy") (fun c hc => by
  simp only [List.mem_cons, List.not_mem_nil, or_false] at hc
  rw [hc]; exact lw_copy)
theorem ev_wpI {E : CtlPost} {e : Env} {d : Bool} {acts : List Action} {s : State} {Q : Option Value → Pre} (v : Int32) (hv : (v.toUInt32 &&& 0x7fffffff > 0x7f800000 && v.toUInt32 &&& 0x00400000 == 0) = true) (hq : Q (some (.float (if e.choices ev_cpyN (s.drawn.count ev_cpyN) % 2 == 0 then v.toUInt32 else v.toUInt32 ||| 0x00400000))) true acts (s.draw ev_cpyN)) : wp (Native.java_lang_Float.bits.rowIntBitsToFloat.sem #[.int v]) Q E e d acts s := by
  rw [Native.java_lang_Float.bits.intBitsToFloat_on]
  simp only [hv, if_true, wp_bind', Jvm.choose, wp_choose]
  exact hq
theorem ev_wpL {E : CtlPost} {e : Env} {d : Bool} {acts : List Action} {s : State} {Q : Option Value → Pre} (v : Int64) (hv : (v.toUInt64 &&& 0x7fffffffffffffff > 0x7ff0000000000000 && v.toUInt64 &&& 0x0008000000000000 == 0) = true) (hq : Q (some (.double (if e.choices ev_cpyN (s.drawn.count ev_cpyN) % 2 == 0 then v.toUInt64 else v.toUInt64 ||| 0x0008000000000000))) true acts (s.draw ev_cpyN)) : wp (Native.java_lang_Float.bits.rowLongBitsToDouble.sem #[.long v]) Q E e d acts s := by
  rw [Native.java_lang_Float.bits.longBitsToDouble_on]
  simp only [hv, if_true, wp_bind', Jvm.choose, wp_choose]
  exact hq
section EVD
variable {p : Program} {l : Launch} {e : Env} {R : Room} {s : State} {m : MethodId} {args : Array Value} {below : List Frame} {meth : Method} {c : Code} {H : Heap} {locs : List Loc} {cells slots : Nat} {Q : State → Prop}
variable {cc : ByteArray} {pc : Nat} {ls : Array Slot} {rest : List Value}
theorem ev_i2f0 {T : State} (X : Stand p l e R s m args below meth c T locs cells slots) (hexec : p.tables.exec = Jvm.exec) {own : String} {index : Nat} (hown : s.vm.findClass own = some m.cls) (hlink : (Cond.methodLink own index ⟨"java/lang/Float", "intBitsToFloat", "(I)F"⟩).before args s = true) (hnat : (Cond.native ⟨"java/lang/Float", "intBitsToFloat", "(I)F"⟩).before args s = true) (hstat : (Cond.static ⟨"java/lang/Float", "intBitsToFloat", "(I)F"⟩).before args s = true) (hinit : (Cond.initialized "java/lang/Float").before args s = true)
    {g : JFrame} (hg : g.method = m) (hsize : g.locals.size = c.maxLocals) {b : Int32} (hv : (b.toUInt32 &&& 0x7fffffff > 0x7f800000 && b.toUInt32 &&& 0x00400000 == 0) = true) (hstack : g.stack = .int b :: rest) (hdg : decode c.code g.pc = .ok (.invokestatic index, 3)) (hframes : 1 ≤ R.frames) (hlocals : 2 * g.monitorRoom + (rest.map fun v => v.category).sum + (nativeFrameWords "java/lang/Float" "intBitsToFloat" 1 + 11) ≤ R.locals) :
    ∃ (z : UInt32) (vm' : Vm) (d' : Drawn), s.drawn.sameBut d' lw_cs ∧ Stand p l e R (s.setDrawn d') m args below meth c ((T.setVm vm').setDrawn d') locs cells slots ∧ ∀ target, Steps p.tables e below (((T.setVm vm').setDrawn d').setTop { g with pc := g.pc + 3, stack := .float z :: rest }) target → Steps p.tables e below (T.setTop g) target := by
  obtain ⟨r, kS, methS, hnS, hmS, hkS, N⟩ := NativeOf.of_static hnat hstat (ps := [.int]) (ret := some .float) (by decide +kernel)
  have hinitS : kS.init = .initialized := Cond.initialized_spec (findClass_of_methodNamed hnS) hkS hinit
  obtain ⟨vm', X', step⟩ := X.invokestatic hexec hown hlink hnS hmS N.static hkS hinitS (by decide) hg (argsL := [.int b]) (rest := rest) (by rw [N.sig]; rfl) hstack hdg
  refine ⟨if e.choices ev_cpyN (T.drawn.count ev_cpyN) % 2 == 0 then b.toUInt32 else b.toUInt32 ||| 0x00400000, vm', T.drawn.next ev_cpyN, ?_, X'.drew _, fun target hrest => step target fun acts => ?_⟩
  · rw [X.drawn_eq]; exact ev_dr_next _
  · subst hg
    obtain ⟨kS', N'⟩ := N.alike X'.warmed.alike
    have hseen : seenByNative methS #[.int b] = #[.int b] := by simp [seenByNative, N.static, N.sig, narrow]
    have hroom := X'.notFull (g := { g with stack := rest }) hsize (vars := nativeFrameWords "java/lang/Float" "intBitsToFloat" 1) hframes hlocals
    refine Steps.nativeEnds (g := { g with stack := rest }) (row := Native.java_lang_Float.bits.rowIntBitsToFloat) (v := some (.float (if e.choices ev_cpyN (T.drawn.count ev_cpyN) % 2 == 0 then b.toUInt32 else b.toUInt32 ||| 0x00400000))) (T := fun u => u.draw ev_cpyN) X'.here acts N'.cls N'.meth N'.boot N'.native N'.noCode N'.noLock
      (by rw [N'.className, N'.name, N'.desc]; exact intBitsToFloat_row p) (by rw [N'.className, N'.name]; exact hroom) (fun _ => rfl) rfl (fun _ => X'.here.code) ?_ hdg hrest
    intro Q hq
    rw [hseen] at hq ⊢
    exact ev_wpI b hv (hq _ _)
theorem ev_i2f (hexec : p.tables.exec = Jvm.exec) (hb : c.code = cc) (hml : c.maxLocals = ls.size) {own : String} {index : Nat} (hown : s.vm.findClass own = some m.cls) (hlink : (Cond.methodLink own index ⟨"java/lang/Float", "intBitsToFloat", "(I)F"⟩).before args s = true) (hnat : (Cond.native ⟨"java/lang/Float", "intBitsToFloat", "(I)F"⟩).before args s = true) (hstat : (Cond.static ⟨"java/lang/Float", "intBitsToFloat", "(I)F"⟩).before args s = true) (hinit : (Cond.initialized "java/lang/Float").before args s = true) {b : Int32}
    (hframes : 1 ≤ R.frames) (hlocals : (rest.map fun v => v.category).sum + 15 ≤ R.locals) (hdg : decode cc pc = .ok (.invokestatic index, 3))
    (k : ∀ (z : UInt32) (d' : Drawn), s.drawn.sameBut d' lw_cs → W p l e R (s.setDrawn d') m args below meth c H locs cells slots Q (F0 m (pc + 3) ls (.float z :: rest))) : W p l e R s m args below meth c H locs cells slots Q (F0 m pc ls (.int b :: rest)) := by
  cases hv : vn_sni2f b with
  | false => exact vn_i2f hexec hb hml hown hlink hnat hstat hinit hv hframes hlocals hdg (k _ s.drawn (Drawn.sameBut.refl _ _))
  | true =>
    intro T hT X
    obtain ⟨z, vm', d', hd', X', st⟩ := ev_i2f0 X hexec hown hlink hnat hstat hinit (b := b) (hv := hv) (g := F0 m pc ls (.int b :: rest)) rfl (by rw [hml]) rfl (by rw [hb]; exact hdg) hframes (by show 2 * 0 + _ + _ ≤ _; have hw : nativeFrameWords "java/lang/Float" "intBitsToFloat" 1 = 3 := (by decide); omega)
    obtain ⟨t, a1, b1⟩ := k z d' hd' ((T.setVm vm').setDrawn d') hT X'
    exact ⟨t, st t a1, b1⟩
theorem ev_l2d0 {T : State} (X : Stand p l e R s m args below meth c T locs cells slots) (hexec : p.tables.exec = Jvm.exec) {own : String} {index : Nat} (hown : s.vm.findClass own = some m.cls) (hlink : (Cond.methodLink own index ⟨"java/lang/Double", "longBitsToDouble", "(J)D"⟩).before args s = true) (hnat : (Cond.native ⟨"java/lang/Double", "longBitsToDouble", "(J)D"⟩).before args s = true) (hstat : (Cond.static ⟨"java/lang/Double", "longBitsToDouble", "(J)D"⟩).before args s = true) (hinit : (Cond.initialized "java/lang/Double").before args s = true)
    {g : JFrame} (hg : g.method = m) (hsize : g.locals.size = c.maxLocals) {b : Int64} (hv : (b.toUInt64 &&& 0x7fffffffffffffff > 0x7ff0000000000000 && b.toUInt64 &&& 0x0008000000000000 == 0) = true) (hstack : g.stack = .long b :: rest) (hdg : decode c.code g.pc = .ok (.invokestatic index, 3)) (hframes : 1 ≤ R.frames) (hlocals : 2 * g.monitorRoom + (rest.map fun v => v.category).sum + (nativeFrameWords "java/lang/Double" "longBitsToDouble" 2 + 11) ≤ R.locals) :
    ∃ (z : UInt64) (vm' : Vm) (d' : Drawn), s.drawn.sameBut d' lw_cs ∧ Stand p l e R (s.setDrawn d') m args below meth c ((T.setVm vm').setDrawn d') locs cells slots ∧ ∀ target, Steps p.tables e below (((T.setVm vm').setDrawn d').setTop { g with pc := g.pc + 3, stack := .double z :: rest }) target → Steps p.tables e below (T.setTop g) target := by
  obtain ⟨r, kS, methS, hnS, hmS, hkS, N⟩ := NativeOf.of_static hnat hstat (ps := [.long]) (ret := some .double) (by decide +kernel)
  have hinitS : kS.init = .initialized := Cond.initialized_spec (findClass_of_methodNamed hnS) hkS hinit
  obtain ⟨vm', X', step⟩ := X.invokestatic hexec hown hlink hnS hmS N.static hkS hinitS (by decide) hg (argsL := [.long b]) (rest := rest) (by rw [N.sig]; rfl) hstack hdg
  refine ⟨if e.choices ev_cpyN (T.drawn.count ev_cpyN) % 2 == 0 then b.toUInt64 else b.toUInt64 ||| 0x0008000000000000, vm', T.drawn.next ev_cpyN, ?_, X'.drew _, fun target hrest => step target fun acts => ?_⟩
  · rw [X.drawn_eq]; exact ev_dr_next _
  · subst hg
    obtain ⟨kS', N'⟩ := N.alike X'.warmed.alike
    have hseen : seenByNative methS #[.long b] = #[.long b] := by simp [seenByNative, N.static, N.sig, narrow]
    have hroom := X'.notFull (g := { g with stack := rest }) hsize (vars := nativeFrameWords "java/lang/Double" "longBitsToDouble" 2) hframes hlocals
    refine Steps.nativeEnds (g := { g with stack := rest }) (row := Native.java_lang_Float.bits.rowLongBitsToDouble) (v := some (.double (if e.choices ev_cpyN (T.drawn.count ev_cpyN) % 2 == 0 then b.toUInt64 else b.toUInt64 ||| 0x0008000000000000))) (T := fun u => u.draw ev_cpyN) X'.here acts N'.cls N'.meth N'.boot N'.native N'.noCode N'.noLock
      (by rw [N'.className, N'.name, N'.desc]; exact longBitsToDouble_row p) (by rw [N'.className, N'.name]; exact hroom) (fun _ => rfl) rfl (fun _ => X'.here.code) ?_ hdg hrest
    intro Q hq
    rw [hseen] at hq ⊢
    exact ev_wpL b hv (hq _ _)
theorem ev_l2d (hexec : p.tables.exec = Jvm.exec) (hb : c.code = cc) (hml : c.maxLocals = ls.size) {own : String} {index : Nat} (hown : s.vm.findClass own = some m.cls) (hlink : (Cond.methodLink own index ⟨"java/lang/Double", "longBitsToDouble", "(J)D"⟩).before args s = true) (hnat : (Cond.native ⟨"java/lang/Double", "longBitsToDouble", "(J)D"⟩).before args s = true) (hstat : (Cond.static ⟨"java/lang/Double", "longBitsToDouble", "(J)D"⟩).before args s = true) (hinit : (Cond.initialized "java/lang/Double").before args s = true) {b : Int64}
    (hframes : 1 ≤ R.frames) (hlocals : (rest.map fun v => v.category).sum + 15 ≤ R.locals) (hdg : decode cc pc = .ok (.invokestatic index, 3))
    (k : ∀ (z : UInt64) (d' : Drawn), s.drawn.sameBut d' lw_cs → W p l e R (s.setDrawn d') m args below meth c H locs cells slots Q (F0 m (pc + 3) ls (.double z :: rest))) : W p l e R s m args below meth c H locs cells slots Q (F0 m pc ls (.long b :: rest)) := by
  cases hv : vn_snl2d b with
  | false => exact vn_l2d hexec hb hml hown hlink hnat hstat hinit hv hframes hlocals hdg (k _ s.drawn (Drawn.sameBut.refl _ _))
  | true =>
    intro T hT X
    obtain ⟨z, vm', d', hd', X', st⟩ := ev_l2d0 X hexec hown hlink hnat hstat hinit (b := b) (hv := hv) (g := F0 m pc ls (.long b :: rest)) rfl (by rw [hml]) rfl (by rw [hb]; exact hdg) hframes (by show 2 * 0 + _ + _ ≤ _; have hw : nativeFrameWords "java/lang/Double" "longBitsToDouble" 2 = 4 := (by decide); omega)
    obtain ⟨t, a1, b1⟩ := k z d' hd' ((T.setVm vm').setDrawn d') hT X'
    exact ⟨t, st t a1, b1⟩
end EVD
/-- a frame knows what it knew, whatever was drawn -/
theorem ev_Cx.drew {D : va_G} {B k : Nat} {r : ev_ME} {p : Program} {R : Room} {s : State} {m : MethodId} {args : Array Value} {meth : Method} {c : Code} (X : ev_Cx D B k r p R s m args meth c) (d : Drawn) : ev_Cx D B k r p R (s.setDrawn d) m args meth c :=
  ⟨X.1, X.2.1, X.2.2.1, X.2.2.2.1, dr_words X.2.2.2.2.1 d, ev_K.same (s := s) (U := s.setDrawn d) rfl X.2.2.2.2.2.1, X.2.2.2.2.2.2⟩
theorem ev_V.fg {ls : Array Slot} {L L' : ev_L} (h : ev_V ls L) (hl : L'.length = L.length) (hi : ∀ (i : Nat) (v : Value), L'[i]? = some (some v) → L[i]? = some (some v)) : ev_V ls L' := ⟨h.1.trans hl.symm, h.2.1, fun i v q => h.2.2 i v (hi i v q)⟩
theorem ev_V.fg1 {ls : Array Slot} {L : ev_L} {i : Nat} {v : Value} (h : ev_V ls (ev_s1 L i v)) : ev_V ls (ev_fg1 L i) := by
  refine h.fg (by simp [ev_fg1, ev_s1]) fun j w q => ?_
  unfold ev_fg1 at q
  unfold ev_s1
  by_cases hj : i = j
  · subst hj; rw [List.getElem?_set] at q; split at q
    · split at q <;> cases q
    · exact absurd rfl (by assumption)
  · rw [List.getElem?_set_ne hj] at q ⊢; exact q
theorem ev_V.fg2 {ls : Array Slot} {L : ev_L} {i : Nat} {v : Value} (h : ev_V ls (ev_s2 L i v)) : ev_V ls (ev_fg2 L i) := by
  refine h.fg (by simp [ev_fg2, ev_s2]) fun j w q => ?_
  unfold ev_fg2 at q
  unfold ev_s2
  by_cases hj1 : i + 1 = j
  · subst hj1; rw [List.getElem?_set] at q; split at q
    · split at q <;> cases q
    · exact absurd rfl (by assumption)
  · rw [List.getElem?_set_ne hj1] at q ⊢
    by_cases hj : i = j
    · subst hj; rw [List.getElem?_set] at q; split at q
      · split at q <;> cases q
      · exact absurd rfl (by assumption)
    · rw [List.getElem?_set_ne hj] at q ⊢; exact q
