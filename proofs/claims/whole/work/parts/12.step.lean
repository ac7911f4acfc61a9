-- one step, whatever the instruction; a whole run
section EVZ
variable {p : Program} {l : Launch} {e : Env} {R : Room} {s : State} {m : MethodId} {args : Array Value} {below : List Frame} {meth : Method} {c : Code} {D : va_G} {B n0 n1 k : Nat} {r : ev_ME} {Q : State → Prop} {σ σ' : ev_H} {pc : Nat} {L : ev_L} {st : List Value} {c' : ev_C} {v : Option Value}
theorem ev_act_inv {x : ev_C} {z : ev_C ⊕ ((Nat × List Value × Nat × ev_L × List Value) ⊕ Option Value)} (hr : ev_my k = some r) (h : ev_act k x = some z) : ∃ i n, decode r.2.2.1 x.2.1 = .ok (i, n) ∧ (ev_il i = 0 ∨ n = ev_il i) ∧ ev_op k r.1 i x.1 x.2.1 x.2.2.1 x.2.2.2 = some z := by
  unfold ev_act at h
  split at h
  · next q hq =>
    unfold ev_ins at hq
    rw [hr] at hq
    dsimp only at hq
    split at hq
    · next i n hd =>
      split at hq
      · next hl => cases hq; exact ⟨i, n, hd, hl, h⟩
      · cases hq
    · cases hq
  · cases h
theorem ev_s_static {x : Nat} (X : ev_Cx D B k r p R s m args meth c) (hd : decode r.2.2.1 pc = .ok (.invokestatic x, 3)) (h : ev_op k r.1 (.invokestatic x) σ pc L st = some (.inl c')) (hq : ev_q R n0 n1 σ c'.1) (kk : ∀ d : Drawn, s.drawn.sameBut d lw_cs → ev_W p l e R (s.setDrawn d) m args below meth c D B n0 n1 Q c') : ev_W p l e R s m args below meth c D B n0 n1 Q (σ, pc, L, st) := by
  have hg := ev_g_op h
  replace h : ev_static k r.1 x σ pc L st = some (.inl c') := h
  unfold ev_static at h
  split at h
  · next q hqt => exact ev_s_nat X hd hqt h (Nat.le_trans (Nat.sub_le_sub_right hg.1 _) hq.2.2.1) (Nat.le_trans (Nat.sub_le_sub_right hg.2 _) hq.2.2.2) kk
  · unfold ev_stc at h
    repeat' (split at h)
    all_goals first | exact (ev_g_call h).elim | cases h
theorem ev_s_special {x : Nat} (X : ev_Cx D B k r p R s m args meth c) (hd : decode r.2.2.1 pc = .ok (.invokespecial x, 3)) (h : ev_op k r.1 (.invokespecial x) σ pc L st = some (.inl c')) (kk : ev_W p l e R s m args below meth c D B n0 n1 Q c') : ev_W p l e R s m args below meth c D B n0 n1 Q (σ, pc, L, st) := by
  replace h : ev_spec k r.1 x σ pc L st = some (.inl c') := h
  unfold ev_spec at h
  split at h
  · next q hqt =>
    split at h
    · next a rs =>
      split at h
      · next hp => cases h; exact ev_s_obj X hd hqt hp kk
      · cases h
    · cases h
  · repeat' (split at h)
    all_goals first | exact (ev_g_call h).elim | cases h
theorem ev_step {x : ev_C} (X : ev_Cx D B k r p R s m args meth c) (h : ev_act k x = some (.inl c')) (hq : ev_q R n0 n1 x.1 c'.1) (kk0 : ∀ d : Drawn, s.drawn.sameBut d lw_cs → ev_W p l e R (s.setDrawn d) m args below meth c D B n0 n1 Q c') : ev_W p l e R s m args below meth c D B n0 n1 Q x := by
  have kk : ev_W p l e R s m args below meth c D B n0 n1 Q c' := kk0 s.drawn (Drawn.sameBut.refl _ _)
  obtain ⟨i, n, hd, hl, ho⟩ := ev_act_inv X.1 h
  obtain ⟨σ, pc, L, st⟩ := x
  dsimp only at hd ho hq
  cases i
  case iconst a =>
    obtain rfl : n = 1 := by rcases hl with q | q; cases q; exact q
    exact ev_s_iconst X hd ho kk
  case bipush a =>
    obtain rfl : n = 2 := by rcases hl with q | q; cases q; exact q
    exact ev_s_bipush X hd ho kk
  case sipush a =>
    obtain rfl : n = 3 := by rcases hl with q | q; cases q; exact q
    exact ev_s_sipush X hd ho kk
  case lconst a =>
    obtain rfl : n = 1 := by rcases hl with q | q; cases q; exact q
    exact ev_s_lconst X hd ho kk
  case fconst a =>
    obtain rfl : n = 1 := by rcases hl with q | q; cases q; exact q
    exact ev_s_fconst X hd ho kk
  case dconst a =>
    obtain rfl : n = 1 := by rcases hl with q | q; cases q; exact q
    exact ev_s_dconst X hd ho kk
  case ldc a =>
    obtain rfl : n = 2 := by rcases hl with q | q; cases q; exact q
    exact ev_s_ldc X hd ho kk
  case aconst_null =>
    obtain rfl : n = 1 := by rcases hl with q | q; cases q; exact q
    exact ev_s_null X hd ho kk
  case ldc2_w a =>
    obtain rfl : n = 3 := by rcases hl with q | q; cases q; exact q
    exact ev_s_ldc2 X hd ho kk
  case iload a =>
    obtain rfl : n = 2 := by rcases hl with q | q; cases q; exact q
    exact ev_s_iload X hd ho kk
  case iload_n a =>
    obtain rfl : n = 1 := by rcases hl with q | q; cases q; exact q
    exact ev_s_iload_n X hd ho kk
  case istore a =>
    obtain rfl : n = 2 := by rcases hl with q | q; cases q; exact q
    exact ev_s_istore X hd ho kk
  case istore_n a =>
    obtain rfl : n = 1 := by rcases hl with q | q; cases q; exact q
    exact ev_s_istore_n X hd ho kk
  case lload a =>
    obtain rfl : n = 2 := by rcases hl with q | q; cases q; exact q
    exact ev_s_lload X hd ho kk
  case lload_n a =>
    obtain rfl : n = 1 := by rcases hl with q | q; cases q; exact q
    exact ev_s_lload_n X hd ho kk
  case lstore a =>
    obtain rfl : n = 2 := by rcases hl with q | q; cases q; exact q
    exact ev_s_lstore X hd ho kk
  case lstore_n a =>
    obtain rfl : n = 1 := by rcases hl with q | q; cases q; exact q
    exact ev_s_lstore_n X hd ho kk
  case fload a =>
    obtain rfl : n = 2 := by rcases hl with q | q; cases q; exact q
    exact ev_s_fload X hd ho kk
  case fload_n a =>
    obtain rfl : n = 1 := by rcases hl with q | q; cases q; exact q
    exact ev_s_fload_n X hd ho kk
  case fstore a =>
    obtain rfl : n = 2 := by rcases hl with q | q; cases q; exact q
    exact ev_s_fstore X hd ho kk
  case fstore_n a =>
    obtain rfl : n = 1 := by rcases hl with q | q; cases q; exact q
    exact ev_s_fstore_n X hd ho kk
  case dload a =>
    obtain rfl : n = 2 := by rcases hl with q | q; cases q; exact q
    exact ev_s_dload X hd ho kk
  case dload_n a =>
    obtain rfl : n = 1 := by rcases hl with q | q; cases q; exact q
    exact ev_s_dload_n X hd ho kk
  case dstore a =>
    obtain rfl : n = 2 := by rcases hl with q | q; cases q; exact q
    exact ev_s_dstore X hd ho kk
  case dstore_n a =>
    obtain rfl : n = 1 := by rcases hl with q | q; cases q; exact q
    exact ev_s_dstore_n X hd ho kk
  case aload a =>
    obtain rfl : n = 2 := by rcases hl with q | q; cases q; exact q
    exact ev_s_aload X hd ho kk
  case aload_n a =>
    obtain rfl : n = 1 := by rcases hl with q | q; cases q; exact q
    exact ev_s_aload_n X hd ho kk
  case astore a =>
    obtain rfl : n = 2 := by rcases hl with q | q; cases q; exact q
    exact ev_s_astore X hd ho kk
  case astore_n a =>
    obtain rfl : n = 1 := by rcases hl with q | q; cases q; exact q
    exact ev_s_astore_n X hd ho kk
  case iinc a b =>
    obtain rfl : n = 3 := by rcases hl with q | q; cases q; exact q
    exact ev_s_iinc X hd ho kk
  case iadd =>
    obtain rfl : n = 1 := by rcases hl with q | q; cases q; exact q
    exact ev_s_iadd X hd ho kk
  case isub =>
    obtain rfl : n = 1 := by rcases hl with q | q; cases q; exact q
    exact ev_s_isub X hd ho kk
  case imul =>
    obtain rfl : n = 1 := by rcases hl with q | q; cases q; exact q
    exact ev_s_imul X hd ho kk
  case iand =>
    obtain rfl : n = 1 := by rcases hl with q | q; cases q; exact q
    exact ev_s_iand X hd ho kk
  case ior =>
    obtain rfl : n = 1 := by rcases hl with q | q; cases q; exact q
    exact ev_s_ior X hd ho kk
  case ixor =>
    obtain rfl : n = 1 := by rcases hl with q | q; cases q; exact q
    exact ev_s_ixor X hd ho kk
  case ineg =>
    obtain rfl : n = 1 := by rcases hl with q | q; cases q; exact q
    exact ev_s_ineg X hd ho kk
  case i2l =>
    obtain rfl : n = 1 := by rcases hl with q | q; cases q; exact q
    exact ev_s_i2l X hd ho kk
  case i2b =>
    obtain rfl : n = 1 := by rcases hl with q | q; cases q; exact q
    exact ev_s_i2b X hd ho kk
  case i2s =>
    obtain rfl : n = 1 := by rcases hl with q | q; cases q; exact q
    exact ev_s_i2s X hd ho kk
  case i2c =>
    obtain rfl : n = 1 := by rcases hl with q | q; cases q; exact q
    exact ev_s_i2c X hd ho kk
  case ladd =>
    obtain rfl : n = 1 := by rcases hl with q | q; cases q; exact q
    exact ev_s_ladd X hd ho kk
  case lsub =>
    obtain rfl : n = 1 := by rcases hl with q | q; cases q; exact q
    exact ev_s_lsub X hd ho kk
  case lmul =>
    obtain rfl : n = 1 := by rcases hl with q | q; cases q; exact q
    exact ev_s_lmul X hd ho kk
  case land =>
    obtain rfl : n = 1 := by rcases hl with q | q; cases q; exact q
    exact ev_s_land X hd ho kk
  case lor =>
    obtain rfl : n = 1 := by rcases hl with q | q; cases q; exact q
    exact ev_s_lor X hd ho kk
  case lxor =>
    obtain rfl : n = 1 := by rcases hl with q | q; cases q; exact q
    exact ev_s_lxor X hd ho kk
  case lcmp =>
    obtain rfl : n = 1 := by rcases hl with q | q; cases q; exact q
    exact ev_s_lcmp X hd ho kk
  case lshl =>
    obtain rfl : n = 1 := by rcases hl with q | q; cases q; exact q
    exact ev_s_lshl X hd ho kk
  case lshr =>
    obtain rfl : n = 1 := by rcases hl with q | q; cases q; exact q
    exact ev_s_lshr X hd ho kk
  case lushr =>
    obtain rfl : n = 1 := by rcases hl with q | q; cases q; exact q
    exact ev_s_lushr X hd ho kk
  case lneg =>
    obtain rfl : n = 1 := by rcases hl with q | q; cases q; exact q
    exact ev_s_lneg X hd ho kk
  case l2i =>
    obtain rfl : n = 1 := by rcases hl with q | q; cases q; exact q
    exact ev_s_l2i X hd ho kk
  case l2d =>
    obtain rfl : n = 1 := by rcases hl with q | q; cases q; exact q
    exact ev_s_l2d X hd ho kk
  case f2i =>
    obtain rfl : n = 1 := by rcases hl with q | q; cases q; exact q
    exact ev_s_f2i X hd ho kk
  case f2l =>
    obtain rfl : n = 1 := by rcases hl with q | q; cases q; exact q
    exact ev_s_f2l X hd ho kk
  case d2i =>
    obtain rfl : n = 1 := by rcases hl with q | q; cases q; exact q
    exact ev_s_d2i X hd ho kk
  case d2l =>
    obtain rfl : n = 1 := by rcases hl with q | q; cases q; exact q
    exact ev_s_d2l X hd ho kk
  case dneg =>
    obtain rfl : n = 1 := by rcases hl with q | q; cases q; exact q
    exact ev_s_dneg X hd ho kk
  case idiv =>
    obtain rfl : n = 1 := by rcases hl with q | q; cases q; exact q
    exact ev_s_idiv X hd ho kk
  case irem =>
    obtain rfl : n = 1 := by rcases hl with q | q; cases q; exact q
    exact ev_s_irem X hd ho kk
  case ldiv =>
    obtain rfl : n = 1 := by rcases hl with q | q; cases q; exact q
    exact ev_s_ldiv X hd ho kk
  case lrem =>
    obtain rfl : n = 1 := by rcases hl with q | q; cases q; exact q
    exact ev_s_lrem X hd ho kk
  case frem =>
    obtain rfl : n = 1 := by rcases hl with q | q; cases q; exact q
    exact ev_s_frem X hd ho kk
  case dadd =>
    obtain rfl : n = 1 := by rcases hl with q | q; cases q; exact q
    exact ev_s_dadd X hd ho kk
  case dsub =>
    obtain rfl : n = 1 := by rcases hl with q | q; cases q; exact q
    exact ev_s_dsub X hd ho kk
  case drem =>
    obtain rfl : n = 1 := by rcases hl with q | q; cases q; exact q
    exact ev_s_drem X hd ho kk
  case f2d =>
    obtain rfl : n = 1 := by rcases hl with q | q; cases q; exact q
    exact ev_s_f2d X hd ho kk
  case d2f =>
    obtain rfl : n = 1 := by rcases hl with q | q; cases q; exact q
    exact ev_s_d2f X hd ho kk
  case dup =>
    obtain rfl : n = 1 := by rcases hl with q | q; cases q; exact q
    exact ev_s_dup X hd ho kk
  case pop =>
    obtain rfl : n = 1 := by rcases hl with q | q; cases q; exact q
    exact ev_s_pop X hd ho kk
  case dup2 =>
    obtain rfl : n = 1 := by rcases hl with q | q; cases q; exact q
    exact ev_s_dup2 X hd ho kk
  case iaload =>
    obtain rfl : n = 1 := by rcases hl with q | q; cases q; exact q
    exact ev_s_iaload X hd ho kk
  case baload =>
    obtain rfl : n = 1 := by rcases hl with q | q; cases q; exact q
    exact ev_s_baload X hd ho kk
  case laload =>
    obtain rfl : n = 1 := by rcases hl with q | q; cases q; exact q
    exact ev_s_laload X hd ho kk
  case aaload =>
    obtain rfl : n = 1 := by rcases hl with q | q; cases q; exact q
    exact ev_s_aaload X hd ho kk
  case arraylength =>
    obtain rfl : n = 1 := by rcases hl with q | q; cases q; exact q
    exact ev_s_arraylength X hd ho kk
  case iastore =>
    obtain rfl : n = 1 := by rcases hl with q | q; cases q; exact q
    exact ev_s_iastore X hd ho kk
  case bastore =>
    obtain rfl : n = 1 := by rcases hl with q | q; cases q; exact q
    exact ev_s_bastore X hd ho kk
  case lastore =>
    obtain rfl : n = 1 := by rcases hl with q | q; cases q; exact q
    exact ev_s_lastore X hd ho kk
  case aastore =>
    obtain rfl : n = 1 := by rcases hl with q | q; cases q; exact q
    exact ev_s_aastore X hd ho kk
  case fcmp o =>
    obtain rfl : n = 1 := by rcases hl with q | q; cases q; exact q
    exact ev_s_fcmp X hd ho kk
  case dcmp o =>
    obtain rfl : n = 1 := by rcases hl with q | q; cases q; exact q
    exact ev_s_dcmp X hd ho kk
  case goto o =>
    obtain rfl : n = 3 := by rcases hl with q | q; cases q; exact q
    exact ev_s_goto X hd ho kk
  case ifCond q o =>
    obtain rfl : n = 3 := by rcases hl with q | q; cases q; exact q
    cases q
    case eq => exact ev_s_if_eq X hd ho kk
    case ne => exact ev_s_if_ne X hd ho kk
    case lt => exact ev_s_if_lt X hd ho kk
    case ge => exact ev_s_if_ge X hd ho kk
    case gt => exact ev_s_if_gt X hd ho kk
    case le => exact ev_s_if_le X hd ho kk
  case if_icmp q o =>
    obtain rfl : n = 3 := by rcases hl with q | q; cases q; exact q
    cases q
    case eq => exact ev_s_icmp_eq X hd ho kk
    case ne => exact ev_s_icmp_ne X hd ho kk
    case lt => exact ev_s_icmp_lt X hd ho kk
    case ge => exact ev_s_icmp_ge X hd ho kk
    case gt => exact ev_s_icmp_gt X hd ho kk
    case le => exact ev_s_icmp_le X hd ho kk
  case ifnull o =>
    obtain rfl : n = 3 := by rcases hl with q | q; cases q; exact q
    exact ev_s_ifnull X hd ho kk
  case ifnonnull o =>
    obtain rfl : n = 3 := by rcases hl with q | q; cases q; exact q
    exact ev_s_ifnonnull X hd ho kk
  case tableswitch a b d o => exact ev_s_tsw X hd ho kk
  case lookupswitch a b => exact ev_s_lsw X hd ho kk
  case getfield a =>
    obtain rfl : n = 3 := by rcases hl with q | q; cases q; exact q
    exact ev_s_getfield X hd ho kk
  case putfield a =>
    obtain rfl : n = 3 := by rcases hl with q | q; cases q; exact q
    exact ev_s_putfield X hd ho kk
  case checkcast a =>
    obtain rfl : n = 3 := by rcases hl with q | q; cases q; exact q
    exact ev_s_checkcast X hd ho kk
  case instanceof a =>
    obtain rfl : n = 3 := by rcases hl with q | q; cases q; exact q
    exact ev_s_instanceof X hd ho kk
  case newarray a =>
    obtain rfl : n = 2 := by rcases hl with q | q; cases q; exact q
    exact ev_s_newarray X hd ho hq kk
  case anewarray a =>
    obtain rfl : n = 3 := by rcases hl with q | q; cases q; exact q
    exact ev_s_anewarray X hd ho hq kk
  case new a =>
    obtain rfl : n = 3 := by rcases hl with q | q; cases q; exact q
    exact ev_s_new X hd ho hq kk
  case invokestatic a =>
    obtain rfl : n = 3 := by rcases hl with q | q; cases q; exact q
    exact ev_s_static X hd ho hq kk0
  case invokespecial a =>
    obtain rfl : n = 3 := by rcases hl with q | q; cases q; exact q
    exact ev_s_special X hd ho kk
  case invokevirtual a =>
    replace ho : ev_virt k r.1 a σ pc L st = some (.inl c') := ho
    unfold ev_virt at ho
    repeat' (split at ho)
    all_goals first | exact (ev_g_call ho).elim | cases ho
  case ireturn => exact (ev_g_ret (show ev_ret k .ireturn st = some (.inl c') from ho)).elim
  case lreturn => exact (ev_g_ret (show ev_ret k .lreturn st = some (.inl c') from ho)).elim
  case dreturn => exact (ev_g_ret (show ev_ret k .dreturn st = some (.inl c') from ho)).elim
  case areturn => exact (ev_g_ret (show ev_ret k .areturn st = some (.inl c') from ho)).elim
  case return_ => exact (ev_g_ret (show ev_ret k .return_ st = some (.inl c') from ho)).elim
  all_goals (cases ho; done)
end EVZ
