/-! a step, a walk, a contract: sound -/
section ALL
variable {p : Program} {l : Launch} {e : Env} {s : State} {m : MethodId} {args : Array Value} {below : List Frame} {meth : Method} {c : Code} {D : va_G} {cI cJ cD : ClassId} {b base n0 : Nat} {scr : Nat → Int32} {M : xM} {cs : xCs} {Q : xQ} {Z : State → Prop}
variable {pc : Nat} {K : xK} {J : Nat → xK} {ls : xV} {st : List Value} {k n : Nat} {I : xI} {L : xL} {P : xR}
set_option maxHeartbeats 4000000 in
theorem xstep_ok (X : xCtx p l e s m args below meth c D cI cJ cD b base n0 scr M cs) (R : xRt p l e s m args below meth c D cI cJ cD b base n0 scr M Q Z) (hh : ∀ q ∈ cs, xHd q.1) {ee : xE} (hd : decode (mC M) ee.1 = .ok (ee.2.2.1, ee.2.1)) (hc : xChk M cs ee = true) (hw : xWrd M cs ee) (hK : ∀ ls st k n I L P, K Q ls st k n I L P → xAt p l e s m args below meth c D cI cJ cD b base n0 scr M Z (ee.1 + ee.2.1) ls st k n I L P) (hJ : ∀ t ls st k n I L P, J t Q ls st k n I L P → xAt p l e s m args below meth c D cI cJ cD b base n0 scr M Z t ls st k n I L P)
    (h : xstep M cs Q ee K J ls st k n I L P) : xAt p l e s m args below meth c D cI cJ cD b base n0 scr M Z ee.1 ls st k n I L P := by
  obtain ⟨pc, len, ins, a9, b9, c9, tb⟩ := ee
  dsimp only at hd hK
  show xAt p l e s m args below meth c D cI cJ cD b base n0 scr M Z pc ls st k n I L P
  cases ins with
  | iadd =>
    have hlen := xbeq hc
    subst hlen
    exact xs_iadd X hd hK h
  | isub =>
    have hlen := xbeq hc
    subst hlen
    exact xs_isub X hd hK h
  | imul =>
    have hlen := xbeq hc
    subst hlen
    exact xs_imul X hd hK h
  | iand =>
    have hlen := xbeq hc
    subst hlen
    exact xs_iand X hd hK h
  | ior =>
    have hlen := xbeq hc
    subst hlen
    exact xs_ior X hd hK h
  | ixor =>
    have hlen := xbeq hc
    subst hlen
    exact xs_ixor X hd hK h
  | ishl =>
    have hlen := xbeq hc
    subst hlen
    exact xs_ishl X hd hK h
  | ishr =>
    have hlen := xbeq hc
    subst hlen
    exact xs_ishr X hd hK h
  | ladd =>
    have hlen := xbeq hc
    subst hlen
    exact xs_ladd X hd hK h
  | lsub =>
    have hlen := xbeq hc
    subst hlen
    exact xs_lsub X hd hK h
  | lmul =>
    have hlen := xbeq hc
    subst hlen
    exact xs_lmul X hd hK h
  | land =>
    have hlen := xbeq hc
    subst hlen
    exact xs_land X hd hK h
  | lor =>
    have hlen := xbeq hc
    subst hlen
    exact xs_lor X hd hK h
  | lxor =>
    have hlen := xbeq hc
    subst hlen
    exact xs_lxor X hd hK h
  | lcmp =>
    have hlen := xbeq hc
    subst hlen
    exact xs_lcmp X hd hK h
  | iushr =>
    have hlen := xbeq hc
    subst hlen
    exact xs_iushr X hd hK h
  | lushr =>
    have hlen := xbeq hc
    subst hlen
    exact xs_lushr X hd hK h
  | lshl =>
    have hlen := xbeq hc
    subst hlen
    exact xs_lshl X hd hK h
  | idiv =>
    have hlen := xbeq hc
    subst hlen
    exact xs_idiv X hd hK h
  | irem =>
    have hlen := xbeq hc
    subst hlen
    exact xs_irem X hd hK h
  | ldiv =>
    have hlen := xbeq hc
    subst hlen
    exact xs_ldiv X hd hK h
  | lrem =>
    have hlen := xbeq hc
    subst hlen
    exact xs_lrem X hd hK h
  | i2l =>
    have hlen := xbeq hc
    subst hlen
    exact xs_i2l X hd hK h
  | l2i =>
    have hlen := xbeq hc
    subst hlen
    exact xs_l2i X hd hK h
  | i2b =>
    have hlen := xbeq hc
    subst hlen
    exact xs_i2b X hd hK h
  | pop =>
    have hlen := xbeq hc
    subst hlen
    exact xs_pop X hd hK h
  | dup =>
    have hlen := xbeq hc
    subst hlen
    exact xs_dup X hd hK h
  | dup2 =>
    have hlen := xbeq hc
    subst hlen
    exact xs_dup2 X hd hK h
  | aconst_null =>
    have hlen := xbeq hc
    subst hlen
    exact xs_null X hd hK h
  | iconst i =>
    obtain ⟨hlen, hc2⟩ := xand hc
    have hlen := xbeq hlen
    subst hlen
    exact xs_iconst X (xbeq hc2) hd hK h
  | bipush i =>
    obtain ⟨hlen, hc2⟩ := xand hc
    have hlen := xbeq hlen
    subst hlen
    obtain ⟨h3, h5⟩ := xand hc2
    obtain ⟨h3, h4⟩ := xand h3
    exact xs_bipush X (xbeq h3) (xblt h4) (of_decide_eq_true h5) hd hK h
  | sipush i =>
    obtain ⟨hlen, hc2⟩ := xand hc
    have hlen := xbeq hlen
    subst hlen
    obtain ⟨h3, h5⟩ := xand hc2
    obtain ⟨h3, h4⟩ := xand h3
    exact xs_sipush X (xbeq h3) (xblt h4) (of_decide_eq_true h5) hd hK h
  | lconst i =>
    obtain ⟨hlen, hc2⟩ := xand hc
    have hlen := xbeq hlen
    subst hlen
    exact xs_lconst X (xbeq hc2) hd hK h
  | ldc i =>
    have hlen := xbeq hc
    subst hlen
    exact xs_ldc X hw hd hK h
  | ldc_w i =>
    have hlen := xbeq hc
    subst hlen
    exact xs_ldcw X hw hd hK h
  | ldc2_w i =>
    have hlen := xbeq hc
    subst hlen
    exact xs_ldc2 X hw hd hK h
  | iload i =>
    obtain ⟨hlen, hc2⟩ := xand hc
    have hlen := xbeq hlen
    subst hlen
    exact xs_iload X (xbeq hc2) hd hK h
  | iload_n i =>
    obtain ⟨hlen, hc2⟩ := xand hc
    have hlen := xbeq hlen
    subst hlen
    exact xs_iload_n X (xbeq hc2) hd hK h
  | lload i =>
    obtain ⟨hlen, hc2⟩ := xand hc
    have hlen := xbeq hlen
    subst hlen
    exact xs_lload X (xbeq hc2) hd hK h
  | lload_n i =>
    obtain ⟨hlen, hc2⟩ := xand hc
    have hlen := xbeq hlen
    subst hlen
    exact xs_lload_n X (xbeq hc2) hd hK h
  | aload i =>
    obtain ⟨hlen, hc2⟩ := xand hc
    have hlen := xbeq hlen
    subst hlen
    exact xs_aload X (xbeq hc2) hd hK h
  | aload_n i =>
    obtain ⟨hlen, hc2⟩ := xand hc
    have hlen := xbeq hlen
    subst hlen
    exact xs_aload_n X (xbeq hc2) hd hK h
  | istore i =>
    obtain ⟨hlen, hc2⟩ := xand hc
    have hlen := xbeq hlen
    subst hlen
    exact xs_istore X (xbeq hc2) hd hK h
  | istore_n i =>
    obtain ⟨hlen, hc2⟩ := xand hc
    have hlen := xbeq hlen
    subst hlen
    exact xs_istore_n X (xbeq hc2) hd hK h
  | lstore i =>
    obtain ⟨hlen, hc2⟩ := xand hc
    have hlen := xbeq hlen
    subst hlen
    exact xs_lstore X (xbeq hc2) hd hK h
  | lstore_n i =>
    obtain ⟨hlen, hc2⟩ := xand hc
    have hlen := xbeq hlen
    subst hlen
    exact xs_lstore_n X (xbeq hc2) hd hK h
  | astore i =>
    obtain ⟨hlen, hc2⟩ := xand hc
    have hlen := xbeq hlen
    subst hlen
    exact xs_astore X (xbeq hc2) hd hK h
  | astore_n i =>
    obtain ⟨hlen, hc2⟩ := xand hc
    have hlen := xbeq hlen
    subst hlen
    exact xs_astore_n X (xbeq hc2) hd hK h
  | iinc i d =>
    obtain ⟨hlen, hc2⟩ := xand hc
    have hlen := xbeq hlen
    subst hlen
    obtain ⟨h3, h4⟩ := xand hc2
    exact xs_iinc X (xbeq h3) (xbeq h4) hd hK h
  | goto off =>
    obtain ⟨hlen, hc2⟩ := xand hc
    have hlen := xbeq hlen
    subst hlen
    exact xs_goto X (of_decide_eq_true hc2) hd (hJ _) h
  | if_icmp cnd off =>
    obtain ⟨hlen, hc2⟩ := xand hc
    have hlen := xbeq hlen
    subst hlen
    exact xs_icmp X (of_decide_eq_true hc2) hd hK (hJ _) h
  | ifCond cnd off =>
    obtain ⟨hlen, hc2⟩ := xand hc
    have hlen := xbeq hlen
    subst hlen
    exact xs_if X (of_decide_eq_true hc2) hd hK (hJ _) h
  | ifnull off =>
    obtain ⟨hlen, hc2⟩ := xand hc
    have hlen := xbeq hlen
    subst hlen
    exact xs_ifnull X (of_decide_eq_true hc2) hd hK (hJ _) h
  | ifnonnull off =>
    obtain ⟨hlen, hc2⟩ := xand hc
    have hlen := xbeq hlen
    subst hlen
    exact xs_ifnonnull X (of_decide_eq_true hc2) hd hK (hJ _) h
  | tableswitch d lo hi offs =>
    exact xs_table X hc hd hJ h
  | lookupswitch d ps =>
    exact xs_lookup X hc hd hJ h
  | getfield i =>
    obtain ⟨hlen, hc2⟩ := xand hc
    have hlen := xbeq hlen
    subst hlen
    exact xs_getfield X (xblt hc2) hw hd hK h
  | putfield i =>
    obtain ⟨hlen, hc2⟩ := xand hc
    have hlen := xbeq hlen
    subst hlen
    obtain ⟨h3, h4⟩ := xand hc2
    exact xs_putfield X (xblt h3) hw hd hK h
  | arraylength =>
    have hlen := xbeq hc
    subst hlen
    exact xs_alen X hd hK h
  | iaload =>
    have hlen := xbeq hc
    subst hlen
    exact xs_iald X hd hK h
  | laload =>
    have hlen := xbeq hc
    subst hlen
    exact xs_lald X hd hK h
  | aaload =>
    have hlen := xbeq hc
    subst hlen
    exact xs_aald X hd hK h
  | iastore =>
    have hlen := xbeq hc
    subst hlen
    exact xs_iast X hd hK h
  | lastore =>
    have hlen := xbeq hc
    subst hlen
    exact xs_last X hd hK h
  | aastore =>
    have hlen := xbeq hc
    subst hlen
    exact xs_aast X hd hK h
  | new i =>
    have hlen := xbeq hc
    subst hlen
    exact xs_new X hw hd hK h
  | newarray t =>
    obtain ⟨hlen, hc2⟩ := xand hc
    have hlen := xbeq hlen
    subst hlen
    exact xs_newa X hc2 hw hd hK h
  | anewarray i =>
    have hlen := xbeq hc
    subst hlen
    exact xs_newq X hw hd hK h
  | invokevirtual i =>
    obtain ⟨hlen, hc2⟩ := xand hc
    have hlen := xbeq hlen
    subst hlen
    exact xs_virtual X hh hc2 hw hd hK h
  | invokespecial i =>
    obtain ⟨hlen, hc2⟩ := xand hc
    have hlen := xbeq hlen
    subst hlen
    match c9, hc2, hw, h with
    | 0, hc2, hw, h => exact xs_special X hh hc2 hw hd hK h
    | c9 + 1, hc2, hw, h => exact xs_init X (xand hc2) hw hd hK h
  | invokestatic i =>
    obtain ⟨hlen, hc2⟩ := xand hc
    have hlen := xbeq hlen
    subst hlen
    match c9, hc2, hw, h with
    | 0, hc2, hw, h => exact xs_static X hh hc2 hw hd hK h
    | 1, hc2, hw, h => exact xs_max X (xand hc2) hw hd hK h
    | 2, hc2, hw, h => exact xs_min X (xand hc2) hw hd hK h
    | c9 + 3, hc2, hw, h => exact xs_copy X (xand hc2) hw hd hK h
  | return_ =>
    have hlen := xbeq hc
    subst hlen
    match st, h with
    | [], h =>
      have h : (match mT M with
          | none => xT (Nat.beq k (mN M)) (Q none n I L P)
          | _ => False) := h
      split at h
      · rename_i ht
        exact xs_end X R none hd ht h
      · exact absurd h (fun q => q)
  | ireturn =>
    have hlen := xbeq hc
    subst hlen
    match st, h with
    | [.int x], h =>
      have h : (match mT M with
          | some .int => xT (Nat.beq k (mN M)) (Q (some (.int x)) n I L P)
          | some .boolean => (x = nI 0 ∨ x = nI 1) ∧ xT (Nat.beq k (mN M)) (Q (some (.int x)) n I L P)
          | _ => False) := h
      split at h
      · rename_i ht
        exact xs_end X R (some (.int x)) hd (Or.inl ht) h
      · rename_i ht
        exact xs_end X R (some (.int x)) hd (Or.inr ⟨ht, h.1⟩) h.2
      · exact absurd h (fun q => q)
  | lreturn =>
    have hlen := xbeq hc
    subst hlen
    match st, h with
    | [.long x], h =>
      have h : (match mT M with
          | some .long => xT (Nat.beq k (mN M)) (Q (some (.long x)) n I L P)
          | _ => False) := h
      split at h
      · rename_i ht
        exact xs_end X R (some (.long x)) hd ht h
      · exact absurd h (fun q => q)
  | areturn =>
    have hlen := xbeq hc
    subst hlen
    match st, h with
    | [.ref x], h =>
      have h : (match mT M with
          | some (.object _) => xT (Nat.beq k (mN M)) (Q (some (.ref x)) n I L P)
          | _ => False) := h
      split at h
      · rename_i C ht
        exact xs_end X R (some (.ref x)) hd ⟨C, ht⟩ h
      · exact absurd h (fun q => q)
    | [.null], h =>
      have h : (match mT M with
          | some (.object _) => xT (Nat.beq k (mN M)) (Q (some .null) n I L P)
          | _ => False) := h
      split at h
      · rename_i C ht
        exact xs_end X R (some .null) hd ⟨C, ht⟩ h
      · exact absurd h (fun q => q)
  | _ => exact absurd h (fun q => q)
end ALL
