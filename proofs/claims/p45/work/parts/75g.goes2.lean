/-! GOES ON, from where() on -/
theorem wTT (S : ST) (v w : Int32) : (S.wT v).wT w = S.wT w := rfl
theorem whereR_T {S S' : ST} {a m : Nat} {o v : Int32} (h : whereR (S.wT v) (nI a) (nI m) o S') (hd : S.d.ok) (ha : a < S.d.nL) (hm : m < 61) : o = nI (plN (dyN S.d S.D.X m) a) ∧ S' = S.wT v := by
  have h2 := whereR_v h hd ha hm
  simp only [wT_d, wT_D, wT_kp, wT_rz, wT_rv, wR_d, wR_D, wR_kp, wR_rz, wR_rv, wC_d, wC_D, wC_kp, wC_rz, wC_rv, wD_d, wD_D, wD_kp, wD_rz, wD_rv] at h2
  exact h2
theorem roundR_T {S S' : ST} {o v : Int32} (h : roundR (S.wT v) o S') (h0 : 0 < S.d.nA) : o = cI (roH S.d S.D.X) ∧ ((roH S.d S.D.X = 0 ∧ S' = S.wT v) ∨ (0 < roH S.d S.D.X ∧ S' = S.wT (nI (agoN S.d S.D.X)))) := by
  have h2 := roundR_v h h0
  simp only [wT_d, wT_D, wT_kp, wT_rz, wT_rv, wR_d, wR_D, wR_kp, wR_rz, wR_rv, wC_d, wC_D, wC_kp, wC_rz, wC_rv, wD_d, wD_D, wD_kp, wD_rz, wD_rv, wTT] at h2
  exact h2
set_option maxRecDepth 100000 in
theorem h47 {Q : xQ} {S : ST} {l n : Nat} (hA : 0 < S.d.nA) (h62 : ∀ I' L', Lq S I' L' → RW S.d I' → xGo mL_goesOn csL_goesOn 62 Q [some (.ref 1), some (.ref 0), some (.ref 27), some (.long (hsh S)), none, some (.int (nI l)), some (.int (nI n)), some (.int (nI (plN (dyN S.d S.D.X n) l))), some (.int (cI (hoN S.d S.D.X))), some (.int (cI (roH S.d S.D.X))), some (.int (nI (agoN S.d S.D.X))), none, none, none, none, none, none, none, none] [] 0 27 I' L' xP0) : ∀ I L, Lq S I L → RW S.d I → xGo mL_goesOn csL_goesOn 41 Q [some (.ref 1), some (.ref 0), some (.ref 27), some (.long (hsh S)), none, some (.int (nI l)), some (.int (nI n)), some (.int (nI (plN (dyN S.d S.D.X n) l))), some (.int (cI (hoN S.d S.D.X))), none, none, none, none, none, none, none, none, none, none] [] 0 27 I L xP0 := by
  rintro I L ⟨v0, hC0⟩ hW
  refine xrun okL_goesOn hhL_goesOn [(62, [true, true, true, true, false, true, true, true, true, true, true, false, false, false, false, false, false, false, false])] 60 ?_
  refine ⟨rfl, rfl, S.wT v0, rfl, hC0, fun o S3 I3 L3 hr3 hf3 hC3 => ?_⟩
  obtain ⟨e3, h3⟩ := roundR_T hr3 hA
  have e3 := e3.symm
  subst e3
  have hW3 : RW S.d I3 := RW_f hW hf3
  rcases h3 with ⟨hr, e4⟩ | ⟨hr, e4⟩
  · have e4 := e4.symm
    subst e4
    have go := h62 I3 L3 ⟨v0, hC3⟩ hW3
    rw [ago_0 hr, hr, cI_0] at go
    rw [hr, cI_0]
    (first | (refine xbr_f ?_ ?_; (focus ((simp (disch := omega) only [ix_lt, ix_le, ix_eq, ix_0, nI_clamp, nI_toInt, ng_T, nI_add, nI_mul, nI_sub', Int.neg_zero, not_false_eq_true, not_true_eq_false] <;> omega); done))) | (refine xbr_t ?_ ?_; (focus ((simp (disch := omega) only [ix_lt, ix_le, ix_eq, ix_0, nI_clamp, nI_toInt, ng_T, nI_add, nI_mul, nI_sub', Int.neg_zero, not_false_eq_true, not_true_eq_false] <;> omega); done))) | refine ⟨Or.inl rfl, ?_⟩ | refine ⟨Or.inr rfl, ?_⟩ | (refine ⟨?_, ?_⟩; (focus (exact in_nI (by omega) (by omega)))))
    exact go
  · have e4 := e4.symm
    subst e4
    have go := h62 I3 L3 ⟨_, hC3⟩ hW3
    obtain ⟨q, hq⟩ : ∃ q, roH S.d S.D.X = q + 1 := ⟨roH S.d S.D.X - 1, by omega⟩
    have hq6 : q < 61 := (ro_sp hq).1
    rw [hq, cI_s] at go
    rw [hq, cI_s]
    (first | (refine xbr_f ?_ ?_; (focus ((simp (disch := omega) only [ix_lt, ix_le, ix_eq, ix_0, nI_clamp, nI_toInt, ng_T, nI_add, nI_mul, nI_sub', Int.neg_zero, not_false_eq_true, not_true_eq_false] <;> omega); done))) | (refine xbr_t ?_ ?_; (focus ((simp (disch := omega) only [ix_lt, ix_le, ix_eq, ix_0, nI_clamp, nI_toInt, ng_T, nI_add, nI_mul, nI_sub', Int.neg_zero, not_false_eq_true, not_true_eq_false] <;> omega); done))) | refine ⟨Or.inl rfl, ?_⟩ | refine ⟨Or.inr rfl, ?_⟩ | (refine ⟨?_, ?_⟩; (focus (exact in_nI (by omega) (by omega)))))
    refine ⟨rfl, rfl, _, rfl, hC3, ?_⟩
    exact go
set_option maxRecDepth 100000 in
theorem h25 {Q : xQ} {S : ST} {l n : Nat} (hd : S.d.ok) (hA : 0 < S.d.nA) (hl : l < S.d.nL) (hn : n < 21) (h62 : ∀ I' L', Lq S I' L' → RW S.d I' → xGo mL_goesOn csL_goesOn 62 Q [some (.ref 1), some (.ref 0), some (.ref 27), some (.long (hsh S)), none, some (.int (nI l)), some (.int (nI n)), some (.int (nI (plN (dyN S.d S.D.X n) l))), some (.int (cI (hoN S.d S.D.X))), some (.int (cI (roH S.d S.D.X))), some (.int (nI (agoN S.d S.D.X))), none, none, none, none, none, none, none, none] [] 0 27 I' L' xP0) {I : xI} {L : xL} (hC : Lq S I L) (hW : RW S.d I) : xGo mL_goesOn csL_goesOn 25 Q [some (.ref 1), some (.ref 0), some (.ref 27), some (.long (hsh S)), none, some (.int (nI l)), some (.int (nI n)), none, none, none, none, none, none, none, none, none, none, none, none] [] 0 27 I L xP0 := by
  obtain ⟨v0, hC0⟩ := hC
  refine xrun okL_goesOn hhL_goesOn [(41, [true, true, true, true, false, true, true, true, true, false, false, false, false, false, false, false, false, false, false])] 60 ?_
  refine ⟨rfl, rfl, S.wT v0, _, _, rfl, hC0, fun o S1 I1 L1 hr1 hf1 hC1 => ?_⟩
  obtain ⟨e1, e1'⟩ := whereR_T hr1 hd hl (by omega)
  have e1 := e1.symm
  have e1' := e1'.symm
  subst e1
  subst e1'
  refine ⟨rfl, rfl, S.wT v0, rfl, hC1, fun o S2 I2 L2 hr2 hf2 hC2 => ?_⟩
  obtain ⟨e2, e2'⟩ := homeR_T hr2 hA
  have e2 := e2.symm
  have e2' := e2'.symm
  subst e2
  subst e2'
  exact h47 hA h62 I2 L2 ⟨v0, hC2⟩ (RW_f (RW_f hW hf1) hf2)
