/-! GOES ON, from where() on -/
theorem wTT (S : ST) (v w : Int32) : (S.wT v).wT w = S.wT w := rfl
theorem whereR_T {S S' : ST} {a m : Nat} {o v : Int32} (h : whereR (S.wT v) (nI a) (nI m) o S') (hd : S.d.ok) (ha : a < S.d.nL) (hm : m < 61) : o = nI (plN (dyN S.d S.D.X m) a) ∧ S' = S.wT v := by
  have h2 := whereR_v h hd ha hm
  simp only [wT_d, wT_D, wT_kp, wT_rz, wT_rv, wR_d, wR_D, wR_kp, wR_rz, wR_rv, wC_d, wC_D, wC_kp, wC_rz, wC_rv, wD_d, wD_D, wD_kp, wD_rz, wD_rv] at h2
  exact h2
theorem roundR_T {S S' : ST} {o v : Int32} (h : roundR (S.wT v) o S') (h0 : 0 < S.d.nA) : o = cI (roH S.d S.D.X) ∧ ((roH S.d S.D.X = 0 ∧ S' = S.wT v) ∨ (0 < roH S.d S.D.X ∧ S' = S.wT (nI (agoN S.d S.D.X)))) := by
  have h2 := roundR_v h h0
  simp only [wT_d, wT_D, wT_kp, wT_rz, wT_rv, wR_d, wR_D, wR_kp, wR_rz, wR_rv, wC_d, wC_D, wC_kp, wC_rz, wC_rv, wD_d, wD_D, wD_kp, wD_rz, wD_rv, wTT] at h2
  exact h2
set_option maxRecDepth 100000 in
theorem h41 {Q : xQ} {S : ST} {l n : Nat} (hA : 0 < S.d.nA) (h62 : ∀ I' L', Lq S I' L' → RW S.d I' → xGo mL_goesOn csL_goesOn 62 Q [some (.ref 1), some (.ref 0), some (.ref 27), some (.long (hsh S)), none, some (.int (nI l)), some (.int (nI n)), some (.int (nI (plN (dyN S.d S.D.X n) l))), some (.int (cI (hoN S.d S.D.X))), some (.int (cI (roH S.d S.D.X))), some (.int (nI (agoN S.d S.D.X))), none, none, none, none, none, none, none, none] [] 0 27 I' L' xP0) : ∀ I L, Lq S I L → RW S.d I → xGo mL_goesOn csL_goesOn 41 Q [some (.ref 1), some (.ref 0), some (.ref 27), some (.long (hsh S)), none, some (.int (nI l)), some (.int (nI n)), some (.int (nI (plN (dyN S.d S.D.X n) l))), some (.int (cI (hoN S.d S.D.X))), none, none, none, none, none, none, none, none, none, none] [] 0 27 I L xP0 := by
  rintro I L ⟨v0, hC0⟩ hW
  refine xrun okL_goesOn hhL_goesOn [(62, [true, true, true, true, false, true, true, true, true, true, true, false, false, false, false, false, false, false, false])] 60 ?_
  refine ⟨rfl, rfl, S.wT v0, rfl, hC0, fun o S3 I3 L3 hr3 hf3 hC3 => ?_⟩
  obtain ⟨e3, h3⟩ := roundR_T hr3 hA
  subst e3
  sorry
set_option maxRecDepth 100000 in
theorem h41b {Q : xQ} {S : ST} {l n : Nat} (hA : 0 < S.d.nA) (h62 : ∀ I' L', Lq S I' L' → RW S.d I' → xGo mL_goesOn csL_goesOn 62 Q [some (.ref 1), some (.ref 0), some (.ref 27), some (.long (hsh S)), none, some (.int (nI l)), some (.int (nI n)), some (.int (nI (plN (dyN S.d S.D.X n) l))), some (.int (cI (hoN S.d S.D.X))), some (.int (cI (roH S.d S.D.X))), some (.int (nI (agoN S.d S.D.X))), none, none, none, none, none, none, none, none] [] 0 27 I' L' xP0) : ∀ I L, Lq S I L → RW S.d I → xGo mL_goesOn csL_goesOn 41 Q [some (.ref 1), some (.ref 0), some (.ref 27), some (.long (hsh S)), none, some (.int (nI l)), some (.int (nI n)), some (.int (nI (plN (dyN S.d S.D.X n) l))), some (.int (cI (hoN S.d S.D.X))), none, none, none, none, none, none, none, none, none, none] [] 0 27 I L xP0 := by
  rintro I L ⟨v0, hC0⟩ hW
  refine xrun okL_goesOn hhL_goesOn [(62, [true, true, true, true, false, true, true, true, true, true, true, false, false, false, false, false, false, false, false])] 60 ?_
  refine ⟨rfl, rfl, S.wT v0, rfl, hC0, fun o S3 I3 L3 hr3 hf3 hC3 => ?_⟩
  obtain ⟨e3, h3⟩ := roundR_T hr3 hA
  subst e3
  have hW3 : RW S.d I3 := RW_f hW hf3
  rcases h3 with ⟨hr, e4⟩ | ⟨hr, e4⟩
  · subst e4
    have go := h62 I3 L3 ⟨v0, hC3⟩ hW3
    rw [ago_0 hr, hr, cI_0] at go
    rw [hr, cI_0]
    sorry
  · sorry
set_option maxRecDepth 100000 in
theorem h41c {Q : xQ} {S : ST} {l n : Nat} (hA : 0 < S.d.nA) (h62 : ∀ I' L', Lq S I' L' → RW S.d I' → xGo mL_goesOn csL_goesOn 62 Q [some (.ref 1), some (.ref 0), some (.ref 27), some (.long (hsh S)), none, some (.int (nI l)), some (.int (nI n)), some (.int (nI (plN (dyN S.d S.D.X n) l))), some (.int (cI (hoN S.d S.D.X))), some (.int (cI (roH S.d S.D.X))), some (.int (nI (agoN S.d S.D.X))), none, none, none, none, none, none, none, none] [] 0 27 I' L' xP0) : ∀ I L, Lq S I L → RW S.d I → xGo mL_goesOn csL_goesOn 41 Q [some (.ref 1), some (.ref 0), some (.ref 27), some (.long (hsh S)), none, some (.int (nI l)), some (.int (nI n)), some (.int (nI (plN (dyN S.d S.D.X n) l))), some (.int (cI (hoN S.d S.D.X))), none, none, none, none, none, none, none, none, none, none] [] 0 27 I L xP0 := by
  rintro I L ⟨v0, hC0⟩ hW
  refine xrun okL_goesOn hhL_goesOn [(62, [true, true, true, true, false, true, true, true, true, true, true, false, false, false, false, false, false, false, false])] 60 ?_
  refine ⟨rfl, rfl, S.wT v0, rfl, hC0, fun o S3 I3 L3 hr3 hf3 hC3 => ?_⟩
  obtain ⟨e3, h3⟩ := roundR_T hr3 hA
  subst e3
  have hW3 : RW S.d I3 := RW_f hW hf3
  rcases h3 with ⟨hr, e4⟩ | ⟨hr, e4⟩
  · subst e4
    have go := h62 I3 L3 ⟨v0, hC3⟩ hW3
    rw [ago_0 hr, hr, cI_0] at go
    rw [hr, cI_0]
    refine xbr_f (by decide) ?_
    exact go
  · subst e4
    have go := h62 I3 L3 ⟨_, hC3⟩ hW3
    obtain ⟨q, hq⟩ : ∃ q, roH S.d S.D.X = q + 1 := ⟨roH S.d S.D.X - 1, by omega⟩
    rw [hq, cI_s] at go
    rw [hq, cI_s]
    sorry
