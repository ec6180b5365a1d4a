/-! asses, loads -/
def csX11_ofLoad : xCs := [(mX11_isHome, sX11_isHome), (mX11_takerOf, sX11_takerOf)]
theorem okX11_ofLoad : xOkM mX11_ofLoad csX11_ofLoad := ⟨dX11_ofLoad, by decide +kernel, by decide +kernel, ⟨wdX11_37, wdX11_37, wdX11_34, wdX11_139, wdX11_202, trivial⟩⟩
theorem hhX11_ofLoad : ∀ q ∈ csX11_ofLoad, xHd q.1 := xall1 hX11_isHome (xall1 hX11_takerOf (xall0))
theorem kkX11_ofLoad : ∀ q ∈ csX11_ofLoad, ∀ l, xCon l q.1 q.2 := xall1 kX11_isHome (xall1 kX11_takerOf (xall0))
def sX11_ofLoad : xSpec := xReg fun as I L Q => ∃ (S : ST) (a k : Nat), as = [.ref 27, .int (nI a), .int (nI k)] ∧ a < S.d.nL ∧ k < 5 ∧ Ref S I L ∧ (∀ I', scr I L I' L → Ref S I' L → Q (some (.int (olI S.d S.D.X a k))) I' L)
set_option maxRecDepth 100000 in
theorem kX11_ofLoad : ∀ l, xCon l mX11_ofLoad sX11_ofLoad := by
  refine xcon_of okX11_ofLoad hX11_ofLoad rfl (by decide) hhX11_ofLoad kkX11_ofLoad ?_
  rintro as n0 I L P Q ⟨rfl, rfl, S, a, k, rfl, ha, hk, hC, hQ⟩
  refine ⟨Nat.le_of_ble_eq_true rfl, ?_⟩
  have h5 := hC.pd.ok.l5
  refine xrun okX11_ofLoad hhX11_ofLoad [] 60 ?_
  have q0 := hQ I (scr_0 _ _) hC
  rcases (by omega : k = 0 ∨ k = 1 ∨ k = 2 ∨ k = 3 ∨ k = 4) with rfl | rfl | rfl | rfl | rfl
  · repeat (first | (refine xbr_f ?_ ?_; (focus ((simp (disch := omega) only [ix_lt, ix_le, ix_eq, ix_0, nI_clamp, nI_toInt, ng_T, nI_add, nI_mul, nI_sub', Int.neg_zero, not_false_eq_true, not_true_eq_false, nI_add] <;> omega); done))) | (refine xbr_t ?_ ?_; (focus ((simp (disch := omega) only [ix_lt, ix_le, ix_eq, ix_0, nI_clamp, nI_toInt, ng_T, nI_add, nI_mul, nI_sub', Int.neg_zero, not_false_eq_true, not_true_eq_false, nI_add] <;> omega); done))) | refine ⟨Or.inl rfl, ?_⟩ | refine ⟨Or.inr rfl, ?_⟩ | (refine ⟨?_, ?_⟩; (focus ((try simp (disch := omega) only [nI_add, nI_mul, nI_add, nI_sub']); exact in_nI (by omega) (by omega)))))
    have e : olI S.d S.D.X a 0 = I 37 (nI 9 + nI a).toNatClampNeg := by rw [nI_add, nI_clamp (by omega), hC.nw.k ha]; rfl
    rw [e] at q0
    exact q0
  · repeat (first | (refine xbr_f ?_ ?_; (focus ((simp (disch := omega) only [ix_lt, ix_le, ix_eq, ix_0, nI_clamp, nI_toInt, ng_T, nI_add, nI_mul, nI_sub', Int.neg_zero, not_false_eq_true, not_true_eq_false, nI_add] <;> omega); done))) | (refine xbr_t ?_ ?_; (focus ((simp (disch := omega) only [ix_lt, ix_le, ix_eq, ix_0, nI_clamp, nI_toInt, ng_T, nI_add, nI_mul, nI_sub', Int.neg_zero, not_false_eq_true, not_true_eq_false, nI_add] <;> omega); done))) | refine ⟨Or.inl rfl, ?_⟩ | refine ⟨Or.inr rfl, ?_⟩ | (refine ⟨?_, ?_⟩; (focus ((try simp (disch := omega) only [nI_add, nI_mul, nI_add, nI_sub']); exact in_nI (by omega) (by omega)))))
    have e : olI S.d S.D.X a 1 = I 37 (nI 14 + nI a).toNatClampNeg := by rw [nI_add, nI_clamp (by omega), hC.nw.p ha]; rfl
    rw [e] at q0
    exact q0
  · repeat (first | (refine xbr_f ?_ ?_; (focus ((simp (disch := omega) only [ix_lt, ix_le, ix_eq, ix_0, nI_clamp, nI_toInt, ng_T, nI_add, nI_mul, nI_sub', Int.neg_zero, not_false_eq_true, not_true_eq_false, nI_add] <;> omega); done))) | (refine xbr_t ?_ ?_; (focus ((simp (disch := omega) only [ix_lt, ix_le, ix_eq, ix_0, nI_clamp, nI_toInt, ng_T, nI_add, nI_mul, nI_sub', Int.neg_zero, not_false_eq_true, not_true_eq_false, nI_add] <;> omega); done))) | refine ⟨Or.inl rfl, ?_⟩ | refine ⟨Or.inr rfl, ?_⟩ | (refine ⟨?_, ?_⟩; (focus ((try simp (disch := omega) only [nI_add, nI_mul, nI_add, nI_sub']); exact in_nI (by omega) (by omega)))))
    have e : olI S.d S.D.X a 2 = I 36 (nI a).toNatClampNeg := by rw [nI_clamp (by omega), hC.pd.h a ha]; rfl
    rw [e] at q0
    exact q0
  · repeat (first | (refine xbr_f ?_ ?_; (focus ((simp (disch := omega) only [ix_lt, ix_le, ix_eq, ix_0, nI_clamp, nI_toInt, ng_T, nI_add, nI_mul, nI_sub', Int.neg_zero, not_false_eq_true, not_true_eq_false, nI_add] <;> omega); done))) | (refine xbr_t ?_ ?_; (focus ((simp (disch := omega) only [ix_lt, ix_le, ix_eq, ix_0, nI_clamp, nI_toInt, ng_T, nI_add, nI_mul, nI_sub', Int.neg_zero, not_false_eq_true, not_true_eq_false, nI_add] <;> omega); done))) | refine ⟨Or.inl rfl, ?_⟩ | refine ⟨Or.inr rfl, ?_⟩ | (refine ⟨?_, ?_⟩; (focus ((try simp (disch := omega) only [nI_add, nI_mul, nI_add, nI_sub']); exact in_nI (by omega) (by omega)))))
    refine ⟨rfl, rfl, S.d, S.D.X, _, a, rfl, hC.pd, hC.nw, ha, ?_⟩
    have e : olI S.d S.D.X a 3 = bI (hmB S.d S.D.X a) := rfl
    rw [e] at q0
    cases hb : hmB S.d S.D.X a
    · rw [hb] at q0
      (first | refine xbr_t (by decide) ?_ | refine xbr_f (by decide) ?_)
      exact q0
    · rw [hb] at q0
      (first | refine xbr_t (by decide) ?_ | refine xbr_f (by decide) ?_)
      exact q0
  · repeat (first | (refine xbr_f ?_ ?_; (focus ((simp (disch := omega) only [ix_lt, ix_le, ix_eq, ix_0, nI_clamp, nI_toInt, ng_T, nI_add, nI_mul, nI_sub', Int.neg_zero, not_false_eq_true, not_true_eq_false, nI_add] <;> omega); done))) | (refine xbr_t ?_ ?_; (focus ((simp (disch := omega) only [ix_lt, ix_le, ix_eq, ix_0, nI_clamp, nI_toInt, ng_T, nI_add, nI_mul, nI_sub', Int.neg_zero, not_false_eq_true, not_true_eq_false, nI_add] <;> omega); done))) | refine ⟨Or.inl rfl, ?_⟩ | refine ⟨Or.inr rfl, ?_⟩ | (refine ⟨?_, ?_⟩; (focus ((try simp (disch := omega) only [nI_add, nI_mul, nI_add, nI_sub']); exact in_nI (by omega) (by omega)))))
    refine ⟨rfl, rfl, S.d, S.D.X, _, a, rfl, hC.pd, hC.nw, by omega, fun f => ?_⟩
    exact hQ _ (scr_W (k := 38) (by omega) I L f) (Ref_s hC (scr_W (k := 38) (by omega) I L f))
def csX11_ass : xCs := [(mX11_isAss, sX11_isAss), (mX11_in, sX11_in), (mX11_ofAss, sX11_ofAss), (mX11_tells, sX11_tells)]
theorem okX11_ass : xOkM mX11_ass csX11_ass := ⟨dX11_ass, by decide +kernel, by decide +kernel, ⟨wdX11_205, wdX11_94, wdX11_90, wdX11_208, wdX11_112, trivial⟩⟩
theorem hhX11_ass : ∀ q ∈ csX11_ass, xHd q.1 := xall1 hX11_isAss (xall1 hX11_in (xall1 hX11_ofAss (xall1 hX11_tells (xall0))))
theorem kkX11_ass : ∀ q ∈ csX11_ass, ∀ l, xCon l q.1 q.2 := xall1 kX11_isAss (xall1 kX11_in (xall1 kX11_ofAss (xall1 kX11_tells (xall0))))
def sX11_ass : xSpec := xReg fun as I L Q => ∃ (S : ST) (i w o : Int32) (S' : ST), as = [.ref 27, .int i, .int w] ∧ assR S i w o S' ∧ Ref S I L ∧ (∀ I' L', frM I L I' L' → Ref S' I' L' → Q (some (.int o)) I' L')
set_option maxRecDepth 100000 in
theorem kX11_ass : ∀ l, xCon l mX11_ass sX11_ass := by
  refine xcon_of okX11_ass hX11_ass rfl (by decide) hhX11_ass kkX11_ass ?_
  rintro as n0 I L P Q ⟨rfl, rfl, S, i, w, o, S', rfl, hR, hC, hQ⟩
  refine ⟨Nat.le_of_ble_eq_true rfl, ?_⟩
  have h4 := hC.pd.ok.a4
  refine xrun okX11_ass hhX11_ass [] 60 ?_
  refine ⟨rfl, rfl, S.d, i, rfl, hC.pd, ?_⟩
  rcases hR with ⟨h, rfl, rfl⟩ | ⟨a, k, rfl, ha, rfl, hk, rfl, rfl⟩
  · obtain ⟨S, rfl⟩ : ∃ S, S = S' := ⟨S', rfl⟩
    have done := hQ _ _ (frM_0 _ _) hC
    cases hb : ibB i S.d.nA
    · (first | refine xbr_t (by decide) ?_ | refine xbr_f (by decide) ?_)
      exact done
    · (first | refine xbr_t (by decide) ?_ | refine xbr_f (by decide) ?_)
      refine ⟨rfl, rfl, _, _, _, w, nI 0, nI 3, rfl, rfl, by decide, by decide, ?_⟩
      rw [in_c (by decide)]
      cases hw : ibB w 4
      · (first | refine xbr_t (by decide) ?_ | refine xbr_f (by decide) ?_)
        exact done
      · exact absurd ⟨hb, hw⟩ h
  · rw [ib_tt ha (by omega)]
    (first | refine xbr_t (by decide) ?_ | refine xbr_f (by decide) ?_)
    refine ⟨rfl, rfl, _, _, _, nI k, nI 0, nI 3, rfl, rfl, by decide, by decide, ?_⟩
    rw [in_c (by decide), ib_tt hk (by decide)]
    (first | refine xbr_t (by decide) ?_ | refine xbr_f (by decide) ?_)
    refine ⟨rfl, rfl, S, a, k, rfl, ha, hk, hC, fun I1 hs1 hC1 => ?_⟩
    exact ⟨rfl, rfl, S, _, rfl, hC1, fun I' hf hC' => hQ _ _ (frM_t (scr_fr hs1) hf) hC'⟩
def csX11_load : xCs := [(mX11_isLoad, sX11_isLoad), (mX11_in, sX11_in), (mX11_ofLoad, sX11_ofLoad), (mX11_tells, sX11_tells)]
theorem okX11_load : xOkM mX11_load csX11_load := ⟨dX11_load, by decide +kernel, by decide +kernel, ⟨wdX11_211, wdX11_214, wdX11_90, wdX11_216, wdX11_112, trivial⟩⟩
theorem hhX11_load : ∀ q ∈ csX11_load, xHd q.1 := xall1 hX11_isLoad (xall1 hX11_in (xall1 hX11_ofLoad (xall1 hX11_tells (xall0))))
theorem kkX11_load : ∀ q ∈ csX11_load, ∀ l, xCon l q.1 q.2 := xall1 kX11_isLoad (xall1 kX11_in (xall1 kX11_ofLoad (xall1 kX11_tells (xall0))))
def sX11_load : xSpec := xReg fun as I L Q => ∃ (S : ST) (i w o : Int32) (S' : ST), as = [.ref 27, .int i, .int w] ∧ loadR S i w o S' ∧ Ref S I L ∧ (∀ I' L', frM I L I' L' → Ref S' I' L' → Q (some (.int o)) I' L')
set_option maxRecDepth 100000 in
theorem kX11_load : ∀ l, xCon l mX11_load sX11_load := by
  refine xcon_of okX11_load hX11_load rfl (by decide) hhX11_load kkX11_load ?_
  rintro as n0 I L P Q ⟨rfl, rfl, S, i, w, o, S', rfl, hR, hC, hQ⟩
  refine ⟨Nat.le_of_ble_eq_true rfl, ?_⟩
  have h5 := hC.pd.ok.l5
  refine xrun okX11_load hhX11_load [] 60 ?_
  refine ⟨rfl, rfl, S.d, i, rfl, hC.pd, ?_⟩
  rcases hR with ⟨h, rfl, rfl⟩ | ⟨a, k, rfl, ha, rfl, hk, rfl, rfl⟩
  · obtain ⟨S, rfl⟩ : ∃ S, S = S' := ⟨S', rfl⟩
    have done := hQ _ _ (frM_0 _ _) hC
    cases hb : ibB i S.d.nL
    · (first | refine xbr_t (by decide) ?_ | refine xbr_f (by decide) ?_)
      exact done
    · (first | refine xbr_t (by decide) ?_ | refine xbr_f (by decide) ?_)
      refine ⟨rfl, rfl, _, _, _, w, nI 0, nI 4, rfl, rfl, by decide, by decide, ?_⟩
      rw [in_c (by decide)]
      cases hw : ibB w 5
      · (first | refine xbr_t (by decide) ?_ | refine xbr_f (by decide) ?_)
        exact done
      · exact absurd ⟨hb, hw⟩ h
  · rw [ib_tt ha (by omega)]
    (first | refine xbr_t (by decide) ?_ | refine xbr_f (by decide) ?_)
    refine ⟨rfl, rfl, _, _, _, nI k, nI 0, nI 4, rfl, rfl, by decide, by decide, ?_⟩
    rw [in_c (by decide), ib_tt hk (by decide)]
    (first | refine xbr_t (by decide) ?_ | refine xbr_f (by decide) ?_)
    refine ⟨rfl, rfl, S, a, k, rfl, ha, hk, hC, fun I1 hs1 hC1 => ?_⟩
    exact ⟨rfl, rfl, S, _, rfl, hC1, fun I' hf hC' => hQ _ _ (frM_t (scr_fr hs1) hf) hC'⟩
