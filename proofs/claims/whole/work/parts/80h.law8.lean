/-! THE LAW: which case -/
set_option maxRecDepth 100000 in
theorem law_sw {Q : xQ} {S : ST} {I : xI} {L : xL} {i len : Nat} (h0 : I 0 0 = nI len) (hi : i + 6 ≤ len) (hn : len ≤ 3072) (hC : Cls S I L) (hR : Ref S I L) (go : ∀ (S' : ST) (I' : xI) (L' : xL), I' 0 = I 0 → Cls S' I' L' → Ref S' I' L' → xGo mL_law csL_law 1365 Q [some (.ref 0), some (.ref 1), some (.ref 27), some (.int (nI i))] [] 48 48 I' L' xP0) : xGo mL_law csL_law 27 Q [some (.ref 0), some (.ref 1), some (.ref 27), some (.int (nI i))] [] 48 48 I L xP0 := by
  have hlen : (I 0 0).toNatClampNeg = len := by rw [h0, nI_clamp (by omega)]
  refine xrun okL_law hhL_law [(1365, [true, true, true, true]), (216, [true, true, true, true]), (249, [true, true, true, true]), (292, [true, true, true, true]), (325, [true, true, true, true]), (348, [true, true, true, true]), (411, [true, true, true, true]), (434, [true, true, true, true]), (467, [true, true, true, true]), (510, [true, true, true, true]), (533, [true, true, true, true]), (556, [true, true, true, true]), (589, [true, true, true, true]), (622, [true, true, true, true]), (655, [true, true, true, true]), (668, [true, true, true, true]), (701, [true, true, true, true]), (734, [true, true, true, true]), (757, [true, true, true, true]), (780, [true, true, true, true]), (803, [true, true, true, true]), (836, [true, true, true, true]), (859, [true, true, true, true]), (892, [true, true, true, true]), (905, [true, true, true, true]), (918, [true, true, true, true]), (951, [true, true, true, true]), (974, [true, true, true, true]), (1017, [true, true, true, true]), (1030, [true, true, true, true]), (1063, [true, true, true, true]), (1096, [true, true, true, true]), (1129, [true, true, true, true]), (1162, [true, true, true, true]), (1195, [true, true, true, true]), (1218, [true, true, true, true]), (1251, [true, true, true, true]), (1264, [true, true, true, true]), (1278, [true, true, true, true]), (1292, [true, true, true, true]), (1315, [true, true, true, true]), (1328, [true, true, true, true]), (1351, [true, true, true, true])] 20 ?_
  (first | (refine xbr_f ?_ ?_; (focus ((simp (disch := omega) only [ix_lt, ix_le, ix_eq, ix_0, nI_clamp, nI_toInt, ng_T, nI_add, nI_mul, nI_sub', Int.neg_zero, not_false_eq_true, not_true_eq_false, hlen] <;> omega); done))) | (refine xbr_t ?_ ?_; (focus ((simp (disch := omega) only [ix_lt, ix_le, ix_eq, ix_0, nI_clamp, nI_toInt, ng_T, nI_add, nI_mul, nI_sub', Int.neg_zero, not_false_eq_true, not_true_eq_false, hlen] <;> omega); done))) | refine ⟨Or.inl rfl, ?_⟩ | refine ⟨Or.inr rfl, ?_⟩ | (refine ⟨?_, ?_⟩; (focus ((try simp (disch := omega) only [hlen, nI_mul, nI_add, nI_sub']); exact in_nI (by omega) (by omega)))))
  by_cases e0 : I 0 ((nI i).toNatClampNeg + 1) &&& nI 63 = nI 0
  · refine xbr_t e0 ?_
    exact law_row h0 hi hn hC hR go
  refine xbr_f e0 ?_
  by_cases e1 : I 0 ((nI i).toNatClampNeg + 1) &&& nI 63 = nI 1
  · refine xbr_t e1 ?_
    exact law_lay h0 hi hn hC hR go
  refine xbr_f e1 ?_
  by_cases e2 : I 0 ((nI i).toNatClampNeg + 1) &&& nI 63 = nI 2
  · refine xbr_t e2 ?_
    exact law_at h0 hi hn hC hR go
  refine xbr_f e2 ?_
  by_cases e3 : I 0 ((nI i).toNatClampNeg + 1) &&& nI 63 = nI 3
  · refine xbr_t e3 ?_
    exact law_tear h0 hi hn hC hR go
  refine xbr_f e3 ?_
  by_cases e4 : I 0 ((nI i).toNatClampNeg + 1) &&& nI 63 = nI 4
  · refine xbr_t e4 ?_
    exact law_copy h0 hi hn hC hR go
  refine xbr_f e4 ?_
  by_cases e5 : I 0 ((nI i).toNatClampNeg + 1) &&& nI 63 = nI 5
  · refine xbr_t e5 ?_
    exact law_mean h0 hi hn hC hR go
  refine xbr_f e5 ?_
  by_cases e6 : I 0 ((nI i).toNatClampNeg + 1) &&& nI 63 = nI 6
  · refine xbr_t e6 ?_
    exact law_text h0 hi hn hC hR go
  refine xbr_f e6 ?_
  by_cases e7 : I 0 ((nI i).toNatClampNeg + 1) &&& nI 63 = nI 7
  · refine xbr_t e7 ?_
    exact law_put h0 hi hn hC hR go
  refine xbr_f e7 ?_
  by_cases e8 : I 0 ((nI i).toNatClampNeg + 1) &&& nI 63 = nI 8
  · refine xbr_t e8 ?_
    exact law_fault h0 hi hn hC hR go
  refine xbr_f e8 ?_
  by_cases e9 : I 0 ((nI i).toNatClampNeg + 1) &&& nI 63 = nI 9
  · refine xbr_t e9 ?_
    exact law_plain h0 hi hn hC hR go
  refine xbr_f e9 ?_
  by_cases e10 : I 0 ((nI i).toNatClampNeg + 1) &&& nI 63 = nI 10
  · refine xbr_t e10 ?_
    exact law_ass h0 hi hn hC hR go
  refine xbr_f e10 ?_
  by_cases e11 : I 0 ((nI i).toNatClampNeg + 1) &&& nI 63 = nI 11
  · refine xbr_t e11 ?_
    exact law_load h0 hi hn hC hR go
  refine xbr_f e11 ?_
  by_cases e12 : I 0 ((nI i).toNatClampNeg + 1) &&& nI 63 = nI 12
  · refine xbr_t e12 ?_
    exact law_mark h0 hi hn hC hR go
  refine xbr_f e12 ?_
  by_cases e13 : I 0 ((nI i).toNatClampNeg + 1) &&& nI 63 = nI 13
  · refine xbr_t e13 ?_
    exact law_day h0 hi hn hC hR go
  refine xbr_f e13 ?_
  by_cases e14 : I 0 ((nI i).toNatClampNeg + 1) &&& nI 63 = nI 14
  · refine xbr_t e14 ?_
    exact law_smear h0 hi hn hC hR go
  refine xbr_f e14 ?_
  by_cases e15 : I 0 ((nI i).toNatClampNeg + 1) &&& nI 63 = nI 15
  · refine xbr_t e15 ?_
    exact law_lead h0 hi hn hC hR go
  refine xbr_f e15 ?_
  by_cases e16 : I 0 ((nI i).toNatClampNeg + 1) &&& nI 63 = nI 16
  · refine xbr_t e16 ?_
    exact law_undo h0 hi hn hC hR go
  refine xbr_f e16 ?_
  by_cases e17 : I 0 ((nI i).toNatClampNeg + 1) &&& nI 63 = nI 17
  · refine xbr_t e17 ?_
    exact law_keep h0 hi hn hC hR go
  refine xbr_f e17 ?_
  by_cases e18 : I 0 ((nI i).toNatClampNeg + 1) &&& nI 63 = nI 18
  · refine xbr_t e18 ?_
    exact law_on h0 hi hn hC hR go
  refine xbr_f e18 ?_
  by_cases e19 : I 0 ((nI i).toNatClampNeg + 1) &&& nI 63 = nI 19
  · refine xbr_t e19 ?_
    exact law_like h0 hi hn hC hR go
  refine xbr_f e19 ?_
  by_cases e20 : I 0 ((nI i).toNatClampNeg + 1) &&& nI 63 = nI 20
  · refine xbr_t e20 ?_
    exact law_who h0 hi hn hC hR go
  refine xbr_f e20 ?_
  by_cases e21 : I 0 ((nI i).toNatClampNeg + 1) &&& nI 63 = nI 21
  · refine xbr_t e21 ?_
    exact law_where h0 hi hn hC hR go
  refine xbr_f e21 ?_
  by_cases e22 : I 0 ((nI i).toNatClampNeg + 1) &&& nI 63 = nI 22
  · refine xbr_t e22 ?_
    exact law_home h0 hi hn hC hR go
  refine xbr_f e22 ?_
  by_cases e23 : I 0 ((nI i).toNatClampNeg + 1) &&& nI 63 = nI 23
  · refine xbr_t e23 ?_
    exact law_round h0 hi hn hC hR go
  refine xbr_f e23 ?_
  by_cases e24 : I 0 ((nI i).toNatClampNeg + 1) &&& nI 63 = nI 24
  · refine xbr_t e24 ?_
    exact law_marks h0 hi hn hC hR go
  refine xbr_f e24 ?_
  by_cases e25 : I 0 ((nI i).toNatClampNeg + 1) &&& nI 63 = nI 25
  · refine xbr_t e25 ?_
    exact law_match h0 hi hn hC hR go
  refine xbr_f e25 ?_
  by_cases e26 : I 0 ((nI i).toNatClampNeg + 1) &&& nI 63 = nI 26
  · refine xbr_t e26 ?_
    exact law_line h0 hi hn hC hR go
  refine xbr_f e26 ?_
  by_cases e27 : I 0 ((nI i).toNatClampNeg + 1) &&& nI 63 = nI 27
  · refine xbr_t e27 ?_
    exact law_cover h0 hi hn hC hR go
  refine xbr_f e27 ?_
  by_cases e28 : I 0 ((nI i).toNatClampNeg + 1) &&& nI 63 = nI 28
  · refine xbr_t e28 ?_
    exact law_memories h0 hi hn hC hR go
  refine xbr_f e28 ?_
  by_cases e29 : I 0 ((nI i).toNatClampNeg + 1) &&& nI 63 = nI 29
  · refine xbr_t e29 ?_
    exact law_kinds h0 hi hn hC hR go
  refine xbr_f e29 ?_
  by_cases e30 : I 0 ((nI i).toNatClampNeg + 1) &&& nI 63 = nI 30
  · refine xbr_t e30 ?_
    exact law_next h0 hi hn hC hR go
  refine xbr_f e30 ?_
  by_cases e31 : I 0 ((nI i).toNatClampNeg + 1) &&& nI 63 = nI 31
  · refine xbr_t e31 ?_
    exact law_duel h0 hi hn hC hR go
  refine xbr_f e31 ?_
  by_cases e32 : I 0 ((nI i).toNatClampNeg + 1) &&& nI 63 = nI 32
  · refine xbr_t e32 ?_
    exact law_odds h0 hi hn hC hR go
  refine xbr_f e32 ?_
  by_cases e33 : I 0 ((nI i).toNatClampNeg + 1) &&& nI 63 = nI 33
  · refine xbr_t e33 ?_
    exact law_mid h0 hi hn hC hR go
  refine xbr_f e33 ?_
  by_cases e34 : I 0 ((nI i).toNatClampNeg + 1) &&& nI 63 = nI 34
  · refine xbr_t e34 ?_
    exact law_lots h0 hi hn hC hR go
  refine xbr_f e34 ?_
  by_cases e35 : I 0 ((nI i).toNatClampNeg + 1) &&& nI 63 = nI 35
  · refine xbr_t e35 ?_
    exact law_asked h0 hi hn hC hR go
  refine xbr_f e35 ?_
  by_cases e36 : I 0 ((nI i).toNatClampNeg + 1) &&& nI 63 = nI 36
  · refine xbr_t e36 ?_
    exact law_upper h0 hi hn hC hR go
  refine xbr_f e36 ?_
  by_cases e37 : I 0 ((nI i).toNatClampNeg + 1) &&& nI 63 = nI 37
  · refine xbr_t e37 ?_
    exact law_lower h0 hi hn hC hR go
  refine xbr_f e37 ?_
  by_cases e38 : I 0 ((nI i).toNatClampNeg + 1) &&& nI 63 = nI 38
  · refine xbr_t e38 ?_
    exact law_count h0 hi hn hC hR go
  refine xbr_f e38 ?_
  by_cases e39 : I 0 ((nI i).toNatClampNeg + 1) &&& nI 63 = nI 39
  · refine xbr_t e39 ?_
    exact law_finding h0 hi hn hC hR go
  refine xbr_f e39 ?_
  by_cases e40 : I 0 ((nI i).toNatClampNeg + 1) &&& nI 63 = nI 40
  · refine xbr_t e40 ?_
    exact law_findings h0 hi hn hC hR go
  refine xbr_f e40 ?_
  by_cases e41 : I 0 ((nI i).toNatClampNeg + 1) &&& nI 63 = nI 41
  · refine xbr_t e41 ?_
    exact law_digest h0 hi hn hC hR go
  refine xbr_f e41 ?_
  exact go S _ _ rfl hC hR
