/-! THE LAW: cases, 7 -/
set_option maxRecDepth 100000 in
theorem law_upper {Q : xQ} {S : ST} {I : xI} {L : xL} {i len : Nat} (h0 : I 0 0 = nI len) (hi : i + 6 ≤ len) (hn : len ≤ 3072) (hC : Cls S I L) (hR : Ref S I L) (go : ∀ (S' : ST) (I' : xI) (L' : xL), I' 0 = I 0 → Cls S' I' L' → Ref S' I' L' → xGo mL_law csL_law 1365 Q [some (.ref 0), some (.ref 1), some (.ref 27), some (.int (nI i))] [] 48 48 I' L' xP0) : xGo mL_law csL_law 1264 Q [some (.ref 0), some (.ref 1), some (.ref 27), some (.int (nI i))] [] 48 48 I L xP0 := by
  have hlen : (I 0 0).toNatClampNeg = len := by rw [h0, nI_clamp (by omega)]
  refine xrun okL_law hhL_law [(1365, [true, true, true, true])] 70 ?_
  refine ⟨rfl, rfl, S, rfl, hC, ?_⟩
  refine ⟨rfl, rfl, S, rfl, hR, ?_⟩
  refine xbr_t (lcmp_0 _) ?_
  exact go S _ _ rfl hC hR
set_option maxRecDepth 100000 in
theorem law_lower {Q : xQ} {S : ST} {I : xI} {L : xL} {i len : Nat} (h0 : I 0 0 = nI len) (hi : i + 6 ≤ len) (hn : len ≤ 3072) (hC : Cls S I L) (hR : Ref S I L) (go : ∀ (S' : ST) (I' : xI) (L' : xL), I' 0 = I 0 → Cls S' I' L' → Ref S' I' L' → xGo mL_law csL_law 1365 Q [some (.ref 0), some (.ref 1), some (.ref 27), some (.int (nI i))] [] 48 48 I' L' xP0) : xGo mL_law csL_law 1278 Q [some (.ref 0), some (.ref 1), some (.ref 27), some (.int (nI i))] [] 48 48 I L xP0 := by
  have hlen : (I 0 0).toNatClampNeg = len := by rw [h0, nI_clamp (by omega)]
  refine xrun okL_law hhL_law [(1365, [true, true, true, true])] 70 ?_
  refine ⟨rfl, rfl, S, rfl, hC, ?_⟩
  refine ⟨rfl, rfl, S, rfl, hR, ?_⟩
  refine xbr_t (lcmp_0 _) ?_
  exact go S _ _ rfl hC hR
set_option maxRecDepth 100000 in
theorem law_count {Q : xQ} {S : ST} {I : xI} {L : xL} {i len : Nat} (h0 : I 0 0 = nI len) (hi : i + 6 ≤ len) (hn : len ≤ 3072) (hC : Cls S I L) (hR : Ref S I L) (go : ∀ (S' : ST) (I' : xI) (L' : xL), I' 0 = I 0 → Cls S' I' L' → Ref S' I' L' → xGo mL_law csL_law 1365 Q [some (.ref 0), some (.ref 1), some (.ref 27), some (.int (nI i))] [] 48 48 I' L' xP0) : xGo mL_law csL_law 1292 Q [some (.ref 0), some (.ref 1), some (.ref 27), some (.int (nI i))] [] 48 48 I L xP0 := by
  have hlen : (I 0 0).toNatClampNeg = len := by rw [h0, nI_clamp (by omega)]
  refine xrun okL_law hhL_law [(1365, [true, true, true, true])] 70 ?_
  (first | (refine xbr_f ?_ ?_; (focus ((simp (disch := omega) only [ix_lt, ix_le, ix_eq, ix_0, nI_clamp, nI_toInt, ng_T, nI_add, nI_mul, nI_sub', Int.neg_zero, not_false_eq_true, not_true_eq_false, hlen] <;> omega); done))) | (refine xbr_t ?_ ?_; (focus ((simp (disch := omega) only [ix_lt, ix_le, ix_eq, ix_0, nI_clamp, nI_toInt, ng_T, nI_add, nI_mul, nI_sub', Int.neg_zero, not_false_eq_true, not_true_eq_false, hlen] <;> omega); done))) | refine ⟨Or.inl rfl, ?_⟩ | refine ⟨Or.inr rfl, ?_⟩ | (refine ⟨?_, ?_⟩; (focus ((try simp (disch := omega) only [hlen, nI_mul, nI_add, nI_sub']); exact in_nI (by omega) (by omega)))))
  refine ⟨rfl, rfl, S, _, rfl, hC, fun hb => ?_, fun k hk hk2 => ?_⟩
  · (first | (refine xbr_f ?_ ?_; (focus ((simp (disch := omega) only [ix_lt, ix_le, ix_eq, ix_0, nI_clamp, nI_toInt, ng_T, nI_add, nI_mul, nI_sub', Int.neg_zero, not_false_eq_true, not_true_eq_false, hlen] <;> omega); done))) | (refine xbr_t ?_ ?_; (focus ((simp (disch := omega) only [ix_lt, ix_le, ix_eq, ix_0, nI_clamp, nI_toInt, ng_T, nI_add, nI_mul, nI_sub', Int.neg_zero, not_false_eq_true, not_true_eq_false, hlen] <;> omega); done))) | refine ⟨Or.inl rfl, ?_⟩ | refine ⟨Or.inr rfl, ?_⟩ | (refine ⟨?_, ?_⟩; (focus ((try simp (disch := omega) only [hlen, nI_mul, nI_add, nI_sub']); exact in_nI (by omega) (by omega)))))
    refine ⟨rfl, rfl, S, _, rfl, hR, fun _ => ?_, fun k hk hk2 => ?_⟩
    · refine xbr_t rfl ?_
      exact go S _ _ rfl hC hR
    · rw [hk, ib_tt hk2 (by decide)] at hb
      cases hb
  · (first | (refine xbr_f ?_ ?_; (focus ((simp (disch := omega) only [ix_lt, ix_le, ix_eq, ix_0, nI_clamp, nI_toInt, ng_T, nI_add, nI_mul, nI_sub', Int.neg_zero, not_false_eq_true, not_true_eq_false, hlen] <;> omega); done))) | (refine xbr_t ?_ ?_; (focus ((simp (disch := omega) only [ix_lt, ix_le, ix_eq, ix_0, nI_clamp, nI_toInt, ng_T, nI_add, nI_mul, nI_sub', Int.neg_zero, not_false_eq_true, not_true_eq_false, hlen] <;> omega); done))) | refine ⟨Or.inl rfl, ?_⟩ | refine ⟨Or.inr rfl, ?_⟩ | (refine ⟨?_, ?_⟩; (focus ((try simp (disch := omega) only [hlen, nI_mul, nI_add, nI_sub']); exact in_nI (by omega) (by omega)))))
    refine ⟨rfl, rfl, S, _, rfl, hR, fun hb => ?_, fun k2 hk3 hk4 => ?_⟩
    · rw [hk, ib_tt hk2 (by decide)] at hb
      cases hb
    · rw [hk, ix_eq, nI_toInt (by omega), nI_toInt (by omega)] at hk3
      obtain rfl : k = k2 := by omega
      refine xbr_t rfl ?_
      exact go S _ _ rfl hC hR
set_option maxRecDepth 100000 in
theorem law_finding {Q : xQ} {S : ST} {I : xI} {L : xL} {i len : Nat} (h0 : I 0 0 = nI len) (hi : i + 6 ≤ len) (hn : len ≤ 3072) (hC : Cls S I L) (hR : Ref S I L) (go : ∀ (S' : ST) (I' : xI) (L' : xL), I' 0 = I 0 → Cls S' I' L' → Ref S' I' L' → xGo mL_law csL_law 1365 Q [some (.ref 0), some (.ref 1), some (.ref 27), some (.int (nI i))] [] 48 48 I' L' xP0) : xGo mL_law csL_law 1315 Q [some (.ref 0), some (.ref 1), some (.ref 27), some (.int (nI i))] [] 48 48 I L xP0 := by
  have hlen : (I 0 0).toNatClampNeg = len := by rw [h0, nI_clamp (by omega)]
  refine xrun okL_law hhL_law [(1365, [true, true, true, true])] 70 ?_
  refine ⟨rfl, rfl, S, rfl, hC, ?_⟩
  refine ⟨rfl, rfl, S, rfl, hR, ?_⟩
  refine xbr_t rfl ?_
  exact go S _ _ rfl hC hR
set_option maxRecDepth 100000 in
theorem law_findings {Q : xQ} {S : ST} {I : xI} {L : xL} {i len : Nat} (h0 : I 0 0 = nI len) (hi : i + 6 ≤ len) (hn : len ≤ 3072) (hC : Cls S I L) (hR : Ref S I L) (go : ∀ (S' : ST) (I' : xI) (L' : xL), I' 0 = I 0 → Cls S' I' L' → Ref S' I' L' → xGo mL_law csL_law 1365 Q [some (.ref 0), some (.ref 1), some (.ref 27), some (.int (nI i))] [] 48 48 I' L' xP0) : xGo mL_law csL_law 1328 Q [some (.ref 0), some (.ref 1), some (.ref 27), some (.int (nI i))] [] 48 48 I L xP0 := by
  have hlen : (I 0 0).toNatClampNeg = len := by rw [h0, nI_clamp (by omega)]
  refine xrun okL_law hhL_law [(1365, [true, true, true, true])] 70 ?_
  (first | (refine xbr_f ?_ ?_; (focus ((simp (disch := omega) only [ix_lt, ix_le, ix_eq, ix_0, nI_clamp, nI_toInt, ng_T, nI_add, nI_mul, nI_sub', Int.neg_zero, not_false_eq_true, not_true_eq_false, hlen] <;> omega); done))) | (refine xbr_t ?_ ?_; (focus ((simp (disch := omega) only [ix_lt, ix_le, ix_eq, ix_0, nI_clamp, nI_toInt, ng_T, nI_add, nI_mul, nI_sub', Int.neg_zero, not_false_eq_true, not_true_eq_false, hlen] <;> omega); done))) | refine ⟨Or.inl rfl, ?_⟩ | refine ⟨Or.inr rfl, ?_⟩ | (refine ⟨?_, ?_⟩; (focus ((try simp (disch := omega) only [hlen, nI_mul, nI_add, nI_sub']); exact in_nI (by omega) (by omega)))))
  refine ⟨rfl, rfl, S, _, rfl, hC, fun o hr => ?_⟩
  (first | (refine xbr_f ?_ ?_; (focus ((simp (disch := omega) only [ix_lt, ix_le, ix_eq, ix_0, nI_clamp, nI_toInt, ng_T, nI_add, nI_mul, nI_sub', Int.neg_zero, not_false_eq_true, not_true_eq_false, hlen] <;> omega); done))) | (refine xbr_t ?_ ?_; (focus ((simp (disch := omega) only [ix_lt, ix_le, ix_eq, ix_0, nI_clamp, nI_toInt, ng_T, nI_add, nI_mul, nI_sub', Int.neg_zero, not_false_eq_true, not_true_eq_false, hlen] <;> omega); done))) | refine ⟨Or.inl rfl, ?_⟩ | refine ⟨Or.inr rfl, ?_⟩ | (refine ⟨?_, ?_⟩; (focus ((try simp (disch := omega) only [hlen, nI_mul, nI_add, nI_sub']); exact in_nI (by omega) (by omega)))))
  refine ⟨rfl, rfl, S, _, o, rfl, hr, hR, ?_⟩
  refine xbr_t rfl ?_
  exact go S _ _ rfl hC hR
set_option maxRecDepth 100000 in
theorem law_digest {Q : xQ} {S : ST} {I : xI} {L : xL} {i len : Nat} (h0 : I 0 0 = nI len) (hi : i + 6 ≤ len) (hn : len ≤ 3072) (hC : Cls S I L) (hR : Ref S I L) (go : ∀ (S' : ST) (I' : xI) (L' : xL), I' 0 = I 0 → Cls S' I' L' → Ref S' I' L' → xGo mL_law csL_law 1365 Q [some (.ref 0), some (.ref 1), some (.ref 27), some (.int (nI i))] [] 48 48 I' L' xP0) : xGo mL_law csL_law 1351 Q [some (.ref 0), some (.ref 1), some (.ref 27), some (.int (nI i))] [] 48 48 I L xP0 := by
  have hlen : (I 0 0).toNatClampNeg = len := by rw [h0, nI_clamp (by omega)]
  refine xrun okL_law hhL_law [(1365, [true, true, true, true])] 70 ?_
  refine ⟨rfl, rfl, S, rfl, hC, ?_⟩
  refine ⟨rfl, rfl, S, rfl, hR, fun I2 hs hR2 => ?_⟩
  refine xbr_t (lcmp_0 _) ?_
  exact go S _ _ ((scr_fr hs) 0 (by decide)).1 (Cls_fr hC (scr_fr hs)) hR2
