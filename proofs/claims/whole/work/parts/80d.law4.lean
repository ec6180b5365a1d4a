/-! THE LAW: cases, 4 -/
set_option maxRecDepth 100000 in
theorem law_on {Q : xQ} {S : ST} {I : xI} {L : xL} {i len : Nat} (h0 : I 0 0 = nI len) (hi : i + 6 ≤ len) (hn : len ≤ 3072) (hC : Cls S I L) (hR : Ref S I L) (go : ∀ (S' : ST) (I' : xI) (L' : xL), I' 0 = I 0 → Cls S' I' L' → Ref S' I' L' → xGo mL_law csL_law 1365 Q [some (.ref 0), some (.ref 1), some (.ref 27), some (.int (nI i))] [] 48 48 I' L' xP0) : xGo mL_law csL_law 780 Q [some (.ref 0), some (.ref 1), some (.ref 27), some (.int (nI i))] [] 48 48 I L xP0 := by
  have hlen : (I 0 0).toNatClampNeg = len := by rw [h0, nI_clamp (by omega)]
  refine xrun okL_law hhL_law [(1365, [true, true, true, true])] 70 ?_
  (first | (refine xbr_f ?_ ?_; (focus ((simp (disch := omega) only [ix_lt, ix_le, ix_eq, ix_0, nI_clamp, nI_toInt, ng_T, nI_add, nI_mul, nI_sub', Int.neg_zero, not_false_eq_true, not_true_eq_false, hlen] <;> omega); done))) | (refine xbr_t ?_ ?_; (focus ((simp (disch := omega) only [ix_lt, ix_le, ix_eq, ix_0, nI_clamp, nI_toInt, ng_T, nI_add, nI_mul, nI_sub', Int.neg_zero, not_false_eq_true, not_true_eq_false, hlen] <;> omega); done))) | refine ⟨Or.inl rfl, ?_⟩ | refine ⟨Or.inr rfl, ?_⟩ | (refine ⟨?_, ?_⟩; (focus ((try simp (disch := omega) only [hlen, nI_mul, nI_add, nI_sub']); exact in_nI (by omega) (by omega)))))
  refine ⟨rfl, rfl, S, _, rfl, hC, fun o S' I' L' hr hf hC' => ?_⟩
  have e0 : I' 0 = I 0 := (hf 0 (Or.inl rfl)).1
  have hlen2 : (I' 0 0).toNatClampNeg = len := by rw [e0]; exact hlen
  (first | (refine xbr_f ?_ ?_; (focus ((simp (disch := omega) only [ix_lt, ix_le, ix_eq, ix_0, nI_clamp, nI_toInt, ng_T, nI_add, nI_mul, nI_sub', Int.neg_zero, not_false_eq_true, not_true_eq_false, hlen2] <;> omega); done))) | (refine xbr_t ?_ ?_; (focus ((simp (disch := omega) only [ix_lt, ix_le, ix_eq, ix_0, nI_clamp, nI_toInt, ng_T, nI_add, nI_mul, nI_sub', Int.neg_zero, not_false_eq_true, not_true_eq_false, hlen2] <;> omega); done))) | refine ⟨Or.inl rfl, ?_⟩ | refine ⟨Or.inr rfl, ?_⟩ | (refine ⟨?_, ?_⟩; (focus ((try simp (disch := omega) only [hlen2, nI_mul, nI_add, nI_sub']); exact in_nI (by omega) (by omega)))))
  refine ⟨rfl, rfl, S, _, o, S', rfl, by rw [e0]; exact hr, Ref_fr hR hf, fun I2 L2 hf2 hR2 => ?_⟩
  refine xbr_t rfl ?_
  exact go S' _ _ ((hf2 0 (by decide)).1.trans e0) (Cls_fr hC' hf2) hR2
set_option maxRecDepth 100000 in
theorem law_like {Q : xQ} {S : ST} {I : xI} {L : xL} {i len : Nat} (h0 : I 0 0 = nI len) (hi : i + 6 ≤ len) (hn : len ≤ 3072) (hC : Cls S I L) (hR : Ref S I L) (go : ∀ (S' : ST) (I' : xI) (L' : xL), I' 0 = I 0 → Cls S' I' L' → Ref S' I' L' → xGo mL_law csL_law 1365 Q [some (.ref 0), some (.ref 1), some (.ref 27), some (.int (nI i))] [] 48 48 I' L' xP0) : xGo mL_law csL_law 803 Q [some (.ref 0), some (.ref 1), some (.ref 27), some (.int (nI i))] [] 48 48 I L xP0 := by
  have hlen : (I 0 0).toNatClampNeg = len := by rw [h0, nI_clamp (by omega)]
  refine xrun okL_law hhL_law [(1365, [true, true, true, true])] 70 ?_
  (first | (refine xbr_f ?_ ?_; (focus ((simp (disch := omega) only [ix_lt, ix_le, ix_eq, ix_0, nI_clamp, nI_toInt, ng_T, nI_add, nI_mul, nI_sub', Int.neg_zero, not_false_eq_true, not_true_eq_false, hlen] <;> omega); done))) | (refine xbr_t ?_ ?_; (focus ((simp (disch := omega) only [ix_lt, ix_le, ix_eq, ix_0, nI_clamp, nI_toInt, ng_T, nI_add, nI_mul, nI_sub', Int.neg_zero, not_false_eq_true, not_true_eq_false, hlen] <;> omega); done))) | refine ⟨Or.inl rfl, ?_⟩ | refine ⟨Or.inr rfl, ?_⟩ | (refine ⟨?_, ?_⟩; (focus ((try simp (disch := omega) only [hlen, nI_mul, nI_add, nI_sub']); exact in_nI (by omega) (by omega)))))
  (first | (refine xbr_f ?_ ?_; (focus ((simp (disch := omega) only [ix_lt, ix_le, ix_eq, ix_0, nI_clamp, nI_toInt, ng_T, nI_add, nI_mul, nI_sub', Int.neg_zero, not_false_eq_true, not_true_eq_false, hlen] <;> omega); done))) | (refine xbr_t ?_ ?_; (focus ((simp (disch := omega) only [ix_lt, ix_le, ix_eq, ix_0, nI_clamp, nI_toInt, ng_T, nI_add, nI_mul, nI_sub', Int.neg_zero, not_false_eq_true, not_true_eq_false, hlen] <;> omega); done))) | refine ⟨Or.inl rfl, ?_⟩ | refine ⟨Or.inr rfl, ?_⟩ | (refine ⟨?_, ?_⟩; (focus ((try simp (disch := omega) only [hlen, nI_mul, nI_add, nI_sub']); exact in_nI (by omega) (by omega)))))
  refine ⟨rfl, rfl, S, _, _, rfl, hC, fun o S' I' L' hr hf hC' => ?_⟩
  have e0 : I' 0 = I 0 := (hf 0 (Or.inl rfl)).1
  have hlen2 : (I' 0 0).toNatClampNeg = len := by rw [e0]; exact hlen
  (first | (refine xbr_f ?_ ?_; (focus ((simp (disch := omega) only [ix_lt, ix_le, ix_eq, ix_0, nI_clamp, nI_toInt, ng_T, nI_add, nI_mul, nI_sub', Int.neg_zero, not_false_eq_true, not_true_eq_false, hlen2] <;> omega); done))) | (refine xbr_t ?_ ?_; (focus ((simp (disch := omega) only [ix_lt, ix_le, ix_eq, ix_0, nI_clamp, nI_toInt, ng_T, nI_add, nI_mul, nI_sub', Int.neg_zero, not_false_eq_true, not_true_eq_false, hlen2] <;> omega); done))) | refine ⟨Or.inl rfl, ?_⟩ | refine ⟨Or.inr rfl, ?_⟩ | (refine ⟨?_, ?_⟩; (focus ((try simp (disch := omega) only [hlen2, nI_mul, nI_add, nI_sub']); exact in_nI (by omega) (by omega)))))
  (first | (refine xbr_f ?_ ?_; (focus ((simp (disch := omega) only [ix_lt, ix_le, ix_eq, ix_0, nI_clamp, nI_toInt, ng_T, nI_add, nI_mul, nI_sub', Int.neg_zero, not_false_eq_true, not_true_eq_false, hlen2] <;> omega); done))) | (refine xbr_t ?_ ?_; (focus ((simp (disch := omega) only [ix_lt, ix_le, ix_eq, ix_0, nI_clamp, nI_toInt, ng_T, nI_add, nI_mul, nI_sub', Int.neg_zero, not_false_eq_true, not_true_eq_false, hlen2] <;> omega); done))) | refine ⟨Or.inl rfl, ?_⟩ | refine ⟨Or.inr rfl, ?_⟩ | (refine ⟨?_, ?_⟩; (focus ((try simp (disch := omega) only [hlen2, nI_mul, nI_add, nI_sub']); exact in_nI (by omega) (by omega)))))
  refine ⟨rfl, rfl, S, _, _, o, S', rfl, by rw [e0]; exact hr, Ref_fr hR hf, fun I2 L2 hf2 hR2 => ?_⟩
  refine xbr_t rfl ?_
  exact go S' _ _ ((hf2 0 (by decide)).1.trans e0) (Cls_fr hC' hf2) hR2
set_option maxRecDepth 100000 in
theorem law_who {Q : xQ} {S : ST} {I : xI} {L : xL} {i len : Nat} (h0 : I 0 0 = nI len) (hi : i + 6 ≤ len) (hn : len ≤ 3072) (hC : Cls S I L) (hR : Ref S I L) (go : ∀ (S' : ST) (I' : xI) (L' : xL), I' 0 = I 0 → Cls S' I' L' → Ref S' I' L' → xGo mL_law csL_law 1365 Q [some (.ref 0), some (.ref 1), some (.ref 27), some (.int (nI i))] [] 48 48 I' L' xP0) : xGo mL_law csL_law 836 Q [some (.ref 0), some (.ref 1), some (.ref 27), some (.int (nI i))] [] 48 48 I L xP0 := by
  have hlen : (I 0 0).toNatClampNeg = len := by rw [h0, nI_clamp (by omega)]
  refine xrun okL_law hhL_law [(1365, [true, true, true, true])] 70 ?_
  (first | (refine xbr_f ?_ ?_; (focus ((simp (disch := omega) only [ix_lt, ix_le, ix_eq, ix_0, nI_clamp, nI_toInt, ng_T, nI_add, nI_mul, nI_sub', Int.neg_zero, not_false_eq_true, not_true_eq_false, hlen] <;> omega); done))) | (refine xbr_t ?_ ?_; (focus ((simp (disch := omega) only [ix_lt, ix_le, ix_eq, ix_0, nI_clamp, nI_toInt, ng_T, nI_add, nI_mul, nI_sub', Int.neg_zero, not_false_eq_true, not_true_eq_false, hlen] <;> omega); done))) | refine ⟨Or.inl rfl, ?_⟩ | refine ⟨Or.inr rfl, ?_⟩ | (refine ⟨?_, ?_⟩; (focus ((try simp (disch := omega) only [hlen, nI_mul, nI_add, nI_sub']); exact in_nI (by omega) (by omega)))))
  refine ⟨rfl, rfl, S, _, rfl, hC, fun o S' I' L' hr hf hC' => ?_⟩
  have e0 : I' 0 = I 0 := (hf 0 (Or.inl rfl)).1
  have hlen2 : (I' 0 0).toNatClampNeg = len := by rw [e0]; exact hlen
  (first | (refine xbr_f ?_ ?_; (focus ((simp (disch := omega) only [ix_lt, ix_le, ix_eq, ix_0, nI_clamp, nI_toInt, ng_T, nI_add, nI_mul, nI_sub', Int.neg_zero, not_false_eq_true, not_true_eq_false, hlen2] <;> omega); done))) | (refine xbr_t ?_ ?_; (focus ((simp (disch := omega) only [ix_lt, ix_le, ix_eq, ix_0, nI_clamp, nI_toInt, ng_T, nI_add, nI_mul, nI_sub', Int.neg_zero, not_false_eq_true, not_true_eq_false, hlen2] <;> omega); done))) | refine ⟨Or.inl rfl, ?_⟩ | refine ⟨Or.inr rfl, ?_⟩ | (refine ⟨?_, ?_⟩; (focus ((try simp (disch := omega) only [hlen2, nI_mul, nI_add, nI_sub']); exact in_nI (by omega) (by omega)))))
  refine ⟨rfl, rfl, S, _, o, S', rfl, by rw [e0]; exact hr, Ref_fr hR hf, fun I2 L2 hf2 hR2 => ?_⟩
  refine xbr_t rfl ?_
  exact go S' _ _ ((hf2 0 (by decide)).1.trans e0) (Cls_fr hC' hf2) hR2
set_option maxRecDepth 100000 in
theorem law_where {Q : xQ} {S : ST} {I : xI} {L : xL} {i len : Nat} (h0 : I 0 0 = nI len) (hi : i + 6 ≤ len) (hn : len ≤ 3072) (hC : Cls S I L) (hR : Ref S I L) (go : ∀ (S' : ST) (I' : xI) (L' : xL), I' 0 = I 0 → Cls S' I' L' → Ref S' I' L' → xGo mL_law csL_law 1365 Q [some (.ref 0), some (.ref 1), some (.ref 27), some (.int (nI i))] [] 48 48 I' L' xP0) : xGo mL_law csL_law 859 Q [some (.ref 0), some (.ref 1), some (.ref 27), some (.int (nI i))] [] 48 48 I L xP0 := by
  have hlen : (I 0 0).toNatClampNeg = len := by rw [h0, nI_clamp (by omega)]
  refine xrun okL_law hhL_law [(1365, [true, true, true, true])] 70 ?_
  (first | (refine xbr_f ?_ ?_; (focus ((simp (disch := omega) only [ix_lt, ix_le, ix_eq, ix_0, nI_clamp, nI_toInt, ng_T, nI_add, nI_mul, nI_sub', Int.neg_zero, not_false_eq_true, not_true_eq_false, hlen] <;> omega); done))) | (refine xbr_t ?_ ?_; (focus ((simp (disch := omega) only [ix_lt, ix_le, ix_eq, ix_0, nI_clamp, nI_toInt, ng_T, nI_add, nI_mul, nI_sub', Int.neg_zero, not_false_eq_true, not_true_eq_false, hlen] <;> omega); done))) | refine ⟨Or.inl rfl, ?_⟩ | refine ⟨Or.inr rfl, ?_⟩ | (refine ⟨?_, ?_⟩; (focus ((try simp (disch := omega) only [hlen, nI_mul, nI_add, nI_sub']); exact in_nI (by omega) (by omega)))))
  (first | (refine xbr_f ?_ ?_; (focus ((simp (disch := omega) only [ix_lt, ix_le, ix_eq, ix_0, nI_clamp, nI_toInt, ng_T, nI_add, nI_mul, nI_sub', Int.neg_zero, not_false_eq_true, not_true_eq_false, hlen] <;> omega); done))) | (refine xbr_t ?_ ?_; (focus ((simp (disch := omega) only [ix_lt, ix_le, ix_eq, ix_0, nI_clamp, nI_toInt, ng_T, nI_add, nI_mul, nI_sub', Int.neg_zero, not_false_eq_true, not_true_eq_false, hlen] <;> omega); done))) | refine ⟨Or.inl rfl, ?_⟩ | refine ⟨Or.inr rfl, ?_⟩ | (refine ⟨?_, ?_⟩; (focus ((try simp (disch := omega) only [hlen, nI_mul, nI_add, nI_sub']); exact in_nI (by omega) (by omega)))))
  refine ⟨rfl, rfl, S, _, _, rfl, hC, fun o S' I' L' hr hf hC' => ?_⟩
  have e0 : I' 0 = I 0 := (hf 0 (Or.inl rfl)).1
  have hlen2 : (I' 0 0).toNatClampNeg = len := by rw [e0]; exact hlen
  (first | (refine xbr_f ?_ ?_; (focus ((simp (disch := omega) only [ix_lt, ix_le, ix_eq, ix_0, nI_clamp, nI_toInt, ng_T, nI_add, nI_mul, nI_sub', Int.neg_zero, not_false_eq_true, not_true_eq_false, hlen2] <;> omega); done))) | (refine xbr_t ?_ ?_; (focus ((simp (disch := omega) only [ix_lt, ix_le, ix_eq, ix_0, nI_clamp, nI_toInt, ng_T, nI_add, nI_mul, nI_sub', Int.neg_zero, not_false_eq_true, not_true_eq_false, hlen2] <;> omega); done))) | refine ⟨Or.inl rfl, ?_⟩ | refine ⟨Or.inr rfl, ?_⟩ | (refine ⟨?_, ?_⟩; (focus ((try simp (disch := omega) only [hlen2, nI_mul, nI_add, nI_sub']); exact in_nI (by omega) (by omega)))))
  (first | (refine xbr_f ?_ ?_; (focus ((simp (disch := omega) only [ix_lt, ix_le, ix_eq, ix_0, nI_clamp, nI_toInt, ng_T, nI_add, nI_mul, nI_sub', Int.neg_zero, not_false_eq_true, not_true_eq_false, hlen2] <;> omega); done))) | (refine xbr_t ?_ ?_; (focus ((simp (disch := omega) only [ix_lt, ix_le, ix_eq, ix_0, nI_clamp, nI_toInt, ng_T, nI_add, nI_mul, nI_sub', Int.neg_zero, not_false_eq_true, not_true_eq_false, hlen2] <;> omega); done))) | refine ⟨Or.inl rfl, ?_⟩ | refine ⟨Or.inr rfl, ?_⟩ | (refine ⟨?_, ?_⟩; (focus ((try simp (disch := omega) only [hlen2, nI_mul, nI_add, nI_sub']); exact in_nI (by omega) (by omega)))))
  refine ⟨rfl, rfl, S, _, _, o, S', rfl, by rw [e0]; exact hr, Ref_fr hR hf, fun I2 L2 hf2 hR2 => ?_⟩
  refine xbr_t rfl ?_
  exact go S' _ _ ((hf2 0 (by decide)).1.trans e0) (Cls_fr hC' hf2) hR2
set_option maxRecDepth 100000 in
theorem law_home {Q : xQ} {S : ST} {I : xI} {L : xL} {i len : Nat} (h0 : I 0 0 = nI len) (hi : i + 6 ≤ len) (hn : len ≤ 3072) (hC : Cls S I L) (hR : Ref S I L) (go : ∀ (S' : ST) (I' : xI) (L' : xL), I' 0 = I 0 → Cls S' I' L' → Ref S' I' L' → xGo mL_law csL_law 1365 Q [some (.ref 0), some (.ref 1), some (.ref 27), some (.int (nI i))] [] 48 48 I' L' xP0) : xGo mL_law csL_law 892 Q [some (.ref 0), some (.ref 1), some (.ref 27), some (.int (nI i))] [] 48 48 I L xP0 := by
  have hlen : (I 0 0).toNatClampNeg = len := by rw [h0, nI_clamp (by omega)]
  refine xrun okL_law hhL_law [(1365, [true, true, true, true])] 70 ?_
  refine ⟨rfl, rfl, S, rfl, hC, fun o S' I' L' hr hf hC' => ?_⟩
  have e0 : I' 0 = I 0 := (hf 0 (Or.inl rfl)).1
  refine ⟨rfl, rfl, S, o, S', rfl, hr, Ref_fr hR hf, fun I2 L2 hf2 hR2 => ?_⟩
  refine xbr_t rfl ?_
  exact go S' _ _ ((hf2 0 (by decide)).1.trans e0) (Cls_fr hC' hf2) hR2
set_option maxRecDepth 100000 in
theorem law_round {Q : xQ} {S : ST} {I : xI} {L : xL} {i len : Nat} (h0 : I 0 0 = nI len) (hi : i + 6 ≤ len) (hn : len ≤ 3072) (hC : Cls S I L) (hR : Ref S I L) (go : ∀ (S' : ST) (I' : xI) (L' : xL), I' 0 = I 0 → Cls S' I' L' → Ref S' I' L' → xGo mL_law csL_law 1365 Q [some (.ref 0), some (.ref 1), some (.ref 27), some (.int (nI i))] [] 48 48 I' L' xP0) : xGo mL_law csL_law 905 Q [some (.ref 0), some (.ref 1), some (.ref 27), some (.int (nI i))] [] 48 48 I L xP0 := by
  have hlen : (I 0 0).toNatClampNeg = len := by rw [h0, nI_clamp (by omega)]
  refine xrun okL_law hhL_law [(1365, [true, true, true, true])] 70 ?_
  refine ⟨rfl, rfl, S, rfl, hC, fun o S' I' L' hr hf hC' => ?_⟩
  have e0 : I' 0 = I 0 := (hf 0 (Or.inl rfl)).1
  refine ⟨rfl, rfl, S, o, S', rfl, hr, Ref_fr hR hf, fun I2 L2 hf2 hR2 => ?_⟩
  refine xbr_t rfl ?_
  exact go S' _ _ ((hf2 0 (by decide)).1.trans e0) (Cls_fr hC' hf2) hR2
