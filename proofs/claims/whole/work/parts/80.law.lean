/-! THE LAW: its 42 cases (written by gen_law.py) -/
def csL_law : xCs := [(mX10_init, sX10_init), (mX11_init, sX11_init), (mX10_row, sX10_row), (mX11_row, sX11_row), (mX10_lay, sX10_lay), (mX11_lay, sX11_lay), (mX10_at, sX10_at), (mX11_at, sX11_at), (mX10_tear, sX10_tear), (mX11_tear, sX11_tear), (mX10_copy, sX10_copy), (mX11_copy, sX11_copy), (mX10_mean, sX10_mean), (mX11_mean, sX11_mean), (mX10_text, sX10_text), (mX11_text, sX11_text), (mX10_put, sX10_put), (mX11_put, sX11_put), (mX10_fault, sX10_fault), (mX11_fault, sX11_fault), (mX10_plain, sX10_plain), (mX11_plain, sX11_plain), (mX10_ass, sX10_ass), (mX11_ass, sX11_ass), (mX10_load, sX10_load), (mX11_load, sX11_load), (mX10_mark, sX10_mark), (mX11_mark, sX11_mark), (mX10_day, sX10_day), (mX11_day, sX11_day), (mX10_smear, sX10_smear), (mX11_smear, sX11_smear), (mX10_lead, sX10_lead), (mX11_lead, sX11_lead), (mX10_undo, sX10_undo), (mX11_undo, sX11_undo), (mX10_keep, sX10_keep), (mX11_keep, sX11_keep), (mX10_on, sX10_on), (mX11_on, sX11_on), (mX10_like, sX10_like), (mX11_like, sX11_like), (mX10_who, sX10_who), (mX11_who, sX11_who), (mX10_where, sX10_where), (mX11_where, sX11_where), (mX10_home, sX10_home), (mX11_home, sX11_home), (mX10_round, sX10_round), (mX11_round, sX11_round), (mX10_marks, sX10_marks), (mX11_marks, sX11_marks), (mX10_match, sX10_match), (mX11_match, sX11_match), (mX10_line, sX10_line), (mX11_line, sX11_line), (mX10_cover, sX10_cover), (mX11_cover, sX11_cover), (mX10_memories, sX10_memories), (mX11_memories, sX11_memories), (mX10_kinds, sX10_kinds), (mX11_kinds, sX11_kinds), (mX10_next, sX10_next), (mX11_next, sX11_next), (mX10_duel, sX10_duel), (mX11_duel, sX11_duel), (mX10_odds, sX10_odds), (mX11_odds, sX11_odds), (mX10_mid, sX10_mid), (mX11_mid, sX11_mid), (mX10_lots, sX10_lots), (mX11_lots, sX11_lots), (mX10_asked, sX10_asked), (mX11_asked, sX11_asked), (mX10_upper, sX10_upper), (mX11_upper, sX11_upper), (mX10_lower, sX10_lower), (mX11_lower, sX11_lower), (mX10_count, sX10_count), (mX11_count, sX11_count), (mX10_finding, sX10_finding), (mX11_finding, sX11_finding), (mX10_findings, sX10_findings), (mX11_findings, sX11_findings), (mX10_digest, sX10_digest), (mX11_digest, sX11_digest)]
theorem okL_law : xOkM mL_law csL_law := ⟨dL_law, by decide +kernel, by decide +kernel, ⟨⟨wdL_7, wdN7.1, wdN7.2, by decide⟩, wdL_9, ⟨wdL_10, wdN8.1, wdN8.2, by decide⟩, wdL_12, wdL_13, wdL_17, wdL_18, wdL_22, wdL_23, wdL_26, wdL_27, wdL_31, wdL_32, wdL_36, wdL_37, wdL_40, wdL_41, wdL_44, wdL_45, wdL_48, wdL_49, wdL_52, wdL_53, wdL_56, wdL_57, wdL_60, wdL_61, wdL_64, wdL_65, wdL_68, wdL_69, wdL_73, wdL_74, wdL_77, wdL_78, wdL_81, wdL_82, wdL_85, wdL_86, wdL_89, wdL_90, wdL_93, wdL_94, wdL_97, wdL_98, wdL_101, wdL_102, wdL_105, wdL_106, wdL_109, wdL_110, wdL_113, wdL_114, wdL_117, wdL_118, wdL_121, wdL_122, wdL_125, wdL_126, wdL_129, wdL_130, wdL_133, wdL_134, wdL_137, wdL_138, wdL_141, wdL_142, wdL_145, wdL_146, wdL_149, wdL_150, wdL_153, wdL_154, wdL_157, wdL_158, wdL_161, wdL_162, wdL_166, wdL_167, wdL_170, wdL_171, wdL_174, wdL_175, wdL_178, wdL_179, wdL_182, wdL_183, wdL_186, trivial⟩⟩
theorem hhL_law : ∀ q ∈ csL_law, xHd q.1 := xall1 hX10_init (xall1 hX11_init (xall1 hX10_row (xall1 hX11_row (xall1 hX10_lay (xall1 hX11_lay (xall1 hX10_at (xall1 hX11_at (xall1 hX10_tear (xall1 hX11_tear (xall1 hX10_copy (xall1 hX11_copy (xall1 hX10_mean (xall1 hX11_mean (xall1 hX10_text (xall1 hX11_text (xall1 hX10_put (xall1 hX11_put (xall1 hX10_fault (xall1 hX11_fault (xall1 hX10_plain (xall1 hX11_plain (xall1 hX10_ass (xall1 hX11_ass (xall1 hX10_load (xall1 hX11_load (xall1 hX10_mark (xall1 hX11_mark (xall1 hX10_day (xall1 hX11_day (xall1 hX10_smear (xall1 hX11_smear (xall1 hX10_lead (xall1 hX11_lead (xall1 hX10_undo (xall1 hX11_undo (xall1 hX10_keep (xall1 hX11_keep (xall1 hX10_on (xall1 hX11_on (xall1 hX10_like (xall1 hX11_like (xall1 hX10_who (xall1 hX11_who (xall1 hX10_where (xall1 hX11_where (xall1 hX10_home (xall1 hX11_home (xall1 hX10_round (xall1 hX11_round (xall1 hX10_marks (xall1 hX11_marks (xall1 hX10_match (xall1 hX11_match (xall1 hX10_line (xall1 hX11_line (xall1 hX10_cover (xall1 hX11_cover (xall1 hX10_memories (xall1 hX11_memories (xall1 hX10_kinds (xall1 hX11_kinds (xall1 hX10_next (xall1 hX11_next (xall1 hX10_duel (xall1 hX11_duel (xall1 hX10_odds (xall1 hX11_odds (xall1 hX10_mid (xall1 hX11_mid (xall1 hX10_lots (xall1 hX11_lots (xall1 hX10_asked (xall1 hX11_asked (xall1 hX10_upper (xall1 hX11_upper (xall1 hX10_lower (xall1 hX11_lower (xall1 hX10_count (xall1 hX11_count (xall1 hX10_finding (xall1 hX11_finding (xall1 hX10_findings (xall1 hX11_findings (xall1 hX10_digest (xall1 hX11_digest (xall0))))))))))))))))))))))))))))))))))))))))))))))))))))))))))))))))))))))))))))))))))))))
theorem kkL_law : ∀ q ∈ csL_law, ∀ l, xCon l q.1 q.2 := xall1 kX10_init (xall1 kX11_init (xall1 kX10_row (xall1 kX11_row (xall1 kX10_lay (xall1 kX11_lay (xall1 kX10_at (xall1 kX11_at (xall1 kX10_tear (xall1 kX11_tear (xall1 kX10_copy (xall1 kX11_copy (xall1 kX10_mean (xall1 kX11_mean (xall1 kX10_text (xall1 kX11_text (xall1 kX10_put (xall1 kX11_put (xall1 kX10_fault (xall1 kX11_fault (xall1 kX10_plain (xall1 kX11_plain (xall1 kX10_ass (xall1 kX11_ass (xall1 kX10_load (xall1 kX11_load (xall1 kX10_mark (xall1 kX11_mark (xall1 kX10_day (xall1 kX11_day (xall1 kX10_smear (xall1 kX11_smear (xall1 kX10_lead (xall1 kX11_lead (xall1 kX10_undo (xall1 kX11_undo (xall1 kX10_keep (xall1 kX11_keep (xall1 kX10_on (xall1 kX11_on (xall1 kX10_like (xall1 kX11_like (xall1 kX10_who (xall1 kX11_who (xall1 kX10_where (xall1 kX11_where (xall1 kX10_home (xall1 kX11_home (xall1 kX10_round (xall1 kX11_round (xall1 kX10_marks (xall1 kX11_marks (xall1 kX10_match (xall1 kX11_match (xall1 kX10_line (xall1 kX11_line (xall1 kX10_cover (xall1 kX11_cover (xall1 kX10_memories (xall1 kX11_memories (xall1 kX10_kinds (xall1 kX11_kinds (xall1 kX10_next (xall1 kX11_next (xall1 kX10_duel (xall1 kX11_duel (xall1 kX10_odds (xall1 kX11_odds (xall1 kX10_mid (xall1 kX11_mid (xall1 kX10_lots (xall1 kX11_lots (xall1 kX10_asked (xall1 kX11_asked (xall1 kX10_upper (xall1 kX11_upper (xall1 kX10_lower (xall1 kX11_lower (xall1 kX10_count (xall1 kX11_count (xall1 kX10_finding (xall1 kX11_finding (xall1 kX10_findings (xall1 kX11_findings (xall1 kX10_digest (xall1 kX11_digest (xall0))))))))))))))))))))))))))))))))))))))))))))))))))))))))))))))))))))))))))))))))))))))
set_option maxRecDepth 100000 in
theorem law_row {Q : xQ} {S : ST} {I : xI} {L : xL} {i len : Nat} (h0 : I 0 0 = nI len) (hi : i + 6 ≤ len) (hn : len ≤ 3072) (hC : Cls S I L) (hR : Ref S I L) (go : ∀ (S' : ST) (I' : xI) (L' : xL), I' 0 = I 0 → Cls S' I' L' → Ref S' I' L' → xGo mL_law csL_law 1365 Q [some (.ref 0), some (.ref 1), some (.ref 27), some (.int (nI i))] [] 48 48 I' L' xP0) : xGo mL_law csL_law 216 Q [some (.ref 0), some (.ref 1), some (.ref 27), some (.int (nI i))] [] 48 48 I L xP0 := by
  have hlen : (I 0 0).toNatClampNeg = len := by rw [h0, nI_clamp (by omega)]
  refine xrun okL_law hhL_law [(1365, [true, true, true, true])] 70 ?_
  (first | (refine xbr_f ?_ ?_; (focus ((simp (disch := omega) only [ix_lt, ix_le, ix_eq, ix_0, nI_clamp, nI_toInt, ng_T, nI_add, nI_mul, nI_sub', Int.neg_zero, not_false_eq_true, not_true_eq_false, hlen] <;> omega); done))) | (refine xbr_t ?_ ?_; (focus ((simp (disch := omega) only [ix_lt, ix_le, ix_eq, ix_0, nI_clamp, nI_toInt, ng_T, nI_add, nI_mul, nI_sub', Int.neg_zero, not_false_eq_true, not_true_eq_false, hlen] <;> omega); done))) | refine ⟨Or.inl rfl, ?_⟩ | refine ⟨Or.inr rfl, ?_⟩ | (refine ⟨?_, ?_⟩; (focus ((try simp (disch := omega) only [hlen, nI_mul, nI_add, nI_sub']); exact in_nI (by omega) (by omega)))))
  (first | (refine xbr_f ?_ ?_; (focus ((simp (disch := omega) only [ix_lt, ix_le, ix_eq, ix_0, nI_clamp, nI_toInt, ng_T, nI_add, nI_mul, nI_sub', Int.neg_zero, not_false_eq_true, not_true_eq_false, hlen] <;> omega); done))) | (refine xbr_t ?_ ?_; (focus ((simp (disch := omega) only [ix_lt, ix_le, ix_eq, ix_0, nI_clamp, nI_toInt, ng_T, nI_add, nI_mul, nI_sub', Int.neg_zero, not_false_eq_true, not_true_eq_false, hlen] <;> omega); done))) | refine ⟨Or.inl rfl, ?_⟩ | refine ⟨Or.inr rfl, ?_⟩ | (refine ⟨?_, ?_⟩; (focus ((try simp (disch := omega) only [hlen, nI_mul, nI_add, nI_sub']); exact in_nI (by omega) (by omega)))))
  refine ⟨rfl, rfl, S, _, _, rfl, hC, fun o S' I' L' hr hf hC' => ?_⟩
  have e0 : I' 0 = I 0 := (hf 0 (Or.inl rfl)).1
  have hlen2 : (I' 0 0).toNatClampNeg = len := by rw [e0]; exact hlen
  (first | (refine xbr_f ?_ ?_; (focus ((simp (disch := omega) only [ix_lt, ix_le, ix_eq, ix_0, nI_clamp, nI_toInt, ng_T, nI_add, nI_mul, nI_sub', Int.neg_zero, not_false_eq_true, not_true_eq_false, hlen2] <;> omega); done))) | (refine xbr_t ?_ ?_; (focus ((simp (disch := omega) only [ix_lt, ix_le, ix_eq, ix_0, nI_clamp, nI_toInt, ng_T, nI_add, nI_mul, nI_sub', Int.neg_zero, not_false_eq_true, not_true_eq_false, hlen2] <;> omega); done))) | refine ⟨Or.inl rfl, ?_⟩ | refine ⟨Or.inr rfl, ?_⟩ | (refine ⟨?_, ?_⟩; (focus ((try simp (disch := omega) only [hlen2, nI_mul, nI_add, nI_sub']); exact in_nI (by omega) (by omega)))))
  (first | (refine xbr_f ?_ ?_; (focus ((simp (disch := omega) only [ix_lt, ix_le, ix_eq, ix_0, nI_clamp, nI_toInt, ng_T, nI_add, nI_mul, nI_sub', Int.neg_zero, not_false_eq_true, not_true_eq_false, hlen2] <;> omega); done))) | (refine xbr_t ?_ ?_; (focus ((simp (disch := omega) only [ix_lt, ix_le, ix_eq, ix_0, nI_clamp, nI_toInt, ng_T, nI_add, nI_mul, nI_sub', Int.neg_zero, not_false_eq_true, not_true_eq_false, hlen2] <;> omega); done))) | refine ⟨Or.inl rfl, ?_⟩ | refine ⟨Or.inr rfl, ?_⟩ | (refine ⟨?_, ?_⟩; (focus ((try simp (disch := omega) only [hlen2, nI_mul, nI_add, nI_sub']); exact in_nI (by omega) (by omega)))))
  refine ⟨rfl, rfl, S, _, _, o, S', rfl, by rw [e0]; exact hr, Ref_fr hR hf, fun I2 L2 hf2 hR2 => ?_⟩
  refine xbr_t rfl ?_
  exact go S' _ _ ((hf2 0 (by decide)).1.trans e0) (Cls_fr hC' hf2) hR2
set_option maxRecDepth 100000 in
theorem law_lay {Q : xQ} {S : ST} {I : xI} {L : xL} {i len : Nat} (h0 : I 0 0 = nI len) (hi : i + 6 ≤ len) (hn : len ≤ 3072) (hC : Cls S I L) (hR : Ref S I L) (go : ∀ (S' : ST) (I' : xI) (L' : xL), I' 0 = I 0 → Cls S' I' L' → Ref S' I' L' → xGo mL_law csL_law 1365 Q [some (.ref 0), some (.ref 1), some (.ref 27), some (.int (nI i))] [] 48 48 I' L' xP0) : xGo mL_law csL_law 249 Q [some (.ref 0), some (.ref 1), some (.ref 27), some (.int (nI i))] [] 48 48 I L xP0 := by
  have hlen : (I 0 0).toNatClampNeg = len := by rw [h0, nI_clamp (by omega)]
  refine xrun okL_law hhL_law [(1365, [true, true, true, true])] 70 ?_
  (first | (refine xbr_f ?_ ?_; (focus ((simp (disch := omega) only [ix_lt, ix_le, ix_eq, ix_0, nI_clamp, nI_toInt, ng_T, nI_add, nI_mul, nI_sub', Int.neg_zero, not_false_eq_true, not_true_eq_false, hlen] <;> omega); done))) | (refine xbr_t ?_ ?_; (focus ((simp (disch := omega) only [ix_lt, ix_le, ix_eq, ix_0, nI_clamp, nI_toInt, ng_T, nI_add, nI_mul, nI_sub', Int.neg_zero, not_false_eq_true, not_true_eq_false, hlen] <;> omega); done))) | refine ⟨Or.inl rfl, ?_⟩ | refine ⟨Or.inr rfl, ?_⟩ | (refine ⟨?_, ?_⟩; (focus ((try simp (disch := omega) only [hlen, nI_mul, nI_add, nI_sub']); exact in_nI (by omega) (by omega)))))
  (first | (refine xbr_f ?_ ?_; (focus ((simp (disch := omega) only [ix_lt, ix_le, ix_eq, ix_0, nI_clamp, nI_toInt, ng_T, nI_add, nI_mul, nI_sub', Int.neg_zero, not_false_eq_true, not_true_eq_false, hlen] <;> omega); done))) | (refine xbr_t ?_ ?_; (focus ((simp (disch := omega) only [ix_lt, ix_le, ix_eq, ix_0, nI_clamp, nI_toInt, ng_T, nI_add, nI_mul, nI_sub', Int.neg_zero, not_false_eq_true, not_true_eq_false, hlen] <;> omega); done))) | refine ⟨Or.inl rfl, ?_⟩ | refine ⟨Or.inr rfl, ?_⟩ | (refine ⟨?_, ?_⟩; (focus ((try simp (disch := omega) only [hlen, nI_mul, nI_add, nI_sub']); exact in_nI (by omega) (by omega)))))
  (first | (refine xbr_f ?_ ?_; (focus ((simp (disch := omega) only [ix_lt, ix_le, ix_eq, ix_0, nI_clamp, nI_toInt, ng_T, nI_add, nI_mul, nI_sub', Int.neg_zero, not_false_eq_true, not_true_eq_false, hlen] <;> omega); done))) | (refine xbr_t ?_ ?_; (focus ((simp (disch := omega) only [ix_lt, ix_le, ix_eq, ix_0, nI_clamp, nI_toInt, ng_T, nI_add, nI_mul, nI_sub', Int.neg_zero, not_false_eq_true, not_true_eq_false, hlen] <;> omega); done))) | refine ⟨Or.inl rfl, ?_⟩ | refine ⟨Or.inr rfl, ?_⟩ | (refine ⟨?_, ?_⟩; (focus ((try simp (disch := omega) only [hlen, nI_mul, nI_add, nI_sub']); exact in_nI (by omega) (by omega)))))
  refine ⟨rfl, rfl, S, _, _, _, rfl, hC, fun o S' I' L' hr hf hC' => ?_⟩
  have e0 : I' 0 = I 0 := (hf 0 (Or.inl rfl)).1
  have hlen2 : (I' 0 0).toNatClampNeg = len := by rw [e0]; exact hlen
  (first | (refine xbr_f ?_ ?_; (focus ((simp (disch := omega) only [ix_lt, ix_le, ix_eq, ix_0, nI_clamp, nI_toInt, ng_T, nI_add, nI_mul, nI_sub', Int.neg_zero, not_false_eq_true, not_true_eq_false, hlen2] <;> omega); done))) | (refine xbr_t ?_ ?_; (focus ((simp (disch := omega) only [ix_lt, ix_le, ix_eq, ix_0, nI_clamp, nI_toInt, ng_T, nI_add, nI_mul, nI_sub', Int.neg_zero, not_false_eq_true, not_true_eq_false, hlen2] <;> omega); done))) | refine ⟨Or.inl rfl, ?_⟩ | refine ⟨Or.inr rfl, ?_⟩ | (refine ⟨?_, ?_⟩; (focus ((try simp (disch := omega) only [hlen2, nI_mul, nI_add, nI_sub']); exact in_nI (by omega) (by omega)))))
  (first | (refine xbr_f ?_ ?_; (focus ((simp (disch := omega) only [ix_lt, ix_le, ix_eq, ix_0, nI_clamp, nI_toInt, ng_T, nI_add, nI_mul, nI_sub', Int.neg_zero, not_false_eq_true, not_true_eq_false, hlen2] <;> omega); done))) | (refine xbr_t ?_ ?_; (focus ((simp (disch := omega) only [ix_lt, ix_le, ix_eq, ix_0, nI_clamp, nI_toInt, ng_T, nI_add, nI_mul, nI_sub', Int.neg_zero, not_false_eq_true, not_true_eq_false, hlen2] <;> omega); done))) | refine ⟨Or.inl rfl, ?_⟩ | refine ⟨Or.inr rfl, ?_⟩ | (refine ⟨?_, ?_⟩; (focus ((try simp (disch := omega) only [hlen2, nI_mul, nI_add, nI_sub']); exact in_nI (by omega) (by omega)))))
  (first | (refine xbr_f ?_ ?_; (focus ((simp (disch := omega) only [ix_lt, ix_le, ix_eq, ix_0, nI_clamp, nI_toInt, ng_T, nI_add, nI_mul, nI_sub', Int.neg_zero, not_false_eq_true, not_true_eq_false, hlen2] <;> omega); done))) | (refine xbr_t ?_ ?_; (focus ((simp (disch := omega) only [ix_lt, ix_le, ix_eq, ix_0, nI_clamp, nI_toInt, ng_T, nI_add, nI_mul, nI_sub', Int.neg_zero, not_false_eq_true, not_true_eq_false, hlen2] <;> omega); done))) | refine ⟨Or.inl rfl, ?_⟩ | refine ⟨Or.inr rfl, ?_⟩ | (refine ⟨?_, ?_⟩; (focus ((try simp (disch := omega) only [hlen2, nI_mul, nI_add, nI_sub']); exact in_nI (by omega) (by omega)))))
  refine ⟨rfl, rfl, S, _, _, _, o, S', rfl, by rw [e0]; exact hr, Ref_fr hR hf, fun I2 L2 hf2 hR2 => ?_⟩
  refine xbr_t rfl ?_
  exact go S' _ _ ((hf2 0 (by decide)).1.trans e0) (Cls_fr hC' hf2) hR2
set_option maxRecDepth 100000 in
theorem law_at {Q : xQ} {S : ST} {I : xI} {L : xL} {i len : Nat} (h0 : I 0 0 = nI len) (hi : i + 6 ≤ len) (hn : len ≤ 3072) (hC : Cls S I L) (hR : Ref S I L) (go : ∀ (S' : ST) (I' : xI) (L' : xL), I' 0 = I 0 → Cls S' I' L' → Ref S' I' L' → xGo mL_law csL_law 1365 Q [some (.ref 0), some (.ref 1), some (.ref 27), some (.int (nI i))] [] 48 48 I' L' xP0) : xGo mL_law csL_law 292 Q [some (.ref 0), some (.ref 1), some (.ref 27), some (.int (nI i))] [] 48 48 I L xP0 := by
  have hlen : (I 0 0).toNatClampNeg = len := by rw [h0, nI_clamp (by omega)]
  refine xrun okL_law hhL_law [(1365, [true, true, true, true])] 70 ?_
  (first | (refine xbr_f ?_ ?_; (focus ((simp (disch := omega) only [ix_lt, ix_le, ix_eq, ix_0, nI_clamp, nI_toInt, ng_T, nI_add, nI_mul, nI_sub', Int.neg_zero, not_false_eq_true, not_true_eq_false, hlen] <;> omega); done))) | (refine xbr_t ?_ ?_; (focus ((simp (disch := omega) only [ix_lt, ix_le, ix_eq, ix_0, nI_clamp, nI_toInt, ng_T, nI_add, nI_mul, nI_sub', Int.neg_zero, not_false_eq_true, not_true_eq_false, hlen] <;> omega); done))) | refine ⟨Or.inl rfl, ?_⟩ | refine ⟨Or.inr rfl, ?_⟩ | (refine ⟨?_, ?_⟩; (focus ((try simp (disch := omega) only [hlen, nI_mul, nI_add, nI_sub']); exact in_nI (by omega) (by omega)))))
  (first | (refine xbr_f ?_ ?_; (focus ((simp (disch := omega) only [ix_lt, ix_le, ix_eq, ix_0, nI_clamp, nI_toInt, ng_T, nI_add, nI_mul, nI_sub', Int.neg_zero, not_false_eq_true, not_true_eq_false, hlen] <;> omega); done))) | (refine xbr_t ?_ ?_; (focus ((simp (disch := omega) only [ix_lt, ix_le, ix_eq, ix_0, nI_clamp, nI_toInt, ng_T, nI_add, nI_mul, nI_sub', Int.neg_zero, not_false_eq_true, not_true_eq_false, hlen] <;> omega); done))) | refine ⟨Or.inl rfl, ?_⟩ | refine ⟨Or.inr rfl, ?_⟩ | (refine ⟨?_, ?_⟩; (focus ((try simp (disch := omega) only [hlen, nI_mul, nI_add, nI_sub']); exact in_nI (by omega) (by omega)))))
  refine ⟨rfl, rfl, S, _, _, rfl, hC, fun o S' I' L' hr hf hC' => ?_⟩
  have e0 : I' 0 = I 0 := (hf 0 (Or.inl rfl)).1
  have hlen2 : (I' 0 0).toNatClampNeg = len := by rw [e0]; exact hlen
  (first | (refine xbr_f ?_ ?_; (focus ((simp (disch := omega) only [ix_lt, ix_le, ix_eq, ix_0, nI_clamp, nI_toInt, ng_T, nI_add, nI_mul, nI_sub', Int.neg_zero, not_false_eq_true, not_true_eq_false, hlen2] <;> omega); done))) | (refine xbr_t ?_ ?_; (focus ((simp (disch := omega) only [ix_lt, ix_le, ix_eq, ix_0, nI_clamp, nI_toInt, ng_T, nI_add, nI_mul, nI_sub', Int.neg_zero, not_false_eq_true, not_true_eq_false, hlen2] <;> omega); done))) | refine ⟨Or.inl rfl, ?_⟩ | refine ⟨Or.inr rfl, ?_⟩ | (refine ⟨?_, ?_⟩; (focus ((try simp (disch := omega) only [hlen2, nI_mul, nI_add, nI_sub']); exact in_nI (by omega) (by omega)))))
  (first | (refine xbr_f ?_ ?_; (focus ((simp (disch := omega) only [ix_lt, ix_le, ix_eq, ix_0, nI_clamp, nI_toInt, ng_T, nI_add, nI_mul, nI_sub', Int.neg_zero, not_false_eq_true, not_true_eq_false, hlen2] <;> omega); done))) | (refine xbr_t ?_ ?_; (focus ((simp (disch := omega) only [ix_lt, ix_le, ix_eq, ix_0, nI_clamp, nI_toInt, ng_T, nI_add, nI_mul, nI_sub', Int.neg_zero, not_false_eq_true, not_true_eq_false, hlen2] <;> omega); done))) | refine ⟨Or.inl rfl, ?_⟩ | refine ⟨Or.inr rfl, ?_⟩ | (refine ⟨?_, ?_⟩; (focus ((try simp (disch := omega) only [hlen2, nI_mul, nI_add, nI_sub']); exact in_nI (by omega) (by omega)))))
  refine ⟨rfl, rfl, S, _, _, o, S', rfl, by rw [e0]; exact hr, Ref_fr hR hf, fun I2 L2 hf2 hR2 => ?_⟩
  refine xbr_t rfl ?_
  exact go S' _ _ ((hf2 0 (by decide)).1.trans e0) (Cls_fr hC' hf2) hR2
set_option maxRecDepth 100000 in
theorem law_tear {Q : xQ} {S : ST} {I : xI} {L : xL} {i len : Nat} (h0 : I 0 0 = nI len) (hi : i + 6 ≤ len) (hn : len ≤ 3072) (hC : Cls S I L) (hR : Ref S I L) (go : ∀ (S' : ST) (I' : xI) (L' : xL), I' 0 = I 0 → Cls S' I' L' → Ref S' I' L' → xGo mL_law csL_law 1365 Q [some (.ref 0), some (.ref 1), some (.ref 27), some (.int (nI i))] [] 48 48 I' L' xP0) : xGo mL_law csL_law 325 Q [some (.ref 0), some (.ref 1), some (.ref 27), some (.int (nI i))] [] 48 48 I L xP0 := by
  have hlen : (I 0 0).toNatClampNeg = len := by rw [h0, nI_clamp (by omega)]
  refine xrun okL_law hhL_law [(1365, [true, true, true, true])] 70 ?_
  (first | (refine xbr_f ?_ ?_; (focus ((simp (disch := omega) only [ix_lt, ix_le, ix_eq, ix_0, nI_clamp, nI_toInt, ng_T, nI_add, nI_mul, nI_sub', Int.neg_zero, not_false_eq_true, not_true_eq_false, hlen] <;> omega); done))) | (refine xbr_t ?_ ?_; (focus ((simp (disch := omega) only [ix_lt, ix_le, ix_eq, ix_0, nI_clamp, nI_toInt, ng_T, nI_add, nI_mul, nI_sub', Int.neg_zero, not_false_eq_true, not_true_eq_false, hlen] <;> omega); done))) | refine ⟨Or.inl rfl, ?_⟩ | refine ⟨Or.inr rfl, ?_⟩ | (refine ⟨?_, ?_⟩; (focus ((try simp (disch := omega) only [hlen, nI_mul, nI_add, nI_sub']); exact in_nI (by omega) (by omega)))))
  refine ⟨rfl, rfl, S, _, rfl, hC, fun o S' I' L' hr hf hC' => ?_⟩
  have e0 : I' 0 = I 0 := (hf 0 (Or.inl rfl)).1
  have hlen2 : (I' 0 0).toNatClampNeg = len := by rw [e0]; exact hlen
  (first | (refine xbr_f ?_ ?_; (focus ((simp (disch := omega) only [ix_lt, ix_le, ix_eq, ix_0, nI_clamp, nI_toInt, ng_T, nI_add, nI_mul, nI_sub', Int.neg_zero, not_false_eq_true, not_true_eq_false, hlen2] <;> omega); done))) | (refine xbr_t ?_ ?_; (focus ((simp (disch := omega) only [ix_lt, ix_le, ix_eq, ix_0, nI_clamp, nI_toInt, ng_T, nI_add, nI_mul, nI_sub', Int.neg_zero, not_false_eq_true, not_true_eq_false, hlen2] <;> omega); done))) | refine ⟨Or.inl rfl, ?_⟩ | refine ⟨Or.inr rfl, ?_⟩ | (refine ⟨?_, ?_⟩; (focus ((try simp (disch := omega) only [hlen2, nI_mul, nI_add, nI_sub']); exact in_nI (by omega) (by omega)))))
  refine ⟨rfl, rfl, S, _, o, S', rfl, by rw [e0]; exact hr, Ref_fr hR hf, fun I2 L2 hf2 hR2 => ?_⟩
  refine xbr_t rfl ?_
  exact go S' _ _ ((hf2 0 (by decide)).1.trans e0) (Cls_fr hC' hf2) hR2
set_option maxRecDepth 100000 in
theorem law_copy {Q : xQ} {S : ST} {I : xI} {L : xL} {i len : Nat} (h0 : I 0 0 = nI len) (hi : i + 6 ≤ len) (hn : len ≤ 3072) (hC : Cls S I L) (hR : Ref S I L) (go : ∀ (S' : ST) (I' : xI) (L' : xL), I' 0 = I 0 → Cls S' I' L' → Ref S' I' L' → xGo mL_law csL_law 1365 Q [some (.ref 0), some (.ref 1), some (.ref 27), some (.int (nI i))] [] 48 48 I' L' xP0) : xGo mL_law csL_law 348 Q [some (.ref 0), some (.ref 1), some (.ref 27), some (.int (nI i))] [] 48 48 I L xP0 := by
  have hlen : (I 0 0).toNatClampNeg = len := by rw [h0, nI_clamp (by omega)]
  refine xrun okL_law hhL_law [(1365, [true, true, true, true])] 70 ?_
  (first | (refine xbr_f ?_ ?_; (focus ((simp (disch := omega) only [ix_lt, ix_le, ix_eq, ix_0, nI_clamp, nI_toInt, ng_T, nI_add, nI_mul, nI_sub', Int.neg_zero, not_false_eq_true, not_true_eq_false, hlen] <;> omega); done))) | (refine xbr_t ?_ ?_; (focus ((simp (disch := omega) only [ix_lt, ix_le, ix_eq, ix_0, nI_clamp, nI_toInt, ng_T, nI_add, nI_mul, nI_sub', Int.neg_zero, not_false_eq_true, not_true_eq_false, hlen] <;> omega); done))) | refine ⟨Or.inl rfl, ?_⟩ | refine ⟨Or.inr rfl, ?_⟩ | (refine ⟨?_, ?_⟩; (focus ((try simp (disch := omega) only [hlen, nI_mul, nI_add, nI_sub']); exact in_nI (by omega) (by omega)))))
  (first | (refine xbr_f ?_ ?_; (focus ((simp (disch := omega) only [ix_lt, ix_le, ix_eq, ix_0, nI_clamp, nI_toInt, ng_T, nI_add, nI_mul, nI_sub', Int.neg_zero, not_false_eq_true, not_true_eq_false, hlen] <;> omega); done))) | (refine xbr_t ?_ ?_; (focus ((simp (disch := omega) only [ix_lt, ix_le, ix_eq, ix_0, nI_clamp, nI_toInt, ng_T, nI_add, nI_mul, nI_sub', Int.neg_zero, not_false_eq_true, not_true_eq_false, hlen] <;> omega); done))) | refine ⟨Or.inl rfl, ?_⟩ | refine ⟨Or.inr rfl, ?_⟩ | (refine ⟨?_, ?_⟩; (focus ((try simp (disch := omega) only [hlen, nI_mul, nI_add, nI_sub']); exact in_nI (by omega) (by omega)))))
  (first | (refine xbr_f ?_ ?_; (focus ((simp (disch := omega) only [ix_lt, ix_le, ix_eq, ix_0, nI_clamp, nI_toInt, ng_T, nI_add, nI_mul, nI_sub', Int.neg_zero, not_false_eq_true, not_true_eq_false, hlen] <;> omega); done))) | (refine xbr_t ?_ ?_; (focus ((simp (disch := omega) only [ix_lt, ix_le, ix_eq, ix_0, nI_clamp, nI_toInt, ng_T, nI_add, nI_mul, nI_sub', Int.neg_zero, not_false_eq_true, not_true_eq_false, hlen] <;> omega); done))) | refine ⟨Or.inl rfl, ?_⟩ | refine ⟨Or.inr rfl, ?_⟩ | (refine ⟨?_, ?_⟩; (focus ((try simp (disch := omega) only [hlen, nI_mul, nI_add, nI_sub']); exact in_nI (by omega) (by omega)))))
  (first | (refine xbr_f ?_ ?_; (focus ((simp (disch := omega) only [ix_lt, ix_le, ix_eq, ix_0, nI_clamp, nI_toInt, ng_T, nI_add, nI_mul, nI_sub', Int.neg_zero, not_false_eq_true, not_true_eq_false, hlen] <;> omega); done))) | (refine xbr_t ?_ ?_; (focus ((simp (disch := omega) only [ix_lt, ix_le, ix_eq, ix_0, nI_clamp, nI_toInt, ng_T, nI_add, nI_mul, nI_sub', Int.neg_zero, not_false_eq_true, not_true_eq_false, hlen] <;> omega); done))) | refine ⟨Or.inl rfl, ?_⟩ | refine ⟨Or.inr rfl, ?_⟩ | (refine ⟨?_, ?_⟩; (focus ((try simp (disch := omega) only [hlen, nI_mul, nI_add, nI_sub']); exact in_nI (by omega) (by omega)))))
  (first | (refine xbr_f ?_ ?_; (focus ((simp (disch := omega) only [ix_lt, ix_le, ix_eq, ix_0, nI_clamp, nI_toInt, ng_T, nI_add, nI_mul, nI_sub', Int.neg_zero, not_false_eq_true, not_true_eq_false, hlen] <;> omega); done))) | (refine xbr_t ?_ ?_; (focus ((simp (disch := omega) only [ix_lt, ix_le, ix_eq, ix_0, nI_clamp, nI_toInt, ng_T, nI_add, nI_mul, nI_sub', Int.neg_zero, not_false_eq_true, not_true_eq_false, hlen] <;> omega); done))) | refine ⟨Or.inl rfl, ?_⟩ | refine ⟨Or.inr rfl, ?_⟩ | (refine ⟨?_, ?_⟩; (focus ((try simp (disch := omega) only [hlen, nI_mul, nI_add, nI_sub']); exact in_nI (by omega) (by omega)))))
  refine ⟨rfl, rfl, S, _, _, _, _, _, rfl, hC, fun o S' I' L' hr hf hC' => ?_⟩
  have e0 : I' 0 = I 0 := (hf 0 (Or.inl rfl)).1
  have hlen2 : (I' 0 0).toNatClampNeg = len := by rw [e0]; exact hlen
  (first | (refine xbr_f ?_ ?_; (focus ((simp (disch := omega) only [ix_lt, ix_le, ix_eq, ix_0, nI_clamp, nI_toInt, ng_T, nI_add, nI_mul, nI_sub', Int.neg_zero, not_false_eq_true, not_true_eq_false, hlen2] <;> omega); done))) | (refine xbr_t ?_ ?_; (focus ((simp (disch := omega) only [ix_lt, ix_le, ix_eq, ix_0, nI_clamp, nI_toInt, ng_T, nI_add, nI_mul, nI_sub', Int.neg_zero, not_false_eq_true, not_true_eq_false, hlen2] <;> omega); done))) | refine ⟨Or.inl rfl, ?_⟩ | refine ⟨Or.inr rfl, ?_⟩ | (refine ⟨?_, ?_⟩; (focus ((try simp (disch := omega) only [hlen2, nI_mul, nI_add, nI_sub']); exact in_nI (by omega) (by omega)))))
  (first | (refine xbr_f ?_ ?_; (focus ((simp (disch := omega) only [ix_lt, ix_le, ix_eq, ix_0, nI_clamp, nI_toInt, ng_T, nI_add, nI_mul, nI_sub', Int.neg_zero, not_false_eq_true, not_true_eq_false, hlen2] <;> omega); done))) | (refine xbr_t ?_ ?_; (focus ((simp (disch := omega) only [ix_lt, ix_le, ix_eq, ix_0, nI_clamp, nI_toInt, ng_T, nI_add, nI_mul, nI_sub', Int.neg_zero, not_false_eq_true, not_true_eq_false, hlen2] <;> omega); done))) | refine ⟨Or.inl rfl, ?_⟩ | refine ⟨Or.inr rfl, ?_⟩ | (refine ⟨?_, ?_⟩; (focus ((try simp (disch := omega) only [hlen2, nI_mul, nI_add, nI_sub']); exact in_nI (by omega) (by omega)))))
  (first | (refine xbr_f ?_ ?_; (focus ((simp (disch := omega) only [ix_lt, ix_le, ix_eq, ix_0, nI_clamp, nI_toInt, ng_T, nI_add, nI_mul, nI_sub', Int.neg_zero, not_false_eq_true, not_true_eq_false, hlen2] <;> omega); done))) | (refine xbr_t ?_ ?_; (focus ((simp (disch := omega) only [ix_lt, ix_le, ix_eq, ix_0, nI_clamp, nI_toInt, ng_T, nI_add, nI_mul, nI_sub', Int.neg_zero, not_false_eq_true, not_true_eq_false, hlen2] <;> omega); done))) | refine ⟨Or.inl rfl, ?_⟩ | refine ⟨Or.inr rfl, ?_⟩ | (refine ⟨?_, ?_⟩; (focus ((try simp (disch := omega) only [hlen2, nI_mul, nI_add, nI_sub']); exact in_nI (by omega) (by omega)))))
  (first | (refine xbr_f ?_ ?_; (focus ((simp (disch := omega) only [ix_lt, ix_le, ix_eq, ix_0, nI_clamp, nI_toInt, ng_T, nI_add, nI_mul, nI_sub', Int.neg_zero, not_false_eq_true, not_true_eq_false, hlen2] <;> omega); done))) | (refine xbr_t ?_ ?_; (focus ((simp (disch := omega) only [ix_lt, ix_le, ix_eq, ix_0, nI_clamp, nI_toInt, ng_T, nI_add, nI_mul, nI_sub', Int.neg_zero, not_false_eq_true, not_true_eq_false, hlen2] <;> omega); done))) | refine ⟨Or.inl rfl, ?_⟩ | refine ⟨Or.inr rfl, ?_⟩ | (refine ⟨?_, ?_⟩; (focus ((try simp (disch := omega) only [hlen2, nI_mul, nI_add, nI_sub']); exact in_nI (by omega) (by omega)))))
  (first | (refine xbr_f ?_ ?_; (focus ((simp (disch := omega) only [ix_lt, ix_le, ix_eq, ix_0, nI_clamp, nI_toInt, ng_T, nI_add, nI_mul, nI_sub', Int.neg_zero, not_false_eq_true, not_true_eq_false, hlen2] <;> omega); done))) | (refine xbr_t ?_ ?_; (focus ((simp (disch := omega) only [ix_lt, ix_le, ix_eq, ix_0, nI_clamp, nI_toInt, ng_T, nI_add, nI_mul, nI_sub', Int.neg_zero, not_false_eq_true, not_true_eq_false, hlen2] <;> omega); done))) | refine ⟨Or.inl rfl, ?_⟩ | refine ⟨Or.inr rfl, ?_⟩ | (refine ⟨?_, ?_⟩; (focus ((try simp (disch := omega) only [hlen2, nI_mul, nI_add, nI_sub']); exact in_nI (by omega) (by omega)))))
  refine ⟨rfl, rfl, S, _, _, _, _, _, o, S', rfl, by rw [e0]; exact hr, Ref_fr hR hf, fun I2 L2 hf2 hR2 => ?_⟩
  refine xbr_t rfl ?_
  exact go S' _ _ ((hf2 0 (by decide)).1.trans e0) (Cls_fr hC' hf2) hR2
set_option maxRecDepth 100000 in
theorem law_mean {Q : xQ} {S : ST} {I : xI} {L : xL} {i len : Nat} (h0 : I 0 0 = nI len) (hi : i + 6 ≤ len) (hn : len ≤ 3072) (hC : Cls S I L) (hR : Ref S I L) (go : ∀ (S' : ST) (I' : xI) (L' : xL), I' 0 = I 0 → Cls S' I' L' → Ref S' I' L' → xGo mL_law csL_law 1365 Q [some (.ref 0), some (.ref 1), some (.ref 27), some (.int (nI i))] [] 48 48 I' L' xP0) : xGo mL_law csL_law 411 Q [some (.ref 0), some (.ref 1), some (.ref 27), some (.int (nI i))] [] 48 48 I L xP0 := by
  have hlen : (I 0 0).toNatClampNeg = len := by rw [h0, nI_clamp (by omega)]
  refine xrun okL_law hhL_law [(1365, [true, true, true, true])] 70 ?_
  (first | (refine xbr_f ?_ ?_; (focus ((simp (disch := omega) only [ix_lt, ix_le, ix_eq, ix_0, nI_clamp, nI_toInt, ng_T, nI_add, nI_mul, nI_sub', Int.neg_zero, not_false_eq_true, not_true_eq_false, hlen] <;> omega); done))) | (refine xbr_t ?_ ?_; (focus ((simp (disch := omega) only [ix_lt, ix_le, ix_eq, ix_0, nI_clamp, nI_toInt, ng_T, nI_add, nI_mul, nI_sub', Int.neg_zero, not_false_eq_true, not_true_eq_false, hlen] <;> omega); done))) | refine ⟨Or.inl rfl, ?_⟩ | refine ⟨Or.inr rfl, ?_⟩ | (refine ⟨?_, ?_⟩; (focus ((try simp (disch := omega) only [hlen, nI_mul, nI_add, nI_sub']); exact in_nI (by omega) (by omega)))))
  refine ⟨rfl, rfl, S, _, rfl, hC, fun o S' I' L' hr hf hC' => ?_⟩
  have e0 : I' 0 = I 0 := (hf 0 (Or.inl rfl)).1
  have hlen2 : (I' 0 0).toNatClampNeg = len := by rw [e0]; exact hlen
  (first | (refine xbr_f ?_ ?_; (focus ((simp (disch := omega) only [ix_lt, ix_le, ix_eq, ix_0, nI_clamp, nI_toInt, ng_T, nI_add, nI_mul, nI_sub', Int.neg_zero, not_false_eq_true, not_true_eq_false, hlen2] <;> omega); done))) | (refine xbr_t ?_ ?_; (focus ((simp (disch := omega) only [ix_lt, ix_le, ix_eq, ix_0, nI_clamp, nI_toInt, ng_T, nI_add, nI_mul, nI_sub', Int.neg_zero, not_false_eq_true, not_true_eq_false, hlen2] <;> omega); done))) | refine ⟨Or.inl rfl, ?_⟩ | refine ⟨Or.inr rfl, ?_⟩ | (refine ⟨?_, ?_⟩; (focus ((try simp (disch := omega) only [hlen2, nI_mul, nI_add, nI_sub']); exact in_nI (by omega) (by omega)))))
  refine ⟨rfl, rfl, S, _, o, S', rfl, by rw [e0]; exact hr, Ref_fr hR hf, fun I2 L2 hf2 hR2 => ?_⟩
  refine xbr_t rfl ?_
  exact go S' _ _ ((hf2 0 (by decide)).1.trans e0) (Cls_fr hC' hf2) hR2
set_option maxRecDepth 100000 in
theorem law_text {Q : xQ} {S : ST} {I : xI} {L : xL} {i len : Nat} (h0 : I 0 0 = nI len) (hi : i + 6 ≤ len) (hn : len ≤ 3072) (hC : Cls S I L) (hR : Ref S I L) (go : ∀ (S' : ST) (I' : xI) (L' : xL), I' 0 = I 0 → Cls S' I' L' → Ref S' I' L' → xGo mL_law csL_law 1365 Q [some (.ref 0), some (.ref 1), some (.ref 27), some (.int (nI i))] [] 48 48 I' L' xP0) : xGo mL_law csL_law 434 Q [some (.ref 0), some (.ref 1), some (.ref 27), some (.int (nI i))] [] 48 48 I L xP0 := by
  have hlen : (I 0 0).toNatClampNeg = len := by rw [h0, nI_clamp (by omega)]
  refine xrun okL_law hhL_law [(1365, [true, true, true, true])] 70 ?_
  (first | (refine xbr_f ?_ ?_; (focus ((simp (disch := omega) only [ix_lt, ix_le, ix_eq, ix_0, nI_clamp, nI_toInt, ng_T, nI_add, nI_mul, nI_sub', Int.neg_zero, not_false_eq_true, not_true_eq_false, hlen] <;> omega); done))) | (refine xbr_t ?_ ?_; (focus ((simp (disch := omega) only [ix_lt, ix_le, ix_eq, ix_0, nI_clamp, nI_toInt, ng_T, nI_add, nI_mul, nI_sub', Int.neg_zero, not_false_eq_true, not_true_eq_false, hlen] <;> omega); done))) | refine ⟨Or.inl rfl, ?_⟩ | refine ⟨Or.inr rfl, ?_⟩ | (refine ⟨?_, ?_⟩; (focus ((try simp (disch := omega) only [hlen, nI_mul, nI_add, nI_sub']); exact in_nI (by omega) (by omega)))))
  (first | (refine xbr_f ?_ ?_; (focus ((simp (disch := omega) only [ix_lt, ix_le, ix_eq, ix_0, nI_clamp, nI_toInt, ng_T, nI_add, nI_mul, nI_sub', Int.neg_zero, not_false_eq_true, not_true_eq_false, hlen] <;> omega); done))) | (refine xbr_t ?_ ?_; (focus ((simp (disch := omega) only [ix_lt, ix_le, ix_eq, ix_0, nI_clamp, nI_toInt, ng_T, nI_add, nI_mul, nI_sub', Int.neg_zero, not_false_eq_true, not_true_eq_false, hlen] <;> omega); done))) | refine ⟨Or.inl rfl, ?_⟩ | refine ⟨Or.inr rfl, ?_⟩ | (refine ⟨?_, ?_⟩; (focus ((try simp (disch := omega) only [hlen, nI_mul, nI_add, nI_sub']); exact in_nI (by omega) (by omega)))))
  refine ⟨rfl, rfl, S, _, _, rfl, hC, fun o S' I' L' hr hf hC' => ?_⟩
  have e0 : I' 0 = I 0 := (hf 0 (Or.inl rfl)).1
  have hlen2 : (I' 0 0).toNatClampNeg = len := by rw [e0]; exact hlen
  (first | (refine xbr_f ?_ ?_; (focus ((simp (disch := omega) only [ix_lt, ix_le, ix_eq, ix_0, nI_clamp, nI_toInt, ng_T, nI_add, nI_mul, nI_sub', Int.neg_zero, not_false_eq_true, not_true_eq_false, hlen2] <;> omega); done))) | (refine xbr_t ?_ ?_; (focus ((simp (disch := omega) only [ix_lt, ix_le, ix_eq, ix_0, nI_clamp, nI_toInt, ng_T, nI_add, nI_mul, nI_sub', Int.neg_zero, not_false_eq_true, not_true_eq_false, hlen2] <;> omega); done))) | refine ⟨Or.inl rfl, ?_⟩ | refine ⟨Or.inr rfl, ?_⟩ | (refine ⟨?_, ?_⟩; (focus ((try simp (disch := omega) only [hlen2, nI_mul, nI_add, nI_sub']); exact in_nI (by omega) (by omega)))))
  (first | (refine xbr_f ?_ ?_; (focus ((simp (disch := omega) only [ix_lt, ix_le, ix_eq, ix_0, nI_clamp, nI_toInt, ng_T, nI_add, nI_mul, nI_sub', Int.neg_zero, not_false_eq_true, not_true_eq_false, hlen2] <;> omega); done))) | (refine xbr_t ?_ ?_; (focus ((simp (disch := omega) only [ix_lt, ix_le, ix_eq, ix_0, nI_clamp, nI_toInt, ng_T, nI_add, nI_mul, nI_sub', Int.neg_zero, not_false_eq_true, not_true_eq_false, hlen2] <;> omega); done))) | refine ⟨Or.inl rfl, ?_⟩ | refine ⟨Or.inr rfl, ?_⟩ | (refine ⟨?_, ?_⟩; (focus ((try simp (disch := omega) only [hlen2, nI_mul, nI_add, nI_sub']); exact in_nI (by omega) (by omega)))))
  refine ⟨rfl, rfl, S, _, _, o, S', rfl, by rw [e0]; exact hr, hC'.ok, Ref_fr hR hf, fun I2 L2 hf2 hR2 => ?_⟩
  refine xbr_t rfl ?_
  exact go S' _ _ ((hf2 0 (by decide)).1.trans e0) (Cls_fr hC' hf2) hR2
set_option maxRecDepth 100000 in
theorem law_put {Q : xQ} {S : ST} {I : xI} {L : xL} {i len : Nat} (h0 : I 0 0 = nI len) (hi : i + 6 ≤ len) (hn : len ≤ 3072) (hC : Cls S I L) (hR : Ref S I L) (go : ∀ (S' : ST) (I' : xI) (L' : xL), I' 0 = I 0 → Cls S' I' L' → Ref S' I' L' → xGo mL_law csL_law 1365 Q [some (.ref 0), some (.ref 1), some (.ref 27), some (.int (nI i))] [] 48 48 I' L' xP0) : xGo mL_law csL_law 467 Q [some (.ref 0), some (.ref 1), some (.ref 27), some (.int (nI i))] [] 48 48 I L xP0 := by
  have hlen : (I 0 0).toNatClampNeg = len := by rw [h0, nI_clamp (by omega)]
  refine xrun okL_law hhL_law [(1365, [true, true, true, true])] 70 ?_
  (first | (refine xbr_f ?_ ?_; (focus ((simp (disch := omega) only [ix_lt, ix_le, ix_eq, ix_0, nI_clamp, nI_toInt, ng_T, nI_add, nI_mul, nI_sub', Int.neg_zero, not_false_eq_true, not_true_eq_false, hlen] <;> omega); done))) | (refine xbr_t ?_ ?_; (focus ((simp (disch := omega) only [ix_lt, ix_le, ix_eq, ix_0, nI_clamp, nI_toInt, ng_T, nI_add, nI_mul, nI_sub', Int.neg_zero, not_false_eq_true, not_true_eq_false, hlen] <;> omega); done))) | refine ⟨Or.inl rfl, ?_⟩ | refine ⟨Or.inr rfl, ?_⟩ | (refine ⟨?_, ?_⟩; (focus ((try simp (disch := omega) only [hlen, nI_mul, nI_add, nI_sub']); exact in_nI (by omega) (by omega)))))
  (first | (refine xbr_f ?_ ?_; (focus ((simp (disch := omega) only [ix_lt, ix_le, ix_eq, ix_0, nI_clamp, nI_toInt, ng_T, nI_add, nI_mul, nI_sub', Int.neg_zero, not_false_eq_true, not_true_eq_false, hlen] <;> omega); done))) | (refine xbr_t ?_ ?_; (focus ((simp (disch := omega) only [ix_lt, ix_le, ix_eq, ix_0, nI_clamp, nI_toInt, ng_T, nI_add, nI_mul, nI_sub', Int.neg_zero, not_false_eq_true, not_true_eq_false, hlen] <;> omega); done))) | refine ⟨Or.inl rfl, ?_⟩ | refine ⟨Or.inr rfl, ?_⟩ | (refine ⟨?_, ?_⟩; (focus ((try simp (disch := omega) only [hlen, nI_mul, nI_add, nI_sub']); exact in_nI (by omega) (by omega)))))
  (first | (refine xbr_f ?_ ?_; (focus ((simp (disch := omega) only [ix_lt, ix_le, ix_eq, ix_0, nI_clamp, nI_toInt, ng_T, nI_add, nI_mul, nI_sub', Int.neg_zero, not_false_eq_true, not_true_eq_false, hlen] <;> omega); done))) | (refine xbr_t ?_ ?_; (focus ((simp (disch := omega) only [ix_lt, ix_le, ix_eq, ix_0, nI_clamp, nI_toInt, ng_T, nI_add, nI_mul, nI_sub', Int.neg_zero, not_false_eq_true, not_true_eq_false, hlen] <;> omega); done))) | refine ⟨Or.inl rfl, ?_⟩ | refine ⟨Or.inr rfl, ?_⟩ | (refine ⟨?_, ?_⟩; (focus ((try simp (disch := omega) only [hlen, nI_mul, nI_add, nI_sub']); exact in_nI (by omega) (by omega)))))
  refine ⟨rfl, rfl, S, _, _, _, rfl, hC, fun o S' I' L' hr hf hC' => ?_⟩
  have e0 : I' 0 = I 0 := (hf 0 (Or.inl rfl)).1
  have hlen2 : (I' 0 0).toNatClampNeg = len := by rw [e0]; exact hlen
  (first | (refine xbr_f ?_ ?_; (focus ((simp (disch := omega) only [ix_lt, ix_le, ix_eq, ix_0, nI_clamp, nI_toInt, ng_T, nI_add, nI_mul, nI_sub', Int.neg_zero, not_false_eq_true, not_true_eq_false, hlen2] <;> omega); done))) | (refine xbr_t ?_ ?_; (focus ((simp (disch := omega) only [ix_lt, ix_le, ix_eq, ix_0, nI_clamp, nI_toInt, ng_T, nI_add, nI_mul, nI_sub', Int.neg_zero, not_false_eq_true, not_true_eq_false, hlen2] <;> omega); done))) | refine ⟨Or.inl rfl, ?_⟩ | refine ⟨Or.inr rfl, ?_⟩ | (refine ⟨?_, ?_⟩; (focus ((try simp (disch := omega) only [hlen2, nI_mul, nI_add, nI_sub']); exact in_nI (by omega) (by omega)))))
  (first | (refine xbr_f ?_ ?_; (focus ((simp (disch := omega) only [ix_lt, ix_le, ix_eq, ix_0, nI_clamp, nI_toInt, ng_T, nI_add, nI_mul, nI_sub', Int.neg_zero, not_false_eq_true, not_true_eq_false, hlen2] <;> omega); done))) | (refine xbr_t ?_ ?_; (focus ((simp (disch := omega) only [ix_lt, ix_le, ix_eq, ix_0, nI_clamp, nI_toInt, ng_T, nI_add, nI_mul, nI_sub', Int.neg_zero, not_false_eq_true, not_true_eq_false, hlen2] <;> omega); done))) | refine ⟨Or.inl rfl, ?_⟩ | refine ⟨Or.inr rfl, ?_⟩ | (refine ⟨?_, ?_⟩; (focus ((try simp (disch := omega) only [hlen2, nI_mul, nI_add, nI_sub']); exact in_nI (by omega) (by omega)))))
  (first | (refine xbr_f ?_ ?_; (focus ((simp (disch := omega) only [ix_lt, ix_le, ix_eq, ix_0, nI_clamp, nI_toInt, ng_T, nI_add, nI_mul, nI_sub', Int.neg_zero, not_false_eq_true, not_true_eq_false, hlen2] <;> omega); done))) | (refine xbr_t ?_ ?_; (focus ((simp (disch := omega) only [ix_lt, ix_le, ix_eq, ix_0, nI_clamp, nI_toInt, ng_T, nI_add, nI_mul, nI_sub', Int.neg_zero, not_false_eq_true, not_true_eq_false, hlen2] <;> omega); done))) | refine ⟨Or.inl rfl, ?_⟩ | refine ⟨Or.inr rfl, ?_⟩ | (refine ⟨?_, ?_⟩; (focus ((try simp (disch := omega) only [hlen2, nI_mul, nI_add, nI_sub']); exact in_nI (by omega) (by omega)))))
  refine ⟨rfl, rfl, S, _, _, _, o, S', rfl, by rw [e0]; exact hr, hC'.ok, Ref_fr hR hf, fun I2 L2 hf2 hR2 => ?_⟩
  refine xbr_t rfl ?_
  exact go S' _ _ ((hf2 0 (by decide)).1.trans e0) (Cls_fr hC' hf2) hR2
set_option maxRecDepth 100000 in
theorem law_fault {Q : xQ} {S : ST} {I : xI} {L : xL} {i len : Nat} (h0 : I 0 0 = nI len) (hi : i + 6 ≤ len) (hn : len ≤ 3072) (hC : Cls S I L) (hR : Ref S I L) (go : ∀ (S' : ST) (I' : xI) (L' : xL), I' 0 = I 0 → Cls S' I' L' → Ref S' I' L' → xGo mL_law csL_law 1365 Q [some (.ref 0), some (.ref 1), some (.ref 27), some (.int (nI i))] [] 48 48 I' L' xP0) : xGo mL_law csL_law 510 Q [some (.ref 0), some (.ref 1), some (.ref 27), some (.int (nI i))] [] 48 48 I L xP0 := by
  have hlen : (I 0 0).toNatClampNeg = len := by rw [h0, nI_clamp (by omega)]
  refine xrun okL_law hhL_law [(1365, [true, true, true, true])] 70 ?_
  (first | (refine xbr_f ?_ ?_; (focus ((simp (disch := omega) only [ix_lt, ix_le, ix_eq, ix_0, nI_clamp, nI_toInt, ng_T, nI_add, nI_mul, nI_sub', Int.neg_zero, not_false_eq_true, not_true_eq_false, hlen] <;> omega); done))) | (refine xbr_t ?_ ?_; (focus ((simp (disch := omega) only [ix_lt, ix_le, ix_eq, ix_0, nI_clamp, nI_toInt, ng_T, nI_add, nI_mul, nI_sub', Int.neg_zero, not_false_eq_true, not_true_eq_false, hlen] <;> omega); done))) | refine ⟨Or.inl rfl, ?_⟩ | refine ⟨Or.inr rfl, ?_⟩ | (refine ⟨?_, ?_⟩; (focus ((try simp (disch := omega) only [hlen, nI_mul, nI_add, nI_sub']); exact in_nI (by omega) (by omega)))))
  refine ⟨rfl, rfl, S, _, rfl, hC, fun o S' I' L' hr hf hC' => ?_⟩
  have e0 : I' 0 = I 0 := (hf 0 (Or.inl rfl)).1
  have hlen2 : (I' 0 0).toNatClampNeg = len := by rw [e0]; exact hlen
  (first | (refine xbr_f ?_ ?_; (focus ((simp (disch := omega) only [ix_lt, ix_le, ix_eq, ix_0, nI_clamp, nI_toInt, ng_T, nI_add, nI_mul, nI_sub', Int.neg_zero, not_false_eq_true, not_true_eq_false, hlen2] <;> omega); done))) | (refine xbr_t ?_ ?_; (focus ((simp (disch := omega) only [ix_lt, ix_le, ix_eq, ix_0, nI_clamp, nI_toInt, ng_T, nI_add, nI_mul, nI_sub', Int.neg_zero, not_false_eq_true, not_true_eq_false, hlen2] <;> omega); done))) | refine ⟨Or.inl rfl, ?_⟩ | refine ⟨Or.inr rfl, ?_⟩ | (refine ⟨?_, ?_⟩; (focus ((try simp (disch := omega) only [hlen2, nI_mul, nI_add, nI_sub']); exact in_nI (by omega) (by omega)))))
  refine ⟨rfl, rfl, S, _, o, S', rfl, by rw [e0]; exact hr, Ref_fr hR hf, fun I2 L2 hf2 hR2 => ?_⟩
  refine xbr_t rfl ?_
  exact go S' _ _ ((hf2 0 (by decide)).1.trans e0) (Cls_fr hC' hf2) hR2
set_option maxRecDepth 100000 in
theorem law_plain {Q : xQ} {S : ST} {I : xI} {L : xL} {i len : Nat} (h0 : I 0 0 = nI len) (hi : i + 6 ≤ len) (hn : len ≤ 3072) (hC : Cls S I L) (hR : Ref S I L) (go : ∀ (S' : ST) (I' : xI) (L' : xL), I' 0 = I 0 → Cls S' I' L' → Ref S' I' L' → xGo mL_law csL_law 1365 Q [some (.ref 0), some (.ref 1), some (.ref 27), some (.int (nI i))] [] 48 48 I' L' xP0) : xGo mL_law csL_law 533 Q [some (.ref 0), some (.ref 1), some (.ref 27), some (.int (nI i))] [] 48 48 I L xP0 := by
  have hlen : (I 0 0).toNatClampNeg = len := by rw [h0, nI_clamp (by omega)]
  refine xrun okL_law hhL_law [(1365, [true, true, true, true])] 70 ?_
  (first | (refine xbr_f ?_ ?_; (focus ((simp (disch := omega) only [ix_lt, ix_le, ix_eq, ix_0, nI_clamp, nI_toInt, ng_T, nI_add, nI_mul, nI_sub', Int.neg_zero, not_false_eq_true, not_true_eq_false, hlen] <;> omega); done))) | (refine xbr_t ?_ ?_; (focus ((simp (disch := omega) only [ix_lt, ix_le, ix_eq, ix_0, nI_clamp, nI_toInt, ng_T, nI_add, nI_mul, nI_sub', Int.neg_zero, not_false_eq_true, not_true_eq_false, hlen] <;> omega); done))) | refine ⟨Or.inl rfl, ?_⟩ | refine ⟨Or.inr rfl, ?_⟩ | (refine ⟨?_, ?_⟩; (focus ((try simp (disch := omega) only [hlen, nI_mul, nI_add, nI_sub']); exact in_nI (by omega) (by omega)))))
  refine ⟨rfl, rfl, S, _, rfl, hC, fun o S' I' L' hr hf hC' => ?_⟩
  have e0 : I' 0 = I 0 := (hf 0 (Or.inl rfl)).1
  have hlen2 : (I' 0 0).toNatClampNeg = len := by rw [e0]; exact hlen
  (first | (refine xbr_f ?_ ?_; (focus ((simp (disch := omega) only [ix_lt, ix_le, ix_eq, ix_0, nI_clamp, nI_toInt, ng_T, nI_add, nI_mul, nI_sub', Int.neg_zero, not_false_eq_true, not_true_eq_false, hlen2] <;> omega); done))) | (refine xbr_t ?_ ?_; (focus ((simp (disch := omega) only [ix_lt, ix_le, ix_eq, ix_0, nI_clamp, nI_toInt, ng_T, nI_add, nI_mul, nI_sub', Int.neg_zero, not_false_eq_true, not_true_eq_false, hlen2] <;> omega); done))) | refine ⟨Or.inl rfl, ?_⟩ | refine ⟨Or.inr rfl, ?_⟩ | (refine ⟨?_, ?_⟩; (focus ((try simp (disch := omega) only [hlen2, nI_mul, nI_add, nI_sub']); exact in_nI (by omega) (by omega)))))
  refine ⟨rfl, rfl, S, _, o, S', rfl, by rw [e0]; exact hr, Ref_fr hR hf, fun I2 L2 hf2 hR2 => ?_⟩
  refine xbr_t rfl ?_
  exact go S' _ _ ((hf2 0 (by decide)).1.trans e0) (Cls_fr hC' hf2) hR2
set_option maxRecDepth 100000 in
theorem law_ass {Q : xQ} {S : ST} {I : xI} {L : xL} {i len : Nat} (h0 : I 0 0 = nI len) (hi : i + 6 ≤ len) (hn : len ≤ 3072) (hC : Cls S I L) (hR : Ref S I L) (go : ∀ (S' : ST) (I' : xI) (L' : xL), I' 0 = I 0 → Cls S' I' L' → Ref S' I' L' → xGo mL_law csL_law 1365 Q [some (.ref 0), some (.ref 1), some (.ref 27), some (.int (nI i))] [] 48 48 I' L' xP0) : xGo mL_law csL_law 556 Q [some (.ref 0), some (.ref 1), some (.ref 27), some (.int (nI i))] [] 48 48 I L xP0 := by
  have hlen : (I 0 0).toNatClampNeg = len := by rw [h0, nI_clamp (by omega)]
  refine xrun okL_law hhL_law [(1365, [true, true, true, true])] 70 ?_
  (first | (refine xbr_f ?_ ?_; (focus ((simp (disch := omega) only [ix_lt, ix_le, ix_eq, ix_0, nI_clamp, nI_toInt, ng_T, nI_add, nI_mul, nI_sub', Int.neg_zero, not_false_eq_true, not_true_eq_false, hlen] <;> omega); done))) | (refine xbr_t ?_ ?_; (focus ((simp (disch := omega) only [ix_lt, ix_le, ix_eq, ix_0, nI_clamp, nI_toInt, ng_T, nI_add, nI_mul, nI_sub', Int.neg_zero, not_false_eq_true, not_true_eq_false, hlen] <;> omega); done))) | refine ⟨Or.inl rfl, ?_⟩ | refine ⟨Or.inr rfl, ?_⟩ | (refine ⟨?_, ?_⟩; (focus ((try simp (disch := omega) only [hlen, nI_mul, nI_add, nI_sub']); exact in_nI (by omega) (by omega)))))
  (first | (refine xbr_f ?_ ?_; (focus ((simp (disch := omega) only [ix_lt, ix_le, ix_eq, ix_0, nI_clamp, nI_toInt, ng_T, nI_add, nI_mul, nI_sub', Int.neg_zero, not_false_eq_true, not_true_eq_false, hlen] <;> omega); done))) | (refine xbr_t ?_ ?_; (focus ((simp (disch := omega) only [ix_lt, ix_le, ix_eq, ix_0, nI_clamp, nI_toInt, ng_T, nI_add, nI_mul, nI_sub', Int.neg_zero, not_false_eq_true, not_true_eq_false, hlen] <;> omega); done))) | refine ⟨Or.inl rfl, ?_⟩ | refine ⟨Or.inr rfl, ?_⟩ | (refine ⟨?_, ?_⟩; (focus ((try simp (disch := omega) only [hlen, nI_mul, nI_add, nI_sub']); exact in_nI (by omega) (by omega)))))
  refine ⟨rfl, rfl, S, _, _, rfl, hC, fun o S' I' L' hr hf hC' => ?_⟩
  have e0 : I' 0 = I 0 := (hf 0 (Or.inl rfl)).1
  have hlen2 : (I' 0 0).toNatClampNeg = len := by rw [e0]; exact hlen
  (first | (refine xbr_f ?_ ?_; (focus ((simp (disch := omega) only [ix_lt, ix_le, ix_eq, ix_0, nI_clamp, nI_toInt, ng_T, nI_add, nI_mul, nI_sub', Int.neg_zero, not_false_eq_true, not_true_eq_false, hlen2] <;> omega); done))) | (refine xbr_t ?_ ?_; (focus ((simp (disch := omega) only [ix_lt, ix_le, ix_eq, ix_0, nI_clamp, nI_toInt, ng_T, nI_add, nI_mul, nI_sub', Int.neg_zero, not_false_eq_true, not_true_eq_false, hlen2] <;> omega); done))) | refine ⟨Or.inl rfl, ?_⟩ | refine ⟨Or.inr rfl, ?_⟩ | (refine ⟨?_, ?_⟩; (focus ((try simp (disch := omega) only [hlen2, nI_mul, nI_add, nI_sub']); exact in_nI (by omega) (by omega)))))
  (first | (refine xbr_f ?_ ?_; (focus ((simp (disch := omega) only [ix_lt, ix_le, ix_eq, ix_0, nI_clamp, nI_toInt, ng_T, nI_add, nI_mul, nI_sub', Int.neg_zero, not_false_eq_true, not_true_eq_false, hlen2] <;> omega); done))) | (refine xbr_t ?_ ?_; (focus ((simp (disch := omega) only [ix_lt, ix_le, ix_eq, ix_0, nI_clamp, nI_toInt, ng_T, nI_add, nI_mul, nI_sub', Int.neg_zero, not_false_eq_true, not_true_eq_false, hlen2] <;> omega); done))) | refine ⟨Or.inl rfl, ?_⟩ | refine ⟨Or.inr rfl, ?_⟩ | (refine ⟨?_, ?_⟩; (focus ((try simp (disch := omega) only [hlen2, nI_mul, nI_add, nI_sub']); exact in_nI (by omega) (by omega)))))
  refine ⟨rfl, rfl, S, _, _, o, S', rfl, by rw [e0]; exact hr, Ref_fr hR hf, fun I2 L2 hf2 hR2 => ?_⟩
  refine xbr_t rfl ?_
  exact go S' _ _ ((hf2 0 (by decide)).1.trans e0) (Cls_fr hC' hf2) hR2
set_option maxRecDepth 100000 in
theorem law_load {Q : xQ} {S : ST} {I : xI} {L : xL} {i len : Nat} (h0 : I 0 0 = nI len) (hi : i + 6 ≤ len) (hn : len ≤ 3072) (hC : Cls S I L) (hR : Ref S I L) (go : ∀ (S' : ST) (I' : xI) (L' : xL), I' 0 = I 0 → Cls S' I' L' → Ref S' I' L' → xGo mL_law csL_law 1365 Q [some (.ref 0), some (.ref 1), some (.ref 27), some (.int (nI i))] [] 48 48 I' L' xP0) : xGo mL_law csL_law 589 Q [some (.ref 0), some (.ref 1), some (.ref 27), some (.int (nI i))] [] 48 48 I L xP0 := by
  have hlen : (I 0 0).toNatClampNeg = len := by rw [h0, nI_clamp (by omega)]
  refine xrun okL_law hhL_law [(1365, [true, true, true, true])] 70 ?_
  (first | (refine xbr_f ?_ ?_; (focus ((simp (disch := omega) only [ix_lt, ix_le, ix_eq, ix_0, nI_clamp, nI_toInt, ng_T, nI_add, nI_mul, nI_sub', Int.neg_zero, not_false_eq_true, not_true_eq_false, hlen] <;> omega); done))) | (refine xbr_t ?_ ?_; (focus ((simp (disch := omega) only [ix_lt, ix_le, ix_eq, ix_0, nI_clamp, nI_toInt, ng_T, nI_add, nI_mul, nI_sub', Int.neg_zero, not_false_eq_true, not_true_eq_false, hlen] <;> omega); done))) | refine ⟨Or.inl rfl, ?_⟩ | refine ⟨Or.inr rfl, ?_⟩ | (refine ⟨?_, ?_⟩; (focus ((try simp (disch := omega) only [hlen, nI_mul, nI_add, nI_sub']); exact in_nI (by omega) (by omega)))))
  (first | (refine xbr_f ?_ ?_; (focus ((simp (disch := omega) only [ix_lt, ix_le, ix_eq, ix_0, nI_clamp, nI_toInt, ng_T, nI_add, nI_mul, nI_sub', Int.neg_zero, not_false_eq_true, not_true_eq_false, hlen] <;> omega); done))) | (refine xbr_t ?_ ?_; (focus ((simp (disch := omega) only [ix_lt, ix_le, ix_eq, ix_0, nI_clamp, nI_toInt, ng_T, nI_add, nI_mul, nI_sub', Int.neg_zero, not_false_eq_true, not_true_eq_false, hlen] <;> omega); done))) | refine ⟨Or.inl rfl, ?_⟩ | refine ⟨Or.inr rfl, ?_⟩ | (refine ⟨?_, ?_⟩; (focus ((try simp (disch := omega) only [hlen, nI_mul, nI_add, nI_sub']); exact in_nI (by omega) (by omega)))))
  refine ⟨rfl, rfl, S, _, _, rfl, hC, fun o S' I' L' hr hf hC' => ?_⟩
  have e0 : I' 0 = I 0 := (hf 0 (Or.inl rfl)).1
  have hlen2 : (I' 0 0).toNatClampNeg = len := by rw [e0]; exact hlen
  (first | (refine xbr_f ?_ ?_; (focus ((simp (disch := omega) only [ix_lt, ix_le, ix_eq, ix_0, nI_clamp, nI_toInt, ng_T, nI_add, nI_mul, nI_sub', Int.neg_zero, not_false_eq_true, not_true_eq_false, hlen2] <;> omega); done))) | (refine xbr_t ?_ ?_; (focus ((simp (disch := omega) only [ix_lt, ix_le, ix_eq, ix_0, nI_clamp, nI_toInt, ng_T, nI_add, nI_mul, nI_sub', Int.neg_zero, not_false_eq_true, not_true_eq_false, hlen2] <;> omega); done))) | refine ⟨Or.inl rfl, ?_⟩ | refine ⟨Or.inr rfl, ?_⟩ | (refine ⟨?_, ?_⟩; (focus ((try simp (disch := omega) only [hlen2, nI_mul, nI_add, nI_sub']); exact in_nI (by omega) (by omega)))))
  (first | (refine xbr_f ?_ ?_; (focus ((simp (disch := omega) only [ix_lt, ix_le, ix_eq, ix_0, nI_clamp, nI_toInt, ng_T, nI_add, nI_mul, nI_sub', Int.neg_zero, not_false_eq_true, not_true_eq_false, hlen2] <;> omega); done))) | (refine xbr_t ?_ ?_; (focus ((simp (disch := omega) only [ix_lt, ix_le, ix_eq, ix_0, nI_clamp, nI_toInt, ng_T, nI_add, nI_mul, nI_sub', Int.neg_zero, not_false_eq_true, not_true_eq_false, hlen2] <;> omega); done))) | refine ⟨Or.inl rfl, ?_⟩ | refine ⟨Or.inr rfl, ?_⟩ | (refine ⟨?_, ?_⟩; (focus ((try simp (disch := omega) only [hlen2, nI_mul, nI_add, nI_sub']); exact in_nI (by omega) (by omega)))))
  refine ⟨rfl, rfl, S, _, _, o, S', rfl, by rw [e0]; exact hr, Ref_fr hR hf, fun I2 L2 hf2 hR2 => ?_⟩
  refine xbr_t rfl ?_
  exact go S' _ _ ((hf2 0 (by decide)).1.trans e0) (Cls_fr hC' hf2) hR2
set_option maxRecDepth 100000 in
theorem law_mark {Q : xQ} {S : ST} {I : xI} {L : xL} {i len : Nat} (h0 : I 0 0 = nI len) (hi : i + 6 ≤ len) (hn : len ≤ 3072) (hC : Cls S I L) (hR : Ref S I L) (go : ∀ (S' : ST) (I' : xI) (L' : xL), I' 0 = I 0 → Cls S' I' L' → Ref S' I' L' → xGo mL_law csL_law 1365 Q [some (.ref 0), some (.ref 1), some (.ref 27), some (.int (nI i))] [] 48 48 I' L' xP0) : xGo mL_law csL_law 622 Q [some (.ref 0), some (.ref 1), some (.ref 27), some (.int (nI i))] [] 48 48 I L xP0 := by
  have hlen : (I 0 0).toNatClampNeg = len := by rw [h0, nI_clamp (by omega)]
  refine xrun okL_law hhL_law [(1365, [true, true, true, true])] 70 ?_
  (first | (refine xbr_f ?_ ?_; (focus ((simp (disch := omega) only [ix_lt, ix_le, ix_eq, ix_0, nI_clamp, nI_toInt, ng_T, nI_add, nI_mul, nI_sub', Int.neg_zero, not_false_eq_true, not_true_eq_false, hlen] <;> omega); done))) | (refine xbr_t ?_ ?_; (focus ((simp (disch := omega) only [ix_lt, ix_le, ix_eq, ix_0, nI_clamp, nI_toInt, ng_T, nI_add, nI_mul, nI_sub', Int.neg_zero, not_false_eq_true, not_true_eq_false, hlen] <;> omega); done))) | refine ⟨Or.inl rfl, ?_⟩ | refine ⟨Or.inr rfl, ?_⟩ | (refine ⟨?_, ?_⟩; (focus ((try simp (disch := omega) only [hlen, nI_mul, nI_add, nI_sub']); exact in_nI (by omega) (by omega)))))
  (first | (refine xbr_f ?_ ?_; (focus ((simp (disch := omega) only [ix_lt, ix_le, ix_eq, ix_0, nI_clamp, nI_toInt, ng_T, nI_add, nI_mul, nI_sub', Int.neg_zero, not_false_eq_true, not_true_eq_false, hlen] <;> omega); done))) | (refine xbr_t ?_ ?_; (focus ((simp (disch := omega) only [ix_lt, ix_le, ix_eq, ix_0, nI_clamp, nI_toInt, ng_T, nI_add, nI_mul, nI_sub', Int.neg_zero, not_false_eq_true, not_true_eq_false, hlen] <;> omega); done))) | refine ⟨Or.inl rfl, ?_⟩ | refine ⟨Or.inr rfl, ?_⟩ | (refine ⟨?_, ?_⟩; (focus ((try simp (disch := omega) only [hlen, nI_mul, nI_add, nI_sub']); exact in_nI (by omega) (by omega)))))
  refine ⟨rfl, rfl, S, _, _, rfl, hC, fun o S' I' L' hr hf hC' => ?_⟩
  have e0 : I' 0 = I 0 := (hf 0 (Or.inl rfl)).1
  have hlen2 : (I' 0 0).toNatClampNeg = len := by rw [e0]; exact hlen
  (first | (refine xbr_f ?_ ?_; (focus ((simp (disch := omega) only [ix_lt, ix_le, ix_eq, ix_0, nI_clamp, nI_toInt, ng_T, nI_add, nI_mul, nI_sub', Int.neg_zero, not_false_eq_true, not_true_eq_false, hlen2] <;> omega); done))) | (refine xbr_t ?_ ?_; (focus ((simp (disch := omega) only [ix_lt, ix_le, ix_eq, ix_0, nI_clamp, nI_toInt, ng_T, nI_add, nI_mul, nI_sub', Int.neg_zero, not_false_eq_true, not_true_eq_false, hlen2] <;> omega); done))) | refine ⟨Or.inl rfl, ?_⟩ | refine ⟨Or.inr rfl, ?_⟩ | (refine ⟨?_, ?_⟩; (focus ((try simp (disch := omega) only [hlen2, nI_mul, nI_add, nI_sub']); exact in_nI (by omega) (by omega)))))
  (first | (refine xbr_f ?_ ?_; (focus ((simp (disch := omega) only [ix_lt, ix_le, ix_eq, ix_0, nI_clamp, nI_toInt, ng_T, nI_add, nI_mul, nI_sub', Int.neg_zero, not_false_eq_true, not_true_eq_false, hlen2] <;> omega); done))) | (refine xbr_t ?_ ?_; (focus ((simp (disch := omega) only [ix_lt, ix_le, ix_eq, ix_0, nI_clamp, nI_toInt, ng_T, nI_add, nI_mul, nI_sub', Int.neg_zero, not_false_eq_true, not_true_eq_false, hlen2] <;> omega); done))) | refine ⟨Or.inl rfl, ?_⟩ | refine ⟨Or.inr rfl, ?_⟩ | (refine ⟨?_, ?_⟩; (focus ((try simp (disch := omega) only [hlen2, nI_mul, nI_add, nI_sub']); exact in_nI (by omega) (by omega)))))
  refine ⟨rfl, rfl, S, _, _, o, S', rfl, by rw [e0]; exact hr, Ref_fr hR hf, fun I2 L2 hf2 hR2 => ?_⟩
  refine xbr_t rfl ?_
  exact go S' _ _ ((hf2 0 (by decide)).1.trans e0) (Cls_fr hC' hf2) hR2
set_option maxRecDepth 100000 in
theorem law_day {Q : xQ} {S : ST} {I : xI} {L : xL} {i len : Nat} (h0 : I 0 0 = nI len) (hi : i + 6 ≤ len) (hn : len ≤ 3072) (hC : Cls S I L) (hR : Ref S I L) (go : ∀ (S' : ST) (I' : xI) (L' : xL), I' 0 = I 0 → Cls S' I' L' → Ref S' I' L' → xGo mL_law csL_law 1365 Q [some (.ref 0), some (.ref 1), some (.ref 27), some (.int (nI i))] [] 48 48 I' L' xP0) : xGo mL_law csL_law 655 Q [some (.ref 0), some (.ref 1), some (.ref 27), some (.int (nI i))] [] 48 48 I L xP0 := by
  have hlen : (I 0 0).toNatClampNeg = len := by rw [h0, nI_clamp (by omega)]
  refine xrun okL_law hhL_law [(1365, [true, true, true, true])] 70 ?_
  refine ⟨rfl, rfl, S, rfl, hC, fun o S' I' L' hr hf hC' => ?_⟩
  have e0 : I' 0 = I 0 := (hf 0 (Or.inl rfl)).1
  refine ⟨rfl, rfl, S, o, S', rfl, hr, Ref_fr hR hf, fun I2 L2 hf2 hR2 => ?_⟩
  refine xbr_t rfl ?_
  exact go S' _ _ ((hf2 0 (by decide)).1.trans e0) (Cls_fr hC' hf2) hR2
set_option maxRecDepth 100000 in
theorem law_smear {Q : xQ} {S : ST} {I : xI} {L : xL} {i len : Nat} (h0 : I 0 0 = nI len) (hi : i + 6 ≤ len) (hn : len ≤ 3072) (hC : Cls S I L) (hR : Ref S I L) (go : ∀ (S' : ST) (I' : xI) (L' : xL), I' 0 = I 0 → Cls S' I' L' → Ref S' I' L' → xGo mL_law csL_law 1365 Q [some (.ref 0), some (.ref 1), some (.ref 27), some (.int (nI i))] [] 48 48 I' L' xP0) : xGo mL_law csL_law 668 Q [some (.ref 0), some (.ref 1), some (.ref 27), some (.int (nI i))] [] 48 48 I L xP0 := by
  have hlen : (I 0 0).toNatClampNeg = len := by rw [h0, nI_clamp (by omega)]
  refine xrun okL_law hhL_law [(1365, [true, true, true, true])] 70 ?_
  (first | (refine xbr_f ?_ ?_; (focus ((simp (disch := omega) only [ix_lt, ix_le, ix_eq, ix_0, nI_clamp, nI_toInt, ng_T, nI_add, nI_mul, nI_sub', Int.neg_zero, not_false_eq_true, not_true_eq_false, hlen] <;> omega); done))) | (refine xbr_t ?_ ?_; (focus ((simp (disch := omega) only [ix_lt, ix_le, ix_eq, ix_0, nI_clamp, nI_toInt, ng_T, nI_add, nI_mul, nI_sub', Int.neg_zero, not_false_eq_true, not_true_eq_false, hlen] <;> omega); done))) | refine ⟨Or.inl rfl, ?_⟩ | refine ⟨Or.inr rfl, ?_⟩ | (refine ⟨?_, ?_⟩; (focus ((try simp (disch := omega) only [hlen, nI_mul, nI_add, nI_sub']); exact in_nI (by omega) (by omega)))))
  (first | (refine xbr_f ?_ ?_; (focus ((simp (disch := omega) only [ix_lt, ix_le, ix_eq, ix_0, nI_clamp, nI_toInt, ng_T, nI_add, nI_mul, nI_sub', Int.neg_zero, not_false_eq_true, not_true_eq_false, hlen] <;> omega); done))) | (refine xbr_t ?_ ?_; (focus ((simp (disch := omega) only [ix_lt, ix_le, ix_eq, ix_0, nI_clamp, nI_toInt, ng_T, nI_add, nI_mul, nI_sub', Int.neg_zero, not_false_eq_true, not_true_eq_false, hlen] <;> omega); done))) | refine ⟨Or.inl rfl, ?_⟩ | refine ⟨Or.inr rfl, ?_⟩ | (refine ⟨?_, ?_⟩; (focus ((try simp (disch := omega) only [hlen, nI_mul, nI_add, nI_sub']); exact in_nI (by omega) (by omega)))))
  refine ⟨rfl, rfl, S, _, _, rfl, hC, fun o S' I' L' hr hf hC' => ?_⟩
  have e0 : I' 0 = I 0 := (hf 0 (Or.inl rfl)).1
  have hlen2 : (I' 0 0).toNatClampNeg = len := by rw [e0]; exact hlen
  (first | (refine xbr_f ?_ ?_; (focus ((simp (disch := omega) only [ix_lt, ix_le, ix_eq, ix_0, nI_clamp, nI_toInt, ng_T, nI_add, nI_mul, nI_sub', Int.neg_zero, not_false_eq_true, not_true_eq_false, hlen2] <;> omega); done))) | (refine xbr_t ?_ ?_; (focus ((simp (disch := omega) only [ix_lt, ix_le, ix_eq, ix_0, nI_clamp, nI_toInt, ng_T, nI_add, nI_mul, nI_sub', Int.neg_zero, not_false_eq_true, not_true_eq_false, hlen2] <;> omega); done))) | refine ⟨Or.inl rfl, ?_⟩ | refine ⟨Or.inr rfl, ?_⟩ | (refine ⟨?_, ?_⟩; (focus ((try simp (disch := omega) only [hlen2, nI_mul, nI_add, nI_sub']); exact in_nI (by omega) (by omega)))))
  (first | (refine xbr_f ?_ ?_; (focus ((simp (disch := omega) only [ix_lt, ix_le, ix_eq, ix_0, nI_clamp, nI_toInt, ng_T, nI_add, nI_mul, nI_sub', Int.neg_zero, not_false_eq_true, not_true_eq_false, hlen2] <;> omega); done))) | (refine xbr_t ?_ ?_; (focus ((simp (disch := omega) only [ix_lt, ix_le, ix_eq, ix_0, nI_clamp, nI_toInt, ng_T, nI_add, nI_mul, nI_sub', Int.neg_zero, not_false_eq_true, not_true_eq_false, hlen2] <;> omega); done))) | refine ⟨Or.inl rfl, ?_⟩ | refine ⟨Or.inr rfl, ?_⟩ | (refine ⟨?_, ?_⟩; (focus ((try simp (disch := omega) only [hlen2, nI_mul, nI_add, nI_sub']); exact in_nI (by omega) (by omega)))))
  refine ⟨rfl, rfl, S, _, _, o, S', rfl, by rw [e0]; exact hr, Ref_fr hR hf, fun I2 L2 hf2 hR2 => ?_⟩
  refine xbr_t rfl ?_
  exact go S' _ _ ((hf2 0 (by decide)).1.trans e0) (Cls_fr hC' hf2) hR2
set_option maxRecDepth 100000 in
theorem law_lead {Q : xQ} {S : ST} {I : xI} {L : xL} {i len : Nat} (h0 : I 0 0 = nI len) (hi : i + 6 ≤ len) (hn : len ≤ 3072) (hC : Cls S I L) (hR : Ref S I L) (go : ∀ (S' : ST) (I' : xI) (L' : xL), I' 0 = I 0 → Cls S' I' L' → Ref S' I' L' → xGo mL_law csL_law 1365 Q [some (.ref 0), some (.ref 1), some (.ref 27), some (.int (nI i))] [] 48 48 I' L' xP0) : xGo mL_law csL_law 701 Q [some (.ref 0), some (.ref 1), some (.ref 27), some (.int (nI i))] [] 48 48 I L xP0 := by
  have hlen : (I 0 0).toNatClampNeg = len := by rw [h0, nI_clamp (by omega)]
  refine xrun okL_law hhL_law [(1365, [true, true, true, true])] 70 ?_
  (first | (refine xbr_f ?_ ?_; (focus ((simp (disch := omega) only [ix_lt, ix_le, ix_eq, ix_0, nI_clamp, nI_toInt, ng_T, nI_add, nI_mul, nI_sub', Int.neg_zero, not_false_eq_true, not_true_eq_false, hlen] <;> omega); done))) | (refine xbr_t ?_ ?_; (focus ((simp (disch := omega) only [ix_lt, ix_le, ix_eq, ix_0, nI_clamp, nI_toInt, ng_T, nI_add, nI_mul, nI_sub', Int.neg_zero, not_false_eq_true, not_true_eq_false, hlen] <;> omega); done))) | refine ⟨Or.inl rfl, ?_⟩ | refine ⟨Or.inr rfl, ?_⟩ | (refine ⟨?_, ?_⟩; (focus ((try simp (disch := omega) only [hlen, nI_mul, nI_add, nI_sub']); exact in_nI (by omega) (by omega)))))
  (first | (refine xbr_f ?_ ?_; (focus ((simp (disch := omega) only [ix_lt, ix_le, ix_eq, ix_0, nI_clamp, nI_toInt, ng_T, nI_add, nI_mul, nI_sub', Int.neg_zero, not_false_eq_true, not_true_eq_false, hlen] <;> omega); done))) | (refine xbr_t ?_ ?_; (focus ((simp (disch := omega) only [ix_lt, ix_le, ix_eq, ix_0, nI_clamp, nI_toInt, ng_T, nI_add, nI_mul, nI_sub', Int.neg_zero, not_false_eq_true, not_true_eq_false, hlen] <;> omega); done))) | refine ⟨Or.inl rfl, ?_⟩ | refine ⟨Or.inr rfl, ?_⟩ | (refine ⟨?_, ?_⟩; (focus ((try simp (disch := omega) only [hlen, nI_mul, nI_add, nI_sub']); exact in_nI (by omega) (by omega)))))
  refine ⟨rfl, rfl, S, _, _, rfl, hC, fun o S' I' L' hr hf hC' => ?_⟩
  have e0 : I' 0 = I 0 := (hf 0 (Or.inl rfl)).1
  have hlen2 : (I' 0 0).toNatClampNeg = len := by rw [e0]; exact hlen
  (first | (refine xbr_f ?_ ?_; (focus ((simp (disch := omega) only [ix_lt, ix_le, ix_eq, ix_0, nI_clamp, nI_toInt, ng_T, nI_add, nI_mul, nI_sub', Int.neg_zero, not_false_eq_true, not_true_eq_false, hlen2] <;> omega); done))) | (refine xbr_t ?_ ?_; (focus ((simp (disch := omega) only [ix_lt, ix_le, ix_eq, ix_0, nI_clamp, nI_toInt, ng_T, nI_add, nI_mul, nI_sub', Int.neg_zero, not_false_eq_true, not_true_eq_false, hlen2] <;> omega); done))) | refine ⟨Or.inl rfl, ?_⟩ | refine ⟨Or.inr rfl, ?_⟩ | (refine ⟨?_, ?_⟩; (focus ((try simp (disch := omega) only [hlen2, nI_mul, nI_add, nI_sub']); exact in_nI (by omega) (by omega)))))
  (first | (refine xbr_f ?_ ?_; (focus ((simp (disch := omega) only [ix_lt, ix_le, ix_eq, ix_0, nI_clamp, nI_toInt, ng_T, nI_add, nI_mul, nI_sub', Int.neg_zero, not_false_eq_true, not_true_eq_false, hlen2] <;> omega); done))) | (refine xbr_t ?_ ?_; (focus ((simp (disch := omega) only [ix_lt, ix_le, ix_eq, ix_0, nI_clamp, nI_toInt, ng_T, nI_add, nI_mul, nI_sub', Int.neg_zero, not_false_eq_true, not_true_eq_false, hlen2] <;> omega); done))) | refine ⟨Or.inl rfl, ?_⟩ | refine ⟨Or.inr rfl, ?_⟩ | (refine ⟨?_, ?_⟩; (focus ((try simp (disch := omega) only [hlen2, nI_mul, nI_add, nI_sub']); exact in_nI (by omega) (by omega)))))
  refine ⟨rfl, rfl, S, _, _, o, S', rfl, by rw [e0]; exact hr, Ref_fr hR hf, fun I2 L2 hf2 hR2 => ?_⟩
  refine xbr_t rfl ?_
  exact go S' _ _ ((hf2 0 (by decide)).1.trans e0) (Cls_fr hC' hf2) hR2
set_option maxRecDepth 100000 in
theorem law_undo {Q : xQ} {S : ST} {I : xI} {L : xL} {i len : Nat} (h0 : I 0 0 = nI len) (hi : i + 6 ≤ len) (hn : len ≤ 3072) (hC : Cls S I L) (hR : Ref S I L) (go : ∀ (S' : ST) (I' : xI) (L' : xL), I' 0 = I 0 → Cls S' I' L' → Ref S' I' L' → xGo mL_law csL_law 1365 Q [some (.ref 0), some (.ref 1), some (.ref 27), some (.int (nI i))] [] 48 48 I' L' xP0) : xGo mL_law csL_law 734 Q [some (.ref 0), some (.ref 1), some (.ref 27), some (.int (nI i))] [] 48 48 I L xP0 := by
  have hlen : (I 0 0).toNatClampNeg = len := by rw [h0, nI_clamp (by omega)]
  refine xrun okL_law hhL_law [(1365, [true, true, true, true])] 70 ?_
  (first | (refine xbr_f ?_ ?_; (focus ((simp (disch := omega) only [ix_lt, ix_le, ix_eq, ix_0, nI_clamp, nI_toInt, ng_T, nI_add, nI_mul, nI_sub', Int.neg_zero, not_false_eq_true, not_true_eq_false, hlen] <;> omega); done))) | (refine xbr_t ?_ ?_; (focus ((simp (disch := omega) only [ix_lt, ix_le, ix_eq, ix_0, nI_clamp, nI_toInt, ng_T, nI_add, nI_mul, nI_sub', Int.neg_zero, not_false_eq_true, not_true_eq_false, hlen] <;> omega); done))) | refine ⟨Or.inl rfl, ?_⟩ | refine ⟨Or.inr rfl, ?_⟩ | (refine ⟨?_, ?_⟩; (focus ((try simp (disch := omega) only [hlen, nI_mul, nI_add, nI_sub']); exact in_nI (by omega) (by omega)))))
  refine ⟨rfl, rfl, S, _, rfl, hC, fun o S' I' L' hr hf hC' => ?_⟩
  have e0 : I' 0 = I 0 := (hf 0 (Or.inl rfl)).1
  have hlen2 : (I' 0 0).toNatClampNeg = len := by rw [e0]; exact hlen
  (first | (refine xbr_f ?_ ?_; (focus ((simp (disch := omega) only [ix_lt, ix_le, ix_eq, ix_0, nI_clamp, nI_toInt, ng_T, nI_add, nI_mul, nI_sub', Int.neg_zero, not_false_eq_true, not_true_eq_false, hlen2] <;> omega); done))) | (refine xbr_t ?_ ?_; (focus ((simp (disch := omega) only [ix_lt, ix_le, ix_eq, ix_0, nI_clamp, nI_toInt, ng_T, nI_add, nI_mul, nI_sub', Int.neg_zero, not_false_eq_true, not_true_eq_false, hlen2] <;> omega); done))) | refine ⟨Or.inl rfl, ?_⟩ | refine ⟨Or.inr rfl, ?_⟩ | (refine ⟨?_, ?_⟩; (focus ((try simp (disch := omega) only [hlen2, nI_mul, nI_add, nI_sub']); exact in_nI (by omega) (by omega)))))
  refine ⟨rfl, rfl, S, _, o, S', rfl, by rw [e0]; exact hr, Ref_fr hR hf, fun I2 L2 hf2 hR2 => ?_⟩
  refine xbr_t rfl ?_
  exact go S' _ _ ((hf2 0 (by decide)).1.trans e0) (Cls_fr hC' hf2) hR2
set_option maxRecDepth 100000 in
theorem law_keep {Q : xQ} {S : ST} {I : xI} {L : xL} {i len : Nat} (h0 : I 0 0 = nI len) (hi : i + 6 ≤ len) (hn : len ≤ 3072) (hC : Cls S I L) (hR : Ref S I L) (go : ∀ (S' : ST) (I' : xI) (L' : xL), I' 0 = I 0 → Cls S' I' L' → Ref S' I' L' → xGo mL_law csL_law 1365 Q [some (.ref 0), some (.ref 1), some (.ref 27), some (.int (nI i))] [] 48 48 I' L' xP0) : xGo mL_law csL_law 757 Q [some (.ref 0), some (.ref 1), some (.ref 27), some (.int (nI i))] [] 48 48 I L xP0 := by
  have hlen : (I 0 0).toNatClampNeg = len := by rw [h0, nI_clamp (by omega)]
  refine xrun okL_law hhL_law [(1365, [true, true, true, true])] 70 ?_
  (first | (refine xbr_f ?_ ?_; (focus ((simp (disch := omega) only [ix_lt, ix_le, ix_eq, ix_0, nI_clamp, nI_toInt, ng_T, nI_add, nI_mul, nI_sub', Int.neg_zero, not_false_eq_true, not_true_eq_false, hlen] <;> omega); done))) | (refine xbr_t ?_ ?_; (focus ((simp (disch := omega) only [ix_lt, ix_le, ix_eq, ix_0, nI_clamp, nI_toInt, ng_T, nI_add, nI_mul, nI_sub', Int.neg_zero, not_false_eq_true, not_true_eq_false, hlen] <;> omega); done))) | refine ⟨Or.inl rfl, ?_⟩ | refine ⟨Or.inr rfl, ?_⟩ | (refine ⟨?_, ?_⟩; (focus ((try simp (disch := omega) only [hlen, nI_mul, nI_add, nI_sub']); exact in_nI (by omega) (by omega)))))
  refine ⟨rfl, rfl, S, _, rfl, hC, fun o S' I' L' hr hf hC' => ?_⟩
  have e0 : I' 0 = I 0 := (hf 0 (Or.inl rfl)).1
  have hlen2 : (I' 0 0).toNatClampNeg = len := by rw [e0]; exact hlen
  (first | (refine xbr_f ?_ ?_; (focus ((simp (disch := omega) only [ix_lt, ix_le, ix_eq, ix_0, nI_clamp, nI_toInt, ng_T, nI_add, nI_mul, nI_sub', Int.neg_zero, not_false_eq_true, not_true_eq_false, hlen2] <;> omega); done))) | (refine xbr_t ?_ ?_; (focus ((simp (disch := omega) only [ix_lt, ix_le, ix_eq, ix_0, nI_clamp, nI_toInt, ng_T, nI_add, nI_mul, nI_sub', Int.neg_zero, not_false_eq_true, not_true_eq_false, hlen2] <;> omega); done))) | refine ⟨Or.inl rfl, ?_⟩ | refine ⟨Or.inr rfl, ?_⟩ | (refine ⟨?_, ?_⟩; (focus ((try simp (disch := omega) only [hlen2, nI_mul, nI_add, nI_sub']); exact in_nI (by omega) (by omega)))))
  refine ⟨rfl, rfl, S, _, o, S', rfl, by rw [e0]; exact hr, Ref_fr hR hf, fun I2 L2 hf2 hR2 => ?_⟩
  refine xbr_t rfl ?_
  exact go S' _ _ ((hf2 0 (by decide)).1.trans e0) (Cls_fr hC' hf2) hR2
set_option maxRecDepth 100000 in
theorem law_on {Q : xQ} {S : ST} {I : xI} {L : xL} {i len : Nat} (h0 : I 0 0 = nI len) (hi : i + 6 ≤ len) (hn : len ≤ 3072) (hC : Cls S I L) (hR : Ref S I L) (go : ∀ (S' : ST) (I' : xI) (L' : xL), I' 0 = I 0 → Cls S' I' L' → Ref S' I' L' → xGo mL_law csL_law 1365 Q [some (.ref 0), some (.ref 1), some (.ref 27), some (.int (nI i))] [] 48 48 I' L' xP0) : xGo mL_law csL_law 780 Q [some (.ref 0), some (.ref 1), some (.ref 27), some (.int (nI i))] [] 48 48 I L xP0 := by
  have hlen : (I 0 0).toNatClampNeg = len := by rw [h0, nI_clamp (by omega)]
  refine xrun okL_law hhL_law [(1365, [true, true, true, true])] 70 ?_
  (first | (refine xbr_f ?_ ?_; (focus ((simp (disch := omega) only [ix_lt, ix_le, ix_eq, ix_0, nI_clamp, nI_toInt, ng_T, nI_add, nI_mul, nI_sub', Int.neg_zero, not_false_eq_true, not_true_eq_false, hlen] <;> omega); done))) | (refine xbr_t ?_ ?_; (focus ((simp (disch := omega) only [ix_lt, ix_le, ix_eq, ix_0, nI_clamp, nI_toInt, ng_T, nI_add, nI_mul, nI_sub', Int.neg_zero, not_false_eq_true, not_true_eq_false, hlen] <;> omega); done))) | refine ⟨Or.inl rfl, ?_⟩ | refine ⟨Or.inr rfl, ?_⟩ | (refine ⟨?_, ?_⟩; (focus ((try simp (disch := omega) only [hlen, nI_mul, nI_add, nI_sub']); exact in_nI (by omega) (by omega)))))
  refine ⟨rfl, rfl, S, _, rfl, hC, fun o S' I' L' hr hf hC' => ?_⟩
  have e0 : I' 0 = I 0 := (hf 0 (Or.inl rfl)).1
  have hlen2 : (I' 0 0).toNatClampNeg = len := by rw [e0]; exact hlen
  (first | (refine xbr_f ?_ ?_; (focus ((simp (disch := omega) only [ix_lt, ix_le, ix_eq, ix_0, nI_clamp, nI_toInt, ng_T, nI_add, nI_mul, nI_sub', Int.neg_zero, not_false_eq_true, not_true_eq_false, hlen2] <;> omega); done))) | (refine xbr_t ?_ ?_; (focus ((simp (disch := omega) only [ix_lt, ix_le, ix_eq, ix_0, nI_clamp, nI_toInt, ng_T, nI_add, nI_mul, nI_sub', Int.neg_zero, not_false_eq_true, not_true_eq_false, hlen2] <;> omega); done))) | refine ⟨Or.inl rfl, ?_⟩ | refine ⟨Or.inr rfl, ?_⟩ | (refine ⟨?_, ?_⟩; (focus ((try simp (disch := omega) only [hlen2, nI_mul, nI_add, nI_sub']); exact in_nI (by omega) (by omega)))))
  refine ⟨rfl, rfl, S, _, o, S', rfl, by rw [e0]; exact hr, Ref_fr hR hf, fun I2 L2 hf2 hR2 => ?_⟩
  refine xbr_t rfl ?_
  exact go S' _ _ ((hf2 0 (by decide)).1.trans e0) (Cls_fr hC' hf2) hR2
set_option maxRecDepth 100000 in
theorem law_like {Q : xQ} {S : ST} {I : xI} {L : xL} {i len : Nat} (h0 : I 0 0 = nI len) (hi : i + 6 ≤ len) (hn : len ≤ 3072) (hC : Cls S I L) (hR : Ref S I L) (go : ∀ (S' : ST) (I' : xI) (L' : xL), I' 0 = I 0 → Cls S' I' L' → Ref S' I' L' → xGo mL_law csL_law 1365 Q [some (.ref 0), some (.ref 1), some (.ref 27), some (.int (nI i))] [] 48 48 I' L' xP0) : xGo mL_law csL_law 803 Q [some (.ref 0), some (.ref 1), some (.ref 27), some (.int (nI i))] [] 48 48 I L xP0 := by
  have hlen : (I 0 0).toNatClampNeg = len := by rw [h0, nI_clamp (by omega)]
  refine xrun okL_law hhL_law [(1365, [true, true, true, true])] 70 ?_
  (first | (refine xbr_f ?_ ?_; (focus ((simp (disch := omega) only [ix_lt, ix_le, ix_eq, ix_0, nI_clamp, nI_toInt, ng_T, nI_add, nI_mul, nI_sub', Int.neg_zero, not_false_eq_true, not_true_eq_false, hlen] <;> omega); done))) | (refine xbr_t ?_ ?_; (focus ((simp (disch := omega) only [ix_lt, ix_le, ix_eq, ix_0, nI_clamp, nI_toInt, ng_T, nI_add, nI_mul, nI_sub', Int.neg_zero, not_false_eq_true, not_true_eq_false, hlen] <;> omega); done))) | refine ⟨Or.inl rfl, ?_⟩ | refine ⟨Or.inr rfl, ?_⟩ | (refine ⟨?_, ?_⟩; (focus ((try simp (disch := omega) only [hlen, nI_mul, nI_add, nI_sub']); exact in_nI (by omega) (by omega)))))
  (first | (refine xbr_f ?_ ?_; (focus ((simp (disch := omega) only [ix_lt, ix_le, ix_eq, ix_0, nI_clamp, nI_toInt, ng_T, nI_add, nI_mul, nI_sub', Int.neg_zero, not_false_eq_true, not_true_eq_false, hlen] <;> omega); done))) | (refine xbr_t ?_ ?_; (focus ((simp (disch := omega) only [ix_lt, ix_le, ix_eq, ix_0, nI_clamp, nI_toInt, ng_T, nI_add, nI_mul, nI_sub', Int.neg_zero, not_false_eq_true, not_true_eq_false, hlen] <;> omega); done))) | refine ⟨Or.inl rfl, ?_⟩ | refine ⟨Or.inr rfl, ?_⟩ | (refine ⟨?_, ?_⟩; (focus ((try simp (disch := omega) only [hlen, nI_mul, nI_add, nI_sub']); exact in_nI (by omega) (by omega)))))
  refine ⟨rfl, rfl, S, _, _, rfl, hC, fun o S' I' L' hr hf hC' => ?_⟩
  have e0 : I' 0 = I 0 := (hf 0 (Or.inl rfl)).1
  have hlen2 : (I' 0 0).toNatClampNeg = len := by rw [e0]; exact hlen
  (first | (refine xbr_f ?_ ?_; (focus ((simp (disch := omega) only [ix_lt, ix_le, ix_eq, ix_0, nI_clamp, nI_toInt, ng_T, nI_add, nI_mul, nI_sub', Int.neg_zero, not_false_eq_true, not_true_eq_false, hlen2] <;> omega); done))) | (refine xbr_t ?_ ?_; (focus ((simp (disch := omega) only [ix_lt, ix_le, ix_eq, ix_0, nI_clamp, nI_toInt, ng_T, nI_add, nI_mul, nI_sub', Int.neg_zero, not_false_eq_true, not_true_eq_false, hlen2] <;> omega); done))) | refine ⟨Or.inl rfl, ?_⟩ | refine ⟨Or.inr rfl, ?_⟩ | (refine ⟨?_, ?_⟩; (focus ((try simp (disch := omega) only [hlen2, nI_mul, nI_add, nI_sub']); exact in_nI (by omega) (by omega)))))
  (first | (refine xbr_f ?_ ?_; (focus ((simp (disch := omega) only [ix_lt, ix_le, ix_eq, ix_0, nI_clamp, nI_toInt, ng_T, nI_add, nI_mul, nI_sub', Int.neg_zero, not_false_eq_true, not_true_eq_false, hlen2] <;> omega); done))) | (refine xbr_t ?_ ?_; (focus ((simp (disch := omega) only [ix_lt, ix_le, ix_eq, ix_0, nI_clamp, nI_toInt, ng_T, nI_add, nI_mul, nI_sub', Int.neg_zero, not_false_eq_true, not_true_eq_false, hlen2] <;> omega); done))) | refine ⟨Or.inl rfl, ?_⟩ | refine ⟨Or.inr rfl, ?_⟩ | (refine ⟨?_, ?_⟩; (focus ((try simp (disch := omega) only [hlen2, nI_mul, nI_add, nI_sub']); exact in_nI (by omega) (by omega)))))
  refine ⟨rfl, rfl, S, _, _, o, S', rfl, by rw [e0]; exact hr, Ref_fr hR hf, fun I2 L2 hf2 hR2 => ?_⟩
  refine xbr_t rfl ?_
  exact go S' _ _ ((hf2 0 (by decide)).1.trans e0) (Cls_fr hC' hf2) hR2
set_option maxRecDepth 100000 in
theorem law_who {Q : xQ} {S : ST} {I : xI} {L : xL} {i len : Nat} (h0 : I 0 0 = nI len) (hi : i + 6 ≤ len) (hn : len ≤ 3072) (hC : Cls S I L) (hR : Ref S I L) (go : ∀ (S' : ST) (I' : xI) (L' : xL), I' 0 = I 0 → Cls S' I' L' → Ref S' I' L' → xGo mL_law csL_law 1365 Q [some (.ref 0), some (.ref 1), some (.ref 27), some (.int (nI i))] [] 48 48 I' L' xP0) : xGo mL_law csL_law 836 Q [some (.ref 0), some (.ref 1), some (.ref 27), some (.int (nI i))] [] 48 48 I L xP0 := by
  have hlen : (I 0 0).toNatClampNeg = len := by rw [h0, nI_clamp (by omega)]
  refine xrun okL_law hhL_law [(1365, [true, true, true, true])] 70 ?_
  (first | (refine xbr_f ?_ ?_; (focus ((simp (disch := omega) only [ix_lt, ix_le, ix_eq, ix_0, nI_clamp, nI_toInt, ng_T, nI_add, nI_mul, nI_sub', Int.neg_zero, not_false_eq_true, not_true_eq_false, hlen] <;> omega); done))) | (refine xbr_t ?_ ?_; (focus ((simp (disch := omega) only [ix_lt, ix_le, ix_eq, ix_0, nI_clamp, nI_toInt, ng_T, nI_add, nI_mul, nI_sub', Int.neg_zero, not_false_eq_true, not_true_eq_false, hlen] <;> omega); done))) | refine ⟨Or.inl rfl, ?_⟩ | refine ⟨Or.inr rfl, ?_⟩ | (refine ⟨?_, ?_⟩; (focus ((try simp (disch := omega) only [hlen, nI_mul, nI_add, nI_sub']); exact in_nI (by omega) (by omega)))))
  refine ⟨rfl, rfl, S, _, rfl, hC, fun o S' I' L' hr hf hC' => ?_⟩
  have e0 : I' 0 = I 0 := (hf 0 (Or.inl rfl)).1
  have hlen2 : (I' 0 0).toNatClampNeg = len := by rw [e0]; exact hlen
  (first | (refine xbr_f ?_ ?_; (focus ((simp (disch := omega) only [ix_lt, ix_le, ix_eq, ix_0, nI_clamp, nI_toInt, ng_T, nI_add, nI_mul, nI_sub', Int.neg_zero, not_false_eq_true, not_true_eq_false, hlen2] <;> omega); done))) | (refine xbr_t ?_ ?_; (focus ((simp (disch := omega) only [ix_lt, ix_le, ix_eq, ix_0, nI_clamp, nI_toInt, ng_T, nI_add, nI_mul, nI_sub', Int.neg_zero, not_false_eq_true, not_true_eq_false, hlen2] <;> omega); done))) | refine ⟨Or.inl rfl, ?_⟩ | refine ⟨Or.inr rfl, ?_⟩ | (refine ⟨?_, ?_⟩; (focus ((try simp (disch := omega) only [hlen2, nI_mul, nI_add, nI_sub']); exact in_nI (by omega) (by omega)))))
  refine ⟨rfl, rfl, S, _, o, S', rfl, by rw [e0]; exact hr, Ref_fr hR hf, fun I2 L2 hf2 hR2 => ?_⟩
  refine xbr_t rfl ?_
  exact go S' _ _ ((hf2 0 (by decide)).1.trans e0) (Cls_fr hC' hf2) hR2
set_option maxRecDepth 100000 in
theorem law_where {Q : xQ} {S : ST} {I : xI} {L : xL} {i len : Nat} (h0 : I 0 0 = nI len) (hi : i + 6 ≤ len) (hn : len ≤ 3072) (hC : Cls S I L) (hR : Ref S I L) (go : ∀ (S' : ST) (I' : xI) (L' : xL), I' 0 = I 0 → Cls S' I' L' → Ref S' I' L' → xGo mL_law csL_law 1365 Q [some (.ref 0), some (.ref 1), some (.ref 27), some (.int (nI i))] [] 48 48 I' L' xP0) : xGo mL_law csL_law 859 Q [some (.ref 0), some (.ref 1), some (.ref 27), some (.int (nI i))] [] 48 48 I L xP0 := by
  have hlen : (I 0 0).toNatClampNeg = len := by rw [h0, nI_clamp (by omega)]
  refine xrun okL_law hhL_law [(1365, [true, true, true, true])] 70 ?_
  (first | (refine xbr_f ?_ ?_; (focus ((simp (disch := omega) only [ix_lt, ix_le, ix_eq, ix_0, nI_clamp, nI_toInt, ng_T, nI_add, nI_mul, nI_sub', Int.neg_zero, not_false_eq_true, not_true_eq_false, hlen] <;> omega); done))) | (refine xbr_t ?_ ?_; (focus ((simp (disch := omega) only [ix_lt, ix_le, ix_eq, ix_0, nI_clamp, nI_toInt, ng_T, nI_add, nI_mul, nI_sub', Int.neg_zero, not_false_eq_true, not_true_eq_false, hlen] <;> omega); done))) | refine ⟨Or.inl rfl, ?_⟩ | refine ⟨Or.inr rfl, ?_⟩ | (refine ⟨?_, ?_⟩; (focus ((try simp (disch := omega) only [hlen, nI_mul, nI_add, nI_sub']); exact in_nI (by omega) (by omega)))))
  (first | (refine xbr_f ?_ ?_; (focus ((simp (disch := omega) only [ix_lt, ix_le, ix_eq, ix_0, nI_clamp, nI_toInt, ng_T, nI_add, nI_mul, nI_sub', Int.neg_zero, not_false_eq_true, not_true_eq_false, hlen] <;> omega); done))) | (refine xbr_t ?_ ?_; (focus ((simp (disch := omega) only [ix_lt, ix_le, ix_eq, ix_0, nI_clamp, nI_toInt, ng_T, nI_add, nI_mul, nI_sub', Int.neg_zero, not_false_eq_true, not_true_eq_false, hlen] <;> omega); done))) | refine ⟨Or.inl rfl, ?_⟩ | refine ⟨Or.inr rfl, ?_⟩ | (refine ⟨?_, ?_⟩; (focus ((try simp (disch := omega) only [hlen, nI_mul, nI_add, nI_sub']); exact in_nI (by omega) (by omega)))))
  refine ⟨rfl, rfl, S, _, _, rfl, hC, fun o S' I' L' hr hf hC' => ?_⟩
  have e0 : I' 0 = I 0 := (hf 0 (Or.inl rfl)).1
  have hlen2 : (I' 0 0).toNatClampNeg = len := by rw [e0]; exact hlen
  (first | (refine xbr_f ?_ ?_; (focus ((simp (disch := omega) only [ix_lt, ix_le, ix_eq, ix_0, nI_clamp, nI_toInt, ng_T, nI_add, nI_mul, nI_sub', Int.neg_zero, not_false_eq_true, not_true_eq_false, hlen2] <;> omega); done))) | (refine xbr_t ?_ ?_; (focus ((simp (disch := omega) only [ix_lt, ix_le, ix_eq, ix_0, nI_clamp, nI_toInt, ng_T, nI_add, nI_mul, nI_sub', Int.neg_zero, not_false_eq_true, not_true_eq_false, hlen2] <;> omega); done))) | refine ⟨Or.inl rfl, ?_⟩ | refine ⟨Or.inr rfl, ?_⟩ | (refine ⟨?_, ?_⟩; (focus ((try simp (disch := omega) only [hlen2, nI_mul, nI_add, nI_sub']); exact in_nI (by omega) (by omega)))))
  (first | (refine xbr_f ?_ ?_; (focus ((simp (disch := omega) only [ix_lt, ix_le, ix_eq, ix_0, nI_clamp, nI_toInt, ng_T, nI_add, nI_mul, nI_sub', Int.neg_zero, not_false_eq_true, not_true_eq_false, hlen2] <;> omega); done))) | (refine xbr_t ?_ ?_; (focus ((simp (disch := omega) only [ix_lt, ix_le, ix_eq, ix_0, nI_clamp, nI_toInt, ng_T, nI_add, nI_mul, nI_sub', Int.neg_zero, not_false_eq_true, not_true_eq_false, hlen2] <;> omega); done))) | refine ⟨Or.inl rfl, ?_⟩ | refine ⟨Or.inr rfl, ?_⟩ | (refine ⟨?_, ?_⟩; (focus ((try simp (disch := omega) only [hlen2, nI_mul, nI_add, nI_sub']); exact in_nI (by omega) (by omega)))))
  refine ⟨rfl, rfl, S, _, _, o, S', rfl, by rw [e0]; exact hr, Ref_fr hR hf, fun I2 L2 hf2 hR2 => ?_⟩
  refine xbr_t rfl ?_
  exact go S' _ _ ((hf2 0 (by decide)).1.trans e0) (Cls_fr hC' hf2) hR2
set_option maxRecDepth 100000 in
theorem law_home {Q : xQ} {S : ST} {I : xI} {L : xL} {i len : Nat} (h0 : I 0 0 = nI len) (hi : i + 6 ≤ len) (hn : len ≤ 3072) (hC : Cls S I L) (hR : Ref S I L) (go : ∀ (S' : ST) (I' : xI) (L' : xL), I' 0 = I 0 → Cls S' I' L' → Ref S' I' L' → xGo mL_law csL_law 1365 Q [some (.ref 0), some (.ref 1), some (.ref 27), some (.int (nI i))] [] 48 48 I' L' xP0) : xGo mL_law csL_law 892 Q [some (.ref 0), some (.ref 1), some (.ref 27), some (.int (nI i))] [] 48 48 I L xP0 := by
  have hlen : (I 0 0).toNatClampNeg = len := by rw [h0, nI_clamp (by omega)]
  refine xrun okL_law hhL_law [(1365, [true, true, true, true])] 70 ?_
  refine ⟨rfl, rfl, S, rfl, hC, fun o S' I' L' hr hf hC' => ?_⟩
  have e0 : I' 0 = I 0 := (hf 0 (Or.inl rfl)).1
  refine ⟨rfl, rfl, S, o, S', rfl, hr, Ref_fr hR hf, fun I2 L2 hf2 hR2 => ?_⟩
  refine xbr_t rfl ?_
  exact go S' _ _ ((hf2 0 (by decide)).1.trans e0) (Cls_fr hC' hf2) hR2
set_option maxRecDepth 100000 in
theorem law_round {Q : xQ} {S : ST} {I : xI} {L : xL} {i len : Nat} (h0 : I 0 0 = nI len) (hi : i + 6 ≤ len) (hn : len ≤ 3072) (hC : Cls S I L) (hR : Ref S I L) (go : ∀ (S' : ST) (I' : xI) (L' : xL), I' 0 = I 0 → Cls S' I' L' → Ref S' I' L' → xGo mL_law csL_law 1365 Q [some (.ref 0), some (.ref 1), some (.ref 27), some (.int (nI i))] [] 48 48 I' L' xP0) : xGo mL_law csL_law 905 Q [some (.ref 0), some (.ref 1), some (.ref 27), some (.int (nI i))] [] 48 48 I L xP0 := by
  have hlen : (I 0 0).toNatClampNeg = len := by rw [h0, nI_clamp (by omega)]
  refine xrun okL_law hhL_law [(1365, [true, true, true, true])] 70 ?_
  refine ⟨rfl, rfl, S, rfl, hC, fun o S' I' L' hr hf hC' => ?_⟩
  have e0 : I' 0 = I 0 := (hf 0 (Or.inl rfl)).1
  refine ⟨rfl, rfl, S, o, S', rfl, hr, Ref_fr hR hf, fun I2 L2 hf2 hR2 => ?_⟩
  refine xbr_t rfl ?_
  exact go S' _ _ ((hf2 0 (by decide)).1.trans e0) (Cls_fr hC' hf2) hR2
set_option maxRecDepth 100000 in
theorem law_marks {Q : xQ} {S : ST} {I : xI} {L : xL} {i len : Nat} (h0 : I 0 0 = nI len) (hi : i + 6 ≤ len) (hn : len ≤ 3072) (hC : Cls S I L) (hR : Ref S I L) (go : ∀ (S' : ST) (I' : xI) (L' : xL), I' 0 = I 0 → Cls S' I' L' → Ref S' I' L' → xGo mL_law csL_law 1365 Q [some (.ref 0), some (.ref 1), some (.ref 27), some (.int (nI i))] [] 48 48 I' L' xP0) : xGo mL_law csL_law 918 Q [some (.ref 0), some (.ref 1), some (.ref 27), some (.int (nI i))] [] 48 48 I L xP0 := by
  have hlen : (I 0 0).toNatClampNeg = len := by rw [h0, nI_clamp (by omega)]
  refine xrun okL_law hhL_law [(1365, [true, true, true, true])] 70 ?_
  (first | (refine xbr_f ?_ ?_; (focus ((simp (disch := omega) only [ix_lt, ix_le, ix_eq, ix_0, nI_clamp, nI_toInt, ng_T, nI_add, nI_mul, nI_sub', Int.neg_zero, not_false_eq_true, not_true_eq_false, hlen] <;> omega); done))) | (refine xbr_t ?_ ?_; (focus ((simp (disch := omega) only [ix_lt, ix_le, ix_eq, ix_0, nI_clamp, nI_toInt, ng_T, nI_add, nI_mul, nI_sub', Int.neg_zero, not_false_eq_true, not_true_eq_false, hlen] <;> omega); done))) | refine ⟨Or.inl rfl, ?_⟩ | refine ⟨Or.inr rfl, ?_⟩ | (refine ⟨?_, ?_⟩; (focus ((try simp (disch := omega) only [hlen, nI_mul, nI_add, nI_sub']); exact in_nI (by omega) (by omega)))))
  (first | (refine xbr_f ?_ ?_; (focus ((simp (disch := omega) only [ix_lt, ix_le, ix_eq, ix_0, nI_clamp, nI_toInt, ng_T, nI_add, nI_mul, nI_sub', Int.neg_zero, not_false_eq_true, not_true_eq_false, hlen] <;> omega); done))) | (refine xbr_t ?_ ?_; (focus ((simp (disch := omega) only [ix_lt, ix_le, ix_eq, ix_0, nI_clamp, nI_toInt, ng_T, nI_add, nI_mul, nI_sub', Int.neg_zero, not_false_eq_true, not_true_eq_false, hlen] <;> omega); done))) | refine ⟨Or.inl rfl, ?_⟩ | refine ⟨Or.inr rfl, ?_⟩ | (refine ⟨?_, ?_⟩; (focus ((try simp (disch := omega) only [hlen, nI_mul, nI_add, nI_sub']); exact in_nI (by omega) (by omega)))))
  refine ⟨rfl, rfl, S, _, _, rfl, hC, fun o S' I' L' hr hf hC' => ?_⟩
  have e0 : I' 0 = I 0 := (hf 0 (Or.inl rfl)).1
  have hlen2 : (I' 0 0).toNatClampNeg = len := by rw [e0]; exact hlen
  (first | (refine xbr_f ?_ ?_; (focus ((simp (disch := omega) only [ix_lt, ix_le, ix_eq, ix_0, nI_clamp, nI_toInt, ng_T, nI_add, nI_mul, nI_sub', Int.neg_zero, not_false_eq_true, not_true_eq_false, hlen2] <;> omega); done))) | (refine xbr_t ?_ ?_; (focus ((simp (disch := omega) only [ix_lt, ix_le, ix_eq, ix_0, nI_clamp, nI_toInt, ng_T, nI_add, nI_mul, nI_sub', Int.neg_zero, not_false_eq_true, not_true_eq_false, hlen2] <;> omega); done))) | refine ⟨Or.inl rfl, ?_⟩ | refine ⟨Or.inr rfl, ?_⟩ | (refine ⟨?_, ?_⟩; (focus ((try simp (disch := omega) only [hlen2, nI_mul, nI_add, nI_sub']); exact in_nI (by omega) (by omega)))))
  (first | (refine xbr_f ?_ ?_; (focus ((simp (disch := omega) only [ix_lt, ix_le, ix_eq, ix_0, nI_clamp, nI_toInt, ng_T, nI_add, nI_mul, nI_sub', Int.neg_zero, not_false_eq_true, not_true_eq_false, hlen2] <;> omega); done))) | (refine xbr_t ?_ ?_; (focus ((simp (disch := omega) only [ix_lt, ix_le, ix_eq, ix_0, nI_clamp, nI_toInt, ng_T, nI_add, nI_mul, nI_sub', Int.neg_zero, not_false_eq_true, not_true_eq_false, hlen2] <;> omega); done))) | refine ⟨Or.inl rfl, ?_⟩ | refine ⟨Or.inr rfl, ?_⟩ | (refine ⟨?_, ?_⟩; (focus ((try simp (disch := omega) only [hlen2, nI_mul, nI_add, nI_sub']); exact in_nI (by omega) (by omega)))))
  refine ⟨rfl, rfl, S, _, _, o, S', rfl, by rw [e0]; exact hr, Ref_fr hR hf, fun I2 L2 hf2 hR2 => ?_⟩
  refine xbr_t rfl ?_
  exact go S' _ _ ((hf2 0 (by decide)).1.trans e0) (Cls_fr hC' hf2) hR2
set_option maxRecDepth 100000 in
theorem law_match {Q : xQ} {S : ST} {I : xI} {L : xL} {i len : Nat} (h0 : I 0 0 = nI len) (hi : i + 6 ≤ len) (hn : len ≤ 3072) (hC : Cls S I L) (hR : Ref S I L) (go : ∀ (S' : ST) (I' : xI) (L' : xL), I' 0 = I 0 → Cls S' I' L' → Ref S' I' L' → xGo mL_law csL_law 1365 Q [some (.ref 0), some (.ref 1), some (.ref 27), some (.int (nI i))] [] 48 48 I' L' xP0) : xGo mL_law csL_law 951 Q [some (.ref 0), some (.ref 1), some (.ref 27), some (.int (nI i))] [] 48 48 I L xP0 := by
  have hlen : (I 0 0).toNatClampNeg = len := by rw [h0, nI_clamp (by omega)]
  refine xrun okL_law hhL_law [(1365, [true, true, true, true])] 70 ?_
  (first | (refine xbr_f ?_ ?_; (focus ((simp (disch := omega) only [ix_lt, ix_le, ix_eq, ix_0, nI_clamp, nI_toInt, ng_T, nI_add, nI_mul, nI_sub', Int.neg_zero, not_false_eq_true, not_true_eq_false, hlen] <;> omega); done))) | (refine xbr_t ?_ ?_; (focus ((simp (disch := omega) only [ix_lt, ix_le, ix_eq, ix_0, nI_clamp, nI_toInt, ng_T, nI_add, nI_mul, nI_sub', Int.neg_zero, not_false_eq_true, not_true_eq_false, hlen] <;> omega); done))) | refine ⟨Or.inl rfl, ?_⟩ | refine ⟨Or.inr rfl, ?_⟩ | (refine ⟨?_, ?_⟩; (focus ((try simp (disch := omega) only [hlen, nI_mul, nI_add, nI_sub']); exact in_nI (by omega) (by omega)))))
  refine ⟨rfl, rfl, S, _, rfl, hC, fun o S' I' L' hr hf hC' => ?_⟩
  have e0 : I' 0 = I 0 := (hf 0 (Or.inl rfl)).1
  have hlen2 : (I' 0 0).toNatClampNeg = len := by rw [e0]; exact hlen
  (first | (refine xbr_f ?_ ?_; (focus ((simp (disch := omega) only [ix_lt, ix_le, ix_eq, ix_0, nI_clamp, nI_toInt, ng_T, nI_add, nI_mul, nI_sub', Int.neg_zero, not_false_eq_true, not_true_eq_false, hlen2] <;> omega); done))) | (refine xbr_t ?_ ?_; (focus ((simp (disch := omega) only [ix_lt, ix_le, ix_eq, ix_0, nI_clamp, nI_toInt, ng_T, nI_add, nI_mul, nI_sub', Int.neg_zero, not_false_eq_true, not_true_eq_false, hlen2] <;> omega); done))) | refine ⟨Or.inl rfl, ?_⟩ | refine ⟨Or.inr rfl, ?_⟩ | (refine ⟨?_, ?_⟩; (focus ((try simp (disch := omega) only [hlen2, nI_mul, nI_add, nI_sub']); exact in_nI (by omega) (by omega)))))
  refine ⟨rfl, rfl, S, _, o, S', rfl, by rw [e0]; exact hr, Ref_fr hR hf, fun I2 L2 hf2 hR2 => ?_⟩
  refine xbr_t rfl ?_
  exact go S' _ _ ((hf2 0 (by decide)).1.trans e0) (Cls_fr hC' hf2) hR2
set_option maxRecDepth 100000 in
theorem law_line {Q : xQ} {S : ST} {I : xI} {L : xL} {i len : Nat} (h0 : I 0 0 = nI len) (hi : i + 6 ≤ len) (hn : len ≤ 3072) (hC : Cls S I L) (hR : Ref S I L) (go : ∀ (S' : ST) (I' : xI) (L' : xL), I' 0 = I 0 → Cls S' I' L' → Ref S' I' L' → xGo mL_law csL_law 1365 Q [some (.ref 0), some (.ref 1), some (.ref 27), some (.int (nI i))] [] 48 48 I' L' xP0) : xGo mL_law csL_law 974 Q [some (.ref 0), some (.ref 1), some (.ref 27), some (.int (nI i))] [] 48 48 I L xP0 := by
  have hlen : (I 0 0).toNatClampNeg = len := by rw [h0, nI_clamp (by omega)]
  refine xrun okL_law hhL_law [(1365, [true, true, true, true])] 70 ?_
  (first | (refine xbr_f ?_ ?_; (focus ((simp (disch := omega) only [ix_lt, ix_le, ix_eq, ix_0, nI_clamp, nI_toInt, ng_T, nI_add, nI_mul, nI_sub', Int.neg_zero, not_false_eq_true, not_true_eq_false, hlen] <;> omega); done))) | (refine xbr_t ?_ ?_; (focus ((simp (disch := omega) only [ix_lt, ix_le, ix_eq, ix_0, nI_clamp, nI_toInt, ng_T, nI_add, nI_mul, nI_sub', Int.neg_zero, not_false_eq_true, not_true_eq_false, hlen] <;> omega); done))) | refine ⟨Or.inl rfl, ?_⟩ | refine ⟨Or.inr rfl, ?_⟩ | (refine ⟨?_, ?_⟩; (focus ((try simp (disch := omega) only [hlen, nI_mul, nI_add, nI_sub']); exact in_nI (by omega) (by omega)))))
  (first | (refine xbr_f ?_ ?_; (focus ((simp (disch := omega) only [ix_lt, ix_le, ix_eq, ix_0, nI_clamp, nI_toInt, ng_T, nI_add, nI_mul, nI_sub', Int.neg_zero, not_false_eq_true, not_true_eq_false, hlen] <;> omega); done))) | (refine xbr_t ?_ ?_; (focus ((simp (disch := omega) only [ix_lt, ix_le, ix_eq, ix_0, nI_clamp, nI_toInt, ng_T, nI_add, nI_mul, nI_sub', Int.neg_zero, not_false_eq_true, not_true_eq_false, hlen] <;> omega); done))) | refine ⟨Or.inl rfl, ?_⟩ | refine ⟨Or.inr rfl, ?_⟩ | (refine ⟨?_, ?_⟩; (focus ((try simp (disch := omega) only [hlen, nI_mul, nI_add, nI_sub']); exact in_nI (by omega) (by omega)))))
  (first | (refine xbr_f ?_ ?_; (focus ((simp (disch := omega) only [ix_lt, ix_le, ix_eq, ix_0, nI_clamp, nI_toInt, ng_T, nI_add, nI_mul, nI_sub', Int.neg_zero, not_false_eq_true, not_true_eq_false, hlen] <;> omega); done))) | (refine xbr_t ?_ ?_; (focus ((simp (disch := omega) only [ix_lt, ix_le, ix_eq, ix_0, nI_clamp, nI_toInt, ng_T, nI_add, nI_mul, nI_sub', Int.neg_zero, not_false_eq_true, not_true_eq_false, hlen] <;> omega); done))) | refine ⟨Or.inl rfl, ?_⟩ | refine ⟨Or.inr rfl, ?_⟩ | (refine ⟨?_, ?_⟩; (focus ((try simp (disch := omega) only [hlen, nI_mul, nI_add, nI_sub']); exact in_nI (by omega) (by omega)))))
  refine ⟨rfl, rfl, S, _, _, _, rfl, hC, fun o S' I' L' hr hf hC' => ?_⟩
  have e0 : I' 0 = I 0 := (hf 0 (Or.inl rfl)).1
  have hlen2 : (I' 0 0).toNatClampNeg = len := by rw [e0]; exact hlen
  (first | (refine xbr_f ?_ ?_; (focus ((simp (disch := omega) only [ix_lt, ix_le, ix_eq, ix_0, nI_clamp, nI_toInt, ng_T, nI_add, nI_mul, nI_sub', Int.neg_zero, not_false_eq_true, not_true_eq_false, hlen2] <;> omega); done))) | (refine xbr_t ?_ ?_; (focus ((simp (disch := omega) only [ix_lt, ix_le, ix_eq, ix_0, nI_clamp, nI_toInt, ng_T, nI_add, nI_mul, nI_sub', Int.neg_zero, not_false_eq_true, not_true_eq_false, hlen2] <;> omega); done))) | refine ⟨Or.inl rfl, ?_⟩ | refine ⟨Or.inr rfl, ?_⟩ | (refine ⟨?_, ?_⟩; (focus ((try simp (disch := omega) only [hlen2, nI_mul, nI_add, nI_sub']); exact in_nI (by omega) (by omega)))))
  (first | (refine xbr_f ?_ ?_; (focus ((simp (disch := omega) only [ix_lt, ix_le, ix_eq, ix_0, nI_clamp, nI_toInt, ng_T, nI_add, nI_mul, nI_sub', Int.neg_zero, not_false_eq_true, not_true_eq_false, hlen2] <;> omega); done))) | (refine xbr_t ?_ ?_; (focus ((simp (disch := omega) only [ix_lt, ix_le, ix_eq, ix_0, nI_clamp, nI_toInt, ng_T, nI_add, nI_mul, nI_sub', Int.neg_zero, not_false_eq_true, not_true_eq_false, hlen2] <;> omega); done))) | refine ⟨Or.inl rfl, ?_⟩ | refine ⟨Or.inr rfl, ?_⟩ | (refine ⟨?_, ?_⟩; (focus ((try simp (disch := omega) only [hlen2, nI_mul, nI_add, nI_sub']); exact in_nI (by omega) (by omega)))))
  (first | (refine xbr_f ?_ ?_; (focus ((simp (disch := omega) only [ix_lt, ix_le, ix_eq, ix_0, nI_clamp, nI_toInt, ng_T, nI_add, nI_mul, nI_sub', Int.neg_zero, not_false_eq_true, not_true_eq_false, hlen2] <;> omega); done))) | (refine xbr_t ?_ ?_; (focus ((simp (disch := omega) only [ix_lt, ix_le, ix_eq, ix_0, nI_clamp, nI_toInt, ng_T, nI_add, nI_mul, nI_sub', Int.neg_zero, not_false_eq_true, not_true_eq_false, hlen2] <;> omega); done))) | refine ⟨Or.inl rfl, ?_⟩ | refine ⟨Or.inr rfl, ?_⟩ | (refine ⟨?_, ?_⟩; (focus ((try simp (disch := omega) only [hlen2, nI_mul, nI_add, nI_sub']); exact in_nI (by omega) (by omega)))))
  refine ⟨rfl, rfl, S, _, _, _, o, S', rfl, by rw [e0]; exact hr, Ref_fr hR hf, fun I2 L2 hf2 hR2 => ?_⟩
  refine xbr_t rfl ?_
  exact go S' _ _ ((hf2 0 (by decide)).1.trans e0) (Cls_fr hC' hf2) hR2
set_option maxRecDepth 100000 in
theorem law_cover {Q : xQ} {S : ST} {I : xI} {L : xL} {i len : Nat} (h0 : I 0 0 = nI len) (hi : i + 6 ≤ len) (hn : len ≤ 3072) (hC : Cls S I L) (hR : Ref S I L) (go : ∀ (S' : ST) (I' : xI) (L' : xL), I' 0 = I 0 → Cls S' I' L' → Ref S' I' L' → xGo mL_law csL_law 1365 Q [some (.ref 0), some (.ref 1), some (.ref 27), some (.int (nI i))] [] 48 48 I' L' xP0) : xGo mL_law csL_law 1017 Q [some (.ref 0), some (.ref 1), some (.ref 27), some (.int (nI i))] [] 48 48 I L xP0 := by
  have hlen : (I 0 0).toNatClampNeg = len := by rw [h0, nI_clamp (by omega)]
  refine xrun okL_law hhL_law [(1365, [true, true, true, true])] 70 ?_
  refine ⟨rfl, rfl, S, rfl, hC, fun o S' I' L' hr hf hC' => ?_⟩
  have e0 : I' 0 = I 0 := (hf 0 (Or.inl rfl)).1
  refine ⟨rfl, rfl, S, o, S', rfl, hr, Ref_fr hR hf, fun I2 L2 hf2 hR2 => ?_⟩
  refine xbr_t rfl ?_
  exact go S' _ _ ((hf2 0 (by decide)).1.trans e0) (Cls_fr hC' hf2) hR2
set_option maxRecDepth 100000 in
theorem law_memories {Q : xQ} {S : ST} {I : xI} {L : xL} {i len : Nat} (h0 : I 0 0 = nI len) (hi : i + 6 ≤ len) (hn : len ≤ 3072) (hC : Cls S I L) (hR : Ref S I L) (go : ∀ (S' : ST) (I' : xI) (L' : xL), I' 0 = I 0 → Cls S' I' L' → Ref S' I' L' → xGo mL_law csL_law 1365 Q [some (.ref 0), some (.ref 1), some (.ref 27), some (.int (nI i))] [] 48 48 I' L' xP0) : xGo mL_law csL_law 1030 Q [some (.ref 0), some (.ref 1), some (.ref 27), some (.int (nI i))] [] 48 48 I L xP0 := by
  have hlen : (I 0 0).toNatClampNeg = len := by rw [h0, nI_clamp (by omega)]
  refine xrun okL_law hhL_law [(1365, [true, true, true, true])] 70 ?_
  (first | (refine xbr_f ?_ ?_; (focus ((simp (disch := omega) only [ix_lt, ix_le, ix_eq, ix_0, nI_clamp, nI_toInt, ng_T, nI_add, nI_mul, nI_sub', Int.neg_zero, not_false_eq_true, not_true_eq_false, hlen] <;> omega); done))) | (refine xbr_t ?_ ?_; (focus ((simp (disch := omega) only [ix_lt, ix_le, ix_eq, ix_0, nI_clamp, nI_toInt, ng_T, nI_add, nI_mul, nI_sub', Int.neg_zero, not_false_eq_true, not_true_eq_false, hlen] <;> omega); done))) | refine ⟨Or.inl rfl, ?_⟩ | refine ⟨Or.inr rfl, ?_⟩ | (refine ⟨?_, ?_⟩; (focus ((try simp (disch := omega) only [hlen, nI_mul, nI_add, nI_sub']); exact in_nI (by omega) (by omega)))))
  (first | (refine xbr_f ?_ ?_; (focus ((simp (disch := omega) only [ix_lt, ix_le, ix_eq, ix_0, nI_clamp, nI_toInt, ng_T, nI_add, nI_mul, nI_sub', Int.neg_zero, not_false_eq_true, not_true_eq_false, hlen] <;> omega); done))) | (refine xbr_t ?_ ?_; (focus ((simp (disch := omega) only [ix_lt, ix_le, ix_eq, ix_0, nI_clamp, nI_toInt, ng_T, nI_add, nI_mul, nI_sub', Int.neg_zero, not_false_eq_true, not_true_eq_false, hlen] <;> omega); done))) | refine ⟨Or.inl rfl, ?_⟩ | refine ⟨Or.inr rfl, ?_⟩ | (refine ⟨?_, ?_⟩; (focus ((try simp (disch := omega) only [hlen, nI_mul, nI_add, nI_sub']); exact in_nI (by omega) (by omega)))))
  refine ⟨rfl, rfl, S, _, _, rfl, hC, fun o S' I' L' hr hf hC' => ?_⟩
  have e0 : I' 0 = I 0 := (hf 0 (Or.inl rfl)).1
  have hlen2 : (I' 0 0).toNatClampNeg = len := by rw [e0]; exact hlen
  (first | (refine xbr_f ?_ ?_; (focus ((simp (disch := omega) only [ix_lt, ix_le, ix_eq, ix_0, nI_clamp, nI_toInt, ng_T, nI_add, nI_mul, nI_sub', Int.neg_zero, not_false_eq_true, not_true_eq_false, hlen2] <;> omega); done))) | (refine xbr_t ?_ ?_; (focus ((simp (disch := omega) only [ix_lt, ix_le, ix_eq, ix_0, nI_clamp, nI_toInt, ng_T, nI_add, nI_mul, nI_sub', Int.neg_zero, not_false_eq_true, not_true_eq_false, hlen2] <;> omega); done))) | refine ⟨Or.inl rfl, ?_⟩ | refine ⟨Or.inr rfl, ?_⟩ | (refine ⟨?_, ?_⟩; (focus ((try simp (disch := omega) only [hlen2, nI_mul, nI_add, nI_sub']); exact in_nI (by omega) (by omega)))))
  (first | (refine xbr_f ?_ ?_; (focus ((simp (disch := omega) only [ix_lt, ix_le, ix_eq, ix_0, nI_clamp, nI_toInt, ng_T, nI_add, nI_mul, nI_sub', Int.neg_zero, not_false_eq_true, not_true_eq_false, hlen2] <;> omega); done))) | (refine xbr_t ?_ ?_; (focus ((simp (disch := omega) only [ix_lt, ix_le, ix_eq, ix_0, nI_clamp, nI_toInt, ng_T, nI_add, nI_mul, nI_sub', Int.neg_zero, not_false_eq_true, not_true_eq_false, hlen2] <;> omega); done))) | refine ⟨Or.inl rfl, ?_⟩ | refine ⟨Or.inr rfl, ?_⟩ | (refine ⟨?_, ?_⟩; (focus ((try simp (disch := omega) only [hlen2, nI_mul, nI_add, nI_sub']); exact in_nI (by omega) (by omega)))))
  refine ⟨rfl, rfl, S, _, _, o, S', rfl, by rw [e0]; exact hr, Ref_fr hR hf, fun I2 L2 hf2 hR2 => ?_⟩
  refine xbr_t rfl ?_
  exact go S' _ _ ((hf2 0 (by decide)).1.trans e0) (Cls_fr hC' hf2) hR2
set_option maxRecDepth 100000 in
theorem law_kinds {Q : xQ} {S : ST} {I : xI} {L : xL} {i len : Nat} (h0 : I 0 0 = nI len) (hi : i + 6 ≤ len) (hn : len ≤ 3072) (hC : Cls S I L) (hR : Ref S I L) (go : ∀ (S' : ST) (I' : xI) (L' : xL), I' 0 = I 0 → Cls S' I' L' → Ref S' I' L' → xGo mL_law csL_law 1365 Q [some (.ref 0), some (.ref 1), some (.ref 27), some (.int (nI i))] [] 48 48 I' L' xP0) : xGo mL_law csL_law 1063 Q [some (.ref 0), some (.ref 1), some (.ref 27), some (.int (nI i))] [] 48 48 I L xP0 := by
  have hlen : (I 0 0).toNatClampNeg = len := by rw [h0, nI_clamp (by omega)]
  refine xrun okL_law hhL_law [(1365, [true, true, true, true])] 70 ?_
  (first | (refine xbr_f ?_ ?_; (focus ((simp (disch := omega) only [ix_lt, ix_le, ix_eq, ix_0, nI_clamp, nI_toInt, ng_T, nI_add, nI_mul, nI_sub', Int.neg_zero, not_false_eq_true, not_true_eq_false, hlen] <;> omega); done))) | (refine xbr_t ?_ ?_; (focus ((simp (disch := omega) only [ix_lt, ix_le, ix_eq, ix_0, nI_clamp, nI_toInt, ng_T, nI_add, nI_mul, nI_sub', Int.neg_zero, not_false_eq_true, not_true_eq_false, hlen] <;> omega); done))) | refine ⟨Or.inl rfl, ?_⟩ | refine ⟨Or.inr rfl, ?_⟩ | (refine ⟨?_, ?_⟩; (focus ((try simp (disch := omega) only [hlen, nI_mul, nI_add, nI_sub']); exact in_nI (by omega) (by omega)))))
  (first | (refine xbr_f ?_ ?_; (focus ((simp (disch := omega) only [ix_lt, ix_le, ix_eq, ix_0, nI_clamp, nI_toInt, ng_T, nI_add, nI_mul, nI_sub', Int.neg_zero, not_false_eq_true, not_true_eq_false, hlen] <;> omega); done))) | (refine xbr_t ?_ ?_; (focus ((simp (disch := omega) only [ix_lt, ix_le, ix_eq, ix_0, nI_clamp, nI_toInt, ng_T, nI_add, nI_mul, nI_sub', Int.neg_zero, not_false_eq_true, not_true_eq_false, hlen] <;> omega); done))) | refine ⟨Or.inl rfl, ?_⟩ | refine ⟨Or.inr rfl, ?_⟩ | (refine ⟨?_, ?_⟩; (focus ((try simp (disch := omega) only [hlen, nI_mul, nI_add, nI_sub']); exact in_nI (by omega) (by omega)))))
  refine ⟨rfl, rfl, S, _, _, rfl, hC, fun o S' I' L' hr hf hC' => ?_⟩
  have e0 : I' 0 = I 0 := (hf 0 (Or.inl rfl)).1
  have hlen2 : (I' 0 0).toNatClampNeg = len := by rw [e0]; exact hlen
  (first | (refine xbr_f ?_ ?_; (focus ((simp (disch := omega) only [ix_lt, ix_le, ix_eq, ix_0, nI_clamp, nI_toInt, ng_T, nI_add, nI_mul, nI_sub', Int.neg_zero, not_false_eq_true, not_true_eq_false, hlen2] <;> omega); done))) | (refine xbr_t ?_ ?_; (focus ((simp (disch := omega) only [ix_lt, ix_le, ix_eq, ix_0, nI_clamp, nI_toInt, ng_T, nI_add, nI_mul, nI_sub', Int.neg_zero, not_false_eq_true, not_true_eq_false, hlen2] <;> omega); done))) | refine ⟨Or.inl rfl, ?_⟩ | refine ⟨Or.inr rfl, ?_⟩ | (refine ⟨?_, ?_⟩; (focus ((try simp (disch := omega) only [hlen2, nI_mul, nI_add, nI_sub']); exact in_nI (by omega) (by omega)))))
  (first | (refine xbr_f ?_ ?_; (focus ((simp (disch := omega) only [ix_lt, ix_le, ix_eq, ix_0, nI_clamp, nI_toInt, ng_T, nI_add, nI_mul, nI_sub', Int.neg_zero, not_false_eq_true, not_true_eq_false, hlen2] <;> omega); done))) | (refine xbr_t ?_ ?_; (focus ((simp (disch := omega) only [ix_lt, ix_le, ix_eq, ix_0, nI_clamp, nI_toInt, ng_T, nI_add, nI_mul, nI_sub', Int.neg_zero, not_false_eq_true, not_true_eq_false, hlen2] <;> omega); done))) | refine ⟨Or.inl rfl, ?_⟩ | refine ⟨Or.inr rfl, ?_⟩ | (refine ⟨?_, ?_⟩; (focus ((try simp (disch := omega) only [hlen2, nI_mul, nI_add, nI_sub']); exact in_nI (by omega) (by omega)))))
  refine ⟨rfl, rfl, S, _, _, o, S', rfl, by rw [e0]; exact hr, Ref_fr hR hf, fun I2 L2 hf2 hR2 => ?_⟩
  refine xbr_t rfl ?_
  exact go S' _ _ ((hf2 0 (by decide)).1.trans e0) (Cls_fr hC' hf2) hR2
set_option maxRecDepth 100000 in
theorem law_next {Q : xQ} {S : ST} {I : xI} {L : xL} {i len : Nat} (h0 : I 0 0 = nI len) (hi : i + 6 ≤ len) (hn : len ≤ 3072) (hC : Cls S I L) (hR : Ref S I L) (go : ∀ (S' : ST) (I' : xI) (L' : xL), I' 0 = I 0 → Cls S' I' L' → Ref S' I' L' → xGo mL_law csL_law 1365 Q [some (.ref 0), some (.ref 1), some (.ref 27), some (.int (nI i))] [] 48 48 I' L' xP0) : xGo mL_law csL_law 1096 Q [some (.ref 0), some (.ref 1), some (.ref 27), some (.int (nI i))] [] 48 48 I L xP0 := by
  have hlen : (I 0 0).toNatClampNeg = len := by rw [h0, nI_clamp (by omega)]
  refine xrun okL_law hhL_law [(1365, [true, true, true, true])] 70 ?_
  (first | (refine xbr_f ?_ ?_; (focus ((simp (disch := omega) only [ix_lt, ix_le, ix_eq, ix_0, nI_clamp, nI_toInt, ng_T, nI_add, nI_mul, nI_sub', Int.neg_zero, not_false_eq_true, not_true_eq_false, hlen] <;> omega); done))) | (refine xbr_t ?_ ?_; (focus ((simp (disch := omega) only [ix_lt, ix_le, ix_eq, ix_0, nI_clamp, nI_toInt, ng_T, nI_add, nI_mul, nI_sub', Int.neg_zero, not_false_eq_true, not_true_eq_false, hlen] <;> omega); done))) | refine ⟨Or.inl rfl, ?_⟩ | refine ⟨Or.inr rfl, ?_⟩ | (refine ⟨?_, ?_⟩; (focus ((try simp (disch := omega) only [hlen, nI_mul, nI_add, nI_sub']); exact in_nI (by omega) (by omega)))))
  (first | (refine xbr_f ?_ ?_; (focus ((simp (disch := omega) only [ix_lt, ix_le, ix_eq, ix_0, nI_clamp, nI_toInt, ng_T, nI_add, nI_mul, nI_sub', Int.neg_zero, not_false_eq_true, not_true_eq_false, hlen] <;> omega); done))) | (refine xbr_t ?_ ?_; (focus ((simp (disch := omega) only [ix_lt, ix_le, ix_eq, ix_0, nI_clamp, nI_toInt, ng_T, nI_add, nI_mul, nI_sub', Int.neg_zero, not_false_eq_true, not_true_eq_false, hlen] <;> omega); done))) | refine ⟨Or.inl rfl, ?_⟩ | refine ⟨Or.inr rfl, ?_⟩ | (refine ⟨?_, ?_⟩; (focus ((try simp (disch := omega) only [hlen, nI_mul, nI_add, nI_sub']); exact in_nI (by omega) (by omega)))))
  refine ⟨rfl, rfl, S, _, _, rfl, hC, fun o S' I' L' hr hf hC' => ?_⟩
  have e0 : I' 0 = I 0 := (hf 0 (Or.inl rfl)).1
  have hlen2 : (I' 0 0).toNatClampNeg = len := by rw [e0]; exact hlen
  (first | (refine xbr_f ?_ ?_; (focus ((simp (disch := omega) only [ix_lt, ix_le, ix_eq, ix_0, nI_clamp, nI_toInt, ng_T, nI_add, nI_mul, nI_sub', Int.neg_zero, not_false_eq_true, not_true_eq_false, hlen2] <;> omega); done))) | (refine xbr_t ?_ ?_; (focus ((simp (disch := omega) only [ix_lt, ix_le, ix_eq, ix_0, nI_clamp, nI_toInt, ng_T, nI_add, nI_mul, nI_sub', Int.neg_zero, not_false_eq_true, not_true_eq_false, hlen2] <;> omega); done))) | refine ⟨Or.inl rfl, ?_⟩ | refine ⟨Or.inr rfl, ?_⟩ | (refine ⟨?_, ?_⟩; (focus ((try simp (disch := omega) only [hlen2, nI_mul, nI_add, nI_sub']); exact in_nI (by omega) (by omega)))))
  (first | (refine xbr_f ?_ ?_; (focus ((simp (disch := omega) only [ix_lt, ix_le, ix_eq, ix_0, nI_clamp, nI_toInt, ng_T, nI_add, nI_mul, nI_sub', Int.neg_zero, not_false_eq_true, not_true_eq_false, hlen2] <;> omega); done))) | (refine xbr_t ?_ ?_; (focus ((simp (disch := omega) only [ix_lt, ix_le, ix_eq, ix_0, nI_clamp, nI_toInt, ng_T, nI_add, nI_mul, nI_sub', Int.neg_zero, not_false_eq_true, not_true_eq_false, hlen2] <;> omega); done))) | refine ⟨Or.inl rfl, ?_⟩ | refine ⟨Or.inr rfl, ?_⟩ | (refine ⟨?_, ?_⟩; (focus ((try simp (disch := omega) only [hlen2, nI_mul, nI_add, nI_sub']); exact in_nI (by omega) (by omega)))))
  refine ⟨rfl, rfl, S, _, _, o, S', rfl, by rw [e0]; exact hr, Ref_fr hR hf, fun I2 L2 hf2 hR2 => ?_⟩
  refine xbr_t rfl ?_
  exact go S' _ _ ((hf2 0 (by decide)).1.trans e0) (Cls_fr hC' hf2) hR2
set_option maxRecDepth 100000 in
theorem law_duel {Q : xQ} {S : ST} {I : xI} {L : xL} {i len : Nat} (h0 : I 0 0 = nI len) (hi : i + 6 ≤ len) (hn : len ≤ 3072) (hC : Cls S I L) (hR : Ref S I L) (go : ∀ (S' : ST) (I' : xI) (L' : xL), I' 0 = I 0 → Cls S' I' L' → Ref S' I' L' → xGo mL_law csL_law 1365 Q [some (.ref 0), some (.ref 1), some (.ref 27), some (.int (nI i))] [] 48 48 I' L' xP0) : xGo mL_law csL_law 1129 Q [some (.ref 0), some (.ref 1), some (.ref 27), some (.int (nI i))] [] 48 48 I L xP0 := by
  have hlen : (I 0 0).toNatClampNeg = len := by rw [h0, nI_clamp (by omega)]
  refine xrun okL_law hhL_law [(1365, [true, true, true, true])] 70 ?_
  (first | (refine xbr_f ?_ ?_; (focus ((simp (disch := omega) only [ix_lt, ix_le, ix_eq, ix_0, nI_clamp, nI_toInt, ng_T, nI_add, nI_mul, nI_sub', Int.neg_zero, not_false_eq_true, not_true_eq_false, hlen] <;> omega); done))) | (refine xbr_t ?_ ?_; (focus ((simp (disch := omega) only [ix_lt, ix_le, ix_eq, ix_0, nI_clamp, nI_toInt, ng_T, nI_add, nI_mul, nI_sub', Int.neg_zero, not_false_eq_true, not_true_eq_false, hlen] <;> omega); done))) | refine ⟨Or.inl rfl, ?_⟩ | refine ⟨Or.inr rfl, ?_⟩ | (refine ⟨?_, ?_⟩; (focus ((try simp (disch := omega) only [hlen, nI_mul, nI_add, nI_sub']); exact in_nI (by omega) (by omega)))))
  (first | (refine xbr_f ?_ ?_; (focus ((simp (disch := omega) only [ix_lt, ix_le, ix_eq, ix_0, nI_clamp, nI_toInt, ng_T, nI_add, nI_mul, nI_sub', Int.neg_zero, not_false_eq_true, not_true_eq_false, hlen] <;> omega); done))) | (refine xbr_t ?_ ?_; (focus ((simp (disch := omega) only [ix_lt, ix_le, ix_eq, ix_0, nI_clamp, nI_toInt, ng_T, nI_add, nI_mul, nI_sub', Int.neg_zero, not_false_eq_true, not_true_eq_false, hlen] <;> omega); done))) | refine ⟨Or.inl rfl, ?_⟩ | refine ⟨Or.inr rfl, ?_⟩ | (refine ⟨?_, ?_⟩; (focus ((try simp (disch := omega) only [hlen, nI_mul, nI_add, nI_sub']); exact in_nI (by omega) (by omega)))))
  refine ⟨rfl, rfl, S, _, _, rfl, hC, fun o S' I' L' hr hf hC' => ?_⟩
  have e0 : I' 0 = I 0 := (hf 0 (Or.inl rfl)).1
  have hlen2 : (I' 0 0).toNatClampNeg = len := by rw [e0]; exact hlen
  (first | (refine xbr_f ?_ ?_; (focus ((simp (disch := omega) only [ix_lt, ix_le, ix_eq, ix_0, nI_clamp, nI_toInt, ng_T, nI_add, nI_mul, nI_sub', Int.neg_zero, not_false_eq_true, not_true_eq_false, hlen2] <;> omega); done))) | (refine xbr_t ?_ ?_; (focus ((simp (disch := omega) only [ix_lt, ix_le, ix_eq, ix_0, nI_clamp, nI_toInt, ng_T, nI_add, nI_mul, nI_sub', Int.neg_zero, not_false_eq_true, not_true_eq_false, hlen2] <;> omega); done))) | refine ⟨Or.inl rfl, ?_⟩ | refine ⟨Or.inr rfl, ?_⟩ | (refine ⟨?_, ?_⟩; (focus ((try simp (disch := omega) only [hlen2, nI_mul, nI_add, nI_sub']); exact in_nI (by omega) (by omega)))))
  (first | (refine xbr_f ?_ ?_; (focus ((simp (disch := omega) only [ix_lt, ix_le, ix_eq, ix_0, nI_clamp, nI_toInt, ng_T, nI_add, nI_mul, nI_sub', Int.neg_zero, not_false_eq_true, not_true_eq_false, hlen2] <;> omega); done))) | (refine xbr_t ?_ ?_; (focus ((simp (disch := omega) only [ix_lt, ix_le, ix_eq, ix_0, nI_clamp, nI_toInt, ng_T, nI_add, nI_mul, nI_sub', Int.neg_zero, not_false_eq_true, not_true_eq_false, hlen2] <;> omega); done))) | refine ⟨Or.inl rfl, ?_⟩ | refine ⟨Or.inr rfl, ?_⟩ | (refine ⟨?_, ?_⟩; (focus ((try simp (disch := omega) only [hlen2, nI_mul, nI_add, nI_sub']); exact in_nI (by omega) (by omega)))))
  refine ⟨rfl, rfl, S, _, _, o, S', rfl, by rw [e0]; exact hr, Ref_fr hR hf, fun I2 L2 hf2 hR2 => ?_⟩
  refine xbr_t rfl ?_
  exact go S' _ _ ((hf2 0 (by decide)).1.trans e0) (Cls_fr hC' hf2) hR2
set_option maxRecDepth 100000 in
theorem law_odds {Q : xQ} {S : ST} {I : xI} {L : xL} {i len : Nat} (h0 : I 0 0 = nI len) (hi : i + 6 ≤ len) (hn : len ≤ 3072) (hC : Cls S I L) (hR : Ref S I L) (go : ∀ (S' : ST) (I' : xI) (L' : xL), I' 0 = I 0 → Cls S' I' L' → Ref S' I' L' → xGo mL_law csL_law 1365 Q [some (.ref 0), some (.ref 1), some (.ref 27), some (.int (nI i))] [] 48 48 I' L' xP0) : xGo mL_law csL_law 1162 Q [some (.ref 0), some (.ref 1), some (.ref 27), some (.int (nI i))] [] 48 48 I L xP0 := by
  have hlen : (I 0 0).toNatClampNeg = len := by rw [h0, nI_clamp (by omega)]
  refine xrun okL_law hhL_law [(1365, [true, true, true, true])] 70 ?_
  (first | (refine xbr_f ?_ ?_; (focus ((simp (disch := omega) only [ix_lt, ix_le, ix_eq, ix_0, nI_clamp, nI_toInt, ng_T, nI_add, nI_mul, nI_sub', Int.neg_zero, not_false_eq_true, not_true_eq_false, hlen] <;> omega); done))) | (refine xbr_t ?_ ?_; (focus ((simp (disch := omega) only [ix_lt, ix_le, ix_eq, ix_0, nI_clamp, nI_toInt, ng_T, nI_add, nI_mul, nI_sub', Int.neg_zero, not_false_eq_true, not_true_eq_false, hlen] <;> omega); done))) | refine ⟨Or.inl rfl, ?_⟩ | refine ⟨Or.inr rfl, ?_⟩ | (refine ⟨?_, ?_⟩; (focus ((try simp (disch := omega) only [hlen, nI_mul, nI_add, nI_sub']); exact in_nI (by omega) (by omega)))))
  (first | (refine xbr_f ?_ ?_; (focus ((simp (disch := omega) only [ix_lt, ix_le, ix_eq, ix_0, nI_clamp, nI_toInt, ng_T, nI_add, nI_mul, nI_sub', Int.neg_zero, not_false_eq_true, not_true_eq_false, hlen] <;> omega); done))) | (refine xbr_t ?_ ?_; (focus ((simp (disch := omega) only [ix_lt, ix_le, ix_eq, ix_0, nI_clamp, nI_toInt, ng_T, nI_add, nI_mul, nI_sub', Int.neg_zero, not_false_eq_true, not_true_eq_false, hlen] <;> omega); done))) | refine ⟨Or.inl rfl, ?_⟩ | refine ⟨Or.inr rfl, ?_⟩ | (refine ⟨?_, ?_⟩; (focus ((try simp (disch := omega) only [hlen, nI_mul, nI_add, nI_sub']); exact in_nI (by omega) (by omega)))))
  refine ⟨rfl, rfl, S, _, _, rfl, hC, fun o S' I' L' hr hf hC' => ?_⟩
  have e0 : I' 0 = I 0 := (hf 0 (Or.inl rfl)).1
  have hlen2 : (I' 0 0).toNatClampNeg = len := by rw [e0]; exact hlen
  (first | (refine xbr_f ?_ ?_; (focus ((simp (disch := omega) only [ix_lt, ix_le, ix_eq, ix_0, nI_clamp, nI_toInt, ng_T, nI_add, nI_mul, nI_sub', Int.neg_zero, not_false_eq_true, not_true_eq_false, hlen2] <;> omega); done))) | (refine xbr_t ?_ ?_; (focus ((simp (disch := omega) only [ix_lt, ix_le, ix_eq, ix_0, nI_clamp, nI_toInt, ng_T, nI_add, nI_mul, nI_sub', Int.neg_zero, not_false_eq_true, not_true_eq_false, hlen2] <;> omega); done))) | refine ⟨Or.inl rfl, ?_⟩ | refine ⟨Or.inr rfl, ?_⟩ | (refine ⟨?_, ?_⟩; (focus ((try simp (disch := omega) only [hlen2, nI_mul, nI_add, nI_sub']); exact in_nI (by omega) (by omega)))))
  (first | (refine xbr_f ?_ ?_; (focus ((simp (disch := omega) only [ix_lt, ix_le, ix_eq, ix_0, nI_clamp, nI_toInt, ng_T, nI_add, nI_mul, nI_sub', Int.neg_zero, not_false_eq_true, not_true_eq_false, hlen2] <;> omega); done))) | (refine xbr_t ?_ ?_; (focus ((simp (disch := omega) only [ix_lt, ix_le, ix_eq, ix_0, nI_clamp, nI_toInt, ng_T, nI_add, nI_mul, nI_sub', Int.neg_zero, not_false_eq_true, not_true_eq_false, hlen2] <;> omega); done))) | refine ⟨Or.inl rfl, ?_⟩ | refine ⟨Or.inr rfl, ?_⟩ | (refine ⟨?_, ?_⟩; (focus ((try simp (disch := omega) only [hlen2, nI_mul, nI_add, nI_sub']); exact in_nI (by omega) (by omega)))))
  refine ⟨rfl, rfl, S, _, _, o, S', rfl, by rw [e0]; exact hr, Ref_fr hR hf, fun I2 L2 hf2 hR2 => ?_⟩
  refine xbr_t rfl ?_
  exact go S' _ _ ((hf2 0 (by decide)).1.trans e0) (Cls_fr hC' hf2) hR2
set_option maxRecDepth 100000 in
theorem law_mid {Q : xQ} {S : ST} {I : xI} {L : xL} {i len : Nat} (h0 : I 0 0 = nI len) (hi : i + 6 ≤ len) (hn : len ≤ 3072) (hC : Cls S I L) (hR : Ref S I L) (go : ∀ (S' : ST) (I' : xI) (L' : xL), I' 0 = I 0 → Cls S' I' L' → Ref S' I' L' → xGo mL_law csL_law 1365 Q [some (.ref 0), some (.ref 1), some (.ref 27), some (.int (nI i))] [] 48 48 I' L' xP0) : xGo mL_law csL_law 1195 Q [some (.ref 0), some (.ref 1), some (.ref 27), some (.int (nI i))] [] 48 48 I L xP0 := by
  have hlen : (I 0 0).toNatClampNeg = len := by rw [h0, nI_clamp (by omega)]
  refine xrun okL_law hhL_law [(1365, [true, true, true, true])] 70 ?_
  (first | (refine xbr_f ?_ ?_; (focus ((simp (disch := omega) only [ix_lt, ix_le, ix_eq, ix_0, nI_clamp, nI_toInt, ng_T, nI_add, nI_mul, nI_sub', Int.neg_zero, not_false_eq_true, not_true_eq_false, hlen] <;> omega); done))) | (refine xbr_t ?_ ?_; (focus ((simp (disch := omega) only [ix_lt, ix_le, ix_eq, ix_0, nI_clamp, nI_toInt, ng_T, nI_add, nI_mul, nI_sub', Int.neg_zero, not_false_eq_true, not_true_eq_false, hlen] <;> omega); done))) | refine ⟨Or.inl rfl, ?_⟩ | refine ⟨Or.inr rfl, ?_⟩ | (refine ⟨?_, ?_⟩; (focus ((try simp (disch := omega) only [hlen, nI_mul, nI_add, nI_sub']); exact in_nI (by omega) (by omega)))))
  refine ⟨rfl, rfl, S, _, rfl, hC, fun o S' I' L' hr hf hC' => ?_⟩
  have e0 : I' 0 = I 0 := (hf 0 (Or.inl rfl)).1
  have hlen2 : (I' 0 0).toNatClampNeg = len := by rw [e0]; exact hlen
  (first | (refine xbr_f ?_ ?_; (focus ((simp (disch := omega) only [ix_lt, ix_le, ix_eq, ix_0, nI_clamp, nI_toInt, ng_T, nI_add, nI_mul, nI_sub', Int.neg_zero, not_false_eq_true, not_true_eq_false, hlen2] <;> omega); done))) | (refine xbr_t ?_ ?_; (focus ((simp (disch := omega) only [ix_lt, ix_le, ix_eq, ix_0, nI_clamp, nI_toInt, ng_T, nI_add, nI_mul, nI_sub', Int.neg_zero, not_false_eq_true, not_true_eq_false, hlen2] <;> omega); done))) | refine ⟨Or.inl rfl, ?_⟩ | refine ⟨Or.inr rfl, ?_⟩ | (refine ⟨?_, ?_⟩; (focus ((try simp (disch := omega) only [hlen2, nI_mul, nI_add, nI_sub']); exact in_nI (by omega) (by omega)))))
  refine ⟨rfl, rfl, S, _, o, S', rfl, by rw [e0]; exact hr, Ref_fr hR hf, fun I2 L2 hf2 hR2 => ?_⟩
  refine xbr_t rfl ?_
  exact go S' _ _ ((hf2 0 (by decide)).1.trans e0) (Cls_fr hC' hf2) hR2
set_option maxRecDepth 100000 in
theorem law_lots {Q : xQ} {S : ST} {I : xI} {L : xL} {i len : Nat} (h0 : I 0 0 = nI len) (hi : i + 6 ≤ len) (hn : len ≤ 3072) (hC : Cls S I L) (hR : Ref S I L) (go : ∀ (S' : ST) (I' : xI) (L' : xL), I' 0 = I 0 → Cls S' I' L' → Ref S' I' L' → xGo mL_law csL_law 1365 Q [some (.ref 0), some (.ref 1), some (.ref 27), some (.int (nI i))] [] 48 48 I' L' xP0) : xGo mL_law csL_law 1218 Q [some (.ref 0), some (.ref 1), some (.ref 27), some (.int (nI i))] [] 48 48 I L xP0 := by
  have hlen : (I 0 0).toNatClampNeg = len := by rw [h0, nI_clamp (by omega)]
  refine xrun okL_law hhL_law [(1365, [true, true, true, true])] 70 ?_
  (first | (refine xbr_f ?_ ?_; (focus ((simp (disch := omega) only [ix_lt, ix_le, ix_eq, ix_0, nI_clamp, nI_toInt, ng_T, nI_add, nI_mul, nI_sub', Int.neg_zero, not_false_eq_true, not_true_eq_false, hlen] <;> omega); done))) | (refine xbr_t ?_ ?_; (focus ((simp (disch := omega) only [ix_lt, ix_le, ix_eq, ix_0, nI_clamp, nI_toInt, ng_T, nI_add, nI_mul, nI_sub', Int.neg_zero, not_false_eq_true, not_true_eq_false, hlen] <;> omega); done))) | refine ⟨Or.inl rfl, ?_⟩ | refine ⟨Or.inr rfl, ?_⟩ | (refine ⟨?_, ?_⟩; (focus ((try simp (disch := omega) only [hlen, nI_mul, nI_add, nI_sub']); exact in_nI (by omega) (by omega)))))
  (first | (refine xbr_f ?_ ?_; (focus ((simp (disch := omega) only [ix_lt, ix_le, ix_eq, ix_0, nI_clamp, nI_toInt, ng_T, nI_add, nI_mul, nI_sub', Int.neg_zero, not_false_eq_true, not_true_eq_false, hlen] <;> omega); done))) | (refine xbr_t ?_ ?_; (focus ((simp (disch := omega) only [ix_lt, ix_le, ix_eq, ix_0, nI_clamp, nI_toInt, ng_T, nI_add, nI_mul, nI_sub', Int.neg_zero, not_false_eq_true, not_true_eq_false, hlen] <;> omega); done))) | refine ⟨Or.inl rfl, ?_⟩ | refine ⟨Or.inr rfl, ?_⟩ | (refine ⟨?_, ?_⟩; (focus ((try simp (disch := omega) only [hlen, nI_mul, nI_add, nI_sub']); exact in_nI (by omega) (by omega)))))
  refine ⟨rfl, rfl, S, _, _, rfl, hC, fun o S' I' L' hr hf hC' => ?_⟩
  have e0 : I' 0 = I 0 := (hf 0 (Or.inl rfl)).1
  have hlen2 : (I' 0 0).toNatClampNeg = len := by rw [e0]; exact hlen
  (first | (refine xbr_f ?_ ?_; (focus ((simp (disch := omega) only [ix_lt, ix_le, ix_eq, ix_0, nI_clamp, nI_toInt, ng_T, nI_add, nI_mul, nI_sub', Int.neg_zero, not_false_eq_true, not_true_eq_false, hlen2] <;> omega); done))) | (refine xbr_t ?_ ?_; (focus ((simp (disch := omega) only [ix_lt, ix_le, ix_eq, ix_0, nI_clamp, nI_toInt, ng_T, nI_add, nI_mul, nI_sub', Int.neg_zero, not_false_eq_true, not_true_eq_false, hlen2] <;> omega); done))) | refine ⟨Or.inl rfl, ?_⟩ | refine ⟨Or.inr rfl, ?_⟩ | (refine ⟨?_, ?_⟩; (focus ((try simp (disch := omega) only [hlen2, nI_mul, nI_add, nI_sub']); exact in_nI (by omega) (by omega)))))
  (first | (refine xbr_f ?_ ?_; (focus ((simp (disch := omega) only [ix_lt, ix_le, ix_eq, ix_0, nI_clamp, nI_toInt, ng_T, nI_add, nI_mul, nI_sub', Int.neg_zero, not_false_eq_true, not_true_eq_false, hlen2] <;> omega); done))) | (refine xbr_t ?_ ?_; (focus ((simp (disch := omega) only [ix_lt, ix_le, ix_eq, ix_0, nI_clamp, nI_toInt, ng_T, nI_add, nI_mul, nI_sub', Int.neg_zero, not_false_eq_true, not_true_eq_false, hlen2] <;> omega); done))) | refine ⟨Or.inl rfl, ?_⟩ | refine ⟨Or.inr rfl, ?_⟩ | (refine ⟨?_, ?_⟩; (focus ((try simp (disch := omega) only [hlen2, nI_mul, nI_add, nI_sub']); exact in_nI (by omega) (by omega)))))
  refine ⟨rfl, rfl, S, _, _, o, S', rfl, by rw [e0]; exact hr, Ref_fr hR hf, fun I2 L2 hf2 hR2 => ?_⟩
  refine xbr_t rfl ?_
  exact go S' _ _ ((hf2 0 (by decide)).1.trans e0) (Cls_fr hC' hf2) hR2
set_option maxRecDepth 100000 in
theorem law_asked {Q : xQ} {S : ST} {I : xI} {L : xL} {i len : Nat} (h0 : I 0 0 = nI len) (hi : i + 6 ≤ len) (hn : len ≤ 3072) (hC : Cls S I L) (hR : Ref S I L) (go : ∀ (S' : ST) (I' : xI) (L' : xL), I' 0 = I 0 → Cls S' I' L' → Ref S' I' L' → xGo mL_law csL_law 1365 Q [some (.ref 0), some (.ref 1), some (.ref 27), some (.int (nI i))] [] 48 48 I' L' xP0) : xGo mL_law csL_law 1251 Q [some (.ref 0), some (.ref 1), some (.ref 27), some (.int (nI i))] [] 48 48 I L xP0 := by
  have hlen : (I 0 0).toNatClampNeg = len := by rw [h0, nI_clamp (by omega)]
  refine xrun okL_law hhL_law [(1365, [true, true, true, true])] 70 ?_
  refine ⟨rfl, rfl, S, rfl, hC, ?_⟩
  refine ⟨rfl, rfl, S, rfl, hR, ?_⟩
  refine xbr_t rfl ?_
  exact go S _ _ rfl hC hR
set_option maxRecDepth 100000 in
theorem law_upper {Q : xQ} {S : ST} {I : xI} {L : xL} {i len : Nat} (h0 : I 0 0 = nI len) (hi : i + 6 ≤ len) (hn : len ≤ 3072) (hC : Cls S I L) (hR : Ref S I L) (go : ∀ (S' : ST) (I' : xI) (L' : xL), I' 0 = I 0 → Cls S' I' L' → Ref S' I' L' → xGo mL_law csL_law 1365 Q [some (.ref 0), some (.ref 1), some (.ref 27), some (.int (nI i))] [] 48 48 I' L' xP0) : xGo mL_law csL_law 1264 Q [some (.ref 0), some (.ref 1), some (.ref 27), some (.int (nI i))] [] 48 48 I L xP0 := by
  have hlen : (I 0 0).toNatClampNeg = len := by rw [h0, nI_clamp (by omega)]
  refine xrun okL_law hhL_law [(1365, [true, true, true, true])] 70 ?_
  refine ⟨rfl, rfl, S, rfl, hC, ?_⟩
  refine ⟨rfl, rfl, S, rfl, hR, ?_⟩
  refine xbr_t (lcmp_0 _) ?_
  exact go S _ _ rfl hC hR
set_option maxRecDepth 100000 in
theorem law_lower {Q : xQ} {S : ST} {I : xI} {L : xL} {i len : Nat} (h0 : I 0 0 = nI len) (hi : i + 6 ≤ len) (hn : len ≤ 3072) (hC : Cls S I L) (hR : Ref S I L) (go : ∀ (S' : ST) (I' : xI) (L' : xL), I' 0 = I 0 → Cls S' I' L' → Ref S' I' L' → xGo mL_law csL_law 1365 Q [some (.ref 0), some (.ref 1), some (.ref 27), some (.int (nI i))] [] 48 48 I' L' xP0) : xGo mL_law csL_law 1278 Q [some (.ref 0), some (.ref 1), some (.ref 27), some (.int (nI i))] [] 48 48 I L xP0 := by
  have hlen : (I 0 0).toNatClampNeg = len := by rw [h0, nI_clamp (by omega)]
  refine xrun okL_law hhL_law [(1365, [true, true, true, true])] 70 ?_
  refine ⟨rfl, rfl, S, rfl, hC, ?_⟩
  refine ⟨rfl, rfl, S, rfl, hR, ?_⟩
  refine xbr_t (lcmp_0 _) ?_
  exact go S _ _ rfl hC hR
set_option maxRecDepth 100000 in
theorem law_count {Q : xQ} {S : ST} {I : xI} {L : xL} {i len : Nat} (h0 : I 0 0 = nI len) (hi : i + 6 ≤ len) (hn : len ≤ 3072) (hC : Cls S I L) (hR : Ref S I L) (go : ∀ (S' : ST) (I' : xI) (L' : xL), I' 0 = I 0 → Cls S' I' L' → Ref S' I' L' → xGo mL_law csL_law 1365 Q [some (.ref 0), some (.ref 1), some (.ref 27), some (.int (nI i))] [] 48 48 I' L' xP0) : xGo mL_law csL_law 1292 Q [some (.ref 0), some (.ref 1), some (.ref 27), some (.int (nI i))] [] 48 48 I L xP0 := by
  have hlen : (I 0 0).toNatClampNeg = len := by rw [h0, nI_clamp (by omega)]
  refine xrun okL_law hhL_law [(1365, [true, true, true, true])] 70 ?_
  (first | (refine xbr_f ?_ ?_; (focus ((simp (disch := omega) only [ix_lt, ix_le, ix_eq, ix_0, nI_clamp, nI_toInt, ng_T, nI_add, nI_mul, nI_sub', Int.neg_zero, not_false_eq_true, not_true_eq_false, hlen] <;> omega); done))) | (refine xbr_t ?_ ?_; (focus ((simp (disch := omega) only [ix_lt, ix_le, ix_eq, ix_0, nI_clamp, nI_toInt, ng_T, nI_add, nI_mul, nI_sub', Int.neg_zero, not_false_eq_true, not_true_eq_false, hlen] <;> omega); done))) | refine ⟨Or.inl rfl, ?_⟩ | refine ⟨Or.inr rfl, ?_⟩ | (refine ⟨?_, ?_⟩; (focus ((try simp (disch := omega) only [hlen, nI_mul, nI_add, nI_sub']); exact in_nI (by omega) (by omega)))))
  refine ⟨rfl, rfl, S, _, rfl, hC, fun hb => ?_, fun k hk hk2 => ?_⟩
  · (first | (refine xbr_f ?_ ?_; (focus ((simp (disch := omega) only [ix_lt, ix_le, ix_eq, ix_0, nI_clamp, nI_toInt, ng_T, nI_add, nI_mul, nI_sub', Int.neg_zero, not_false_eq_true, not_true_eq_false, hlen] <;> omega); done))) | (refine xbr_t ?_ ?_; (focus ((simp (disch := omega) only [ix_lt, ix_le, ix_eq, ix_0, nI_clamp, nI_toInt, ng_T, nI_add, nI_mul, nI_sub', Int.neg_zero, not_false_eq_true, not_true_eq_false, hlen] <;> omega); done))) | refine ⟨Or.inl rfl, ?_⟩ | refine ⟨Or.inr rfl, ?_⟩ | (refine ⟨?_, ?_⟩; (focus ((try simp (disch := omega) only [hlen, nI_mul, nI_add, nI_sub']); exact in_nI (by omega) (by omega)))))
    refine ⟨rfl, rfl, S, _, rfl, hR, fun _ => ?_, fun k hk hk2 => ?_⟩
    · refine xbr_t rfl ?_
      exact go S _ _ rfl hC hR
    · rw [hk, ib_tt hk2 (by decide)] at hb
      cases hb
  · (first | (refine xbr_f ?_ ?_; (focus ((simp (disch := omega) only [ix_lt, ix_le, ix_eq, ix_0, nI_clamp, nI_toInt, ng_T, nI_add, nI_mul, nI_sub', Int.neg_zero, not_false_eq_true, not_true_eq_false, hlen] <;> omega); done))) | (refine xbr_t ?_ ?_; (focus ((simp (disch := omega) only [ix_lt, ix_le, ix_eq, ix_0, nI_clamp, nI_toInt, ng_T, nI_add, nI_mul, nI_sub', Int.neg_zero, not_false_eq_true, not_true_eq_false, hlen] <;> omega); done))) | refine ⟨Or.inl rfl, ?_⟩ | refine ⟨Or.inr rfl, ?_⟩ | (refine ⟨?_, ?_⟩; (focus ((try simp (disch := omega) only [hlen, nI_mul, nI_add, nI_sub']); exact in_nI (by omega) (by omega)))))
    refine ⟨rfl, rfl, S, _, rfl, hR, fun hb => ?_, fun k2 hk3 hk4 => ?_⟩
    · rw [hk, ib_tt hk2 (by decide)] at hb
      cases hb
    · rw [hk, ix_eq, nI_toInt (by omega), nI_toInt (by omega)] at hk3
      obtain rfl : k = k2 := by omega
      refine xbr_t rfl ?_
      exact go S _ _ rfl hC hR
set_option maxRecDepth 100000 in
theorem law_finding {Q : xQ} {S : ST} {I : xI} {L : xL} {i len : Nat} (h0 : I 0 0 = nI len) (hi : i + 6 ≤ len) (hn : len ≤ 3072) (hC : Cls S I L) (hR : Ref S I L) (go : ∀ (S' : ST) (I' : xI) (L' : xL), I' 0 = I 0 → Cls S' I' L' → Ref S' I' L' → xGo mL_law csL_law 1365 Q [some (.ref 0), some (.ref 1), some (.ref 27), some (.int (nI i))] [] 48 48 I' L' xP0) : xGo mL_law csL_law 1315 Q [some (.ref 0), some (.ref 1), some (.ref 27), some (.int (nI i))] [] 48 48 I L xP0 := by
  have hlen : (I 0 0).toNatClampNeg = len := by rw [h0, nI_clamp (by omega)]
  refine xrun okL_law hhL_law [(1365, [true, true, true, true])] 70 ?_
  refine ⟨rfl, rfl, S, rfl, hC, ?_⟩
  refine ⟨rfl, rfl, S, rfl, hR, ?_⟩
  refine xbr_t rfl ?_
  exact go S _ _ rfl hC hR
set_option maxRecDepth 100000 in
theorem law_findings {Q : xQ} {S : ST} {I : xI} {L : xL} {i len : Nat} (h0 : I 0 0 = nI len) (hi : i + 6 ≤ len) (hn : len ≤ 3072) (hC : Cls S I L) (hR : Ref S I L) (go : ∀ (S' : ST) (I' : xI) (L' : xL), I' 0 = I 0 → Cls S' I' L' → Ref S' I' L' → xGo mL_law csL_law 1365 Q [some (.ref 0), some (.ref 1), some (.ref 27), some (.int (nI i))] [] 48 48 I' L' xP0) : xGo mL_law csL_law 1328 Q [some (.ref 0), some (.ref 1), some (.ref 27), some (.int (nI i))] [] 48 48 I L xP0 := by
  have hlen : (I 0 0).toNatClampNeg = len := by rw [h0, nI_clamp (by omega)]
  refine xrun okL_law hhL_law [(1365, [true, true, true, true])] 70 ?_
  (first | (refine xbr_f ?_ ?_; (focus ((simp (disch := omega) only [ix_lt, ix_le, ix_eq, ix_0, nI_clamp, nI_toInt, ng_T, nI_add, nI_mul, nI_sub', Int.neg_zero, not_false_eq_true, not_true_eq_false, hlen] <;> omega); done))) | (refine xbr_t ?_ ?_; (focus ((simp (disch := omega) only [ix_lt, ix_le, ix_eq, ix_0, nI_clamp, nI_toInt, ng_T, nI_add, nI_mul, nI_sub', Int.neg_zero, not_false_eq_true, not_true_eq_false, hlen] <;> omega); done))) | refine ⟨Or.inl rfl, ?_⟩ | refine ⟨Or.inr rfl, ?_⟩ | (refine ⟨?_, ?_⟩; (focus ((try simp (disch := omega) only [hlen, nI_mul, nI_add, nI_sub']); exact in_nI (by omega) (by omega)))))
  refine ⟨rfl, rfl, S, _, rfl, hC, fun o hr => ?_⟩
  (first | (refine xbr_f ?_ ?_; (focus ((simp (disch := omega) only [ix_lt, ix_le, ix_eq, ix_0, nI_clamp, nI_toInt, ng_T, nI_add, nI_mul, nI_sub', Int.neg_zero, not_false_eq_true, not_true_eq_false, hlen] <;> omega); done))) | (refine xbr_t ?_ ?_; (focus ((simp (disch := omega) only [ix_lt, ix_le, ix_eq, ix_0, nI_clamp, nI_toInt, ng_T, nI_add, nI_mul, nI_sub', Int.neg_zero, not_false_eq_true, not_true_eq_false, hlen] <;> omega); done))) | refine ⟨Or.inl rfl, ?_⟩ | refine ⟨Or.inr rfl, ?_⟩ | (refine ⟨?_, ?_⟩; (focus ((try simp (disch := omega) only [hlen, nI_mul, nI_add, nI_sub']); exact in_nI (by omega) (by omega)))))
  refine ⟨rfl, rfl, S, _, o, rfl, hr, hR, ?_⟩
  refine xbr_t rfl ?_
  exact go S _ _ rfl hC hR
set_option maxRecDepth 100000 in
theorem law_digest {Q : xQ} {S : ST} {I : xI} {L : xL} {i len : Nat} (h0 : I 0 0 = nI len) (hi : i + 6 ≤ len) (hn : len ≤ 3072) (hC : Cls S I L) (hR : Ref S I L) (go : ∀ (S' : ST) (I' : xI) (L' : xL), I' 0 = I 0 → Cls S' I' L' → Ref S' I' L' → xGo mL_law csL_law 1365 Q [some (.ref 0), some (.ref 1), some (.ref 27), some (.int (nI i))] [] 48 48 I' L' xP0) : xGo mL_law csL_law 1351 Q [some (.ref 0), some (.ref 1), some (.ref 27), some (.int (nI i))] [] 48 48 I L xP0 := by
  have hlen : (I 0 0).toNatClampNeg = len := by rw [h0, nI_clamp (by omega)]
  refine xrun okL_law hhL_law [(1365, [true, true, true, true])] 70 ?_
  refine ⟨rfl, rfl, S, rfl, hC, ?_⟩
  refine ⟨rfl, rfl, S, rfl, hR, fun I2 hs hR2 => ?_⟩
  refine xbr_t (lcmp_0 _) ?_
  exact go S _ _ ((scr_fr hs) 0 (by decide)).1 (Cls_fr hC (scr_fr hs)) hR2
set_option maxRecDepth 100000 in
theorem law_sw {Q : xQ} {S : ST} {I : xI} {L : xL} {i len : Nat} (h0 : I 0 0 = nI len) (hi : i + 6 ≤ len) (hn : len ≤ 3072) (hC : Cls S I L) (hR : Ref S I L) (go : ∀ (S' : ST) (I' : xI) (L' : xL), I' 0 = I 0 → Cls S' I' L' → Ref S' I' L' → xGo mL_law csL_law 1365 Q [some (.ref 0), some (.ref 1), some (.ref 27), some (.int (nI i))] [] 48 48 I' L' xP0) : xGo mL_law csL_law 27 Q [some (.ref 0), some (.ref 1), some (.ref 27), some (.int (nI i))] [] 48 48 I L xP0 := by
  have hlen : (I 0 0).toNatClampNeg = len := by rw [h0, nI_clamp (by omega)]
  refine xrun okL_law hhL_law [(1365, [true, true, true, true]), (216, [true, true, true, true]), (249, [true, true, true, true]), (292, [true, true, true, true]), (325, [true, true, true, true]), (348, [true, true, true, true]), (411, [true, true, true, true]), (434, [true, true, true, true]), (467, [true, true, true, true]), (510, [true, true, true, true]), (533, [true, true, true, true]), (556, [true, true, true, true]), (589, [true, true, true, true]), (622, [true, true, true, true]), (655, [true, true, true, true]), (668, [true, true, true, true]), (701, [true, true, true, true]), (734, [true, true, true, true]), (757, [true, true, true, true]), (780, [true, true, true, true]), (803, [true, true, true, true]), (836, [true, true, true, true]), (859, [true, true, true, true]), (892, [true, true, true, true]), (905, [true, true, true, true]), (918, [true, true, true, true]), (951, [true, true, true, true]), (974, [true, true, true, true]), (1017, [true, true, true, true]), (1030, [true, true, true, true]), (1063, [true, true, true, true]), (1096, [true, true, true, true]), (1129, [true, true, true, true]), (1162, [true, true, true, true]), (1195, [true, true, true, true]), (1218, [true, true, true, true]), (1251, [true, true, true, true]), (1264, [true, true, true, true]), (1278, [true, true, true, true]), (1292, [true, true, true, true]), (1315, [true, true, true, true]), (1328, [true, true, true, true]), (1351, [true, true, true, true])] 20 ?_
  (first | (refine xbr_f ?_ ?_; (focus ((simp (disch := omega) only [ix_lt, ix_le, ix_eq, ix_0, nI_clamp, nI_toInt, ng_T, nI_add, nI_mul, nI_sub', Int.neg_zero, not_false_eq_true, not_true_eq_false, hlen] <;> omega); done))) | (refine xbr_t ?_ ?_; (focus ((simp (disch := omega) only [ix_lt, ix_le, ix_eq, ix_0, nI_clamp, nI_toInt, ng_T, nI_add, nI_mul, nI_sub', Int.neg_zero, not_false_eq_true, not_true_eq_false, hlen] <;> omega); done))) | refine ⟨Or.inl rfl, ?_⟩ | refine ⟨Or.inr rfl, ?_⟩ | (refine ⟨?_, ?_⟩; (focus ((try simp (disch := omega) only [hlen, nI_mul, nI_add, nI_sub']); exact in_nI (by omega) (by omega)))))
  by_cases e0 : I 0 ((nI i).toNatClampNeg + 1) &&& nI 63 = nI 0
  · refine xbr_t e0 ?_
    exact law_row h0 hi hn hC hR go
  refine xbr_f e0 ?_
  by_cases e1 : I 0 ((nI i).toNatClampNeg + 1) &&& nI 63 = nI 1
  · refine xbr_t e1 ?_
    exact law_lay h0 hi hn hC hR go
  refine xbr_f e1 ?_
  by_cases e2 : I 0 ((nI i).toNatClampNeg + 1) &&& nI 63 = nI 2
  · refine xbr_t e2 ?_
    exact law_at h0 hi hn hC hR go
  refine xbr_f e2 ?_
  by_cases e3 : I 0 ((nI i).toNatClampNeg + 1) &&& nI 63 = nI 3
  · refine xbr_t e3 ?_
    exact law_tear h0 hi hn hC hR go
  refine xbr_f e3 ?_
  by_cases e4 : I 0 ((nI i).toNatClampNeg + 1) &&& nI 63 = nI 4
  · refine xbr_t e4 ?_
    exact law_copy h0 hi hn hC hR go
  refine xbr_f e4 ?_
  by_cases e5 : I 0 ((nI i).toNatClampNeg + 1) &&& nI 63 = nI 5
  · refine xbr_t e5 ?_
    exact law_mean h0 hi hn hC hR go
  refine xbr_f e5 ?_
  by_cases e6 : I 0 ((nI i).toNatClampNeg + 1) &&& nI 63 = nI 6
  · refine xbr_t e6 ?_
    exact law_text h0 hi hn hC hR go
  refine xbr_f e6 ?_
  by_cases e7 : I 0 ((nI i).toNatClampNeg + 1) &&& nI 63 = nI 7
  · refine xbr_t e7 ?_
    exact law_put h0 hi hn hC hR go
  refine xbr_f e7 ?_
  by_cases e8 : I 0 ((nI i).toNatClampNeg + 1) &&& nI 63 = nI 8
  · refine xbr_t e8 ?_
    exact law_fault h0 hi hn hC hR go
  refine xbr_f e8 ?_
  by_cases e9 : I 0 ((nI i).toNatClampNeg + 1) &&& nI 63 = nI 9
  · refine xbr_t e9 ?_
    exact law_plain h0 hi hn hC hR go
  refine xbr_f e9 ?_
  by_cases e10 : I 0 ((nI i).toNatClampNeg + 1) &&& nI 63 = nI 10
  · refine xbr_t e10 ?_
    exact law_ass h0 hi hn hC hR go
  refine xbr_f e10 ?_
  by_cases e11 : I 0 ((nI i).toNatClampNeg + 1) &&& nI 63 = nI 11
  · refine xbr_t e11 ?_
    exact law_load h0 hi hn hC hR go
  refine xbr_f e11 ?_
  by_cases e12 : I 0 ((nI i).toNatClampNeg + 1) &&& nI 63 = nI 12
  · refine xbr_t e12 ?_
    exact law_mark h0 hi hn hC hR go
  refine xbr_f e12 ?_
  by_cases e13 : I 0 ((nI i).toNatClampNeg + 1) &&& nI 63 = nI 13
  · refine xbr_t e13 ?_
    exact law_day h0 hi hn hC hR go
  refine xbr_f e13 ?_
  by_cases e14 : I 0 ((nI i).toNatClampNeg + 1) &&& nI 63 = nI 14
  · refine xbr_t e14 ?_
    exact law_smear h0 hi hn hC hR go
  refine xbr_f e14 ?_
  by_cases e15 : I 0 ((nI i).toNatClampNeg + 1) &&& nI 63 = nI 15
  · refine xbr_t e15 ?_
    exact law_lead h0 hi hn hC hR go
  refine xbr_f e15 ?_
  by_cases e16 : I 0 ((nI i).toNatClampNeg + 1) &&& nI 63 = nI 16
  · refine xbr_t e16 ?_
    exact law_undo h0 hi hn hC hR go
  refine xbr_f e16 ?_
  by_cases e17 : I 0 ((nI i).toNatClampNeg + 1) &&& nI 63 = nI 17
  · refine xbr_t e17 ?_
    exact law_keep h0 hi hn hC hR go
  refine xbr_f e17 ?_
  by_cases e18 : I 0 ((nI i).toNatClampNeg + 1) &&& nI 63 = nI 18
  · refine xbr_t e18 ?_
    exact law_on h0 hi hn hC hR go
  refine xbr_f e18 ?_
  by_cases e19 : I 0 ((nI i).toNatClampNeg + 1) &&& nI 63 = nI 19
  · refine xbr_t e19 ?_
    exact law_like h0 hi hn hC hR go
  refine xbr_f e19 ?_
  by_cases e20 : I 0 ((nI i).toNatClampNeg + 1) &&& nI 63 = nI 20
  · refine xbr_t e20 ?_
    exact law_who h0 hi hn hC hR go
  refine xbr_f e20 ?_
  by_cases e21 : I 0 ((nI i).toNatClampNeg + 1) &&& nI 63 = nI 21
  · refine xbr_t e21 ?_
    exact law_where h0 hi hn hC hR go
  refine xbr_f e21 ?_
  by_cases e22 : I 0 ((nI i).toNatClampNeg + 1) &&& nI 63 = nI 22
  · refine xbr_t e22 ?_
    exact law_home h0 hi hn hC hR go
  refine xbr_f e22 ?_
  by_cases e23 : I 0 ((nI i).toNatClampNeg + 1) &&& nI 63 = nI 23
  · refine xbr_t e23 ?_
    exact law_round h0 hi hn hC hR go
  refine xbr_f e23 ?_
  by_cases e24 : I 0 ((nI i).toNatClampNeg + 1) &&& nI 63 = nI 24
  · refine xbr_t e24 ?_
    exact law_marks h0 hi hn hC hR go
  refine xbr_f e24 ?_
  by_cases e25 : I 0 ((nI i).toNatClampNeg + 1) &&& nI 63 = nI 25
  · refine xbr_t e25 ?_
    exact law_match h0 hi hn hC hR go
  refine xbr_f e25 ?_
  by_cases e26 : I 0 ((nI i).toNatClampNeg + 1) &&& nI 63 = nI 26
  · refine xbr_t e26 ?_
    exact law_line h0 hi hn hC hR go
  refine xbr_f e26 ?_
  by_cases e27 : I 0 ((nI i).toNatClampNeg + 1) &&& nI 63 = nI 27
  · refine xbr_t e27 ?_
    exact law_cover h0 hi hn hC hR go
  refine xbr_f e27 ?_
  by_cases e28 : I 0 ((nI i).toNatClampNeg + 1) &&& nI 63 = nI 28
  · refine xbr_t e28 ?_
    exact law_memories h0 hi hn hC hR go
  refine xbr_f e28 ?_
  by_cases e29 : I 0 ((nI i).toNatClampNeg + 1) &&& nI 63 = nI 29
  · refine xbr_t e29 ?_
    exact law_kinds h0 hi hn hC hR go
  refine xbr_f e29 ?_
  by_cases e30 : I 0 ((nI i).toNatClampNeg + 1) &&& nI 63 = nI 30
  · refine xbr_t e30 ?_
    exact law_next h0 hi hn hC hR go
  refine xbr_f e30 ?_
  by_cases e31 : I 0 ((nI i).toNatClampNeg + 1) &&& nI 63 = nI 31
  · refine xbr_t e31 ?_
    exact law_duel h0 hi hn hC hR go
  refine xbr_f e31 ?_
  by_cases e32 : I 0 ((nI i).toNatClampNeg + 1) &&& nI 63 = nI 32
  · refine xbr_t e32 ?_
    exact law_odds h0 hi hn hC hR go
  refine xbr_f e32 ?_
  by_cases e33 : I 0 ((nI i).toNatClampNeg + 1) &&& nI 63 = nI 33
  · refine xbr_t e33 ?_
    exact law_mid h0 hi hn hC hR go
  refine xbr_f e33 ?_
  by_cases e34 : I 0 ((nI i).toNatClampNeg + 1) &&& nI 63 = nI 34
  · refine xbr_t e34 ?_
    exact law_lots h0 hi hn hC hR go
  refine xbr_f e34 ?_
  by_cases e35 : I 0 ((nI i).toNatClampNeg + 1) &&& nI 63 = nI 35
  · refine xbr_t e35 ?_
    exact law_asked h0 hi hn hC hR go
  refine xbr_f e35 ?_
  by_cases e36 : I 0 ((nI i).toNatClampNeg + 1) &&& nI 63 = nI 36
  · refine xbr_t e36 ?_
    exact law_upper h0 hi hn hC hR go
  refine xbr_f e36 ?_
  by_cases e37 : I 0 ((nI i).toNatClampNeg + 1) &&& nI 63 = nI 37
  · refine xbr_t e37 ?_
    exact law_lower h0 hi hn hC hR go
  refine xbr_f e37 ?_
  by_cases e38 : I 0 ((nI i).toNatClampNeg + 1) &&& nI 63 = nI 38
  · refine xbr_t e38 ?_
    exact law_count h0 hi hn hC hR go
  refine xbr_f e38 ?_
  by_cases e39 : I 0 ((nI i).toNatClampNeg + 1) &&& nI 63 = nI 39
  · refine xbr_t e39 ?_
    exact law_finding h0 hi hn hC hR go
  refine xbr_f e39 ?_
  by_cases e40 : I 0 ((nI i).toNatClampNeg + 1) &&& nI 63 = nI 40
  · refine xbr_t e40 ?_
    exact law_findings h0 hi hn hC hR go
  refine xbr_f e40 ?_
  by_cases e41 : I 0 ((nI i).toNatClampNeg + 1) &&& nI 63 = nI 41
  · refine xbr_t e41 ?_
    exact law_digest h0 hi hn hC hR go
  refine xbr_f e41 ?_
  exact go S _ _ rfl hC hR
