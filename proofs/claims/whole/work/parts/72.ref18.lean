/-! THE REFERENCE, 18: a plain begun -/
def plW (q : RS) (J : xI) (K A B : Nat) (I' : xI) : Prop := (∀ c, c ≠ 27 → c ≠ 34 → c ≠ 35 → c ≠ 36 → c ≠ 37 → I' c = J c) ∧ (∀ j, j ≠ 10 → j ≠ 11 → I' 27 j = J 27 j) ∧ I' 27 10 = nI q.d.nA ∧ I' 27 11 = nI q.d.nL ∧ I' 37 0 = nI 0 ∧ (∀ k, k < K → I' 34 k = nI (rdN q.d k)) ∧ (∀ i, i < A → I' 35 i = nI (kdN q.d i) ∧ I' 37 (1 + i) = nI (meN q.X i) ∧ I' 37 (5 + i) = nI (inN q.X i)) ∧ (∀ l, l < B → I' 37 (9 + l) = nI (mkN q.X l) ∧ I' 37 (14 + l) = nI (plN q.X l) ∧ I' 36 l = nI (hmN q.d l))
theorem plW_r {q : RS} {J I' : xI} {K A B : Nat} (h : plW q J K A B I') : plW q J (K + 1) A B (xup I' 34 K (nI (rdN q.d K))) := by
  obtain ⟨h1, h2, h3, h4, h5, h6, h7, h8⟩ := h
  refine ⟨fun c a b d e f => ?_, h2, h3, h4, h5, fun k hk => ?_, h7, h8⟩
  · rw [xup_c _ _ _ _ b]
    exact h1 c a b d e f
  · show (if k = K then nI (rdN q.d K) else I' 34 k) = _
    by_cases e : k = K
    · rw [if_pos e, e]
    · rw [if_neg e]
      exact h6 k (by omega)
theorem plW_a {q : RS} {J I' : xI} {K A : Nat} (hA : A < 4) (h : plW q J K A 0 I') : plW q J K (A + 1) 0 (xup (xup (xup I' 35 A (nI (kdN q.d A))) 37 (1 + A) (nI (meN q.X A))) 37 (5 + A) (nI (inN q.X A))) := by
  obtain ⟨h1, h2, h3, h4, h5, h6, h7, h8⟩ := h
  refine ⟨fun c a b d e f => ?_, h2, h3, h4, ?_, h6, fun i hi => ⟨?_, ?_, ?_⟩, fun l hl => absurd hl (Nat.not_lt_zero _)⟩
  · rw [xup_c _ _ _ _ f, xup_c _ _ _ _ f, xup_c _ _ _ _ d]
    exact h1 c a b d e f
  · show (if 0 = 5 + A then nI (inN q.X A) else if 0 = 1 + A then nI (meN q.X A) else I' 37 0) = _
    rw [if_neg (by omega), if_neg (by omega)]
    exact h5
  · show (if i = A then nI (kdN q.d A) else I' 35 i) = _
    by_cases e : i = A
    · rw [if_pos e, e]
    · rw [if_neg e]
      exact (h7 i (by omega)).1
  · show (if 1 + i = 5 + A then nI (inN q.X A) else if 1 + i = 1 + A then nI (meN q.X A) else I' 37 (1 + i)) = _
    rw [if_neg (by omega)]
    by_cases e : i = A
    · rw [if_pos (by omega), e]
    · rw [if_neg (by omega)]
      exact (h7 i (by omega)).2.1
  · show (if 5 + i = 5 + A then nI (inN q.X A) else if 5 + i = 1 + A then nI (meN q.X A) else I' 37 (5 + i)) = _
    by_cases e : i = A
    · rw [if_pos (by omega), e]
    · rw [if_neg (by omega), if_neg (by omega)]
      exact (h7 i (by omega)).2.2
theorem plW_l {q : RS} {J I' : xI} {K A B : Nat} (hB : B < 5) (hA : A ≤ 4) (h : plW q J K A B I') : plW q J K A (B + 1) (xup (xup (xup I' 37 (9 + B) (nI (mkN q.X B))) 37 (14 + B) (nI (plN q.X B))) 36 B (nI (hmN q.d B))) := by
  obtain ⟨h1, h2, h3, h4, h5, h6, h7, h8⟩ := h
  refine ⟨fun c a b d e f => ?_, h2, h3, h4, ?_, h6, fun i hi => ⟨(h7 i hi).1, ?_, ?_⟩, fun l hl => ⟨?_, ?_, ?_⟩⟩
  · rw [xup_c _ _ _ _ e, xup_c _ _ _ _ f, xup_c _ _ _ _ f]
    exact h1 c a b d e f
  · show (if 0 = 14 + B then nI (plN q.X B) else if 0 = 9 + B then nI (mkN q.X B) else I' 37 0) = _
    rw [if_neg (by omega), if_neg (by omega)]
    exact h5
  · show (if 1 + i = 14 + B then nI (plN q.X B) else if 1 + i = 9 + B then nI (mkN q.X B) else I' 37 (1 + i)) = _
    rw [if_neg (by omega), if_neg (by omega)]
    exact (h7 i hi).2.1
  · show (if 5 + i = 14 + B then nI (plN q.X B) else if 5 + i = 9 + B then nI (mkN q.X B) else I' 37 (5 + i)) = _
    rw [if_neg (by omega), if_neg (by omega)]
    exact (h7 i hi).2.2
  · show (if 9 + l = 14 + B then nI (plN q.X B) else if 9 + l = 9 + B then nI (mkN q.X B) else I' 37 (9 + l)) = _
    rw [if_neg (by omega)]
    by_cases e : l = B
    · rw [if_pos (by omega), e]
    · rw [if_neg (by omega)]
      exact (h8 l (by omega)).1
  · show (if 14 + l = 14 + B then nI (plN q.X B) else if 14 + l = 9 + B then nI (mkN q.X B) else I' 37 (14 + l)) = _
    by_cases e : l = B
    · rw [if_pos (by omega), e]
    · rw [if_neg (by omega), if_neg (by omega)]
      exact (h8 l (by omega)).2.1
  · show (if l = B then nI (hmN q.d B) else I' 36 l) = _
    by_cases e : l = B
    · rw [if_pos e, e]
    · rw [if_neg e]
      exact (h8 l (by omega)).2.2
def csX11_plain : xCs := [(mX11_isText, sX11_isText), (mX11_finds, sX11_finds), (mX11_reads, sX11_reads)]
theorem okX11_plain : xOkM mX11_plain csX11_plain := ⟨dX11_plain, by decide +kernel, by decide +kernel, ⟨wdX11_115, wdX11_19, wdX11_100, wdX11_196, wdX11_43, ⟨wdX11_118, fun h => Bool.noConfusion h⟩, wdX11_43, ⟨wdX11_121, fun h => Bool.noConfusion h⟩, wdX11_37, wdX11_28, wdX11_43, wdX11_118, wdX11_31, wdX11_43, wdX11_37, wdX11_43, wdX11_37, wdX11_43, wdX11_121, wdX11_37, wdX11_43, wdX11_37, wdX11_43, wdX11_34, wdX11_43, ⟨wdX11_199, fun h => Bool.noConfusion h⟩, wdX11_49, wdX11_121, trivial⟩⟩
theorem hhX11_plain : ∀ q ∈ csX11_plain, xHd q.1 := xall1 hX11_isText (xall1 hX11_finds (xall1 hX11_reads (xall0)))
theorem kkX11_plain : ∀ q ∈ csX11_plain, ∀ l, xCon l q.1 q.2 := xall1 kX11_isText (xall1 kX11_finds (xall1 kX11_reads (xall0)))
def sX11_plain : xSpec := xReg fun as I L Q => ∃ (S : ST) (t o : Int32) (S' : ST), as = [.ref 27, .int t] ∧ plainR S t o S' ∧ Ref S I L ∧ (∀ I' L', frM I L I' L' → Ref S' I' L' → Q (some (.int o)) I' L')
set_option maxRecDepth 100000 in
theorem kX11_plain : ∀ l, xCon l mX11_plain sX11_plain := by
  refine xcon_of okX11_plain hX11_plain rfl (by decide) hhX11_plain kkX11_plain ?_
  rintro as n0 I L P Q ⟨rfl, rfl, S, t, o, S', rfl, hR, hC, hQ⟩
  refine ⟨Nat.le_of_ble_eq_true rfl, ?_⟩
  refine xrun okX11_plain hhX11_plain [(66, [true, true, true])] 60 ?_
  refine ⟨rfl, rfl, t, rfl, ?_⟩
  rcases hR with ⟨h, rfl, rfl⟩ | ⟨j, rfl, hj, hR⟩
  · rw [h]
    (first | refine xbr_t (by decide) ?_ | refine xbr_f (by decide) ?_)
    exact hQ _ _ (frM_0 _ _) hC
  · rw [ib_tt hj (by decide)]
    (first | refine xbr_t (by decide) ?_ | refine xbr_f (by decide) ?_)
    rcases hR with ⟨h0, rfl, rfl⟩ | ⟨n, hn, hR⟩
    · have hz := hC.tz hj
      rw [h0, szI_0] at hz
      repeat (first | (refine xbr_f ?_ ?_; (focus ((simp (disch := omega) only [ix_lt, ix_le, ix_eq, ix_0, nI_clamp, nI_toInt, ng_T, nI_add, nI_mul, nI_sub', Int.neg_zero, not_false_eq_true, not_true_eq_false, hz] <;> omega); done))) | (refine xbr_t ?_ ?_; (focus ((simp (disch := omega) only [ix_lt, ix_le, ix_eq, ix_0, nI_clamp, nI_toInt, ng_T, nI_add, nI_mul, nI_sub', Int.neg_zero, not_false_eq_true, not_true_eq_false, hz] <;> omega); done))) | refine ⟨Or.inl rfl, ?_⟩ | refine ⟨Or.inr rfl, ?_⟩ | (refine ⟨?_, ?_⟩; (focus ((try simp (disch := omega) only [hz, nI_mul, nI_add, nI_sub']); exact in_nI (by omega) (by omega)))))
      exact ⟨rfl, rfl, S, 1, rfl, by decide, hC, fun I' hf hC' => hQ _ _ hf hC'⟩
    · obtain ⟨hz, hv⟩ := tx_rv hC hj hn
      have h41 := hC.ok.tz j hj
      repeat (first | (refine xbr_f ?_ ?_; (focus ((simp (disch := omega) only [ix_lt, ix_le, ix_eq, ix_0, nI_clamp, nI_toInt, ng_T, nI_add, nI_mul, nI_sub', Int.neg_zero, not_false_eq_true, not_true_eq_false, hz] <;> omega); done))) | (refine xbr_t ?_ ?_; (focus ((simp (disch := omega) only [ix_lt, ix_le, ix_eq, ix_0, nI_clamp, nI_toInt, ng_T, nI_add, nI_mul, nI_sub', Int.neg_zero, not_false_eq_true, not_true_eq_false, hz] <;> omega); done))) | refine ⟨Or.inl rfl, ?_⟩ | refine ⟨Or.inr rfl, ?_⟩ | (refine ⟨?_, ?_⟩; (focus ((try simp (disch := omega) only [hz, nI_mul, nI_add, nI_sub']); exact in_nI (by omega) (by omega)))))
      refine ⟨rfl, rfl, txV S j, n, j, rfl, hj, by omega, hz, hv, fun J hs hM hsp => ?_⟩
      have hJ := Ref_s hC hs
      rcases hR with ⟨hF, rfl, rfl⟩ | ⟨hF, rfl, rfl⟩
      · obtain ⟨S, rfl⟩ : ∃ S, S = S' := ⟨S', rfl⟩
        rw [hF, if_neg (by decide)]
        (first | (refine xbr_f ?_ ?_; (focus ((simp (disch := omega) only [ix_lt, ix_le, ix_eq, ix_0, nI_clamp, nI_toInt, ng_T, nI_add, nI_mul, nI_sub', Int.neg_zero, not_false_eq_true, not_true_eq_false] <;> omega); done))) | (refine xbr_t ?_ ?_; (focus ((simp (disch := omega) only [ix_lt, ix_le, ix_eq, ix_0, nI_clamp, nI_toInt, ng_T, nI_add, nI_mul, nI_sub', Int.neg_zero, not_false_eq_true, not_true_eq_false] <;> omega); done))) | refine ⟨Or.inl rfl, ?_⟩ | refine ⟨Or.inr rfl, ?_⟩ | (refine ⟨?_, ?_⟩; (focus (exact in_nI (by omega) (by omega)))))
        exact hQ _ _ (scr_fr hs) hJ
      · have hM := hM hF
        obtain ⟨k1, k2, k3⟩ := rdF_ok hF
        rw [hF, if_pos rfl]
        generalize (rdF (txV S j) n).1 = q at *
        obtain ⟨m1, m2, m3, m4, m5⟩ := hM
        have h4 := k1.a4
        have h5 := k1.l5
        (first | refine xbr_t (by decide) ?_ | refine xbr_f (by decide) ?_)
        (first | (refine xbr_f ?_ ?_; (focus ((simp (disch := omega) only [ix_lt, ix_le, ix_eq, ix_0, nI_clamp, nI_toInt, ng_T, nI_add, nI_mul, nI_sub', Int.neg_zero, not_false_eq_true, not_true_eq_false, nI_add] <;> omega); done))) | (refine xbr_t ?_ ?_; (focus ((simp (disch := omega) only [ix_lt, ix_le, ix_eq, ix_0, nI_clamp, nI_toInt, ng_T, nI_add, nI_mul, nI_sub', Int.neg_zero, not_false_eq_true, not_true_eq_false, nI_add] <;> omega); done))) | refine ⟨Or.inl rfl, ?_⟩ | refine ⟨Or.inr rfl, ?_⟩ | (refine ⟨?_, ?_⟩; (focus ((try simp (disch := omega) only [nI_add, nI_mul, nI_add, nI_sub']); exact in_nI (by omega) (by omega)))))
        (first | (refine xbr_f ?_ ?_; (focus ((simp (disch := omega) only [ix_lt, ix_le, ix_eq, ix_0, nI_clamp, nI_toInt, ng_T, nI_add, nI_mul, nI_sub', Int.neg_zero, not_false_eq_true, not_true_eq_false, nI_add] <;> omega); done))) | (refine xbr_t ?_ ?_; (focus ((simp (disch := omega) only [ix_lt, ix_le, ix_eq, ix_0, nI_clamp, nI_toInt, ng_T, nI_add, nI_mul, nI_sub', Int.neg_zero, not_false_eq_true, not_true_eq_false, nI_add] <;> omega); done))) | refine ⟨Or.inl rfl, ?_⟩ | refine ⟨Or.inr rfl, ?_⟩ | (refine ⟨?_, ?_⟩; (focus ((try simp (disch := omega) only [nI_add, nI_mul, nI_add, nI_sub']); exact in_nI (by omega) (by omega)))))
        (first | (refine xbr_f ?_ ?_; (focus ((simp (disch := omega) only [ix_lt, ix_le, ix_eq, ix_0, nI_clamp, nI_toInt, ng_T, nI_add, nI_mul, nI_sub', Int.neg_zero, not_false_eq_true, not_true_eq_false, nI_add] <;> omega); done))) | (refine xbr_t ?_ ?_; (focus ((simp (disch := omega) only [ix_lt, ix_le, ix_eq, ix_0, nI_clamp, nI_toInt, ng_T, nI_add, nI_mul, nI_sub', Int.neg_zero, not_false_eq_true, not_true_eq_false, nI_add] <;> omega); done))) | refine ⟨Or.inl rfl, ?_⟩ | refine ⟨Or.inr rfl, ?_⟩ | (refine ⟨?_, ?_⟩; (focus ((try simp (disch := omega) only [nI_add, nI_mul, nI_add, nI_sub']); exact in_nI (by omega) (by omega)))))
        simp (disch := omega) only [m1, nI_mul, nI_add, nI_clamp, nI_sub']
        have m2b : xup J 27 10 (nI q.d.nA) 39 1 = nI q.d.nL := m2
        simp (disch := omega) only [m2b, nI_mul, nI_add, nI_clamp, nI_sub']
        refine xlpW (M := mX11_plain) (cs := csX11_plain) (pc := 66) 5 (fun k => [some (.ref 27), some (.int (nI j)), some (.int (nI k))]) (fun k I' L' => L = L' ∧ plW q J k 0 0 I') ?_ ?_ ⟨rfl, fun c a b d e f => by rw [xup_c _ _ _ _ f, xup_c _ _ _ _ a, xup_c _ _ _ _ a], fun j' a b => by
          show (if j' = 11 then nI q.d.nL else if j' = 10 then nI q.d.nA else J 27 j') = J 27 j'
          rw [if_neg b, if_neg a], rfl, rfl, rfl, fun k hk => absurd hk (Nat.not_lt_zero _), fun k hk => absurd hk (Nat.not_lt_zero _), fun k hk => absurd hk (Nat.not_lt_zero _)⟩
        · rintro k hk I2 L2 ⟨rfl, hP⟩ ih
          refine xrun okX11_plain hhX11_plain [(66, [true, true, true])] 60 ?_
          have e39 : I2 39 = J 39 := hP.1 39 (by decide) (by decide) (by decide) (by decide) (by decide)
          have ev : I2 39 (2 + k) = nI (rdN q.d k) := by rw [e39, m3 k hk]
          (first | (refine xbr_f ?_ ?_; (focus ((simp (disch := omega) only [ix_lt, ix_le, ix_eq, ix_0, nI_clamp, nI_toInt, ng_T, nI_add, nI_mul, nI_sub', Int.neg_zero, not_false_eq_true, not_true_eq_false] <;> omega); done))) | (refine xbr_t ?_ ?_; (focus ((simp (disch := omega) only [ix_lt, ix_le, ix_eq, ix_0, nI_clamp, nI_toInt, ng_T, nI_add, nI_mul, nI_sub', Int.neg_zero, not_false_eq_true, not_true_eq_false] <;> omega); done))) | refine ⟨Or.inl rfl, ?_⟩ | refine ⟨Or.inr rfl, ?_⟩ | (refine ⟨?_, ?_⟩; (focus (exact in_nI (by omega) (by omega)))))
          (first | (refine xbr_f ?_ ?_; (focus ((simp (disch := omega) only [ix_lt, ix_le, ix_eq, ix_0, nI_clamp, nI_toInt, ng_T, nI_add, nI_mul, nI_sub', Int.neg_zero, not_false_eq_true, not_true_eq_false, nI_add] <;> omega); done))) | (refine xbr_t ?_ ?_; (focus ((simp (disch := omega) only [ix_lt, ix_le, ix_eq, ix_0, nI_clamp, nI_toInt, ng_T, nI_add, nI_mul, nI_sub', Int.neg_zero, not_false_eq_true, not_true_eq_false, nI_add] <;> omega); done))) | refine ⟨Or.inl rfl, ?_⟩ | refine ⟨Or.inr rfl, ?_⟩ | (refine ⟨?_, ?_⟩; (focus ((try simp (disch := omega) only [nI_add, nI_mul, nI_add, nI_sub']); exact in_nI (by omega) (by omega)))))
          (first | (refine xbr_f ?_ ?_; (focus ((simp (disch := omega) only [ix_lt, ix_le, ix_eq, ix_0, nI_clamp, nI_toInt, ng_T, nI_add, nI_mul, nI_sub', Int.neg_zero, not_false_eq_true, not_true_eq_false, nI_add] <;> omega); done))) | (refine xbr_t ?_ ?_; (focus ((simp (disch := omega) only [ix_lt, ix_le, ix_eq, ix_0, nI_clamp, nI_toInt, ng_T, nI_add, nI_mul, nI_sub', Int.neg_zero, not_false_eq_true, not_true_eq_false, nI_add] <;> omega); done))) | refine ⟨Or.inl rfl, ?_⟩ | refine ⟨Or.inr rfl, ?_⟩ | (refine ⟨?_, ?_⟩; (focus ((try simp (disch := omega) only [nI_add, nI_mul, nI_add, nI_sub']); exact in_nI (by omega) (by omega)))))
          simp (disch := omega) only [ev, nI_mul, nI_add, nI_clamp, nI_sub']
          refine xgo_eq (ih _ _ ⟨rfl, plW_r hP⟩) ?_ rfl rfl
          ((repeat' (first | (with_reducible rfl) | exact xv_nil | refine xv_cons ?_ ?_ | refine xv_i ?_ | refine xv_l ?_)) <;> (simp (disch := omega) only [↓reduceIte, Bool.false_eq_true, Nat.one_mul, Nat.zero_mul, Nat.or_zero, Nat.add_zero, Nat.zero_add, Bool.toNat_true, Bool.toNat_false, shl_n, shr_n, fa_and, fa_or, nx_xor, nI_add, nI_mul, nI_sub', and_1, and_7, and_3', and_15]))
        · rintro I2 L2 ⟨rfl, hP⟩
          refine xrun okX11_plain hhX11_plain [(93, [true, true, true])] 60 ?_
          (first | (refine xbr_f ?_ ?_; (focus ((simp (disch := omega) only [ix_lt, ix_le, ix_eq, ix_0, nI_clamp, nI_toInt, ng_T, nI_add, nI_mul, nI_sub', Int.neg_zero, not_false_eq_true, not_true_eq_false] <;> omega); done))) | (refine xbr_t ?_ ?_; (focus ((simp (disch := omega) only [ix_lt, ix_le, ix_eq, ix_0, nI_clamp, nI_toInt, ng_T, nI_add, nI_mul, nI_sub', Int.neg_zero, not_false_eq_true, not_true_eq_false] <;> omega); done))) | refine ⟨Or.inl rfl, ?_⟩ | refine ⟨Or.inr rfl, ?_⟩ | (refine ⟨?_, ?_⟩; (focus (exact in_nI (by omega) (by omega)))))
          refine xlpW (M := mX11_plain) (cs := csX11_plain) (pc := 93) q.d.nA (fun k => [some (.ref 27), some (.int (nI j)), some (.int (nI k))]) (fun k I' L' => L = L' ∧ plW q J 5 k 0 I') ?_ ?_ ⟨rfl, hP⟩
          · rintro i hi I3 L3 ⟨rfl, hP3⟩ ih
            refine xrun okX11_plain hhX11_plain [(93, [true, true, true])] 90 ?_
            have e39 : I3 39 = J 39 := hP3.1 39 (by decide) (by decide) (by decide) (by decide) (by decide)
            have hA := hP3.2.2.1
            obtain ⟨x1, x2, x3⟩ := m4 i hi
            have y1 : I3 39 (7 + 3 * i) = nI (kdN q.d i) := by rw [e39, x1]
            have y2 : ∀ a b, xup I3 35 a b 39 (8 + 3 * i) = nI (meN q.X i) := fun a b => by
              show I3 39 (8 + 3 * i) = _
              rw [e39, x2]
            have y3 : ∀ a b c d, xup (xup I3 35 a b) 37 c d 39 (9 + 3 * i) = nI (inN q.X i) := fun a b c d => by
              show I3 39 (9 + 3 * i) = _
              rw [e39, x3]
            (first | (refine xbr_f ?_ ?_; (focus ((simp (disch := omega) only [ix_lt, ix_le, ix_eq, ix_0, nI_clamp, nI_toInt, ng_T, nI_add, nI_mul, nI_sub', Int.neg_zero, not_false_eq_true, not_true_eq_false, hA] <;> omega); done))) | (refine xbr_t ?_ ?_; (focus ((simp (disch := omega) only [ix_lt, ix_le, ix_eq, ix_0, nI_clamp, nI_toInt, ng_T, nI_add, nI_mul, nI_sub', Int.neg_zero, not_false_eq_true, not_true_eq_false, hA] <;> omega); done))) | refine ⟨Or.inl rfl, ?_⟩ | refine ⟨Or.inr rfl, ?_⟩ | (refine ⟨?_, ?_⟩; (focus ((try simp (disch := omega) only [hA, nI_mul, nI_add, nI_sub']); exact in_nI (by omega) (by omega)))))
            (first | (refine xbr_f ?_ ?_; (focus ((simp (disch := omega) only [ix_lt, ix_le, ix_eq, ix_0, nI_clamp, nI_toInt, ng_T, nI_add, nI_mul, nI_sub', Int.neg_zero, not_false_eq_true, not_true_eq_false, nI_add] <;> omega); done))) | (refine xbr_t ?_ ?_; (focus ((simp (disch := omega) only [ix_lt, ix_le, ix_eq, ix_0, nI_clamp, nI_toInt, ng_T, nI_add, nI_mul, nI_sub', Int.neg_zero, not_false_eq_true, not_true_eq_false, nI_add] <;> omega); done))) | refine ⟨Or.inl rfl, ?_⟩ | refine ⟨Or.inr rfl, ?_⟩ | (refine ⟨?_, ?_⟩; (focus ((try simp (disch := omega) only [nI_add, nI_mul, nI_add, nI_sub']); exact in_nI (by omega) (by omega)))))
            (first | (refine xbr_f ?_ ?_; (focus ((simp (disch := omega) only [ix_lt, ix_le, ix_eq, ix_0, nI_clamp, nI_toInt, ng_T, nI_add, nI_mul, nI_sub', Int.neg_zero, not_false_eq_true, not_true_eq_false, nI_add] <;> omega); done))) | (refine xbr_t ?_ ?_; (focus ((simp (disch := omega) only [ix_lt, ix_le, ix_eq, ix_0, nI_clamp, nI_toInt, ng_T, nI_add, nI_mul, nI_sub', Int.neg_zero, not_false_eq_true, not_true_eq_false, nI_add] <;> omega); done))) | refine ⟨Or.inl rfl, ?_⟩ | refine ⟨Or.inr rfl, ?_⟩ | (refine ⟨?_, ?_⟩; (focus ((try simp (disch := omega) only [nI_add, nI_mul, nI_add, nI_sub']); exact in_nI (by omega) (by omega)))))
            (first | (refine xbr_f ?_ ?_; (focus ((simp (disch := omega) only [ix_lt, ix_le, ix_eq, ix_0, nI_clamp, nI_toInt, ng_T, nI_add, nI_mul, nI_sub', Int.neg_zero, not_false_eq_true, not_true_eq_false, nI_add] <;> omega); done))) | (refine xbr_t ?_ ?_; (focus ((simp (disch := omega) only [ix_lt, ix_le, ix_eq, ix_0, nI_clamp, nI_toInt, ng_T, nI_add, nI_mul, nI_sub', Int.neg_zero, not_false_eq_true, not_true_eq_false, nI_add] <;> omega); done))) | refine ⟨Or.inl rfl, ?_⟩ | refine ⟨Or.inr rfl, ?_⟩ | (refine ⟨?_, ?_⟩; (focus ((try simp (disch := omega) only [nI_add, nI_mul, nI_add, nI_sub']); exact in_nI (by omega) (by omega)))))
            (first | (refine xbr_f ?_ ?_; (focus ((simp (disch := omega) only [ix_lt, ix_le, ix_eq, ix_0, nI_clamp, nI_toInt, ng_T, nI_add, nI_mul, nI_sub', Int.neg_zero, not_false_eq_true, not_true_eq_false, nI_add] <;> omega); done))) | (refine xbr_t ?_ ?_; (focus ((simp (disch := omega) only [ix_lt, ix_le, ix_eq, ix_0, nI_clamp, nI_toInt, ng_T, nI_add, nI_mul, nI_sub', Int.neg_zero, not_false_eq_true, not_true_eq_false, nI_add] <;> omega); done))) | refine ⟨Or.inl rfl, ?_⟩ | refine ⟨Or.inr rfl, ?_⟩ | (refine ⟨?_, ?_⟩; (focus ((try simp (disch := omega) only [nI_add, nI_mul, nI_add, nI_sub']); exact in_nI (by omega) (by omega)))))
            (first | (refine xbr_f ?_ ?_; (focus ((simp (disch := omega) only [ix_lt, ix_le, ix_eq, ix_0, nI_clamp, nI_toInt, ng_T, nI_add, nI_mul, nI_sub', Int.neg_zero, not_false_eq_true, not_true_eq_false, nI_add] <;> omega); done))) | (refine xbr_t ?_ ?_; (focus ((simp (disch := omega) only [ix_lt, ix_le, ix_eq, ix_0, nI_clamp, nI_toInt, ng_T, nI_add, nI_mul, nI_sub', Int.neg_zero, not_false_eq_true, not_true_eq_false, nI_add] <;> omega); done))) | refine ⟨Or.inl rfl, ?_⟩ | refine ⟨Or.inr rfl, ?_⟩ | (refine ⟨?_, ?_⟩; (focus ((try simp (disch := omega) only [nI_add, nI_mul, nI_add, nI_sub']); exact in_nI (by omega) (by omega)))))
            (first | (refine xbr_f ?_ ?_; (focus ((simp (disch := omega) only [ix_lt, ix_le, ix_eq, ix_0, nI_clamp, nI_toInt, ng_T, nI_add, nI_mul, nI_sub', Int.neg_zero, not_false_eq_true, not_true_eq_false, nI_add] <;> omega); done))) | (refine xbr_t ?_ ?_; (focus ((simp (disch := omega) only [ix_lt, ix_le, ix_eq, ix_0, nI_clamp, nI_toInt, ng_T, nI_add, nI_mul, nI_sub', Int.neg_zero, not_false_eq_true, not_true_eq_false, nI_add] <;> omega); done))) | refine ⟨Or.inl rfl, ?_⟩ | refine ⟨Or.inr rfl, ?_⟩ | (refine ⟨?_, ?_⟩; (focus ((try simp (disch := omega) only [nI_add, nI_mul, nI_add, nI_sub']); exact in_nI (by omega) (by omega)))))
            simp (disch := omega) only [y1, y2, y3, nI_mul, nI_add, nI_clamp, nI_sub']
            refine xgo_eq (ih _ _ ⟨rfl, plW_a (by omega) hP3⟩) ?_ rfl rfl
            ((repeat' (first | (with_reducible rfl) | exact xv_nil | refine xv_cons ?_ ?_ | refine xv_i ?_ | refine xv_l ?_)) <;> (simp (disch := omega) only [↓reduceIte, Bool.false_eq_true, Nat.one_mul, Nat.zero_mul, Nat.or_zero, Nat.add_zero, Nat.zero_add, Bool.toNat_true, Bool.toNat_false, shl_n, shr_n, fa_and, fa_or, nx_xor, nI_add, nI_mul, nI_sub', and_1, and_7, and_3', and_15]))
          · rintro I3 L3 ⟨rfl, hP3⟩
            have hA := hP3.2.2.1
            refine xrun okX11_plain hhX11_plain [(164, [true, true, true])] 60 ?_
            (first | (refine xbr_f ?_ ?_; (focus ((simp (disch := omega) only [ix_lt, ix_le, ix_eq, ix_0, nI_clamp, nI_toInt, ng_T, nI_add, nI_mul, nI_sub', Int.neg_zero, not_false_eq_true, not_true_eq_false, hA] <;> omega); done))) | (refine xbr_t ?_ ?_; (focus ((simp (disch := omega) only [ix_lt, ix_le, ix_eq, ix_0, nI_clamp, nI_toInt, ng_T, nI_add, nI_mul, nI_sub', Int.neg_zero, not_false_eq_true, not_true_eq_false, hA] <;> omega); done))) | refine ⟨Or.inl rfl, ?_⟩ | refine ⟨Or.inr rfl, ?_⟩ | (refine ⟨?_, ?_⟩; (focus ((try simp (disch := omega) only [hA, nI_mul, nI_add, nI_sub']); exact in_nI (by omega) (by omega)))))
            refine xlpW (M := mX11_plain) (cs := csX11_plain) (pc := 164) q.d.nL (fun k => [some (.ref 27), some (.int (nI j)), some (.int (nI k))]) (fun k I' L' => L = L' ∧ plW q J 5 q.d.nA k I') ?_ ?_ ⟨rfl, hP3⟩
            · rintro l hl I4 L4 ⟨rfl, hP4⟩ ih
              refine xrun okX11_plain hhX11_plain [(164, [true, true, true])] 90 ?_
              have e39 : I4 39 = J 39 := hP4.1 39 (by decide) (by decide) (by decide) (by decide) (by decide)
              have hL := hP4.2.2.2.1
              obtain ⟨x1, x2, x3⟩ := m5 l hl
              have y1 : I4 39 (19 + 3 * l) = nI (mkN q.X l) := by rw [e39, x1]
              have y2 : ∀ a b, xup I4 37 a b 39 (20 + 3 * l) = nI (plN q.X l) := fun a b => by
                show I4 39 (20 + 3 * l) = _
                rw [e39, x2]
              have y3 : ∀ a b c d, xup (xup I4 37 a b) 37 c d 39 (21 + 3 * l) = nI (hmN q.d l) := fun a b c d => by
                show I4 39 (21 + 3 * l) = _
                rw [e39, x3]
              (first | (refine xbr_f ?_ ?_; (focus ((simp (disch := omega) only [ix_lt, ix_le, ix_eq, ix_0, nI_clamp, nI_toInt, ng_T, nI_add, nI_mul, nI_sub', Int.neg_zero, not_false_eq_true, not_true_eq_false, hL] <;> omega); done))) | (refine xbr_t ?_ ?_; (focus ((simp (disch := omega) only [ix_lt, ix_le, ix_eq, ix_0, nI_clamp, nI_toInt, ng_T, nI_add, nI_mul, nI_sub', Int.neg_zero, not_false_eq_true, not_true_eq_false, hL] <;> omega); done))) | refine ⟨Or.inl rfl, ?_⟩ | refine ⟨Or.inr rfl, ?_⟩ | (refine ⟨?_, ?_⟩; (focus ((try simp (disch := omega) only [hL, nI_mul, nI_add, nI_sub']); exact in_nI (by omega) (by omega)))))
              (first | (refine xbr_f ?_ ?_; (focus ((simp (disch := omega) only [ix_lt, ix_le, ix_eq, ix_0, nI_clamp, nI_toInt, ng_T, nI_add, nI_mul, nI_sub', Int.neg_zero, not_false_eq_true, not_true_eq_false, nI_add] <;> omega); done))) | (refine xbr_t ?_ ?_; (focus ((simp (disch := omega) only [ix_lt, ix_le, ix_eq, ix_0, nI_clamp, nI_toInt, ng_T, nI_add, nI_mul, nI_sub', Int.neg_zero, not_false_eq_true, not_true_eq_false, nI_add] <;> omega); done))) | refine ⟨Or.inl rfl, ?_⟩ | refine ⟨Or.inr rfl, ?_⟩ | (refine ⟨?_, ?_⟩; (focus ((try simp (disch := omega) only [nI_add, nI_mul, nI_add, nI_sub']); exact in_nI (by omega) (by omega)))))
              (first | (refine xbr_f ?_ ?_; (focus ((simp (disch := omega) only [ix_lt, ix_le, ix_eq, ix_0, nI_clamp, nI_toInt, ng_T, nI_add, nI_mul, nI_sub', Int.neg_zero, not_false_eq_true, not_true_eq_false, nI_add] <;> omega); done))) | (refine xbr_t ?_ ?_; (focus ((simp (disch := omega) only [ix_lt, ix_le, ix_eq, ix_0, nI_clamp, nI_toInt, ng_T, nI_add, nI_mul, nI_sub', Int.neg_zero, not_false_eq_true, not_true_eq_false, nI_add] <;> omega); done))) | refine ⟨Or.inl rfl, ?_⟩ | refine ⟨Or.inr rfl, ?_⟩ | (refine ⟨?_, ?_⟩; (focus ((try simp (disch := omega) only [nI_add, nI_mul, nI_add, nI_sub']); exact in_nI (by omega) (by omega)))))
              (first | (refine xbr_f ?_ ?_; (focus ((simp (disch := omega) only [ix_lt, ix_le, ix_eq, ix_0, nI_clamp, nI_toInt, ng_T, nI_add, nI_mul, nI_sub', Int.neg_zero, not_false_eq_true, not_true_eq_false, nI_add] <;> omega); done))) | (refine xbr_t ?_ ?_; (focus ((simp (disch := omega) only [ix_lt, ix_le, ix_eq, ix_0, nI_clamp, nI_toInt, ng_T, nI_add, nI_mul, nI_sub', Int.neg_zero, not_false_eq_true, not_true_eq_false, nI_add] <;> omega); done))) | refine ⟨Or.inl rfl, ?_⟩ | refine ⟨Or.inr rfl, ?_⟩ | (refine ⟨?_, ?_⟩; (focus ((try simp (disch := omega) only [nI_add, nI_mul, nI_add, nI_sub']); exact in_nI (by omega) (by omega)))))
              (first | (refine xbr_f ?_ ?_; (focus ((simp (disch := omega) only [ix_lt, ix_le, ix_eq, ix_0, nI_clamp, nI_toInt, ng_T, nI_add, nI_mul, nI_sub', Int.neg_zero, not_false_eq_true, not_true_eq_false, nI_add] <;> omega); done))) | (refine xbr_t ?_ ?_; (focus ((simp (disch := omega) only [ix_lt, ix_le, ix_eq, ix_0, nI_clamp, nI_toInt, ng_T, nI_add, nI_mul, nI_sub', Int.neg_zero, not_false_eq_true, not_true_eq_false, nI_add] <;> omega); done))) | refine ⟨Or.inl rfl, ?_⟩ | refine ⟨Or.inr rfl, ?_⟩ | (refine ⟨?_, ?_⟩; (focus ((try simp (disch := omega) only [nI_add, nI_mul, nI_add, nI_sub']); exact in_nI (by omega) (by omega)))))
              (first | (refine xbr_f ?_ ?_; (focus ((simp (disch := omega) only [ix_lt, ix_le, ix_eq, ix_0, nI_clamp, nI_toInt, ng_T, nI_add, nI_mul, nI_sub', Int.neg_zero, not_false_eq_true, not_true_eq_false, nI_add] <;> omega); done))) | (refine xbr_t ?_ ?_; (focus ((simp (disch := omega) only [ix_lt, ix_le, ix_eq, ix_0, nI_clamp, nI_toInt, ng_T, nI_add, nI_mul, nI_sub', Int.neg_zero, not_false_eq_true, not_true_eq_false, nI_add] <;> omega); done))) | refine ⟨Or.inl rfl, ?_⟩ | refine ⟨Or.inr rfl, ?_⟩ | (refine ⟨?_, ?_⟩; (focus ((try simp (disch := omega) only [nI_add, nI_mul, nI_add, nI_sub']); exact in_nI (by omega) (by omega)))))
              (first | (refine xbr_f ?_ ?_; (focus ((simp (disch := omega) only [ix_lt, ix_le, ix_eq, ix_0, nI_clamp, nI_toInt, ng_T, nI_add, nI_mul, nI_sub', Int.neg_zero, not_false_eq_true, not_true_eq_false, nI_add] <;> omega); done))) | (refine xbr_t ?_ ?_; (focus ((simp (disch := omega) only [ix_lt, ix_le, ix_eq, ix_0, nI_clamp, nI_toInt, ng_T, nI_add, nI_mul, nI_sub', Int.neg_zero, not_false_eq_true, not_true_eq_false, nI_add] <;> omega); done))) | refine ⟨Or.inl rfl, ?_⟩ | refine ⟨Or.inr rfl, ?_⟩ | (refine ⟨?_, ?_⟩; (focus ((try simp (disch := omega) only [nI_add, nI_mul, nI_add, nI_sub']); exact in_nI (by omega) (by omega)))))
              simp (disch := omega) only [y1, y2, y3, nI_mul, nI_add, nI_clamp, nI_sub']
              refine xgo_eq (ih _ _ ⟨rfl, plW_l (by omega) h4 hP4⟩) ?_ rfl rfl
              ((repeat' (first | (with_reducible rfl) | exact xv_nil | refine xv_cons ?_ ?_ | refine xv_i ?_ | refine xv_l ?_)) <;> (simp (disch := omega) only [↓reduceIte, Bool.false_eq_true, Nat.one_mul, Nat.zero_mul, Nat.or_zero, Nat.add_zero, Nat.zero_add, Bool.toNat_true, Bool.toNat_false, shl_n, shr_n, fa_and, fa_or, nx_xor, nI_add, nI_mul, nI_sub', and_1, and_7, and_3', and_15]))
            · rintro I4 L4 ⟨rfl, hP4⟩
              have hL := hP4.2.2.2.1
              refine xrun okX11_plain hhX11_plain [(242, [true, true, true])] 60 ?_
              (first | (refine xbr_f ?_ ?_; (focus ((simp (disch := omega) only [ix_lt, ix_le, ix_eq, ix_0, nI_clamp, nI_toInt, ng_T, nI_add, nI_mul, nI_sub', Int.neg_zero, not_false_eq_true, not_true_eq_false, hL] <;> omega); done))) | (refine xbr_t ?_ ?_; (focus ((simp (disch := omega) only [ix_lt, ix_le, ix_eq, ix_0, nI_clamp, nI_toInt, ng_T, nI_add, nI_mul, nI_sub', Int.neg_zero, not_false_eq_true, not_true_eq_false, hL] <;> omega); done))) | refine ⟨Or.inl rfl, ?_⟩ | refine ⟨Or.inr rfl, ?_⟩ | (refine ⟨?_, ?_⟩; (focus ((try simp (disch := omega) only [hL, nI_mul, nI_add, nI_sub']); exact in_nI (by omega) (by omega)))))
              refine xlpW (M := mX11_plain) (cs := csX11_plain) (pc := 242) 3 (fun k => [some (.ref 27), some (.int (nI j)), some (.int (nI k))]) (fun k I' L' => L = L' ∧ ∃ f, I' = xrw (xup I4 27 22 (nI 0)) 41 f ∧ ∀ t, t < k → f t = -(nI 1)) ?_ ?_ ⟨rfl, I4 41, (xrw_self (xup I4 27 22 (nI 0)) 41).symm, fun t h => absurd h (Nat.not_lt_zero _)⟩
              · rintro k hk I5 L5 ⟨rfl, f, rfl, hf⟩ ih
                refine xrun okX11_plain hhX11_plain [(242, [true, true, true])] 60 ?_
                (first | (refine xbr_f ?_ ?_; (focus ((simp (disch := omega) only [ix_lt, ix_le, ix_eq, ix_0, nI_clamp, nI_toInt, ng_T, nI_add, nI_mul, nI_sub', Int.neg_zero, not_false_eq_true, not_true_eq_false] <;> omega); done))) | (refine xbr_t ?_ ?_; (focus ((simp (disch := omega) only [ix_lt, ix_le, ix_eq, ix_0, nI_clamp, nI_toInt, ng_T, nI_add, nI_mul, nI_sub', Int.neg_zero, not_false_eq_true, not_true_eq_false] <;> omega); done))) | refine ⟨Or.inl rfl, ?_⟩ | refine ⟨Or.inr rfl, ?_⟩ | (refine ⟨?_, ?_⟩; (focus (exact in_nI (by omega) (by omega)))))
                (first | (refine xbr_f ?_ ?_; (focus ((simp (disch := omega) only [ix_lt, ix_le, ix_eq, ix_0, nI_clamp, nI_toInt, ng_T, nI_add, nI_mul, nI_sub', Int.neg_zero, not_false_eq_true, not_true_eq_false, nI_add] <;> omega); done))) | (refine xbr_t ?_ ?_; (focus ((simp (disch := omega) only [ix_lt, ix_le, ix_eq, ix_0, nI_clamp, nI_toInt, ng_T, nI_add, nI_mul, nI_sub', Int.neg_zero, not_false_eq_true, not_true_eq_false, nI_add] <;> omega); done))) | refine ⟨Or.inl rfl, ?_⟩ | refine ⟨Or.inr rfl, ?_⟩ | (refine ⟨?_, ?_⟩; (focus ((try simp (disch := omega) only [nI_add, nI_mul, nI_add, nI_sub']); exact in_nI (by omega) (by omega)))))
                simp (disch := omega) only [nI_mul, nI_add, nI_clamp, nI_sub']
                rw [xrw_up]
                refine xgo_eq (ih _ _ ⟨rfl, _, rfl, fun t ht => ?_⟩) ?_ rfl rfl
                · by_cases e : t = k
                  · rw [if_pos e]
                  · rw [if_neg e]
                    exact hf t (by omega)
                · ((repeat' (first | (with_reducible rfl) | exact xv_nil | refine xv_cons ?_ ?_ | refine xv_i ?_ | refine xv_l ?_)) <;> (simp (disch := omega) only [↓reduceIte, Bool.false_eq_true, Nat.one_mul, Nat.zero_mul, Nat.or_zero, Nat.add_zero, Nat.zero_add, Bool.toNat_true, Bool.toNat_false, shl_n, shr_n, fa_and, fa_or, nx_xor, nI_add, nI_mul, nI_sub', and_1, and_7, and_3', and_15]))
              · rintro I5 L5 ⟨rfl, f, rfl, hf⟩
                refine xrun okX11_plain hhX11_plain [] 60 ?_
                (first | (refine xbr_f ?_ ?_; (focus ((simp (disch := omega) only [ix_lt, ix_le, ix_eq, ix_0, nI_clamp, nI_toInt, ng_T, nI_add, nI_mul, nI_sub', Int.neg_zero, not_false_eq_true, not_true_eq_false] <;> omega); done))) | (refine xbr_t ?_ ?_; (focus ((simp (disch := omega) only [ix_lt, ix_le, ix_eq, ix_0, nI_clamp, nI_toInt, ng_T, nI_add, nI_mul, nI_sub', Int.neg_zero, not_false_eq_true, not_true_eq_false] <;> omega); done))) | refine ⟨Or.inl rfl, ?_⟩ | refine ⟨Or.inr rfl, ?_⟩ | (refine ⟨?_, ?_⟩; (focus (exact in_nI (by omega) (by omega)))))
                obtain ⟨p1, p2, p3, p4, p5, p6, p7, p8⟩ := hP4
                have e := fun c a b d e f => p1 c a b d e f
                have hRef : Ref (plS S q.d q.X) (xrw (xup I4 27 22 (nI 0)) 41 f) L := by
                  refine ⟨plS_ok hC.ok k1 k2 k3, ⟨p3, p4, p6, fun i hi => (p7 i hi).1, fun l hl => (p8 l hl).2.2, k1⟩, ⟨⟨?_, fun i hi => ⟨(p7 i hi).2.1, (p7 i hi).2.2⟩, fun l hl => ⟨(p8 l hl).1, (p8 l hl).2.1⟩⟩, rfl, fun n hn => absurd hn (by show ¬ n < 1 - 1; omega)⟩, fun k hk => ⟨hf k hk, fun q => absurd q (show ¬ 0 < 0 by decide)⟩, ?_, ?_, ?_⟩
                  · show I4 37 0 = nI (pcf 64 0)
                    rw [p5, pcf_0]
                  · show rwR 6 40 S.rz S.rv (I4 29) (I4 30)
                    rw [p1 29 (by decide) (by decide) (by decide) (by decide) (by decide), p1 30 (by decide) (by decide) (by decide) (by decide) (by decide)]
                    exact hJ.rw
                  · show rwR 4 60 S.tz S.tv (I4 31) (I4 32)
                    rw [p1 31 (by decide) (by decide) (by decide) (by decide) (by decide), p1 32 (by decide) (by decide) (by decide) (by decide) (by decide)]
                    exact hJ.tx
                  · obtain ⟨n1, n2, n3, n4, n5⟩ := hJ.mc
                    refine ⟨fun j hj => ?_, ?_, ?_, n4, n5⟩
                    · show I4 28 j = S.fc j
                      rw [p1 28 (by decide) (by decide) (by decide) (by decide) (by decide)]
                      exact n1 j hj
                    · show I4 27 3 = S.lf
                      rw [p2 3 (by decide) (by decide)]
                      exact n2
                    · show I4 27 0 = S.to
                      rw [p2 0 (by decide) (by decide)]
                      exact n3
                have hfr : frM I L (xrw (xup I4 27 22 (nI 0)) 41 f) L := fun c hc => ⟨by
                  rw [xrw_c _ _ _ (by omega), xup_c _ _ _ _ (by omega), p1 c (by omega) (by omega) (by omega) (by omega) (by omega)]
                  exact (scr_fr hs c hc).1, rfl⟩
                have hq := hQ _ _ hfr hRef
                rw [← p4] at hq
                exact hq
