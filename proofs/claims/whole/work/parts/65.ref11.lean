/-! THE REFERENCE, 11: next; duels; chances -/
def bsI (k p : Nat) : Nat → Int32
  | 0 => -(nI 9)
  | v + 1 => nI (tmN k p v)
def fwN (k p : Nat) : Nat → Nat
  | 0 => 99
  | v + 1 => gpN k p (tmN k p v)
theorem bf_s (k p v : Nat) : (gpN k p v < fwN k p v → bsI k p (v + 1) = nI v ∧ fwN k p (v + 1) = gpN k p v) ∧ (¬ gpN k p v < fwN k p v → bsI k p (v + 1) = bsI k p v ∧ fwN k p (v + 1) = fwN k p v) := by
  cases v with
  | zero =>
    refine ⟨fun _ => ⟨rfl, rfl⟩, fun h => ?_⟩
    have := gpN_le k p 0
    have h2 : ¬ gpN k p 0 < 99 := h
    omega
  | succ v =>
    have e : tmN k p (v + 1) = if gpN k p (v + 1) < gpN k p (tmN k p v) then v + 1 else tmN k p v := rfl
    refine ⟨fun h => ?_, fun h => ?_⟩
    · have h2 : gpN k p (v + 1) < gpN k p (tmN k p v) := h
      rw [if_pos h2] at e
      exact ⟨congrArg nI e, congrArg (gpN k p) e⟩
    · have h2 : ¬ gpN k p (v + 1) < gpN k p (tmN k p v) := h
      rw [if_neg h2] at e
      exact ⟨congrArg nI e, congrArg (gpN k p) e⟩
theorem fwN_le (k p v : Nat) : fwN k p v ≤ 99 := by
  cases v with
  | zero => exact Nat.le_refl _
  | succ v =>
    have := gpN_le k p (tmN k p v)
    show gpN k p (tmN k p v) ≤ 99
    omega
def csX11_next : xCs := [(mX11_isAss, sX11_isAss), (mX11_isRow, sX11_isRow), (mX11_whyPairs, sX11_whyPairs), (mX11_memoriesBy, sX11_memoriesBy), (mX11_isTaken, sX11_isTaken), (mX11_many, sX11_many)]
theorem okX11_next : xOkM mX11_next csX11_next := ⟨dX11_next, by decide +kernel, by decide +kernel, ⟨wdX11_205, wdX11_96, wdX11_272, wdX11_275, wdX11_31, wdX11_236, wdX11_126, wdX11_126, ⟨wdX11_82, fun h => Bool.noConfusion h⟩, trivial⟩⟩
theorem hhX11_next : ∀ q ∈ csX11_next, xHd q.1 := xall1 hX11_isAss (xall1 hX11_isRow (xall1 hX11_whyPairs (xall1 hX11_memoriesBy (xall1 hX11_isTaken (xall1 hX11_many (xall0))))))
theorem kkX11_next : ∀ q ∈ csX11_next, ∀ l, xCon l q.1 q.2 := xall1 kX11_isAss (xall1 kX11_isRow (xall1 kX11_whyPairs (xall1 kX11_memoriesBy (xall1 kX11_isTaken (xall1 kX11_many (xall0))))))
def sX11_next : xSpec := xReg fun as I L Q => ∃ (S : ST) (i r o : Int32) (S' : ST), as = [.ref 27, .int i, .int r] ∧ nexR S i r o S' ∧ Ref S I L ∧ (∀ I' L', frM I L I' L' → Ref S' I' L' → Q (some (.int o)) I' L')
set_option maxRecDepth 100000 in
theorem kX11_next : ∀ l, xCon l mX11_next sX11_next := by
  refine xcon_of okX11_next hX11_next rfl (by decide) hhX11_next kkX11_next ?_
  rintro as n0 I L P Q ⟨rfl, rfl, S, i, r, o, S', rfl, hR, hC, hQ⟩
  refine ⟨Nat.le_of_ble_eq_true rfl, ?_⟩
  have h4 := hC.pd.ok.a4
  refine xrun okX11_next hhX11_next [(56, [true, true, true, true, true, true, true, true, false, false])] 60 ?_
  refine ⟨rfl, rfl, S.d, i, rfl, hC.pd, ?_⟩
  rcases hR with ⟨h, rfl, rfl⟩ | ⟨a, j, rfl, ha, rfl, hj, hR⟩
  · obtain ⟨S, rfl⟩ : ∃ S, S = S' := ⟨S', rfl⟩
    have done := hQ _ _ (frM_0 _ _) hC
    cases hb : ibB i S.d.nA
    · (first | refine xbr_t (by decide) ?_ | refine xbr_f (by decide) ?_)
      exact done
    · (first | refine xbr_t (by decide) ?_ | refine xbr_f (by decide) ?_)
      refine ⟨rfl, rfl, r, rfl, ?_⟩
      cases hw : ibB r 6
      · (first | refine xbr_t (by decide) ?_ | refine xbr_f (by decide) ?_)
        exact done
      · exact absurd ⟨hb, hw⟩ h
  · rw [ib_tt ha (by omega)]
    (first | refine xbr_t (by decide) ?_ | refine xbr_f (by decide) ?_)
    refine ⟨rfl, rfl, _, rfl, ?_⟩
    rw [ib_tt hj (by decide)]
    (first | refine xbr_t (by decide) ?_ | refine xbr_f (by decide) ?_)
    refine ⟨rfl, rfl, S, j, rfl, hj, hC, ?_⟩
    rcases hR with ⟨h0, rfl, rfl⟩ | ⟨n, h0, hn, hR⟩
    · refine ⟨fun _ I' hf hC' => ?_, fun q => absurd q (by omega)⟩
      repeat (first | (refine xbr_f ?_ ?_; (focus ((simp (disch := omega) only [ix_lt, ix_le, ix_eq, ix_0, nI_clamp, nI_toInt, ng_T, nI_add, nI_mul, nI_sub', Int.neg_zero, not_false_eq_true, not_true_eq_false] <;> omega); done))) | (refine xbr_t ?_ ?_; (focus ((simp (disch := omega) only [ix_lt, ix_le, ix_eq, ix_0, nI_clamp, nI_toInt, ng_T, nI_add, nI_mul, nI_sub', Int.neg_zero, not_false_eq_true, not_true_eq_false] <;> omega); done))) | refine ⟨Or.inl rfl, ?_⟩ | refine ⟨Or.inr rfl, ?_⟩ | (refine ⟨?_, ?_⟩; (focus (exact in_nI (by omega) (by omega)))))
      exact hQ _ _ hf hC'
    · refine ⟨fun q => absurd q (by omega), fun _ => ?_⟩
      obtain ⟨hz, hv⟩ := pr_rv hC hj hn
      have hp : prOk S.rv j n ∧ n ≤ 8 := by
        obtain ⟨n', e, b, c⟩ := wp_0 h0
        obtain rfl : n' = n := by omega
        exact ⟨c, b⟩
      repeat (first | (refine xbr_f ?_ ?_; (focus ((simp (disch := omega) only [ix_lt, ix_le, ix_eq, ix_0, nI_clamp, nI_toInt, ng_T, nI_add, nI_mul, nI_sub', Int.neg_zero, not_false_eq_true, not_true_eq_false] <;> omega); done))) | (refine xbr_t ?_ ?_; (focus ((simp (disch := omega) only [ix_lt, ix_le, ix_eq, ix_0, nI_clamp, nI_toInt, ng_T, nI_add, nI_mul, nI_sub', Int.neg_zero, not_false_eq_true, not_true_eq_false] <;> omega); done))) | refine ⟨Or.inl rfl, ?_⟩ | refine ⟨Or.inr rfl, ?_⟩ | (refine ⟨?_, ?_⟩; (focus (exact in_nI (by omega) (by omega)))))
      refine ⟨rfl, rfl, S.d, S.rv, a, j, n, rfl, hC.pd, ha, hj, hp.2, hz, hp.1, hv, ?_⟩
      have em : bsN (fun m => ftB S.rv j (kdN S.d a) m n) 16 = meB S a j n := rfl
      rw [em]
      have hlt : meB S a j n < 2 ^ 16 := bsN_lt _ 16
      have hk8 := kdN_8 S.d a
      rcases hR with ⟨hm, rfl, rfl⟩ | ⟨hm, rfl, rfl⟩
      · rw [hm]
        (first | refine xbr_t (by decide) ?_ | refine xbr_f (by decide) ?_)
        exact hQ _ _ (frM_0 _ _) hC
      · (first | (refine xbr_f ?_ ?_; (focus ((simp (disch := omega) only [ix_lt, ix_le, ix_eq, ix_0, nI_clamp, nI_toInt, ng_T, nI_add, nI_mul, nI_sub', Int.neg_zero, not_false_eq_true, not_true_eq_false] <;> omega); done))) | (refine xbr_t ?_ ?_; (focus ((simp (disch := omega) only [ix_lt, ix_le, ix_eq, ix_0, nI_clamp, nI_toInt, ng_T, nI_add, nI_mul, nI_sub', Int.neg_zero, not_false_eq_true, not_true_eq_false] <;> omega); done))) | refine ⟨Or.inl rfl, ?_⟩ | refine ⟨Or.inr rfl, ?_⟩ | (refine ⟨?_, ?_⟩; (focus (exact in_nI (by omega) (by omega)))))
        generalize meB S a j n = p at *
        refine xlp (M := mX11_next) (cs := csX11_next) (pc := 56) 16 (fun v => [some (.ref 27), some (.int (nI a)), some (.int (nI j)), some (.int (nI 0)), some (.int (nI p)), some (.int (bsI (kdN S.d a) p v)), some (.int (nI (fwN (kdN S.d a) p v))), some (.int (nI v)), none, none]) (fun _ => I) (fun _ => L) ?_ ?_
        · intro v hv16 ih
          refine xrun okX11_next hhX11_next [(69, [true, true, true, true, true, true, true, true, true, true])] 60 ?_
          (first | (refine xbr_f ?_ ?_; (focus ((simp (disch := omega) only [ix_lt, ix_le, ix_eq, ix_0, nI_clamp, nI_toInt, ng_T, nI_add, nI_mul, nI_sub', Int.neg_zero, not_false_eq_true, not_true_eq_false] <;> omega); done))) | (refine xbr_t ?_ ?_; (focus ((simp (disch := omega) only [ix_lt, ix_le, ix_eq, ix_0, nI_clamp, nI_toInt, ng_T, nI_add, nI_mul, nI_sub', Int.neg_zero, not_false_eq_true, not_true_eq_false] <;> omega); done))) | refine ⟨Or.inl rfl, ?_⟩ | refine ⟨Or.inr rfl, ?_⟩ | (refine ⟨?_, ?_⟩; (focus (exact in_nI (by omega) (by omega)))))
          refine xlp (M := mX11_next) (cs := csX11_next) (pc := 69) 16 (fun m => [some (.ref 27), some (.int (nI a)), some (.int (nI j)), some (.int (nI 0)), some (.int (nI p)), some (.int (bsI (kdN S.d a) p v)), some (.int (nI (fwN (kdN S.d a) p v))), some (.int (nI v)), some (.int (nI (cnN (gtF (kdN S.d a) p v) m))), some (.int (nI m))]) (fun _ => I) (fun _ => L) ?_ ?_
          · intro m hm16 ih2
            refine xrun okX11_next hhX11_next [(69, [true, true, true, true, true, true, true, true, true, true])] 60 ?_
            (first | (refine xbr_f ?_ ?_; (focus ((simp (disch := omega) only [ix_lt, ix_le, ix_eq, ix_0, nI_clamp, nI_toInt, ng_T, nI_add, nI_mul, nI_sub', Int.neg_zero, not_false_eq_true, not_true_eq_false] <;> omega); done))) | (refine xbr_t ?_ ?_; (focus ((simp (disch := omega) only [ix_lt, ix_le, ix_eq, ix_0, nI_clamp, nI_toInt, ng_T, nI_add, nI_mul, nI_sub', Int.neg_zero, not_false_eq_true, not_true_eq_false] <;> omega); done))) | refine ⟨Or.inl rfl, ?_⟩ | refine ⟨Or.inr rfl, ?_⟩ | (refine ⟨?_, ?_⟩; (focus (exact in_nI (by omega) (by omega)))))
            have hcl := cnN_le (gtF (kdN S.d a) p v) m
            have eG : gtF (kdN S.d a) p v m = (tbB p m && wtN (kdN S.d a) m v) := rfl
            cases ht : tbB p m
            · have eb : (nI p >>> (nI m &&& 31)) &&& nI 1 = nI 0 := by
                rw [bit_i (show p < 2 ^ 31 by omega) (show m < 32 by omega), ht]
                rfl
              rw [ht] at eG
              have eG : gtF (kdN S.d a) p v m = false := eG
              (first | (refine xbr_f ?_ ?_; (focus ((simp (disch := omega) only [ix_lt, ix_le, ix_eq, ix_0, nI_clamp, nI_toInt, ng_T, nI_add, nI_mul, nI_sub', Int.neg_zero, not_false_eq_true, not_true_eq_false, eb] <;> omega); done))) | (refine xbr_t ?_ ?_; (focus ((simp (disch := omega) only [ix_lt, ix_le, ix_eq, ix_0, nI_clamp, nI_toInt, ng_T, nI_add, nI_mul, nI_sub', Int.neg_zero, not_false_eq_true, not_true_eq_false, eb] <;> omega); done))) | refine ⟨Or.inl rfl, ?_⟩ | refine ⟨Or.inr rfl, ?_⟩ | (refine ⟨?_, ?_⟩; (focus ((try simp (disch := omega) only [eb, nI_mul, nI_add, nI_sub']); exact in_nI (by omega) (by omega)))))
              refine xgo_eq ih2 ?_ rfl rfl
              ((repeat' (first | (with_reducible rfl) | exact xv_nil | refine xv_cons ?_ ?_ | refine xv_i ?_ | refine xv_l ?_)) <;> (simp (disch := omega) only [↓reduceIte, Bool.false_eq_true, Nat.one_mul, Nat.zero_mul, Nat.or_zero, Nat.add_zero, Nat.zero_add, Bool.toNat_true, Bool.toNat_false, shl_n, shr_n, fa_and, fa_or, nx_xor, nI_add, nI_mul, nI_sub', and_1, and_7, and_3', and_15, cnN, eG]))
            · have eb : (nI p >>> (nI m &&& 31)) &&& nI 1 = nI 1 := by
                rw [bit_i (show p < 2 ^ 31 by omega) (show m < 32 by omega), ht]
                rfl
              rw [ht, Bool.true_and] at eG
              (first | (refine xbr_f ?_ ?_; (focus ((simp (disch := omega) only [ix_lt, ix_le, ix_eq, ix_0, nI_clamp, nI_toInt, ng_T, nI_add, nI_mul, nI_sub', Int.neg_zero, not_false_eq_true, not_true_eq_false, eb] <;> omega); done))) | (refine xbr_t ?_ ?_; (focus ((simp (disch := omega) only [ix_lt, ix_le, ix_eq, ix_0, nI_clamp, nI_toInt, ng_T, nI_add, nI_mul, nI_sub', Int.neg_zero, not_false_eq_true, not_true_eq_false, eb] <;> omega); done))) | refine ⟨Or.inl rfl, ?_⟩ | refine ⟨Or.inr rfl, ?_⟩ | (refine ⟨?_, ?_⟩; (focus ((try simp (disch := omega) only [eb, nI_mul, nI_add, nI_sub']); exact in_nI (by omega) (by omega)))))
              (first | (refine xbr_f ?_ ?_; (focus ((simp (disch := omega) only [ix_lt, ix_le, ix_eq, ix_0, nI_clamp, nI_toInt, ng_T, nI_add, nI_mul, nI_sub', Int.neg_zero, not_false_eq_true, not_true_eq_false, nI_add] <;> omega); done))) | (refine xbr_t ?_ ?_; (focus ((simp (disch := omega) only [ix_lt, ix_le, ix_eq, ix_0, nI_clamp, nI_toInt, ng_T, nI_add, nI_mul, nI_sub', Int.neg_zero, not_false_eq_true, not_true_eq_false, nI_add] <;> omega); done))) | refine ⟨Or.inl rfl, ?_⟩ | refine ⟨Or.inr rfl, ?_⟩ | (refine ⟨?_, ?_⟩; (focus ((try simp (disch := omega) only [nI_add, nI_mul, nI_add, nI_sub']); exact in_nI (by omega) (by omega)))))
              refine ⟨rfl, rfl, kdN S.d a, m, v, ?_, hk8, hm16, hv16, ?_⟩
              · simp (disch := omega) only [hC.pd.k a ha, nI_mul, nI_add, nI_clamp, nI_sub']
              cases hw : wtN (kdN S.d a) m v
              · rw [hw] at eG
                (first | refine xbr_t (by decide) ?_ | refine xbr_f (by decide) ?_)
                refine xgo_eq ih2 ?_ rfl rfl
                ((repeat' (first | (with_reducible rfl) | exact xv_nil | refine xv_cons ?_ ?_ | refine xv_i ?_ | refine xv_l ?_)) <;> (simp (disch := omega) only [↓reduceIte, Bool.false_eq_true, Nat.one_mul, Nat.zero_mul, Nat.or_zero, Nat.add_zero, Nat.zero_add, Bool.toNat_true, Bool.toNat_false, shl_n, shr_n, fa_and, fa_or, nx_xor, nI_add, nI_mul, nI_sub', and_1, and_7, and_3', and_15, cnN, eG]))
              · rw [hw] at eG
                (first | refine xbr_t (by decide) ?_ | refine xbr_f (by decide) ?_)
                refine xgo_eq ih2 ?_ rfl rfl
                ((repeat' (first | (with_reducible rfl) | exact xv_nil | refine xv_cons ?_ ?_ | refine xv_i ?_ | refine xv_l ?_)) <;> (simp (disch := omega) only [↓reduceIte, Bool.false_eq_true, Nat.one_mul, Nat.zero_mul, Nat.or_zero, Nat.add_zero, Nat.zero_add, Bool.toNat_true, Bool.toNat_false, shl_n, shr_n, fa_and, fa_or, nx_xor, nI_add, nI_mul, nI_sub', and_1, and_7, and_3', and_15, cnN, eG]))
          · refine xrun okX11_next hhX11_next [(56, [true, true, true, true, true, true, true, true, false, false]), (145, [true, true, true, true, true, true, true, true, true, true])] 90 ?_
            (first | (refine xbr_f ?_ ?_; (focus ((simp (disch := omega) only [ix_lt, ix_le, ix_eq, ix_0, nI_clamp, nI_toInt, ng_T, nI_add, nI_mul, nI_sub', Int.neg_zero, not_false_eq_true, not_true_eq_false] <;> omega); done))) | (refine xbr_t ?_ ?_; (focus ((simp (disch := omega) only [ix_lt, ix_le, ix_eq, ix_0, nI_clamp, nI_toInt, ng_T, nI_add, nI_mul, nI_sub', Int.neg_zero, not_false_eq_true, not_true_eq_false] <;> omega); done))) | refine ⟨Or.inl rfl, ?_⟩ | refine ⟨Or.inr rfl, ?_⟩ | (refine ⟨?_, ?_⟩; (focus (exact in_nI (by omega) (by omega)))))
            have hgl := gtN_le (k := kdN S.d a) (x := v) hlt
            have hpl := pcf_le 32 p
            have hgp := gpN_le (kdN S.d a) p v
            have hfw := fwN_le (kdN S.d a) p v
            have eg : gpN (kdN S.d a) p v = if gtN (kdN S.d a) p v < pcf 32 p - gtN (kdN S.d a) p v then pcf 32 p - gtN (kdN S.d a) p v else gtN (kdN S.d a) p v := rfl
            have ec : cnN (gtF (kdN S.d a) p v) 16 = gtN (kdN S.d a) p v := rfl
            rw [ec]
            obtain ⟨b1, b2⟩ := bf_s (kdN S.d a) p v
            refine ⟨rfl, rfl, p, rfl, by omega, ?_⟩
            have tail : ∀ own, own = gpN (kdN S.d a) p v → xGo mX11_next csX11_next 145 Q [some (.ref 27), some (.int (nI a)), some (.int (nI j)), some (.int (nI 0)), some (.int (nI p)), some (.int (bsI (kdN S.d a) p v)), some (.int (nI (fwN (kdN S.d a) p v))), some (.int (nI v)), some (.int (nI (gtN (kdN S.d a) p v))), some (.int (nI 16))] [.int (nI own)] 0 xN I L xP0 := by
              rintro own rfl
              refine xrun okX11_next hhX11_next [(56, [true, true, true, true, true, true, true, true, false, false])] 60 ?_
              by_cases hlt2 : gpN (kdN S.d a) p v < fwN (kdN S.d a) p v
              · obtain ⟨c1, c2⟩ := b1 hlt2
                repeat (first | (refine xbr_f ?_ ?_; (focus ((simp (disch := omega) only [ix_lt, ix_le, ix_eq, ix_0, nI_clamp, nI_toInt, ng_T, nI_add, nI_mul, nI_sub', Int.neg_zero, not_false_eq_true, not_true_eq_false] <;> omega); done))) | (refine xbr_t ?_ ?_; (focus ((simp (disch := omega) only [ix_lt, ix_le, ix_eq, ix_0, nI_clamp, nI_toInt, ng_T, nI_add, nI_mul, nI_sub', Int.neg_zero, not_false_eq_true, not_true_eq_false] <;> omega); done))) | refine ⟨Or.inl rfl, ?_⟩ | refine ⟨Or.inr rfl, ?_⟩ | (refine ⟨?_, ?_⟩; (focus (exact in_nI (by omega) (by omega)))))
                refine xgo_eq ih ?_ rfl rfl
                rw [c1, c2]
                ((repeat' (first | (with_reducible rfl) | exact xv_nil | refine xv_cons ?_ ?_ | refine xv_i ?_ | refine xv_l ?_)) <;> (simp (disch := omega) only [↓reduceIte, Bool.false_eq_true, Nat.one_mul, Nat.zero_mul, Nat.or_zero, Nat.add_zero, Nat.zero_add, Bool.toNat_true, Bool.toNat_false, shl_n, shr_n, fa_and, fa_or, nx_xor, nI_add, nI_mul, nI_sub', and_1, and_7, and_3', and_15]))
              · obtain ⟨c1, c2⟩ := b2 hlt2
                repeat (first | (refine xbr_f ?_ ?_; (focus ((simp (disch := omega) only [ix_lt, ix_le, ix_eq, ix_0, nI_clamp, nI_toInt, ng_T, nI_add, nI_mul, nI_sub', Int.neg_zero, not_false_eq_true, not_true_eq_false] <;> omega); done))) | (refine xbr_t ?_ ?_; (focus ((simp (disch := omega) only [ix_lt, ix_le, ix_eq, ix_0, nI_clamp, nI_toInt, ng_T, nI_add, nI_mul, nI_sub', Int.neg_zero, not_false_eq_true, not_true_eq_false] <;> omega); done))) | refine ⟨Or.inl rfl, ?_⟩ | refine ⟨Or.inr rfl, ?_⟩ | (refine ⟨?_, ?_⟩; (focus (exact in_nI (by omega) (by omega)))))
                refine xgo_eq ih ?_ rfl rfl
                rw [c1, c2]
                ((repeat' (first | (with_reducible rfl) | exact xv_nil | refine xv_cons ?_ ?_ | refine xv_i ?_ | refine xv_l ?_)) <;> (simp (disch := omega) only [↓reduceIte, Bool.false_eq_true, Nat.one_mul, Nat.zero_mul, Nat.or_zero, Nat.add_zero, Nat.zero_add, Bool.toNat_true, Bool.toNat_false, shl_n, shr_n, fa_and, fa_or, nx_xor, nI_add, nI_mul, nI_sub', and_1, and_7, and_3', and_15]))
            by_cases hlt2 : gtN (kdN S.d a) p v < pcf 32 p - gtN (kdN S.d a) p v
            · have et := tail (pcf 32 p - gtN (kdN S.d a) p v) (by rw [eg, if_pos hlt2])
              rw [← nI_sub' hgl] at et
              repeat (first | (refine xbr_f ?_ ?_; (focus ((simp (disch := omega) only [ix_lt, ix_le, ix_eq, ix_0, nI_clamp, nI_toInt, ng_T, nI_add, nI_mul, nI_sub', Int.neg_zero, not_false_eq_true, not_true_eq_false] <;> omega); done))) | (refine xbr_t ?_ ?_; (focus ((simp (disch := omega) only [ix_lt, ix_le, ix_eq, ix_0, nI_clamp, nI_toInt, ng_T, nI_add, nI_mul, nI_sub', Int.neg_zero, not_false_eq_true, not_true_eq_false] <;> omega); done))) | refine ⟨Or.inl rfl, ?_⟩ | refine ⟨Or.inr rfl, ?_⟩ | (refine ⟨?_, ?_⟩; (focus (exact in_nI (by omega) (by omega)))))
              refine ⟨rfl, rfl, p, rfl, by omega, ?_⟩
              exact et
            · by_cases heq : gtN (kdN S.d a) p v = pcf 32 p - gtN (kdN S.d a) p v
              · have et := tail (pcf 32 p - gtN (kdN S.d a) p v) (by rw [eg, if_neg hlt2]; omega)
                rw [← nI_sub' hgl] at et
                repeat (first | (refine xbr_f ?_ ?_; (focus ((simp (disch := omega) only [ix_lt, ix_le, ix_eq, ix_0, nI_clamp, nI_toInt, ng_T, nI_add, nI_mul, nI_sub', Int.neg_zero, not_false_eq_true, not_true_eq_false] <;> omega); done))) | (refine xbr_t ?_ ?_; (focus ((simp (disch := omega) only [ix_lt, ix_le, ix_eq, ix_0, nI_clamp, nI_toInt, ng_T, nI_add, nI_mul, nI_sub', Int.neg_zero, not_false_eq_true, not_true_eq_false] <;> omega); done))) | refine ⟨Or.inl rfl, ?_⟩ | refine ⟨Or.inr rfl, ?_⟩ | (refine ⟨?_, ?_⟩; (focus (exact in_nI (by omega) (by omega)))))
                refine ⟨rfl, rfl, p, rfl, by omega, ?_⟩
                exact et
              · have et := tail (gtN (kdN S.d a) p v) (by rw [eg, if_neg hlt2])
                repeat (first | (refine xbr_f ?_ ?_; (focus ((simp (disch := omega) only [ix_lt, ix_le, ix_eq, ix_0, nI_clamp, nI_toInt, ng_T, nI_add, nI_mul, nI_sub', Int.neg_zero, not_false_eq_true, not_true_eq_false] <;> omega); done))) | (refine xbr_t ?_ ?_; (focus ((simp (disch := omega) only [ix_lt, ix_le, ix_eq, ix_0, nI_clamp, nI_toInt, ng_T, nI_add, nI_mul, nI_sub', Int.neg_zero, not_false_eq_true, not_true_eq_false] <;> omega); done))) | refine ⟨Or.inl rfl, ?_⟩ | refine ⟨Or.inr rfl, ?_⟩ | (refine ⟨?_, ?_⟩; (focus (exact in_nI (by omega) (by omega)))))
                exact et
        · refine xrun okX11_next hhX11_next [] 60 ?_
          (first | (refine xbr_f ?_ ?_; (focus ((simp (disch := omega) only [ix_lt, ix_le, ix_eq, ix_0, nI_clamp, nI_toInt, ng_T, nI_add, nI_mul, nI_sub', Int.neg_zero, not_false_eq_true, not_true_eq_false] <;> omega); done))) | (refine xbr_t ?_ ?_; (focus ((simp (disch := omega) only [ix_lt, ix_le, ix_eq, ix_0, nI_clamp, nI_toInt, ng_T, nI_add, nI_mul, nI_sub', Int.neg_zero, not_false_eq_true, not_true_eq_false] <;> omega); done))) | refine ⟨Or.inl rfl, ?_⟩ | refine ⟨Or.inr rfl, ?_⟩ | (refine ⟨?_, ?_⟩; (focus (exact in_nI (by omega) (by omega)))))
          exact hQ _ _ (frM_I (k := 27) (by decide) _ _ _ _) (Ref_T hC _)
def csX11_turns : xCs := []
theorem okX11_turns : xOkM mX11_turns csX11_turns := ⟨dX11_turns, by decide +kernel, by decide +kernel, ⟨wdX11_68, wdX11_68, wdX11_71, wdX11_68, wdX11_71, trivial⟩⟩
theorem hhX11_turns : ∀ q ∈ csX11_turns, xHd q.1 := xall0
theorem kkX11_turns : ∀ q ∈ csX11_turns, ∀ l, xCon l q.1 q.2 := xall0
def sX11_turns : xSpec := xReg fun as I L Q => ∃ (f : Nat → Nat) (w : Bool), as = [.ref 27, .int (bI w)] ∧ (∀ v, v < 16 → I 47 v = nI (f v)) ∧ (∀ v, f v < 8) ∧ (∀ g' g, (∀ v, v < 16 → g v = nI (atN f w v)) → Q none (xrw (xrw I 48 g') 47 g) L)
set_option maxRecDepth 100000 in
theorem kX11_turns : ∀ l, xCon l mX11_turns sX11_turns := by
  refine xcon_of okX11_turns hX11_turns rfl (by decide) hhX11_turns kkX11_turns ?_
  rintro as n0 I L P Q ⟨rfl, rfl, f, w, rfl, hf, h8, hQ⟩
  refine ⟨Nat.le_of_ble_eq_true rfl, ?_⟩
  refine xrun okX11_turns hhX11_turns [(2, [true, true, true, false, false, false])] 60 ?_
  refine xlpW (M := mX11_turns) (cs := csX11_turns) (pc := 2) 16 (fun v => [some (.ref 27), some (.int (bI w)), some (.int (nI v)), none, none, none]) (fun v I' L' => L = L' ∧ ∃ g, I' = xrw I 48 g ∧ ∀ t, t < v → g t = nI (atN f w t)) ?_ ?_ ⟨rfl, I 48, (xrw_self I 48).symm, fun t h => absurd h (by omega)⟩
  · rintro v hv I2 L2 ⟨rfl, g, rfl, hg⟩ ih
    refine xrun okX11_turns hhX11_turns [(18, [true, true, true, true, true, false])] 60 ?_
    have e0 : xrw I 48 g 47 v = nI (f v) := hf v hv
    (first | (refine xbr_f ?_ ?_; (focus ((simp (disch := omega) only [ix_lt, ix_le, ix_eq, ix_0, nI_clamp, nI_toInt, ng_T, nI_add, nI_mul, nI_sub', Int.neg_zero, not_false_eq_true, not_true_eq_false] <;> omega); done))) | (refine xbr_t ?_ ?_; (focus ((simp (disch := omega) only [ix_lt, ix_le, ix_eq, ix_0, nI_clamp, nI_toInt, ng_T, nI_add, nI_mul, nI_sub', Int.neg_zero, not_false_eq_true, not_true_eq_false] <;> omega); done))) | refine ⟨Or.inl rfl, ?_⟩ | refine ⟨Or.inr rfl, ?_⟩ | (refine ⟨?_, ?_⟩; (focus (exact in_nI (by omega) (by omega)))))
    (first | (refine xbr_f ?_ ?_; (focus ((simp (disch := omega) only [ix_lt, ix_le, ix_eq, ix_0, nI_clamp, nI_toInt, ng_T, nI_add, nI_mul, nI_sub', Int.neg_zero, not_false_eq_true, not_true_eq_false, nI_add] <;> omega); done))) | (refine xbr_t ?_ ?_; (focus ((simp (disch := omega) only [ix_lt, ix_le, ix_eq, ix_0, nI_clamp, nI_toInt, ng_T, nI_add, nI_mul, nI_sub', Int.neg_zero, not_false_eq_true, not_true_eq_false, nI_add] <;> omega); done))) | refine ⟨Or.inl rfl, ?_⟩ | refine ⟨Or.inr rfl, ?_⟩ | (refine ⟨?_, ?_⟩; (focus ((try simp (disch := omega) only [nI_add, nI_mul, nI_add, nI_sub']); exact in_nI (by omega) (by omega)))))
    simp (disch := omega) only [e0, nI_mul, nI_add, nI_clamp, nI_sub']
    refine xlp (M := mX11_turns) (cs := csX11_turns) (pc := 18) 4 (fun k => [some (.ref 27), some (.int (bI w)), some (.int (nI v)), some (.int (nI (awN f w v k))), some (.int (nI k)), none]) (fun _ => xrw I 48 g) (fun _ => L) ?_ ?_
    · intro k hk ih2
      refine xrun okX11_turns hhX11_turns [(18, [true, true, true, true, true, false])] 60 ?_
      have h16 := xm_16 hv hk
      have eix : nI v ^^^ (nI 1 <<< (nI k &&& 31)) = nI (v ^^^ 2 ^ k) := by rw [shl_n _ (by omega), Nat.one_mul, nx_xor]
      have e1 : xrw I 48 g 47 (v ^^^ 2 ^ k) = nI (f (v ^^^ 2 ^ k)) := hf _ h16
      have l1 := h8 (v ^^^ 2 ^ k)
      have l2 := awN_lt h8 w v k
      (first | (refine xbr_f ?_ ?_; (focus ((simp (disch := omega) only [ix_lt, ix_le, ix_eq, ix_0, nI_clamp, nI_toInt, ng_T, nI_add, nI_mul, nI_sub', Int.neg_zero, not_false_eq_true, not_true_eq_false] <;> omega); done))) | (refine xbr_t ?_ ?_; (focus ((simp (disch := omega) only [ix_lt, ix_le, ix_eq, ix_0, nI_clamp, nI_toInt, ng_T, nI_add, nI_mul, nI_sub', Int.neg_zero, not_false_eq_true, not_true_eq_false] <;> omega); done))) | refine ⟨Or.inl rfl, ?_⟩ | refine ⟨Or.inr rfl, ?_⟩ | (refine ⟨?_, ?_⟩; (focus (exact in_nI (by omega) (by omega)))))
      (first | (refine xbr_f ?_ ?_; (focus ((simp (disch := omega) only [ix_lt, ix_le, ix_eq, ix_0, nI_clamp, nI_toInt, ng_T, nI_add, nI_mul, nI_sub', Int.neg_zero, not_false_eq_true, not_true_eq_false, eix] <;> omega); done))) | (refine xbr_t ?_ ?_; (focus ((simp (disch := omega) only [ix_lt, ix_le, ix_eq, ix_0, nI_clamp, nI_toInt, ng_T, nI_add, nI_mul, nI_sub', Int.neg_zero, not_false_eq_true, not_true_eq_false, eix] <;> omega); done))) | refine ⟨Or.inl rfl, ?_⟩ | refine ⟨Or.inr rfl, ?_⟩ | (refine ⟨?_, ?_⟩; (focus ((try simp (disch := omega) only [eix, nI_mul, nI_add, nI_sub']); exact in_nI (by omega) (by omega)))))
      simp (disch := omega) only [eix, e1, nI_mul, nI_add, nI_clamp, nI_sub']
      cases w
      · have es : awN f false v (k + 1) = if f (v ^^^ 2 ^ k) < awN f false v k then f (v ^^^ 2 ^ k) else awN f false v k := rfl
        by_cases hlt : awN f false v k < f (v ^^^ 2 ^ k)
        · rw [if_neg (by omega)] at es
          (first | (refine xbr_f ?_ ?_; (focus ((simp (disch := omega) only [ix_lt, ix_le, ix_eq, ix_0, nI_clamp, nI_toInt, ng_T, nI_add, nI_mul, nI_sub', Int.neg_zero, not_false_eq_true, not_true_eq_false] <;> omega); done))) | (refine xbr_t ?_ ?_; (focus ((simp (disch := omega) only [ix_lt, ix_le, ix_eq, ix_0, nI_clamp, nI_toInt, ng_T, nI_add, nI_mul, nI_sub', Int.neg_zero, not_false_eq_true, not_true_eq_false] <;> omega); done))) | refine ⟨Or.inl rfl, ?_⟩ | refine ⟨Or.inr rfl, ?_⟩ | (refine ⟨?_, ?_⟩; (focus (exact in_nI (by omega) (by omega)))))
          (first | refine xbr_t (by decide) ?_ | refine xbr_f (by decide) ?_)
          refine xgo_eq ih2 ?_ rfl rfl
          rw [es]
          ((repeat' (first | (with_reducible rfl) | exact xv_nil | refine xv_cons ?_ ?_ | refine xv_i ?_ | refine xv_l ?_)) <;> (simp (disch := omega) only [↓reduceIte, Bool.false_eq_true, Nat.one_mul, Nat.zero_mul, Nat.or_zero, Nat.add_zero, Nat.zero_add, Bool.toNat_true, Bool.toNat_false, shl_n, shr_n, fa_and, fa_or, nx_xor, nI_add, nI_mul, nI_sub', and_1, and_7, and_3', and_15]))
        · (first | (refine xbr_f ?_ ?_; (focus ((simp (disch := omega) only [ix_lt, ix_le, ix_eq, ix_0, nI_clamp, nI_toInt, ng_T, nI_add, nI_mul, nI_sub', Int.neg_zero, not_false_eq_true, not_true_eq_false] <;> omega); done))) | (refine xbr_t ?_ ?_; (focus ((simp (disch := omega) only [ix_lt, ix_le, ix_eq, ix_0, nI_clamp, nI_toInt, ng_T, nI_add, nI_mul, nI_sub', Int.neg_zero, not_false_eq_true, not_true_eq_false] <;> omega); done))) | refine ⟨Or.inl rfl, ?_⟩ | refine ⟨Or.inr rfl, ?_⟩ | (refine ⟨?_, ?_⟩; (focus (exact in_nI (by omega) (by omega)))))
          (first | refine xbr_t (by decide) ?_ | refine xbr_f (by decide) ?_)
          by_cases heq : f (v ^^^ 2 ^ k) = awN f false v k
          · rw [if_neg (by omega)] at es
            (first | (refine xbr_f ?_ ?_; (focus ((simp (disch := omega) only [ix_lt, ix_le, ix_eq, ix_0, nI_clamp, nI_toInt, ng_T, nI_add, nI_mul, nI_sub', Int.neg_zero, not_false_eq_true, not_true_eq_false] <;> omega); done))) | (refine xbr_t ?_ ?_; (focus ((simp (disch := omega) only [ix_lt, ix_le, ix_eq, ix_0, nI_clamp, nI_toInt, ng_T, nI_add, nI_mul, nI_sub', Int.neg_zero, not_false_eq_true, not_true_eq_false] <;> omega); done))) | refine ⟨Or.inl rfl, ?_⟩ | refine ⟨Or.inr rfl, ?_⟩ | (refine ⟨?_, ?_⟩; (focus (exact in_nI (by omega) (by omega)))))
            refine xgo_eq ih2 ?_ rfl rfl
            rw [es]
            ((repeat' (first | (with_reducible rfl) | exact xv_nil | refine xv_cons ?_ ?_ | refine xv_i ?_ | refine xv_l ?_)) <;> (simp (disch := omega) only [↓reduceIte, Bool.false_eq_true, Nat.one_mul, Nat.zero_mul, Nat.or_zero, Nat.add_zero, Nat.zero_add, Bool.toNat_true, Bool.toNat_false, shl_n, shr_n, fa_and, fa_or, nx_xor, nI_add, nI_mul, nI_sub', and_1, and_7, and_3', and_15]))
          · rw [if_pos (by omega)] at es
            (first | (refine xbr_f ?_ ?_; (focus ((simp (disch := omega) only [ix_lt, ix_le, ix_eq, ix_0, nI_clamp, nI_toInt, ng_T, nI_add, nI_mul, nI_sub', Int.neg_zero, not_false_eq_true, not_true_eq_false] <;> omega); done))) | (refine xbr_t ?_ ?_; (focus ((simp (disch := omega) only [ix_lt, ix_le, ix_eq, ix_0, nI_clamp, nI_toInt, ng_T, nI_add, nI_mul, nI_sub', Int.neg_zero, not_false_eq_true, not_true_eq_false] <;> omega); done))) | refine ⟨Or.inl rfl, ?_⟩ | refine ⟨Or.inr rfl, ?_⟩ | (refine ⟨?_, ?_⟩; (focus (exact in_nI (by omega) (by omega)))))
            refine xgo_eq ih2 ?_ rfl rfl
            rw [es]
            ((repeat' (first | (with_reducible rfl) | exact xv_nil | refine xv_cons ?_ ?_ | refine xv_i ?_ | refine xv_l ?_)) <;> (simp (disch := omega) only [↓reduceIte, Bool.false_eq_true, Nat.one_mul, Nat.zero_mul, Nat.or_zero, Nat.add_zero, Nat.zero_add, Bool.toNat_true, Bool.toNat_false, shl_n, shr_n, fa_and, fa_or, nx_xor, nI_add, nI_mul, nI_sub', and_1, and_7, and_3', and_15]))
      · have es : awN f true v (k + 1) = if awN f true v k < f (v ^^^ 2 ^ k) then f (v ^^^ 2 ^ k) else awN f true v k := rfl
        by_cases hlt : awN f true v k < f (v ^^^ 2 ^ k)
        · rw [if_pos hlt] at es
          (first | (refine xbr_f ?_ ?_; (focus ((simp (disch := omega) only [ix_lt, ix_le, ix_eq, ix_0, nI_clamp, nI_toInt, ng_T, nI_add, nI_mul, nI_sub', Int.neg_zero, not_false_eq_true, not_true_eq_false] <;> omega); done))) | (refine xbr_t ?_ ?_; (focus ((simp (disch := omega) only [ix_lt, ix_le, ix_eq, ix_0, nI_clamp, nI_toInt, ng_T, nI_add, nI_mul, nI_sub', Int.neg_zero, not_false_eq_true, not_true_eq_false] <;> omega); done))) | refine ⟨Or.inl rfl, ?_⟩ | refine ⟨Or.inr rfl, ?_⟩ | (refine ⟨?_, ?_⟩; (focus (exact in_nI (by omega) (by omega)))))
          (first | refine xbr_t (by decide) ?_ | refine xbr_f (by decide) ?_)
          (first | (refine xbr_f ?_ ?_; (focus ((simp (disch := omega) only [ix_lt, ix_le, ix_eq, ix_0, nI_clamp, nI_toInt, ng_T, nI_add, nI_mul, nI_sub', Int.neg_zero, not_false_eq_true, not_true_eq_false] <;> omega); done))) | (refine xbr_t ?_ ?_; (focus ((simp (disch := omega) only [ix_lt, ix_le, ix_eq, ix_0, nI_clamp, nI_toInt, ng_T, nI_add, nI_mul, nI_sub', Int.neg_zero, not_false_eq_true, not_true_eq_false] <;> omega); done))) | refine ⟨Or.inl rfl, ?_⟩ | refine ⟨Or.inr rfl, ?_⟩ | (refine ⟨?_, ?_⟩; (focus (exact in_nI (by omega) (by omega)))))
          refine xgo_eq ih2 ?_ rfl rfl
          rw [es]
          ((repeat' (first | (with_reducible rfl) | exact xv_nil | refine xv_cons ?_ ?_ | refine xv_i ?_ | refine xv_l ?_)) <;> (simp (disch := omega) only [↓reduceIte, Bool.false_eq_true, Nat.one_mul, Nat.zero_mul, Nat.or_zero, Nat.add_zero, Nat.zero_add, Bool.toNat_true, Bool.toNat_false, shl_n, shr_n, fa_and, fa_or, nx_xor, nI_add, nI_mul, nI_sub', and_1, and_7, and_3', and_15]))
        · rw [if_neg hlt] at es
          (first | (refine xbr_f ?_ ?_; (focus ((simp (disch := omega) only [ix_lt, ix_le, ix_eq, ix_0, nI_clamp, nI_toInt, ng_T, nI_add, nI_mul, nI_sub', Int.neg_zero, not_false_eq_true, not_true_eq_false] <;> omega); done))) | (refine xbr_t ?_ ?_; (focus ((simp (disch := omega) only [ix_lt, ix_le, ix_eq, ix_0, nI_clamp, nI_toInt, ng_T, nI_add, nI_mul, nI_sub', Int.neg_zero, not_false_eq_true, not_true_eq_false] <;> omega); done))) | refine ⟨Or.inl rfl, ?_⟩ | refine ⟨Or.inr rfl, ?_⟩ | (refine ⟨?_, ?_⟩; (focus (exact in_nI (by omega) (by omega)))))
          (first | refine xbr_t (by decide) ?_ | refine xbr_f (by decide) ?_)
          refine xgo_eq ih2 ?_ rfl rfl
          rw [es]
          ((repeat' (first | (with_reducible rfl) | exact xv_nil | refine xv_cons ?_ ?_ | refine xv_i ?_ | refine xv_l ?_)) <;> (simp (disch := omega) only [↓reduceIte, Bool.false_eq_true, Nat.one_mul, Nat.zero_mul, Nat.or_zero, Nat.add_zero, Nat.zero_add, Bool.toNat_true, Bool.toNat_false, shl_n, shr_n, fa_and, fa_or, nx_xor, nI_add, nI_mul, nI_sub', and_1, and_7, and_3', and_15]))
    · refine xrun okX11_turns hhX11_turns [(2, [true, true, true, false, false, false])] 60 ?_
      (first | (refine xbr_f ?_ ?_; (focus ((simp (disch := omega) only [ix_lt, ix_le, ix_eq, ix_0, nI_clamp, nI_toInt, ng_T, nI_add, nI_mul, nI_sub', Int.neg_zero, not_false_eq_true, not_true_eq_false] <;> omega); done))) | (refine xbr_t ?_ ?_; (focus ((simp (disch := omega) only [ix_lt, ix_le, ix_eq, ix_0, nI_clamp, nI_toInt, ng_T, nI_add, nI_mul, nI_sub', Int.neg_zero, not_false_eq_true, not_true_eq_false] <;> omega); done))) | refine ⟨Or.inl rfl, ?_⟩ | refine ⟨Or.inr rfl, ?_⟩ | (refine ⟨?_, ?_⟩; (focus (exact in_nI (by omega) (by omega)))))
      (first | (refine xbr_f ?_ ?_; (focus ((simp (disch := omega) only [ix_lt, ix_le, ix_eq, ix_0, nI_clamp, nI_toInt, ng_T, nI_add, nI_mul, nI_sub', Int.neg_zero, not_false_eq_true, not_true_eq_false, nI_add] <;> omega); done))) | (refine xbr_t ?_ ?_; (focus ((simp (disch := omega) only [ix_lt, ix_le, ix_eq, ix_0, nI_clamp, nI_toInt, ng_T, nI_add, nI_mul, nI_sub', Int.neg_zero, not_false_eq_true, not_true_eq_false, nI_add] <;> omega); done))) | refine ⟨Or.inl rfl, ?_⟩ | refine ⟨Or.inr rfl, ?_⟩ | (refine ⟨?_, ?_⟩; (focus ((try simp (disch := omega) only [nI_add, nI_mul, nI_add, nI_sub']); exact in_nI (by omega) (by omega)))))
      simp (disch := omega) only [nI_mul, nI_add, nI_clamp, nI_sub']
      rw [xrw_up]
      refine xgo_eq (ih _ _ ⟨rfl, _, rfl, fun t ht => ?_⟩) ?_ rfl rfl
      · by_cases e : t = v
        · rw [if_pos e, e]
          rfl
        · rw [if_neg e]
          exact hg t (by omega)
      · ((repeat' (first | (with_reducible rfl) | exact xv_nil | refine xv_cons ?_ ?_ | refine xv_i ?_ | refine xv_l ?_)) <;> (simp (disch := omega) only [↓reduceIte, Bool.false_eq_true, Nat.one_mul, Nat.zero_mul, Nat.or_zero, Nat.add_zero, Nat.zero_add, Bool.toNat_true, Bool.toNat_false, shl_n, shr_n, fa_and, fa_or, nx_xor, nI_add, nI_mul, nI_sub', and_1, and_7, and_3', and_15]))
  · rintro I2 L2 ⟨rfl, g, rfl, hg⟩
    refine xrun okX11_turns hhX11_turns [(86, [true, true, true, false, false, false])] 60 ?_
    (first | (refine xbr_f ?_ ?_; (focus ((simp (disch := omega) only [ix_lt, ix_le, ix_eq, ix_0, nI_clamp, nI_toInt, ng_T, nI_add, nI_mul, nI_sub', Int.neg_zero, not_false_eq_true, not_true_eq_false] <;> omega); done))) | (refine xbr_t ?_ ?_; (focus ((simp (disch := omega) only [ix_lt, ix_le, ix_eq, ix_0, nI_clamp, nI_toInt, ng_T, nI_add, nI_mul, nI_sub', Int.neg_zero, not_false_eq_true, not_true_eq_false] <;> omega); done))) | refine ⟨Or.inl rfl, ?_⟩ | refine ⟨Or.inr rfl, ?_⟩ | (refine ⟨?_, ?_⟩; (focus (exact in_nI (by omega) (by omega)))))
    refine xlpW (M := mX11_turns) (cs := csX11_turns) (pc := 86) 16 (fun v => [some (.ref 27), some (.int (bI w)), some (.int (nI v)), none, none, none]) (fun v I' L' => L = L' ∧ ∃ g2, I' = xrw (xrw I 48 g) 47 g2 ∧ ∀ t, t < v → g2 t = nI (atN f w t)) ?_ ?_ ⟨rfl, I 47, (xrw_self (xrw I 48 g) 47).symm, fun t h => absurd h (by omega)⟩
    · rintro v hv I2 L2 ⟨rfl, g2, rfl, hg2⟩ ih
      refine xrun okX11_turns hhX11_turns [(86, [true, true, true, false, false, false])] 60 ?_
      (first | (refine xbr_f ?_ ?_; (focus ((simp (disch := omega) only [ix_lt, ix_le, ix_eq, ix_0, nI_clamp, nI_toInt, ng_T, nI_add, nI_mul, nI_sub', Int.neg_zero, not_false_eq_true, not_true_eq_false] <;> omega); done))) | (refine xbr_t ?_ ?_; (focus ((simp (disch := omega) only [ix_lt, ix_le, ix_eq, ix_0, nI_clamp, nI_toInt, ng_T, nI_add, nI_mul, nI_sub', Int.neg_zero, not_false_eq_true, not_true_eq_false] <;> omega); done))) | refine ⟨Or.inl rfl, ?_⟩ | refine ⟨Or.inr rfl, ?_⟩ | (refine ⟨?_, ?_⟩; (focus (exact in_nI (by omega) (by omega)))))
      (first | (refine xbr_f ?_ ?_; (focus ((simp (disch := omega) only [ix_lt, ix_le, ix_eq, ix_0, nI_clamp, nI_toInt, ng_T, nI_add, nI_mul, nI_sub', Int.neg_zero, not_false_eq_true, not_true_eq_false, nI_add] <;> omega); done))) | (refine xbr_t ?_ ?_; (focus ((simp (disch := omega) only [ix_lt, ix_le, ix_eq, ix_0, nI_clamp, nI_toInt, ng_T, nI_add, nI_mul, nI_sub', Int.neg_zero, not_false_eq_true, not_true_eq_false, nI_add] <;> omega); done))) | refine ⟨Or.inl rfl, ?_⟩ | refine ⟨Or.inr rfl, ?_⟩ | (refine ⟨?_, ?_⟩; (focus ((try simp (disch := omega) only [nI_add, nI_mul, nI_add, nI_sub']); exact in_nI (by omega) (by omega)))))
      (first | (refine xbr_f ?_ ?_; (focus ((simp (disch := omega) only [ix_lt, ix_le, ix_eq, ix_0, nI_clamp, nI_toInt, ng_T, nI_add, nI_mul, nI_sub', Int.neg_zero, not_false_eq_true, not_true_eq_false, nI_add] <;> omega); done))) | (refine xbr_t ?_ ?_; (focus ((simp (disch := omega) only [ix_lt, ix_le, ix_eq, ix_0, nI_clamp, nI_toInt, ng_T, nI_add, nI_mul, nI_sub', Int.neg_zero, not_false_eq_true, not_true_eq_false, nI_add] <;> omega); done))) | refine ⟨Or.inl rfl, ?_⟩ | refine ⟨Or.inr rfl, ?_⟩ | (refine ⟨?_, ?_⟩; (focus ((try simp (disch := omega) only [nI_add, nI_mul, nI_add, nI_sub']); exact in_nI (by omega) (by omega)))))
      simp (disch := omega) only [nI_mul, nI_add, nI_clamp, nI_sub']
      rw [xrw_up]
      refine xgo_eq (ih _ _ ⟨rfl, _, rfl, fun t ht => ?_⟩) ?_ rfl rfl
      · by_cases e : t = v
        · rw [if_pos e, e]
          exact hg v hv
        · rw [if_neg e]
          exact hg2 t (by omega)
      · ((repeat' (first | (with_reducible rfl) | exact xv_nil | refine xv_cons ?_ ?_ | refine xv_i ?_ | refine xv_l ?_)) <;> (simp (disch := omega) only [↓reduceIte, Bool.false_eq_true, Nat.one_mul, Nat.zero_mul, Nat.or_zero, Nat.add_zero, Nat.zero_add, Bool.toNat_true, Bool.toNat_false, shl_n, shr_n, fa_and, fa_or, nx_xor, nI_add, nI_mul, nI_sub', and_1, and_7, and_3', and_15]))
    · rintro I2 L2 ⟨rfl, g2, rfl, hg2⟩
      refine xrun okX11_turns hhX11_turns [] 60 ?_
      (first | (refine xbr_f ?_ ?_; (focus ((simp (disch := omega) only [ix_lt, ix_le, ix_eq, ix_0, nI_clamp, nI_toInt, ng_T, nI_add, nI_mul, nI_sub', Int.neg_zero, not_false_eq_true, not_true_eq_false] <;> omega); done))) | (refine xbr_t ?_ ?_; (focus ((simp (disch := omega) only [ix_lt, ix_le, ix_eq, ix_0, nI_clamp, nI_toInt, ng_T, nI_add, nI_mul, nI_sub', Int.neg_zero, not_false_eq_true, not_true_eq_false] <;> omega); done))) | refine ⟨Or.inl rfl, ?_⟩ | refine ⟨Or.inr rfl, ?_⟩ | (refine ⟨?_, ?_⟩; (focus (exact in_nI (by omega) (by omega)))))
      exact hQ g g2 hg2
def csX11_duel : xCs := [(mX11_isLoad, sX11_isLoad), (mX11_in, sX11_in), (mX11_takers, sX11_takers), (mX11_many, sX11_many), (mX11_turns, sX11_turns)]
theorem okX11_duel : xOkM mX11_duel csX11_duel := ⟨dX11_duel, by decide +kernel, by decide +kernel, ⟨wdX11_211, wdX11_231, wdX11_90, wdX11_68, wdX11_240, wdX11_126, wdX11_278, wdX11_278, wdX11_68, wdX11_37, trivial⟩⟩
theorem hhX11_duel : ∀ q ∈ csX11_duel, xHd q.1 := xall1 hX11_isLoad (xall1 hX11_in (xall1 hX11_takers (xall1 hX11_many (xall1 hX11_turns (xall0)))))
theorem kkX11_duel : ∀ q ∈ csX11_duel, ∀ l, xCon l q.1 q.2 := xall1 kX11_isLoad (xall1 kX11_in (xall1 kX11_takers (xall1 kX11_many (xall1 kX11_turns (xall0)))))
def sX11_duel : xSpec := xReg fun as I L Q => ∃ (S : ST) (l n o : Int32) (S' : ST), as = [.ref 27, .int l, .int n] ∧ duelR S l n o S' ∧ Ref S I L ∧ (∀ I' L', frM I L I' L' → Ref S' I' L' → Q (some (.int o)) I' L')
set_option maxRecDepth 100000 in
theorem kX11_duel : ∀ l, xCon l mX11_duel sX11_duel := by
  refine xcon_of okX11_duel hX11_duel rfl (by decide) hhX11_duel kkX11_duel ?_
  rintro as n0 I L P Q ⟨rfl, rfl, S, l, n, o, S', rfl, hR, hC, hQ⟩
  refine ⟨Nat.le_of_ble_eq_true rfl, ?_⟩
  have h5 := hC.pd.ok.l5
  refine xrun okX11_duel hhX11_duel [(24, [true, true, true, true])] 60 ?_
  refine ⟨rfl, rfl, S.d, l, rfl, hC.pd, ?_⟩
  rcases hR with ⟨h, rfl, rfl⟩ | ⟨a, m, rfl, ha, rfl, hm, rfl, rfl⟩
  · obtain ⟨S, rfl⟩ : ∃ S, S = S' := ⟨S', rfl⟩
    have done := hQ _ _ (frM_0 _ _) hC
    cases hb : ibB l S.d.nL
    · (first | refine xbr_t (by decide) ?_ | refine xbr_f (by decide) ?_)
      exact done
    · (first | refine xbr_t (by decide) ?_ | refine xbr_f (by decide) ?_)
      refine ⟨rfl, rfl, _, _, _, n, nI 0, nI 2, rfl, rfl, by decide, by decide, ?_⟩
      rw [in_c (by decide)]
      cases hw : ibB n 3
      · (first | refine xbr_t (by decide) ?_ | refine xbr_f (by decide) ?_)
        exact done
      · exact absurd ⟨hb, hw⟩ h
  · obtain ⟨S, rfl⟩ : ∃ S, S = S' := ⟨S', rfl⟩
    rw [ib_tt ha (by omega)]
    (first | refine xbr_t (by decide) ?_ | refine xbr_f (by decide) ?_)
    refine ⟨rfl, rfl, _, _, _, nI m, nI 0, nI 2, rfl, rfl, by decide, by decide, ?_⟩
    rw [in_c (by decide), ib_tt hm (by decide)]
    (first | refine xbr_t (by decide) ?_ | refine xbr_f (by decide) ?_)
    refine xlpW (M := mX11_duel) (cs := csX11_duel) (pc := 24) 16 (fun v => [some (.ref 27), some (.int (nI a)), some (.int (nI m)), some (.int (nI v))]) (fun v I' L' => L = L' ∧ ∃ g, I' = xrw I 47 g ∧ ∀ t, t < v → g t = nI (wrN S.d S.D.X t)) ?_ ?_ ⟨rfl, I 47, (xrw_self I 47).symm, fun t h => absurd h (by omega)⟩
    · rintro v hv I2 L2 ⟨rfl, g, rfl, hg⟩ ih
      refine xrun okX11_duel hhX11_duel [(24, [true, true, true, true])] 60 ?_
      (first | (refine xbr_f ?_ ?_; (focus ((simp (disch := omega) only [ix_lt, ix_le, ix_eq, ix_0, nI_clamp, nI_toInt, ng_T, nI_add, nI_mul, nI_sub', Int.neg_zero, not_false_eq_true, not_true_eq_false] <;> omega); done))) | (refine xbr_t ?_ ?_; (focus ((simp (disch := omega) only [ix_lt, ix_le, ix_eq, ix_0, nI_clamp, nI_toInt, ng_T, nI_add, nI_mul, nI_sub', Int.neg_zero, not_false_eq_true, not_true_eq_false] <;> omega); done))) | refine ⟨Or.inl rfl, ?_⟩ | refine ⟨Or.inr rfl, ?_⟩ | (refine ⟨?_, ?_⟩; (focus (exact in_nI (by omega) (by omega)))))
      refine ⟨rfl, rfl, S.d, S.D.X, _, v, rfl, hC.pd, hC.nw, hv, ?_⟩
      have hb := bsN_lt (fun i => wtB S.d S.D.X i v) S.d.nA
      have h16 := p16_le hC.pd.ok.a4
      refine ⟨rfl, rfl, _, rfl, by omega, ?_⟩
      (first | (refine xbr_f ?_ ?_; (focus ((simp (disch := omega) only [ix_lt, ix_le, ix_eq, ix_0, nI_clamp, nI_toInt, ng_T, nI_add, nI_mul, nI_sub', Int.neg_zero, not_false_eq_true, not_true_eq_false, nI_add] <;> omega); done))) | (refine xbr_t ?_ ?_; (focus ((simp (disch := omega) only [ix_lt, ix_le, ix_eq, ix_0, nI_clamp, nI_toInt, ng_T, nI_add, nI_mul, nI_sub', Int.neg_zero, not_false_eq_true, not_true_eq_false, nI_add] <;> omega); done))) | refine ⟨Or.inl rfl, ?_⟩ | refine ⟨Or.inr rfl, ?_⟩ | (refine ⟨?_, ?_⟩; (focus ((try simp (disch := omega) only [nI_add, nI_mul, nI_add, nI_sub']); exact in_nI (by omega) (by omega)))))
      simp (disch := omega) only [nI_mul, nI_add, nI_clamp, nI_sub']
      rw [xrw_up]
      have ew : wrN S.d S.D.X v = pcf 32 (bsN (fun i => wtB S.d S.D.X i v) S.d.nA) := if_pos hv
      refine xgo_eq (ih _ _ ⟨rfl, _, rfl, fun t ht => ?_⟩) ?_ rfl rfl
      · by_cases e : t = v
        · rw [if_pos e, e, ew]
        · rw [if_neg e]
          exact hg t (by omega)
      · ((repeat' (first | (with_reducible rfl) | exact xv_nil | refine xv_cons ?_ ?_ | refine xv_i ?_ | refine xv_l ?_)) <;> (simp (disch := omega) only [↓reduceIte, Bool.false_eq_true, Nat.one_mul, Nat.zero_mul, Nat.or_zero, Nat.add_zero, Nat.zero_add, Bool.toNat_true, Bool.toNat_false, shl_n, shr_n, fa_and, fa_or, nx_xor, nI_add, nI_mul, nI_sub', and_1, and_7, and_3', and_15]))
    · rintro I2 L2 ⟨rfl, g, rfl, hg⟩
      refine xrun okX11_duel hhX11_duel [(52, [true, true, true, true])] 60 ?_
      (first | (refine xbr_f ?_ ?_; (focus ((simp (disch := omega) only [ix_lt, ix_le, ix_eq, ix_0, nI_clamp, nI_toInt, ng_T, nI_add, nI_mul, nI_sub', Int.neg_zero, not_false_eq_true, not_true_eq_false] <;> omega); done))) | (refine xbr_t ?_ ?_; (focus ((simp (disch := omega) only [ix_lt, ix_le, ix_eq, ix_0, nI_clamp, nI_toInt, ng_T, nI_add, nI_mul, nI_sub', Int.neg_zero, not_false_eq_true, not_true_eq_false] <;> omega); done))) | refine ⟨Or.inl rfl, ?_⟩ | refine ⟨Or.inr rfl, ?_⟩ | (refine ⟨?_, ?_⟩; (focus (exact in_nI (by omega) (by omega)))))
      refine xlpW (M := mX11_duel) (cs := csX11_duel) (pc := 52) m (fun k => [some (.ref 27), some (.int (nI a)), some (.int (nI m)), some (.int (nI k))]) (fun k I' L' => L = L' ∧ (∀ c, c ≠ 47 → c ≠ 48 → I' c = I c) ∧ ∀ t, t < 16 → I' 47 t = nI (tuN (wrN S.d S.D.X) k t)) ?_ ?_ ⟨rfl, fun c a _ => xrw_c _ _ _ a, fun t ht => by rw [xrw_s]; exact hg t ht⟩
      · rintro k hk I2 L2 ⟨rfl, hfr, ht⟩ ih
        refine xrun okX11_duel hhX11_duel [(52, [true, true, true, true])] 60 ?_
        (first | (refine xbr_f ?_ ?_; (focus ((simp (disch := omega) only [ix_lt, ix_le, ix_eq, ix_0, nI_clamp, nI_toInt, ng_T, nI_add, nI_mul, nI_sub', Int.neg_zero, not_false_eq_true, not_true_eq_false] <;> omega); done))) | (refine xbr_t ?_ ?_; (focus ((simp (disch := omega) only [ix_lt, ix_le, ix_eq, ix_0, nI_clamp, nI_toInt, ng_T, nI_add, nI_mul, nI_sub', Int.neg_zero, not_false_eq_true, not_true_eq_false] <;> omega); done))) | refine ⟨Or.inl rfl, ?_⟩ | refine ⟨Or.inr rfl, ?_⟩ | (refine ⟨?_, ?_⟩; (focus (exact in_nI (by omega) (by omega)))))
        have l8 := tuN_lt (wrN_lt hC.ok.d S.D.X) k
        refine ⟨rfl, rfl, _, false, rfl, ht, l8, fun g1 g2 hg2 => ?_⟩
        refine ⟨rfl, rfl, atN (tuN (wrN S.d S.D.X) k) false, true, rfl, hg2, fun v => awN_lt l8 false v 4, fun g3 g4 hg4 => ?_⟩
        refine xgo_eq (ih _ _ ⟨rfl, fun c c1 c2 => ?_, fun t ht => ?_⟩) ?_ rfl rfl
        · rw [xrw_c _ _ _ c1, xrw_c _ _ _ c2, xrw_c _ _ _ c1, xrw_c _ _ _ c2]
          exact hfr c c1 c2
        · rw [xrw_s]
          exact hg4 t ht
        · ((repeat' (first | (with_reducible rfl) | exact xv_nil | refine xv_cons ?_ ?_ | refine xv_i ?_ | refine xv_l ?_)) <;> (simp (disch := omega) only [↓reduceIte, Bool.false_eq_true, Nat.one_mul, Nat.zero_mul, Nat.or_zero, Nat.add_zero, Nat.zero_add, Bool.toNat_true, Bool.toNat_false, shl_n, shr_n, fa_and, fa_or, nx_xor, nI_add, nI_mul, nI_sub', and_1, and_7, and_3', and_15]))
      · rintro I2 L2 ⟨rfl, hfr, ht⟩
        refine xrun okX11_duel hhX11_duel [] 60 ?_
        have hmk := mkN_16 S.D.X a
        have e9 : I2 37 (9 + a) = nI (mkN S.D.X a) := by
          rw [hfr 37 (by decide) (by decide)]
          exact hC.nw.k ha
        (first | (refine xbr_f ?_ ?_; (focus ((simp (disch := omega) only [ix_lt, ix_le, ix_eq, ix_0, nI_clamp, nI_toInt, ng_T, nI_add, nI_mul, nI_sub', Int.neg_zero, not_false_eq_true, not_true_eq_false] <;> omega); done))) | (refine xbr_t ?_ ?_; (focus ((simp (disch := omega) only [ix_lt, ix_le, ix_eq, ix_0, nI_clamp, nI_toInt, ng_T, nI_add, nI_mul, nI_sub', Int.neg_zero, not_false_eq_true, not_true_eq_false] <;> omega); done))) | refine ⟨Or.inl rfl, ?_⟩ | refine ⟨Or.inr rfl, ?_⟩ | (refine ⟨?_, ?_⟩; (focus (exact in_nI (by omega) (by omega)))))
        (first | (refine xbr_f ?_ ?_; (focus ((simp (disch := omega) only [ix_lt, ix_le, ix_eq, ix_0, nI_clamp, nI_toInt, ng_T, nI_add, nI_mul, nI_sub', Int.neg_zero, not_false_eq_true, not_true_eq_false, nI_add] <;> omega); done))) | (refine xbr_t ?_ ?_; (focus ((simp (disch := omega) only [ix_lt, ix_le, ix_eq, ix_0, nI_clamp, nI_toInt, ng_T, nI_add, nI_mul, nI_sub', Int.neg_zero, not_false_eq_true, not_true_eq_false, nI_add] <;> omega); done))) | refine ⟨Or.inl rfl, ?_⟩ | refine ⟨Or.inr rfl, ?_⟩ | (refine ⟨?_, ?_⟩; (focus ((try simp (disch := omega) only [nI_add, nI_mul, nI_add, nI_sub']); exact in_nI (by omega) (by omega)))))
        (first | (refine xbr_f ?_ ?_; (focus ((simp (disch := omega) only [ix_lt, ix_le, ix_eq, ix_0, nI_clamp, nI_toInt, ng_T, nI_add, nI_mul, nI_sub', Int.neg_zero, not_false_eq_true, not_true_eq_false, nI_add, nI_clamp, e9] <;> omega); done))) | (refine xbr_t ?_ ?_; (focus ((simp (disch := omega) only [ix_lt, ix_le, ix_eq, ix_0, nI_clamp, nI_toInt, ng_T, nI_add, nI_mul, nI_sub', Int.neg_zero, not_false_eq_true, not_true_eq_false, nI_add, nI_clamp, e9] <;> omega); done))) | refine ⟨Or.inl rfl, ?_⟩ | refine ⟨Or.inr rfl, ?_⟩ | (refine ⟨?_, ?_⟩; (focus ((try simp (disch := omega) only [nI_add, nI_clamp, e9, nI_mul, nI_add, nI_sub']); exact in_nI (by omega) (by omega)))))
        have e2 := ht _ hmk
        have hC2 : Ref S I2 L := Ref_s hC ⟨fun c _ _ _ _ _ hc => hfr c (by omega) (by omega), fun j _ => by rw [hfr 27 (by decide) (by decide)], fun _ _ => rfl⟩
        have hq := hQ I2 L (fun c hc => ⟨hfr c (by omega) (by omega), rfl⟩) hC2
        have ev : nI (tuN (wrN S.d S.D.X) m (mkN S.D.X a)) = I2 47 (I2 37 (nI 9 + nI a).toNatClampNeg).toNatClampNeg := by
          rw [nI_add, nI_clamp (show 9 + a < 2 ^ 31 by omega), e9, nI_clamp (by omega), e2]
        rw [ev] at hq
        exact hq
